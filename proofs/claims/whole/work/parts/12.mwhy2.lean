set_option maxHeartbeats 4000000 in
set_option maxRecDepth 100000 in
theorem c_X9_whyNot_0 (l : Launch) {D : va_G} {q : Nat → ClassId} {ad : Nat → Nat} {κ : KS} {t : Nat → Int32} (sz : Nat) (hs : okStep 0 (t 0) (t 1) (t 2)) (hW : WFm κ) : Met l yX9_whyNot wsX9_whyNot (rmz 5 110) (va_Pc [.ref (ad 0), .int 0] (rPre D q (wM q ad κ t) sz)) (va_Qi (fun (r : Int32) (u : Unit) => r = why κ 0 (t 0) (t 1) (t 2)) (fun (u : Unit) tt => rPo D (rA (wM q ad κ t) sz) (wM q ad κ t) tt) (rA (wM q ad κ t) sz)) 0 0 (rA (wM q ad κ t) sz) := by
  refine r_start (cc := cX9_whyNot) (maxL := 4) (ret := (some .int)) (by decide) rfl (Nat.le_of_ble_eq_true rfl) ?_
  intro p e s m below meth c ls hC hr hlk hnm hsz hw hl
  have hx := hC.1
  have hb := hC.2.1
  have hl : lv_has ls 4 [(0, .ref (ad 0)), (1, .int 0)] := hl
  refine lv_iload_n hx hb dX9_whyNot_0 rfl (lv_at hl 1 rfl) ?_
  refine lv_bipush (v := 7) hx hb dX9_whyNot_1 (by decide) ?_
  refine lv_icmp_eq (tgt := 12) hx hb dX9_whyNot_3 (by decide) (fun c_ => absurd c_ (by decide)) (fun _ => ?_)
  refine lv_iload_n hx hb dX9_whyNot_6 rfl (lv_at hl 1 rfl) ?_
  refine lv_bipush (v := 8) hx hb dX9_whyNot_7 (by decide) ?_
  refine lv_icmp_ne (tgt := 31) hx hb dX9_whyNot_9 (by decide) (fun _ => ?_) (fun c_ => absurd c_ (by decide))
  refine lv_iload_n hx hb dX9_whyNot_31 rfl (lv_at hl 1 rfl) ?_
  refine lv_bipush (v := 11) hx hb dX9_whyNot_32 (by decide) ?_
  refine lv_icmp_eq (tgt := 43) hx hb dX9_whyNot_34 (by decide) (fun c_ => absurd c_ (by decide)) (fun _ => ?_)
  refine lv_iload_n hx hb dX9_whyNot_37 rfl (lv_at hl 1 rfl) ?_
  refine lv_bipush (v := 12) hx hb dX9_whyNot_38 (by decide) ?_
  refine lv_icmp_ne (tgt := 64) hx hb dX9_whyNot_40 (by decide) (fun _ => ?_) (fun c_ => absurd c_ (by decide))
  refine lv_iload_n hx hb dX9_whyNot_64 rfl (lv_at hl 1 rfl) ?_
  refine lv_bipush (v := 23) hx hb dX9_whyNot_65 (by decide) ?_
  refine lv_icmp_ne (tgt := 91) hx hb dX9_whyNot_67 (by decide) (fun _ => ?_) (fun c_ => absurd c_ (by decide))
  refine lv_iload_n hx hb dX9_whyNot_91 rfl (lv_at hl 1 rfl) ?_
  refine lv_bipush (v := 24) hx hb dX9_whyNot_92 (by decide) ?_
  refine lv_icmp_ne (tgt := 118) hx hb dX9_whyNot_94 (by decide) (fun _ => ?_) (fun c_ => absurd c_ (by decide))
  refine lv_iload_n hx hb dX9_whyNot_118 rfl (lv_at hl 1 rfl) ?_
  refine lv_bipush (v := 29) hx hb dX9_whyNot_119 (by decide) ?_
  refine lv_icmp_ne (tgt := 140) hx hb dX9_whyNot_121 (by decide) (fun _ => ?_) (fun c_ => absurd c_ (by decide))
  refine lv_iload_n hx hb dX9_whyNot_140 rfl (lv_at hl 1 rfl) ?_
  refine lv_bipush (v := 31) hx hb dX9_whyNot_141 (by decide) ?_
  refine lv_icmp_ne (tgt := 197) hx hb dX9_whyNot_143 (by decide) (fun _ => ?_) (fun c_ => absurd c_ (by decide))
  refine lv_iload_n hx hb dX9_whyNot_197 rfl (lv_at hl 1 rfl) ?_
  refine lv_bipush (v := 32) hx hb dX9_whyNot_198 (by decide) ?_
  refine lv_icmp_ne (tgt := 272) hx hb dX9_whyNot_200 (by decide) (fun _ => ?_) (fun c_ => absurd c_ (by decide))
  refine lv_iload_n hx hb dX9_whyNot_272 rfl (lv_at hl 1 rfl) ?_
  refine lv_bipush (v := 33) hx hb dX9_whyNot_273 (by decide) ?_
  refine lv_icmp_ne (tgt := 294) hx hb dX9_whyNot_275 (by decide) (fun _ => ?_) (fun c_ => absurd c_ (by decide))
  refine lv_iload_n hx hb dX9_whyNot_294 rfl (lv_at hl 1 rfl) ?_
  refine lv_bipush (v := 38) hx hb dX9_whyNot_295 (by decide) ?_
  refine lv_icmp_lt (tgt := 306) hx hb dX9_whyNot_297 (by decide) (fun _ => ?_) (fun c_ => absurd (by decide) c_)
  refine lv_iconst (v := 0) hx hb dX9_whyNot_306 (by decide) ?_
  exact r_iret hC hr hlk hw () rfl rfl (Nat.le_of_ble_eq_true rfl) (Nat.le_of_ble_eq_true rfl) dX9_whyNot_307

set_option maxHeartbeats 4000000 in
set_option maxRecDepth 100000 in
theorem c_X9_whyNot_1 (l : Launch) {D : va_G} {q : Nat → ClassId} {ad : Nat → Nat} {κ : KS} {t : Nat → Int32} (sz : Nat) (hs : okStep 1 (t 0) (t 1) (t 2)) (hW : WFm κ) : Met l yX9_whyNot wsX9_whyNot (rmz 5 110) (va_Pc [.ref (ad 0), .int 1] (rPre D q (wM q ad κ t) sz)) (va_Qi (fun (r : Int32) (u : Unit) => r = why κ 1 (t 0) (t 1) (t 2)) (fun (u : Unit) tt => rPo D (rA (wM q ad κ t) sz) (wM q ad κ t) tt) (rA (wM q ad κ t) sz)) 0 0 (rA (wM q ad κ t) sz) := by
  have hi0 : vp_in (t 0) 8 := hs.1
  refine r_start (cc := cX9_whyNot) (maxL := 4) (ret := (some .int)) (by decide) rfl (Nat.le_of_ble_eq_true rfl) ?_
  intro p e s m below meth c ls hC hr hlk hnm hsz hw hl
  have hx := hC.1
  have hb := hC.2.1
  have hl : lv_has ls 4 [(0, .ref (ad 0)), (1, .int 1)] := hl
  refine lv_iload_n hx hb dX9_whyNot_0 rfl (lv_at hl 1 rfl) ?_
  refine lv_bipush (v := 7) hx hb dX9_whyNot_1 (by decide) ?_
  refine lv_icmp_eq (tgt := 12) hx hb dX9_whyNot_3 (by decide) (fun c_ => absurd c_ (by decide)) (fun _ => ?_)
  refine lv_iload_n hx hb dX9_whyNot_6 rfl (lv_at hl 1 rfl) ?_
  refine lv_bipush (v := 8) hx hb dX9_whyNot_7 (by decide) ?_
  refine lv_icmp_ne (tgt := 31) hx hb dX9_whyNot_9 (by decide) (fun _ => ?_) (fun c_ => absurd c_ (by decide))
  refine lv_iload_n hx hb dX9_whyNot_31 rfl (lv_at hl 1 rfl) ?_
  refine lv_bipush (v := 11) hx hb dX9_whyNot_32 (by decide) ?_
  refine lv_icmp_eq (tgt := 43) hx hb dX9_whyNot_34 (by decide) (fun c_ => absurd c_ (by decide)) (fun _ => ?_)
  refine lv_iload_n hx hb dX9_whyNot_37 rfl (lv_at hl 1 rfl) ?_
  refine lv_bipush (v := 12) hx hb dX9_whyNot_38 (by decide) ?_
  refine lv_icmp_ne (tgt := 64) hx hb dX9_whyNot_40 (by decide) (fun _ => ?_) (fun c_ => absurd c_ (by decide))
  refine lv_iload_n hx hb dX9_whyNot_64 rfl (lv_at hl 1 rfl) ?_
  refine lv_bipush (v := 23) hx hb dX9_whyNot_65 (by decide) ?_
  refine lv_icmp_ne (tgt := 91) hx hb dX9_whyNot_67 (by decide) (fun _ => ?_) (fun c_ => absurd c_ (by decide))
  refine lv_iload_n hx hb dX9_whyNot_91 rfl (lv_at hl 1 rfl) ?_
  refine lv_bipush (v := 24) hx hb dX9_whyNot_92 (by decide) ?_
  refine lv_icmp_ne (tgt := 118) hx hb dX9_whyNot_94 (by decide) (fun _ => ?_) (fun c_ => absurd c_ (by decide))
  refine lv_iload_n hx hb dX9_whyNot_118 rfl (lv_at hl 1 rfl) ?_
  refine lv_bipush (v := 29) hx hb dX9_whyNot_119 (by decide) ?_
  refine lv_icmp_ne (tgt := 140) hx hb dX9_whyNot_121 (by decide) (fun _ => ?_) (fun c_ => absurd c_ (by decide))
  refine lv_iload_n hx hb dX9_whyNot_140 rfl (lv_at hl 1 rfl) ?_
  refine lv_bipush (v := 31) hx hb dX9_whyNot_141 (by decide) ?_
  refine lv_icmp_ne (tgt := 197) hx hb dX9_whyNot_143 (by decide) (fun _ => ?_) (fun c_ => absurd c_ (by decide))
  refine lv_iload_n hx hb dX9_whyNot_197 rfl (lv_at hl 1 rfl) ?_
  refine lv_bipush (v := 32) hx hb dX9_whyNot_198 (by decide) ?_
  refine lv_icmp_ne (tgt := 272) hx hb dX9_whyNot_200 (by decide) (fun _ => ?_) (fun c_ => absurd c_ (by decide))
  refine lv_iload_n hx hb dX9_whyNot_272 rfl (lv_at hl 1 rfl) ?_
  refine lv_bipush (v := 33) hx hb dX9_whyNot_273 (by decide) ?_
  refine lv_icmp_ne (tgt := 294) hx hb dX9_whyNot_275 (by decide) (fun _ => ?_) (fun c_ => absurd c_ (by decide))
  refine lv_iload_n hx hb dX9_whyNot_294 rfl (lv_at hl 1 rfl) ?_
  refine lv_bipush (v := 38) hx hb dX9_whyNot_295 (by decide) ?_
  refine lv_icmp_lt (tgt := 306) hx hb dX9_whyNot_297 (by decide) (fun _ => ?_) (fun c_ => absurd (by decide) c_)
  refine lv_iconst (v := 0) hx hb dX9_whyNot_306 (by decide) ?_
  exact r_iret hC hr hlk hw () rfl rfl (Nat.le_of_ble_eq_true rfl) (Nat.le_of_ble_eq_true rfl) dX9_whyNot_307

set_option maxHeartbeats 4000000 in
set_option maxRecDepth 100000 in
theorem c_X9_whyNot_2 (l : Launch) {D : va_G} {q : Nat → ClassId} {ad : Nat → Nat} {κ : KS} {t : Nat → Int32} (sz : Nat) (hs : okStep 2 (t 0) (t 1) (t 2)) (hW : WFm κ) : Met l yX9_whyNot wsX9_whyNot (rmz 5 110) (va_Pc [.ref (ad 0), .int 2] (rPre D q (wM q ad κ t) sz)) (va_Qi (fun (r : Int32) (u : Unit) => r = why κ 2 (t 0) (t 1) (t 2)) (fun (u : Unit) tt => rPo D (rA (wM q ad κ t) sz) (wM q ad κ t) tt) (rA (wM q ad κ t) sz)) 0 0 (rA (wM q ad κ t) sz) := by
  have hi0 : vp_in (t 0) 4 := hs.1
  refine r_start (cc := cX9_whyNot) (maxL := 4) (ret := (some .int)) (by decide) rfl (Nat.le_of_ble_eq_true rfl) ?_
  intro p e s m below meth c ls hC hr hlk hnm hsz hw hl
  have hx := hC.1
  have hb := hC.2.1
  have hl : lv_has ls 4 [(0, .ref (ad 0)), (1, .int 2)] := hl
  refine lv_iload_n hx hb dX9_whyNot_0 rfl (lv_at hl 1 rfl) ?_
  refine lv_bipush (v := 7) hx hb dX9_whyNot_1 (by decide) ?_
  refine lv_icmp_eq (tgt := 12) hx hb dX9_whyNot_3 (by decide) (fun c_ => absurd c_ (by decide)) (fun _ => ?_)
  refine lv_iload_n hx hb dX9_whyNot_6 rfl (lv_at hl 1 rfl) ?_
  refine lv_bipush (v := 8) hx hb dX9_whyNot_7 (by decide) ?_
  refine lv_icmp_ne (tgt := 31) hx hb dX9_whyNot_9 (by decide) (fun _ => ?_) (fun c_ => absurd c_ (by decide))
  refine lv_iload_n hx hb dX9_whyNot_31 rfl (lv_at hl 1 rfl) ?_
  refine lv_bipush (v := 11) hx hb dX9_whyNot_32 (by decide) ?_
  refine lv_icmp_eq (tgt := 43) hx hb dX9_whyNot_34 (by decide) (fun c_ => absurd c_ (by decide)) (fun _ => ?_)
  refine lv_iload_n hx hb dX9_whyNot_37 rfl (lv_at hl 1 rfl) ?_
  refine lv_bipush (v := 12) hx hb dX9_whyNot_38 (by decide) ?_
  refine lv_icmp_ne (tgt := 64) hx hb dX9_whyNot_40 (by decide) (fun _ => ?_) (fun c_ => absurd c_ (by decide))
  refine lv_iload_n hx hb dX9_whyNot_64 rfl (lv_at hl 1 rfl) ?_
  refine lv_bipush (v := 23) hx hb dX9_whyNot_65 (by decide) ?_
  refine lv_icmp_ne (tgt := 91) hx hb dX9_whyNot_67 (by decide) (fun _ => ?_) (fun c_ => absurd c_ (by decide))
  refine lv_iload_n hx hb dX9_whyNot_91 rfl (lv_at hl 1 rfl) ?_
  refine lv_bipush (v := 24) hx hb dX9_whyNot_92 (by decide) ?_
  refine lv_icmp_ne (tgt := 118) hx hb dX9_whyNot_94 (by decide) (fun _ => ?_) (fun c_ => absurd c_ (by decide))
  refine lv_iload_n hx hb dX9_whyNot_118 rfl (lv_at hl 1 rfl) ?_
  refine lv_bipush (v := 29) hx hb dX9_whyNot_119 (by decide) ?_
  refine lv_icmp_ne (tgt := 140) hx hb dX9_whyNot_121 (by decide) (fun _ => ?_) (fun c_ => absurd c_ (by decide))
  refine lv_iload_n hx hb dX9_whyNot_140 rfl (lv_at hl 1 rfl) ?_
  refine lv_bipush (v := 31) hx hb dX9_whyNot_141 (by decide) ?_
  refine lv_icmp_ne (tgt := 197) hx hb dX9_whyNot_143 (by decide) (fun _ => ?_) (fun c_ => absurd c_ (by decide))
  refine lv_iload_n hx hb dX9_whyNot_197 rfl (lv_at hl 1 rfl) ?_
  refine lv_bipush (v := 32) hx hb dX9_whyNot_198 (by decide) ?_
  refine lv_icmp_ne (tgt := 272) hx hb dX9_whyNot_200 (by decide) (fun _ => ?_) (fun c_ => absurd c_ (by decide))
  refine lv_iload_n hx hb dX9_whyNot_272 rfl (lv_at hl 1 rfl) ?_
  refine lv_bipush (v := 33) hx hb dX9_whyNot_273 (by decide) ?_
  refine lv_icmp_ne (tgt := 294) hx hb dX9_whyNot_275 (by decide) (fun _ => ?_) (fun c_ => absurd c_ (by decide))
  refine lv_iload_n hx hb dX9_whyNot_294 rfl (lv_at hl 1 rfl) ?_
  refine lv_bipush (v := 38) hx hb dX9_whyNot_295 (by decide) ?_
  refine lv_icmp_lt (tgt := 306) hx hb dX9_whyNot_297 (by decide) (fun _ => ?_) (fun c_ => absurd (by decide) c_)
  refine lv_iconst (v := 0) hx hb dX9_whyNot_306 (by decide) ?_
  exact r_iret hC hr hlk hw () rfl rfl (Nat.le_of_ble_eq_true rfl) (Nat.le_of_ble_eq_true rfl) dX9_whyNot_307

set_option maxHeartbeats 4000000 in
set_option maxRecDepth 100000 in
theorem c_X9_whyNot_3 (l : Launch) {D : va_G} {q : Nat → ClassId} {ad : Nat → Nat} {κ : KS} {t : Nat → Int32} (sz : Nat) (hs : okStep 3 (t 0) (t 1) (t 2)) (hW : WFm κ) : Met l yX9_whyNot wsX9_whyNot (rmz 5 110) (va_Pc [.ref (ad 0), .int 3] (rPre D q (wM q ad κ t) sz)) (va_Qi (fun (r : Int32) (u : Unit) => r = why κ 3 (t 0) (t 1) (t 2)) (fun (u : Unit) tt => rPo D (rA (wM q ad κ t) sz) (wM q ad κ t) tt) (rA (wM q ad κ t) sz)) 0 0 (rA (wM q ad κ t) sz) := by
  have hi0 : vp_in (t 0) 8 := hs.1
  have hi1 : vp_in (t 1) 8 := hs.2.1
  refine r_start (cc := cX9_whyNot) (maxL := 4) (ret := (some .int)) (by decide) rfl (Nat.le_of_ble_eq_true rfl) ?_
  intro p e s m below meth c ls hC hr hlk hnm hsz hw hl
  have hx := hC.1
  have hb := hC.2.1
  have hl : lv_has ls 4 [(0, .ref (ad 0)), (1, .int 3)] := hl
  refine lv_iload_n hx hb dX9_whyNot_0 rfl (lv_at hl 1 rfl) ?_
  refine lv_bipush (v := 7) hx hb dX9_whyNot_1 (by decide) ?_
  refine lv_icmp_eq (tgt := 12) hx hb dX9_whyNot_3 (by decide) (fun c_ => absurd c_ (by decide)) (fun _ => ?_)
  refine lv_iload_n hx hb dX9_whyNot_6 rfl (lv_at hl 1 rfl) ?_
  refine lv_bipush (v := 8) hx hb dX9_whyNot_7 (by decide) ?_
  refine lv_icmp_ne (tgt := 31) hx hb dX9_whyNot_9 (by decide) (fun _ => ?_) (fun c_ => absurd c_ (by decide))
  refine lv_iload_n hx hb dX9_whyNot_31 rfl (lv_at hl 1 rfl) ?_
  refine lv_bipush (v := 11) hx hb dX9_whyNot_32 (by decide) ?_
  refine lv_icmp_eq (tgt := 43) hx hb dX9_whyNot_34 (by decide) (fun c_ => absurd c_ (by decide)) (fun _ => ?_)
  refine lv_iload_n hx hb dX9_whyNot_37 rfl (lv_at hl 1 rfl) ?_
  refine lv_bipush (v := 12) hx hb dX9_whyNot_38 (by decide) ?_
  refine lv_icmp_ne (tgt := 64) hx hb dX9_whyNot_40 (by decide) (fun _ => ?_) (fun c_ => absurd c_ (by decide))
  refine lv_iload_n hx hb dX9_whyNot_64 rfl (lv_at hl 1 rfl) ?_
  refine lv_bipush (v := 23) hx hb dX9_whyNot_65 (by decide) ?_
  refine lv_icmp_ne (tgt := 91) hx hb dX9_whyNot_67 (by decide) (fun _ => ?_) (fun c_ => absurd c_ (by decide))
  refine lv_iload_n hx hb dX9_whyNot_91 rfl (lv_at hl 1 rfl) ?_
  refine lv_bipush (v := 24) hx hb dX9_whyNot_92 (by decide) ?_
  refine lv_icmp_ne (tgt := 118) hx hb dX9_whyNot_94 (by decide) (fun _ => ?_) (fun c_ => absurd c_ (by decide))
  refine lv_iload_n hx hb dX9_whyNot_118 rfl (lv_at hl 1 rfl) ?_
  refine lv_bipush (v := 29) hx hb dX9_whyNot_119 (by decide) ?_
  refine lv_icmp_ne (tgt := 140) hx hb dX9_whyNot_121 (by decide) (fun _ => ?_) (fun c_ => absurd c_ (by decide))
  refine lv_iload_n hx hb dX9_whyNot_140 rfl (lv_at hl 1 rfl) ?_
  refine lv_bipush (v := 31) hx hb dX9_whyNot_141 (by decide) ?_
  refine lv_icmp_ne (tgt := 197) hx hb dX9_whyNot_143 (by decide) (fun _ => ?_) (fun c_ => absurd c_ (by decide))
  refine lv_iload_n hx hb dX9_whyNot_197 rfl (lv_at hl 1 rfl) ?_
  refine lv_bipush (v := 32) hx hb dX9_whyNot_198 (by decide) ?_
  refine lv_icmp_ne (tgt := 272) hx hb dX9_whyNot_200 (by decide) (fun _ => ?_) (fun c_ => absurd c_ (by decide))
  refine lv_iload_n hx hb dX9_whyNot_272 rfl (lv_at hl 1 rfl) ?_
  refine lv_bipush (v := 33) hx hb dX9_whyNot_273 (by decide) ?_
  refine lv_icmp_ne (tgt := 294) hx hb dX9_whyNot_275 (by decide) (fun _ => ?_) (fun c_ => absurd c_ (by decide))
  refine lv_iload_n hx hb dX9_whyNot_294 rfl (lv_at hl 1 rfl) ?_
  refine lv_bipush (v := 38) hx hb dX9_whyNot_295 (by decide) ?_
  refine lv_icmp_lt (tgt := 306) hx hb dX9_whyNot_297 (by decide) (fun _ => ?_) (fun c_ => absurd (by decide) c_)
  refine lv_iconst (v := 0) hx hb dX9_whyNot_306 (by decide) ?_
  exact r_iret hC hr hlk hw () rfl rfl (Nat.le_of_ble_eq_true rfl) (Nat.le_of_ble_eq_true rfl) dX9_whyNot_307

set_option maxHeartbeats 4000000 in
set_option maxRecDepth 100000 in
theorem c_X9_whyNot_4 (l : Launch) {D : va_G} {q : Nat → ClassId} {ad : Nat → Nat} {κ : KS} {t : Nat → Int32} (sz : Nat) (hs : okStep 4 (t 0) (t 1) (t 2)) (hW : WFm κ) : Met l yX9_whyNot wsX9_whyNot (rmz 5 110) (va_Pc [.ref (ad 0), .int 4] (rPre D q (wM q ad κ t) sz)) (va_Qi (fun (r : Int32) (u : Unit) => r = why κ 4 (t 0) (t 1) (t 2)) (fun (u : Unit) tt => rPo D (rA (wM q ad κ t) sz) (wM q ad κ t) tt) (rA (wM q ad κ t) sz)) 0 0 (rA (wM q ad κ t) sz) := by
  have hi0 : vp_in (t 0) 8 := hs.1
  have hi1 : vp_in (t 1) 8 := hs.2.1
  have hi2 : vp_in (t 2) 8 := hs.2.2
  refine r_start (cc := cX9_whyNot) (maxL := 4) (ret := (some .int)) (by decide) rfl (Nat.le_of_ble_eq_true rfl) ?_
  intro p e s m below meth c ls hC hr hlk hnm hsz hw hl
  have hx := hC.1
  have hb := hC.2.1
  have hl : lv_has ls 4 [(0, .ref (ad 0)), (1, .int 4)] := hl
  refine lv_iload_n hx hb dX9_whyNot_0 rfl (lv_at hl 1 rfl) ?_
  refine lv_bipush (v := 7) hx hb dX9_whyNot_1 (by decide) ?_
  refine lv_icmp_eq (tgt := 12) hx hb dX9_whyNot_3 (by decide) (fun c_ => absurd c_ (by decide)) (fun _ => ?_)
  refine lv_iload_n hx hb dX9_whyNot_6 rfl (lv_at hl 1 rfl) ?_
  refine lv_bipush (v := 8) hx hb dX9_whyNot_7 (by decide) ?_
  refine lv_icmp_ne (tgt := 31) hx hb dX9_whyNot_9 (by decide) (fun _ => ?_) (fun c_ => absurd c_ (by decide))
  refine lv_iload_n hx hb dX9_whyNot_31 rfl (lv_at hl 1 rfl) ?_
  refine lv_bipush (v := 11) hx hb dX9_whyNot_32 (by decide) ?_
  refine lv_icmp_eq (tgt := 43) hx hb dX9_whyNot_34 (by decide) (fun c_ => absurd c_ (by decide)) (fun _ => ?_)
  refine lv_iload_n hx hb dX9_whyNot_37 rfl (lv_at hl 1 rfl) ?_
  refine lv_bipush (v := 12) hx hb dX9_whyNot_38 (by decide) ?_
  refine lv_icmp_ne (tgt := 64) hx hb dX9_whyNot_40 (by decide) (fun _ => ?_) (fun c_ => absurd c_ (by decide))
  refine lv_iload_n hx hb dX9_whyNot_64 rfl (lv_at hl 1 rfl) ?_
  refine lv_bipush (v := 23) hx hb dX9_whyNot_65 (by decide) ?_
  refine lv_icmp_ne (tgt := 91) hx hb dX9_whyNot_67 (by decide) (fun _ => ?_) (fun c_ => absurd c_ (by decide))
  refine lv_iload_n hx hb dX9_whyNot_91 rfl (lv_at hl 1 rfl) ?_
  refine lv_bipush (v := 24) hx hb dX9_whyNot_92 (by decide) ?_
  refine lv_icmp_ne (tgt := 118) hx hb dX9_whyNot_94 (by decide) (fun _ => ?_) (fun c_ => absurd c_ (by decide))
  refine lv_iload_n hx hb dX9_whyNot_118 rfl (lv_at hl 1 rfl) ?_
  refine lv_bipush (v := 29) hx hb dX9_whyNot_119 (by decide) ?_
  refine lv_icmp_ne (tgt := 140) hx hb dX9_whyNot_121 (by decide) (fun _ => ?_) (fun c_ => absurd c_ (by decide))
  refine lv_iload_n hx hb dX9_whyNot_140 rfl (lv_at hl 1 rfl) ?_
  refine lv_bipush (v := 31) hx hb dX9_whyNot_141 (by decide) ?_
  refine lv_icmp_ne (tgt := 197) hx hb dX9_whyNot_143 (by decide) (fun _ => ?_) (fun c_ => absurd c_ (by decide))
  refine lv_iload_n hx hb dX9_whyNot_197 rfl (lv_at hl 1 rfl) ?_
  refine lv_bipush (v := 32) hx hb dX9_whyNot_198 (by decide) ?_
  refine lv_icmp_ne (tgt := 272) hx hb dX9_whyNot_200 (by decide) (fun _ => ?_) (fun c_ => absurd c_ (by decide))
  refine lv_iload_n hx hb dX9_whyNot_272 rfl (lv_at hl 1 rfl) ?_
  refine lv_bipush (v := 33) hx hb dX9_whyNot_273 (by decide) ?_
  refine lv_icmp_ne (tgt := 294) hx hb dX9_whyNot_275 (by decide) (fun _ => ?_) (fun c_ => absurd c_ (by decide))
  refine lv_iload_n hx hb dX9_whyNot_294 rfl (lv_at hl 1 rfl) ?_
  refine lv_bipush (v := 38) hx hb dX9_whyNot_295 (by decide) ?_
  refine lv_icmp_lt (tgt := 306) hx hb dX9_whyNot_297 (by decide) (fun _ => ?_) (fun c_ => absurd (by decide) c_)
  refine lv_iconst (v := 0) hx hb dX9_whyNot_306 (by decide) ?_
  exact r_iret hC hr hlk hw () rfl rfl (Nat.le_of_ble_eq_true rfl) (Nat.le_of_ble_eq_true rfl) dX9_whyNot_307

set_option maxHeartbeats 4000000 in
set_option maxRecDepth 100000 in
theorem c_X9_whyNot_5 (l : Launch) {D : va_G} {q : Nat → ClassId} {ad : Nat → Nat} {κ : KS} {t : Nat → Int32} (sz : Nat) (hs : okStep 5 (t 0) (t 1) (t 2)) (hW : WFm κ) : Met l yX9_whyNot wsX9_whyNot (rmz 5 110) (va_Pc [.ref (ad 0), .int 5] (rPre D q (wM q ad κ t) sz)) (va_Qi (fun (r : Int32) (u : Unit) => r = why κ 5 (t 0) (t 1) (t 2)) (fun (u : Unit) tt => rPo D (rA (wM q ad κ t) sz) (wM q ad κ t) tt) (rA (wM q ad κ t) sz)) 0 0 (rA (wM q ad κ t) sz) := by
  have hi0 : vp_in (t 0) 8 := hs.1
  have hi1 : vp_in (t 1) 8 := hs.2.1
  have hi2 : vp_in (t 2) 8 := hs.2.2
  refine r_start (cc := cX9_whyNot) (maxL := 4) (ret := (some .int)) (by decide) rfl (Nat.le_of_ble_eq_true rfl) ?_
  intro p e s m below meth c ls hC hr hlk hnm hsz hw hl
  have hx := hC.1
  have hb := hC.2.1
  have hl : lv_has ls 4 [(0, .ref (ad 0)), (1, .int 5)] := hl
  refine lv_iload_n hx hb dX9_whyNot_0 rfl (lv_at hl 1 rfl) ?_
  refine lv_bipush (v := 7) hx hb dX9_whyNot_1 (by decide) ?_
  refine lv_icmp_eq (tgt := 12) hx hb dX9_whyNot_3 (by decide) (fun c_ => absurd c_ (by decide)) (fun _ => ?_)
  refine lv_iload_n hx hb dX9_whyNot_6 rfl (lv_at hl 1 rfl) ?_
  refine lv_bipush (v := 8) hx hb dX9_whyNot_7 (by decide) ?_
  refine lv_icmp_ne (tgt := 31) hx hb dX9_whyNot_9 (by decide) (fun _ => ?_) (fun c_ => absurd c_ (by decide))
  refine lv_iload_n hx hb dX9_whyNot_31 rfl (lv_at hl 1 rfl) ?_
  refine lv_bipush (v := 11) hx hb dX9_whyNot_32 (by decide) ?_
  refine lv_icmp_eq (tgt := 43) hx hb dX9_whyNot_34 (by decide) (fun c_ => absurd c_ (by decide)) (fun _ => ?_)
  refine lv_iload_n hx hb dX9_whyNot_37 rfl (lv_at hl 1 rfl) ?_
  refine lv_bipush (v := 12) hx hb dX9_whyNot_38 (by decide) ?_
  refine lv_icmp_ne (tgt := 64) hx hb dX9_whyNot_40 (by decide) (fun _ => ?_) (fun c_ => absurd c_ (by decide))
  refine lv_iload_n hx hb dX9_whyNot_64 rfl (lv_at hl 1 rfl) ?_
  refine lv_bipush (v := 23) hx hb dX9_whyNot_65 (by decide) ?_
  refine lv_icmp_ne (tgt := 91) hx hb dX9_whyNot_67 (by decide) (fun _ => ?_) (fun c_ => absurd c_ (by decide))
  refine lv_iload_n hx hb dX9_whyNot_91 rfl (lv_at hl 1 rfl) ?_
  refine lv_bipush (v := 24) hx hb dX9_whyNot_92 (by decide) ?_
  refine lv_icmp_ne (tgt := 118) hx hb dX9_whyNot_94 (by decide) (fun _ => ?_) (fun c_ => absurd c_ (by decide))
  refine lv_iload_n hx hb dX9_whyNot_118 rfl (lv_at hl 1 rfl) ?_
  refine lv_bipush (v := 29) hx hb dX9_whyNot_119 (by decide) ?_
  refine lv_icmp_ne (tgt := 140) hx hb dX9_whyNot_121 (by decide) (fun _ => ?_) (fun c_ => absurd c_ (by decide))
  refine lv_iload_n hx hb dX9_whyNot_140 rfl (lv_at hl 1 rfl) ?_
  refine lv_bipush (v := 31) hx hb dX9_whyNot_141 (by decide) ?_
  refine lv_icmp_ne (tgt := 197) hx hb dX9_whyNot_143 (by decide) (fun _ => ?_) (fun c_ => absurd c_ (by decide))
  refine lv_iload_n hx hb dX9_whyNot_197 rfl (lv_at hl 1 rfl) ?_
  refine lv_bipush (v := 32) hx hb dX9_whyNot_198 (by decide) ?_
  refine lv_icmp_ne (tgt := 272) hx hb dX9_whyNot_200 (by decide) (fun _ => ?_) (fun c_ => absurd c_ (by decide))
  refine lv_iload_n hx hb dX9_whyNot_272 rfl (lv_at hl 1 rfl) ?_
  refine lv_bipush (v := 33) hx hb dX9_whyNot_273 (by decide) ?_
  refine lv_icmp_ne (tgt := 294) hx hb dX9_whyNot_275 (by decide) (fun _ => ?_) (fun c_ => absurd c_ (by decide))
  refine lv_iload_n hx hb dX9_whyNot_294 rfl (lv_at hl 1 rfl) ?_
  refine lv_bipush (v := 38) hx hb dX9_whyNot_295 (by decide) ?_
  refine lv_icmp_lt (tgt := 306) hx hb dX9_whyNot_297 (by decide) (fun _ => ?_) (fun c_ => absurd (by decide) c_)
  refine lv_iconst (v := 0) hx hb dX9_whyNot_306 (by decide) ?_
  exact r_iret hC hr hlk hw () rfl rfl (Nat.le_of_ble_eq_true rfl) (Nat.le_of_ble_eq_true rfl) dX9_whyNot_307

set_option maxHeartbeats 4000000 in
set_option maxRecDepth 100000 in
theorem c_X9_whyNot_6 (l : Launch) {D : va_G} {q : Nat → ClassId} {ad : Nat → Nat} {κ : KS} {t : Nat → Int32} (sz : Nat) (hs : okStep 6 (t 0) (t 1) (t 2)) (hW : WFm κ) : Met l yX9_whyNot wsX9_whyNot (rmz 5 110) (va_Pc [.ref (ad 0), .int 6] (rPre D q (wM q ad κ t) sz)) (va_Qi (fun (r : Int32) (u : Unit) => r = why κ 6 (t 0) (t 1) (t 2)) (fun (u : Unit) tt => rPo D (rA (wM q ad κ t) sz) (wM q ad κ t) tt) (rA (wM q ad κ t) sz)) 0 0 (rA (wM q ad κ t) sz) := by
  have hi0 : vp_in (t 0) 8 := hs.1
  have hi1 : vp_in (t 1) 8 := hs.2.1
  have hi2 : vp_in (t 2) 8 := hs.2.2
  refine r_start (cc := cX9_whyNot) (maxL := 4) (ret := (some .int)) (by decide) rfl (Nat.le_of_ble_eq_true rfl) ?_
  intro p e s m below meth c ls hC hr hlk hnm hsz hw hl
  have hx := hC.1
  have hb := hC.2.1
  have hl : lv_has ls 4 [(0, .ref (ad 0)), (1, .int 6)] := hl
  refine lv_iload_n hx hb dX9_whyNot_0 rfl (lv_at hl 1 rfl) ?_
  refine lv_bipush (v := 7) hx hb dX9_whyNot_1 (by decide) ?_
  refine lv_icmp_eq (tgt := 12) hx hb dX9_whyNot_3 (by decide) (fun c_ => absurd c_ (by decide)) (fun _ => ?_)
  refine lv_iload_n hx hb dX9_whyNot_6 rfl (lv_at hl 1 rfl) ?_
  refine lv_bipush (v := 8) hx hb dX9_whyNot_7 (by decide) ?_
  refine lv_icmp_ne (tgt := 31) hx hb dX9_whyNot_9 (by decide) (fun _ => ?_) (fun c_ => absurd c_ (by decide))
  refine lv_iload_n hx hb dX9_whyNot_31 rfl (lv_at hl 1 rfl) ?_
  refine lv_bipush (v := 11) hx hb dX9_whyNot_32 (by decide) ?_
  refine lv_icmp_eq (tgt := 43) hx hb dX9_whyNot_34 (by decide) (fun c_ => absurd c_ (by decide)) (fun _ => ?_)
  refine lv_iload_n hx hb dX9_whyNot_37 rfl (lv_at hl 1 rfl) ?_
  refine lv_bipush (v := 12) hx hb dX9_whyNot_38 (by decide) ?_
  refine lv_icmp_ne (tgt := 64) hx hb dX9_whyNot_40 (by decide) (fun _ => ?_) (fun c_ => absurd c_ (by decide))
  refine lv_iload_n hx hb dX9_whyNot_64 rfl (lv_at hl 1 rfl) ?_
  refine lv_bipush (v := 23) hx hb dX9_whyNot_65 (by decide) ?_
  refine lv_icmp_ne (tgt := 91) hx hb dX9_whyNot_67 (by decide) (fun _ => ?_) (fun c_ => absurd c_ (by decide))
  refine lv_iload_n hx hb dX9_whyNot_91 rfl (lv_at hl 1 rfl) ?_
  refine lv_bipush (v := 24) hx hb dX9_whyNot_92 (by decide) ?_
  refine lv_icmp_ne (tgt := 118) hx hb dX9_whyNot_94 (by decide) (fun _ => ?_) (fun c_ => absurd c_ (by decide))
  refine lv_iload_n hx hb dX9_whyNot_118 rfl (lv_at hl 1 rfl) ?_
  refine lv_bipush (v := 29) hx hb dX9_whyNot_119 (by decide) ?_
  refine lv_icmp_ne (tgt := 140) hx hb dX9_whyNot_121 (by decide) (fun _ => ?_) (fun c_ => absurd c_ (by decide))
  refine lv_iload_n hx hb dX9_whyNot_140 rfl (lv_at hl 1 rfl) ?_
  refine lv_bipush (v := 31) hx hb dX9_whyNot_141 (by decide) ?_
  refine lv_icmp_ne (tgt := 197) hx hb dX9_whyNot_143 (by decide) (fun _ => ?_) (fun c_ => absurd c_ (by decide))
  refine lv_iload_n hx hb dX9_whyNot_197 rfl (lv_at hl 1 rfl) ?_
  refine lv_bipush (v := 32) hx hb dX9_whyNot_198 (by decide) ?_
  refine lv_icmp_ne (tgt := 272) hx hb dX9_whyNot_200 (by decide) (fun _ => ?_) (fun c_ => absurd c_ (by decide))
  refine lv_iload_n hx hb dX9_whyNot_272 rfl (lv_at hl 1 rfl) ?_
  refine lv_bipush (v := 33) hx hb dX9_whyNot_273 (by decide) ?_
  refine lv_icmp_ne (tgt := 294) hx hb dX9_whyNot_275 (by decide) (fun _ => ?_) (fun c_ => absurd c_ (by decide))
  refine lv_iload_n hx hb dX9_whyNot_294 rfl (lv_at hl 1 rfl) ?_
  refine lv_bipush (v := 38) hx hb dX9_whyNot_295 (by decide) ?_
  refine lv_icmp_lt (tgt := 306) hx hb dX9_whyNot_297 (by decide) (fun _ => ?_) (fun c_ => absurd (by decide) c_)
  refine lv_iconst (v := 0) hx hb dX9_whyNot_306 (by decide) ?_
  exact r_iret hC hr hlk hw () rfl rfl (Nat.le_of_ble_eq_true rfl) (Nat.le_of_ble_eq_true rfl) dX9_whyNot_307

set_option maxHeartbeats 4000000 in
set_option maxRecDepth 100000 in
theorem c_X9_whyNot_7 (l : Launch) {D : va_G} {q : Nat → ClassId} {ad : Nat → Nat} {κ : KS} {t : Nat → Int32} (sz : Nat) (hs : okStep 7 (t 0) (t 1) (t 2)) (hW : WFm κ) : Met l yX9_whyNot wsX9_whyNot (rmz 5 110) (va_Pc [.ref (ad 0), .int 7] (rPre D q (wM q ad κ t) sz)) (va_Qi (fun (r : Int32) (u : Unit) => r = why κ 7 (t 0) (t 1) (t 2)) (fun (u : Unit) tt => rPo D (rA (wM q ad κ t) sz) (wM q ad κ t) tt) (rA (wM q ad κ t) sz)) 0 0 (rA (wM q ad κ t) sz) := by
  have hi0 : vp_in (t 0) 8 := hs.1
  have hi1 : vp_in (t 1) 8 := hs.2.1
  have hi2 : vp_in (t 2) 8 := hs.2.2
  refine r_start (cc := cX9_whyNot) (maxL := 4) (ret := (some .int)) (by decide) rfl (Nat.le_of_ble_eq_true rfl) ?_
  intro p e s m below meth c ls hC hr hlk hnm hsz hw hl
  have hx := hC.1
  have hb := hC.2.1
  have hl : lv_has ls 4 [(0, .ref (ad 0)), (1, .int 7)] := hl
  refine lv_iload_n hx hb dX9_whyNot_0 rfl (lv_at hl 1 rfl) ?_
  refine lv_bipush (v := 7) hx hb dX9_whyNot_1 (by decide) ?_
  refine lv_icmp_eq (tgt := 12) hx hb dX9_whyNot_3 (by decide) (fun _ => ?_) (fun c_ => absurd (by decide) c_)
  refine lv_aload_n hx hb dX9_whyNot_12 rfl (lv_at hl 0 rfl) ?_
  refine r_get hC hw rk9 in_X9_whyNot_9 0 (wMl 0 (by decide)) wM0 4 (by decide) lk_X9_whyNot_16 (v := .ref (ad 3)) rfl dX9_whyNot_13 ?_
  refine lv_aload_n hx hb dX9_whyNot_16 rfl (lv_at hl 0 rfl) ?_
  refine r_get hC hw rk9 in_X9_whyNot_9 0 (wMl 0 (by decide)) wM0 32 (by decide) lk_X9_whyNot_123 (v := .int (t 2)) rfl dX9_whyNot_17 ?_
  refine r_iald hC hw 3 (wMl 3 (by decide)) wM3 (by assumption) dX9_whyNot_20 ?_
  refine lv_if_ne (tgt := 29) hx hb dX9_whyNot_21 (by decide) (fun c_1 => ?_) (fun c_1 => ?_)
  · refine lv_iconst (v := 0) hx hb dX9_whyNot_29 (by decide) ?_
    exact r_iret hC hr hlk hw () rfl (if_neg c_1).symm (Nat.le_of_ble_eq_true rfl) (Nat.le_of_ble_eq_true rfl) dX9_whyNot_30
  · refine lv_bipush (v := 6) hx hb dX9_whyNot_24 (by decide) ?_
    refine lv_goto (tgt := 30) hx hb dX9_whyNot_26 (by decide) ?_
    exact r_iret hC hr hlk hw () rfl (if_pos c_1).symm (Nat.le_of_ble_eq_true rfl) (Nat.le_of_ble_eq_true rfl) dX9_whyNot_30

set_option maxHeartbeats 4000000 in
set_option maxRecDepth 100000 in
theorem c_X9_whyNot_8 (l : Launch) {D : va_G} {q : Nat → ClassId} {ad : Nat → Nat} {κ : KS} {t : Nat → Int32} (sz : Nat) (hs : okStep 8 (t 0) (t 1) (t 2)) (hW : WFm κ) : Met l yX9_whyNot wsX9_whyNot (rmz 5 110) (va_Pc [.ref (ad 0), .int 8] (rPre D q (wM q ad κ t) sz)) (va_Qi (fun (r : Int32) (u : Unit) => r = why κ 8 (t 0) (t 1) (t 2)) (fun (u : Unit) tt => rPo D (rA (wM q ad κ t) sz) (wM q ad κ t) tt) (rA (wM q ad κ t) sz)) 0 0 (rA (wM q ad κ t) sz) := by
  have hi0 : vp_in (t 0) 8 := hs.1
  have hi1 : vp_in (t 1) 8 := hs.2.1
  have hi2 : vp_in (t 2) 8 := hs.2.2
  refine r_start (cc := cX9_whyNot) (maxL := 4) (ret := (some .int)) (by decide) rfl (Nat.le_of_ble_eq_true rfl) ?_
  intro p e s m below meth c ls hC hr hlk hnm hsz hw hl
  have hx := hC.1
  have hb := hC.2.1
  have hl : lv_has ls 4 [(0, .ref (ad 0)), (1, .int 8)] := hl
  refine lv_iload_n hx hb dX9_whyNot_0 rfl (lv_at hl 1 rfl) ?_
  refine lv_bipush (v := 7) hx hb dX9_whyNot_1 (by decide) ?_
  refine lv_icmp_eq (tgt := 12) hx hb dX9_whyNot_3 (by decide) (fun c_ => absurd c_ (by decide)) (fun _ => ?_)
  refine lv_iload_n hx hb dX9_whyNot_6 rfl (lv_at hl 1 rfl) ?_
  refine lv_bipush (v := 8) hx hb dX9_whyNot_7 (by decide) ?_
  refine lv_icmp_ne (tgt := 31) hx hb dX9_whyNot_9 (by decide) (fun c_ => absurd (by decide) c_) (fun _ => ?_)
  refine lv_aload_n hx hb dX9_whyNot_12 rfl (lv_at hl 0 rfl) ?_
  refine r_get hC hw rk9 in_X9_whyNot_9 0 (wMl 0 (by decide)) wM0 4 (by decide) lk_X9_whyNot_16 (v := .ref (ad 3)) rfl dX9_whyNot_13 ?_
  refine lv_aload_n hx hb dX9_whyNot_16 rfl (lv_at hl 0 rfl) ?_
  refine r_get hC hw rk9 in_X9_whyNot_9 0 (wMl 0 (by decide)) wM0 32 (by decide) lk_X9_whyNot_123 (v := .int (t 2)) rfl dX9_whyNot_17 ?_
  refine r_iald hC hw 3 (wMl 3 (by decide)) wM3 (by assumption) dX9_whyNot_20 ?_
  refine lv_if_ne (tgt := 29) hx hb dX9_whyNot_21 (by decide) (fun c_1 => ?_) (fun c_1 => ?_)
  · refine lv_iconst (v := 0) hx hb dX9_whyNot_29 (by decide) ?_
    exact r_iret hC hr hlk hw () rfl (if_neg c_1).symm (Nat.le_of_ble_eq_true rfl) (Nat.le_of_ble_eq_true rfl) dX9_whyNot_30
  · refine lv_bipush (v := 6) hx hb dX9_whyNot_24 (by decide) ?_
    refine lv_goto (tgt := 30) hx hb dX9_whyNot_26 (by decide) ?_
    exact r_iret hC hr hlk hw () rfl (if_pos c_1).symm (Nat.le_of_ble_eq_true rfl) (Nat.le_of_ble_eq_true rfl) dX9_whyNot_30

set_option maxHeartbeats 4000000 in
set_option maxRecDepth 100000 in
theorem c_X9_whyNot_9 (l : Launch) {D : va_G} {q : Nat → ClassId} {ad : Nat → Nat} {κ : KS} {t : Nat → Int32} (sz : Nat) (hs : okStep 9 (t 0) (t 1) (t 2)) (hW : WFm κ) : Met l yX9_whyNot wsX9_whyNot (rmz 5 110) (va_Pc [.ref (ad 0), .int 9] (rPre D q (wM q ad κ t) sz)) (va_Qi (fun (r : Int32) (u : Unit) => r = why κ 9 (t 0) (t 1) (t 2)) (fun (u : Unit) tt => rPo D (rA (wM q ad κ t) sz) (wM q ad κ t) tt) (rA (wM q ad κ t) sz)) 0 0 (rA (wM q ad κ t) sz) := by
  have hi0 : vp_in (t 0) 4 := hs.1
  have hi1 : vp_in (t 1) 4 := hs.2.1
  have hi2 : vp_in (t 2) 4 := hs.2.2
  refine r_start (cc := cX9_whyNot) (maxL := 4) (ret := (some .int)) (by decide) rfl (Nat.le_of_ble_eq_true rfl) ?_
  intro p e s m below meth c ls hC hr hlk hnm hsz hw hl
  have hx := hC.1
  have hb := hC.2.1
  have hl : lv_has ls 4 [(0, .ref (ad 0)), (1, .int 9)] := hl
  refine lv_iload_n hx hb dX9_whyNot_0 rfl (lv_at hl 1 rfl) ?_
  refine lv_bipush (v := 7) hx hb dX9_whyNot_1 (by decide) ?_
  refine lv_icmp_eq (tgt := 12) hx hb dX9_whyNot_3 (by decide) (fun c_ => absurd c_ (by decide)) (fun _ => ?_)
  refine lv_iload_n hx hb dX9_whyNot_6 rfl (lv_at hl 1 rfl) ?_
  refine lv_bipush (v := 8) hx hb dX9_whyNot_7 (by decide) ?_
  refine lv_icmp_ne (tgt := 31) hx hb dX9_whyNot_9 (by decide) (fun _ => ?_) (fun c_ => absurd c_ (by decide))
  refine lv_iload_n hx hb dX9_whyNot_31 rfl (lv_at hl 1 rfl) ?_
  refine lv_bipush (v := 11) hx hb dX9_whyNot_32 (by decide) ?_
  refine lv_icmp_eq (tgt := 43) hx hb dX9_whyNot_34 (by decide) (fun c_ => absurd c_ (by decide)) (fun _ => ?_)
  refine lv_iload_n hx hb dX9_whyNot_37 rfl (lv_at hl 1 rfl) ?_
  refine lv_bipush (v := 12) hx hb dX9_whyNot_38 (by decide) ?_
  refine lv_icmp_ne (tgt := 64) hx hb dX9_whyNot_40 (by decide) (fun _ => ?_) (fun c_ => absurd c_ (by decide))
  refine lv_iload_n hx hb dX9_whyNot_64 rfl (lv_at hl 1 rfl) ?_
  refine lv_bipush (v := 23) hx hb dX9_whyNot_65 (by decide) ?_
  refine lv_icmp_ne (tgt := 91) hx hb dX9_whyNot_67 (by decide) (fun _ => ?_) (fun c_ => absurd c_ (by decide))
  refine lv_iload_n hx hb dX9_whyNot_91 rfl (lv_at hl 1 rfl) ?_
  refine lv_bipush (v := 24) hx hb dX9_whyNot_92 (by decide) ?_
  refine lv_icmp_ne (tgt := 118) hx hb dX9_whyNot_94 (by decide) (fun _ => ?_) (fun c_ => absurd c_ (by decide))
  refine lv_iload_n hx hb dX9_whyNot_118 rfl (lv_at hl 1 rfl) ?_
  refine lv_bipush (v := 29) hx hb dX9_whyNot_119 (by decide) ?_
  refine lv_icmp_ne (tgt := 140) hx hb dX9_whyNot_121 (by decide) (fun _ => ?_) (fun c_ => absurd c_ (by decide))
  refine lv_iload_n hx hb dX9_whyNot_140 rfl (lv_at hl 1 rfl) ?_
  refine lv_bipush (v := 31) hx hb dX9_whyNot_141 (by decide) ?_
  refine lv_icmp_ne (tgt := 197) hx hb dX9_whyNot_143 (by decide) (fun _ => ?_) (fun c_ => absurd c_ (by decide))
  refine lv_iload_n hx hb dX9_whyNot_197 rfl (lv_at hl 1 rfl) ?_
  refine lv_bipush (v := 32) hx hb dX9_whyNot_198 (by decide) ?_
  refine lv_icmp_ne (tgt := 272) hx hb dX9_whyNot_200 (by decide) (fun _ => ?_) (fun c_ => absurd c_ (by decide))
  refine lv_iload_n hx hb dX9_whyNot_272 rfl (lv_at hl 1 rfl) ?_
  refine lv_bipush (v := 33) hx hb dX9_whyNot_273 (by decide) ?_
  refine lv_icmp_ne (tgt := 294) hx hb dX9_whyNot_275 (by decide) (fun _ => ?_) (fun c_ => absurd c_ (by decide))
  refine lv_iload_n hx hb dX9_whyNot_294 rfl (lv_at hl 1 rfl) ?_
  refine lv_bipush (v := 38) hx hb dX9_whyNot_295 (by decide) ?_
  refine lv_icmp_lt (tgt := 306) hx hb dX9_whyNot_297 (by decide) (fun _ => ?_) (fun c_ => absurd (by decide) c_)
  refine lv_iconst (v := 0) hx hb dX9_whyNot_306 (by decide) ?_
  exact r_iret hC hr hlk hw () rfl rfl (Nat.le_of_ble_eq_true rfl) (Nat.le_of_ble_eq_true rfl) dX9_whyNot_307

set_option maxHeartbeats 4000000 in
set_option maxRecDepth 100000 in
theorem c_X9_whyNot_10 (l : Launch) {D : va_G} {q : Nat → ClassId} {ad : Nat → Nat} {κ : KS} {t : Nat → Int32} (sz : Nat) (hs : okStep 10 (t 0) (t 1) (t 2)) (hW : WFm κ) : Met l yX9_whyNot wsX9_whyNot (rmz 5 110) (va_Pc [.ref (ad 0), .int 10] (rPre D q (wM q ad κ t) sz)) (va_Qi (fun (r : Int32) (u : Unit) => r = why κ 10 (t 0) (t 1) (t 2)) (fun (u : Unit) tt => rPo D (rA (wM q ad κ t) sz) (wM q ad κ t) tt) (rA (wM q ad κ t) sz)) 0 0 (rA (wM q ad κ t) sz) := by
  have hi0 : vp_in (t 0) 4 := hs.1
  have hi1 : vp_in (t 1) 4 := hs.2.1
  have hi2 : vp_in (t 2) 4 := hs.2.2
  refine r_start (cc := cX9_whyNot) (maxL := 4) (ret := (some .int)) (by decide) rfl (Nat.le_of_ble_eq_true rfl) ?_
  intro p e s m below meth c ls hC hr hlk hnm hsz hw hl
  have hx := hC.1
  have hb := hC.2.1
  have hl : lv_has ls 4 [(0, .ref (ad 0)), (1, .int 10)] := hl
  refine lv_iload_n hx hb dX9_whyNot_0 rfl (lv_at hl 1 rfl) ?_
  refine lv_bipush (v := 7) hx hb dX9_whyNot_1 (by decide) ?_
  refine lv_icmp_eq (tgt := 12) hx hb dX9_whyNot_3 (by decide) (fun c_ => absurd c_ (by decide)) (fun _ => ?_)
  refine lv_iload_n hx hb dX9_whyNot_6 rfl (lv_at hl 1 rfl) ?_
  refine lv_bipush (v := 8) hx hb dX9_whyNot_7 (by decide) ?_
  refine lv_icmp_ne (tgt := 31) hx hb dX9_whyNot_9 (by decide) (fun _ => ?_) (fun c_ => absurd c_ (by decide))
  refine lv_iload_n hx hb dX9_whyNot_31 rfl (lv_at hl 1 rfl) ?_
  refine lv_bipush (v := 11) hx hb dX9_whyNot_32 (by decide) ?_
  refine lv_icmp_eq (tgt := 43) hx hb dX9_whyNot_34 (by decide) (fun c_ => absurd c_ (by decide)) (fun _ => ?_)
  refine lv_iload_n hx hb dX9_whyNot_37 rfl (lv_at hl 1 rfl) ?_
  refine lv_bipush (v := 12) hx hb dX9_whyNot_38 (by decide) ?_
  refine lv_icmp_ne (tgt := 64) hx hb dX9_whyNot_40 (by decide) (fun _ => ?_) (fun c_ => absurd c_ (by decide))
  refine lv_iload_n hx hb dX9_whyNot_64 rfl (lv_at hl 1 rfl) ?_
  refine lv_bipush (v := 23) hx hb dX9_whyNot_65 (by decide) ?_
  refine lv_icmp_ne (tgt := 91) hx hb dX9_whyNot_67 (by decide) (fun _ => ?_) (fun c_ => absurd c_ (by decide))
  refine lv_iload_n hx hb dX9_whyNot_91 rfl (lv_at hl 1 rfl) ?_
  refine lv_bipush (v := 24) hx hb dX9_whyNot_92 (by decide) ?_
  refine lv_icmp_ne (tgt := 118) hx hb dX9_whyNot_94 (by decide) (fun _ => ?_) (fun c_ => absurd c_ (by decide))
  refine lv_iload_n hx hb dX9_whyNot_118 rfl (lv_at hl 1 rfl) ?_
  refine lv_bipush (v := 29) hx hb dX9_whyNot_119 (by decide) ?_
  refine lv_icmp_ne (tgt := 140) hx hb dX9_whyNot_121 (by decide) (fun _ => ?_) (fun c_ => absurd c_ (by decide))
  refine lv_iload_n hx hb dX9_whyNot_140 rfl (lv_at hl 1 rfl) ?_
  refine lv_bipush (v := 31) hx hb dX9_whyNot_141 (by decide) ?_
  refine lv_icmp_ne (tgt := 197) hx hb dX9_whyNot_143 (by decide) (fun _ => ?_) (fun c_ => absurd c_ (by decide))
  refine lv_iload_n hx hb dX9_whyNot_197 rfl (lv_at hl 1 rfl) ?_
  refine lv_bipush (v := 32) hx hb dX9_whyNot_198 (by decide) ?_
  refine lv_icmp_ne (tgt := 272) hx hb dX9_whyNot_200 (by decide) (fun _ => ?_) (fun c_ => absurd c_ (by decide))
  refine lv_iload_n hx hb dX9_whyNot_272 rfl (lv_at hl 1 rfl) ?_
  refine lv_bipush (v := 33) hx hb dX9_whyNot_273 (by decide) ?_
  refine lv_icmp_ne (tgt := 294) hx hb dX9_whyNot_275 (by decide) (fun _ => ?_) (fun c_ => absurd c_ (by decide))
  refine lv_iload_n hx hb dX9_whyNot_294 rfl (lv_at hl 1 rfl) ?_
  refine lv_bipush (v := 38) hx hb dX9_whyNot_295 (by decide) ?_
  refine lv_icmp_lt (tgt := 306) hx hb dX9_whyNot_297 (by decide) (fun _ => ?_) (fun c_ => absurd (by decide) c_)
  refine lv_iconst (v := 0) hx hb dX9_whyNot_306 (by decide) ?_
  exact r_iret hC hr hlk hw () rfl rfl (Nat.le_of_ble_eq_true rfl) (Nat.le_of_ble_eq_true rfl) dX9_whyNot_307

set_option maxHeartbeats 4000000 in
set_option maxRecDepth 100000 in
theorem c_X9_whyNot_11 (l : Launch) {D : va_G} {q : Nat → ClassId} {ad : Nat → Nat} {κ : KS} {t : Nat → Int32} (sz : Nat) (hs : okStep 11 (t 0) (t 1) (t 2)) (hW : WFm κ) : Met l yX9_whyNot wsX9_whyNot (rmz 5 110) (va_Pc [.ref (ad 0), .int 11] (rPre D q (wM q ad κ t) sz)) (va_Qi (fun (r : Int32) (u : Unit) => r = why κ 11 (t 0) (t 1) (t 2)) (fun (u : Unit) tt => rPo D (rA (wM q ad κ t) sz) (wM q ad κ t) tt) (rA (wM q ad κ t) sz)) 0 0 (rA (wM q ad κ t) sz) := by
  have hi0 : vp_in (t 0) 4 := hs.1
  have hi1 : vp_in (t 1) 4 := hs.2.1
  have hi2 : vp_in (t 2) 4 := hs.2.2
  refine r_start (cc := cX9_whyNot) (maxL := 4) (ret := (some .int)) (by decide) rfl (Nat.le_of_ble_eq_true rfl) ?_
  intro p e s m below meth c ls hC hr hlk hnm hsz hw hl
  have hx := hC.1
  have hb := hC.2.1
  have hl : lv_has ls 4 [(0, .ref (ad 0)), (1, .int 11)] := hl
  refine lv_iload_n hx hb dX9_whyNot_0 rfl (lv_at hl 1 rfl) ?_
  refine lv_bipush (v := 7) hx hb dX9_whyNot_1 (by decide) ?_
  refine lv_icmp_eq (tgt := 12) hx hb dX9_whyNot_3 (by decide) (fun c_ => absurd c_ (by decide)) (fun _ => ?_)
  refine lv_iload_n hx hb dX9_whyNot_6 rfl (lv_at hl 1 rfl) ?_
  refine lv_bipush (v := 8) hx hb dX9_whyNot_7 (by decide) ?_
  refine lv_icmp_ne (tgt := 31) hx hb dX9_whyNot_9 (by decide) (fun _ => ?_) (fun c_ => absurd c_ (by decide))
  refine lv_iload_n hx hb dX9_whyNot_31 rfl (lv_at hl 1 rfl) ?_
  refine lv_bipush (v := 11) hx hb dX9_whyNot_32 (by decide) ?_
  refine lv_icmp_eq (tgt := 43) hx hb dX9_whyNot_34 (by decide) (fun _ => ?_) (fun c_ => absurd (by decide) c_)
  refine lv_aload_n hx hb dX9_whyNot_43 rfl (lv_at hl 0 rfl) ?_
  refine r_get hC hw rk9 in_X9_whyNot_9 0 (wMl 0 (by decide)) wM0 5 (by decide) lk_X9_whyNot_19 (v := .ref (ad 4)) rfl dX9_whyNot_44 ?_
  refine lv_aload_n hx hb dX9_whyNot_47 rfl (lv_at hl 0 rfl) ?_
  refine r_get hC hw rk9 in_X9_whyNot_9 0 (wMl 0 (by decide)) wM0 32 (by decide) lk_X9_whyNot_123 (v := .int (t 2)) rfl dX9_whyNot_48 ?_
  refine r_lald hC hw 4 (wMl 4 (by decide)) wM4 (by assumption) dX9_whyNot_51 ?_
  refine lv_lconst (v := 0) hx hb dX9_whyNot_52 (by decide) ?_
  refine W.lcmp hx hb dX9_whyNot_53 ?_
  refine lv_if_ne (tgt := 62) hx hb dX9_whyNot_54 (by decide) (fun c_1 => ?_) (fun c_1 => ?_)
  · refine lv_iconst (v := 0) hx hb dX9_whyNot_62 (by decide) ?_
    exact r_iret hC hr hlk hw () rfl (if_neg c_1).symm (Nat.le_of_ble_eq_true rfl) (Nat.le_of_ble_eq_true rfl) dX9_whyNot_63
  · refine lv_bipush (v := 6) hx hb dX9_whyNot_57 (by decide) ?_
    refine lv_goto (tgt := 63) hx hb dX9_whyNot_59 (by decide) ?_
    exact r_iret hC hr hlk hw () rfl (if_pos c_1).symm (Nat.le_of_ble_eq_true rfl) (Nat.le_of_ble_eq_true rfl) dX9_whyNot_63

set_option maxHeartbeats 4000000 in
set_option maxRecDepth 100000 in
theorem c_X9_whyNot_12 (l : Launch) {D : va_G} {q : Nat → ClassId} {ad : Nat → Nat} {κ : KS} {t : Nat → Int32} (sz : Nat) (hs : okStep 12 (t 0) (t 1) (t 2)) (hW : WFm κ) : Met l yX9_whyNot wsX9_whyNot (rmz 5 110) (va_Pc [.ref (ad 0), .int 12] (rPre D q (wM q ad κ t) sz)) (va_Qi (fun (r : Int32) (u : Unit) => r = why κ 12 (t 0) (t 1) (t 2)) (fun (u : Unit) tt => rPo D (rA (wM q ad κ t) sz) (wM q ad κ t) tt) (rA (wM q ad κ t) sz)) 0 0 (rA (wM q ad κ t) sz) := by
  have hi0 : vp_in (t 0) 4 := hs.1
  have hi1 : vp_in (t 1) 4 := hs.2.1
  have hi2 : vp_in (t 2) 4 := hs.2.2
  refine r_start (cc := cX9_whyNot) (maxL := 4) (ret := (some .int)) (by decide) rfl (Nat.le_of_ble_eq_true rfl) ?_
  intro p e s m below meth c ls hC hr hlk hnm hsz hw hl
  have hx := hC.1
  have hb := hC.2.1
  have hl : lv_has ls 4 [(0, .ref (ad 0)), (1, .int 12)] := hl
  refine lv_iload_n hx hb dX9_whyNot_0 rfl (lv_at hl 1 rfl) ?_
  refine lv_bipush (v := 7) hx hb dX9_whyNot_1 (by decide) ?_
  refine lv_icmp_eq (tgt := 12) hx hb dX9_whyNot_3 (by decide) (fun c_ => absurd c_ (by decide)) (fun _ => ?_)
  refine lv_iload_n hx hb dX9_whyNot_6 rfl (lv_at hl 1 rfl) ?_
  refine lv_bipush (v := 8) hx hb dX9_whyNot_7 (by decide) ?_
  refine lv_icmp_ne (tgt := 31) hx hb dX9_whyNot_9 (by decide) (fun _ => ?_) (fun c_ => absurd c_ (by decide))
  refine lv_iload_n hx hb dX9_whyNot_31 rfl (lv_at hl 1 rfl) ?_
  refine lv_bipush (v := 11) hx hb dX9_whyNot_32 (by decide) ?_
  refine lv_icmp_eq (tgt := 43) hx hb dX9_whyNot_34 (by decide) (fun c_ => absurd c_ (by decide)) (fun _ => ?_)
  refine lv_iload_n hx hb dX9_whyNot_37 rfl (lv_at hl 1 rfl) ?_
  refine lv_bipush (v := 12) hx hb dX9_whyNot_38 (by decide) ?_
  refine lv_icmp_ne (tgt := 64) hx hb dX9_whyNot_40 (by decide) (fun c_ => absurd (by decide) c_) (fun _ => ?_)
  refine lv_aload_n hx hb dX9_whyNot_43 rfl (lv_at hl 0 rfl) ?_
  refine r_get hC hw rk9 in_X9_whyNot_9 0 (wMl 0 (by decide)) wM0 5 (by decide) lk_X9_whyNot_19 (v := .ref (ad 4)) rfl dX9_whyNot_44 ?_
  refine lv_aload_n hx hb dX9_whyNot_47 rfl (lv_at hl 0 rfl) ?_
  refine r_get hC hw rk9 in_X9_whyNot_9 0 (wMl 0 (by decide)) wM0 32 (by decide) lk_X9_whyNot_123 (v := .int (t 2)) rfl dX9_whyNot_48 ?_
  refine r_lald hC hw 4 (wMl 4 (by decide)) wM4 (by assumption) dX9_whyNot_51 ?_
  refine lv_lconst (v := 0) hx hb dX9_whyNot_52 (by decide) ?_
  refine W.lcmp hx hb dX9_whyNot_53 ?_
  refine lv_if_ne (tgt := 62) hx hb dX9_whyNot_54 (by decide) (fun c_1 => ?_) (fun c_1 => ?_)
  · refine lv_iconst (v := 0) hx hb dX9_whyNot_62 (by decide) ?_
    exact r_iret hC hr hlk hw () rfl (if_neg c_1).symm (Nat.le_of_ble_eq_true rfl) (Nat.le_of_ble_eq_true rfl) dX9_whyNot_63
  · refine lv_bipush (v := 6) hx hb dX9_whyNot_57 (by decide) ?_
    refine lv_goto (tgt := 63) hx hb dX9_whyNot_59 (by decide) ?_
    exact r_iret hC hr hlk hw () rfl (if_pos c_1).symm (Nat.le_of_ble_eq_true rfl) (Nat.le_of_ble_eq_true rfl) dX9_whyNot_63

set_option maxHeartbeats 4000000 in
set_option maxRecDepth 100000 in
theorem c_X9_whyNot_13 (l : Launch) {D : va_G} {q : Nat → ClassId} {ad : Nat → Nat} {κ : KS} {t : Nat → Int32} (sz : Nat) (hs : okStep 13 (t 0) (t 1) (t 2)) (hW : WFm κ) : Met l yX9_whyNot wsX9_whyNot (rmz 5 110) (va_Pc [.ref (ad 0), .int 13] (rPre D q (wM q ad κ t) sz)) (va_Qi (fun (r : Int32) (u : Unit) => r = why κ 13 (t 0) (t 1) (t 2)) (fun (u : Unit) tt => rPo D (rA (wM q ad κ t) sz) (wM q ad κ t) tt) (rA (wM q ad κ t) sz)) 0 0 (rA (wM q ad κ t) sz) := by
  have hi0 : vp_in (t 0) 4 := hs.1
  have hi1 : vp_in (t 1) 8 := hs.2.1
  refine r_start (cc := cX9_whyNot) (maxL := 4) (ret := (some .int)) (by decide) rfl (Nat.le_of_ble_eq_true rfl) ?_
  intro p e s m below meth c ls hC hr hlk hnm hsz hw hl
  have hx := hC.1
  have hb := hC.2.1
  have hl : lv_has ls 4 [(0, .ref (ad 0)), (1, .int 13)] := hl
  refine lv_iload_n hx hb dX9_whyNot_0 rfl (lv_at hl 1 rfl) ?_
  refine lv_bipush (v := 7) hx hb dX9_whyNot_1 (by decide) ?_
  refine lv_icmp_eq (tgt := 12) hx hb dX9_whyNot_3 (by decide) (fun c_ => absurd c_ (by decide)) (fun _ => ?_)
  refine lv_iload_n hx hb dX9_whyNot_6 rfl (lv_at hl 1 rfl) ?_
  refine lv_bipush (v := 8) hx hb dX9_whyNot_7 (by decide) ?_
  refine lv_icmp_ne (tgt := 31) hx hb dX9_whyNot_9 (by decide) (fun _ => ?_) (fun c_ => absurd c_ (by decide))
  refine lv_iload_n hx hb dX9_whyNot_31 rfl (lv_at hl 1 rfl) ?_
  refine lv_bipush (v := 11) hx hb dX9_whyNot_32 (by decide) ?_
  refine lv_icmp_eq (tgt := 43) hx hb dX9_whyNot_34 (by decide) (fun c_ => absurd c_ (by decide)) (fun _ => ?_)
  refine lv_iload_n hx hb dX9_whyNot_37 rfl (lv_at hl 1 rfl) ?_
  refine lv_bipush (v := 12) hx hb dX9_whyNot_38 (by decide) ?_
  refine lv_icmp_ne (tgt := 64) hx hb dX9_whyNot_40 (by decide) (fun _ => ?_) (fun c_ => absurd c_ (by decide))
  refine lv_iload_n hx hb dX9_whyNot_64 rfl (lv_at hl 1 rfl) ?_
  refine lv_bipush (v := 23) hx hb dX9_whyNot_65 (by decide) ?_
  refine lv_icmp_ne (tgt := 91) hx hb dX9_whyNot_67 (by decide) (fun _ => ?_) (fun c_ => absurd c_ (by decide))
  refine lv_iload_n hx hb dX9_whyNot_91 rfl (lv_at hl 1 rfl) ?_
  refine lv_bipush (v := 24) hx hb dX9_whyNot_92 (by decide) ?_
  refine lv_icmp_ne (tgt := 118) hx hb dX9_whyNot_94 (by decide) (fun _ => ?_) (fun c_ => absurd c_ (by decide))
  refine lv_iload_n hx hb dX9_whyNot_118 rfl (lv_at hl 1 rfl) ?_
  refine lv_bipush (v := 29) hx hb dX9_whyNot_119 (by decide) ?_
  refine lv_icmp_ne (tgt := 140) hx hb dX9_whyNot_121 (by decide) (fun _ => ?_) (fun c_ => absurd c_ (by decide))
  refine lv_iload_n hx hb dX9_whyNot_140 rfl (lv_at hl 1 rfl) ?_
  refine lv_bipush (v := 31) hx hb dX9_whyNot_141 (by decide) ?_
  refine lv_icmp_ne (tgt := 197) hx hb dX9_whyNot_143 (by decide) (fun _ => ?_) (fun c_ => absurd c_ (by decide))
  refine lv_iload_n hx hb dX9_whyNot_197 rfl (lv_at hl 1 rfl) ?_
  refine lv_bipush (v := 32) hx hb dX9_whyNot_198 (by decide) ?_
  refine lv_icmp_ne (tgt := 272) hx hb dX9_whyNot_200 (by decide) (fun _ => ?_) (fun c_ => absurd c_ (by decide))
  refine lv_iload_n hx hb dX9_whyNot_272 rfl (lv_at hl 1 rfl) ?_
  refine lv_bipush (v := 33) hx hb dX9_whyNot_273 (by decide) ?_
  refine lv_icmp_ne (tgt := 294) hx hb dX9_whyNot_275 (by decide) (fun _ => ?_) (fun c_ => absurd c_ (by decide))
  refine lv_iload_n hx hb dX9_whyNot_294 rfl (lv_at hl 1 rfl) ?_
  refine lv_bipush (v := 38) hx hb dX9_whyNot_295 (by decide) ?_
  refine lv_icmp_lt (tgt := 306) hx hb dX9_whyNot_297 (by decide) (fun _ => ?_) (fun c_ => absurd (by decide) c_)
  refine lv_iconst (v := 0) hx hb dX9_whyNot_306 (by decide) ?_
  exact r_iret hC hr hlk hw () rfl rfl (Nat.le_of_ble_eq_true rfl) (Nat.le_of_ble_eq_true rfl) dX9_whyNot_307

set_option maxHeartbeats 4000000 in
set_option maxRecDepth 100000 in
theorem c_X9_whyNot_14 (l : Launch) {D : va_G} {q : Nat → ClassId} {ad : Nat → Nat} {κ : KS} {t : Nat → Int32} (sz : Nat) (hs : okStep 14 (t 0) (t 1) (t 2)) (hW : WFm κ) : Met l yX9_whyNot wsX9_whyNot (rmz 5 110) (va_Pc [.ref (ad 0), .int 14] (rPre D q (wM q ad κ t) sz)) (va_Qi (fun (r : Int32) (u : Unit) => r = why κ 14 (t 0) (t 1) (t 2)) (fun (u : Unit) tt => rPo D (rA (wM q ad κ t) sz) (wM q ad κ t) tt) (rA (wM q ad κ t) sz)) 0 0 (rA (wM q ad κ t) sz) := by
  have hi0 : vp_in (t 0) 8 := hs.1
  have hi1 : vp_in (t 1) 4 := hs.2.1
  refine r_start (cc := cX9_whyNot) (maxL := 4) (ret := (some .int)) (by decide) rfl (Nat.le_of_ble_eq_true rfl) ?_
  intro p e s m below meth c ls hC hr hlk hnm hsz hw hl
  have hx := hC.1
  have hb := hC.2.1
  have hl : lv_has ls 4 [(0, .ref (ad 0)), (1, .int 14)] := hl
  refine lv_iload_n hx hb dX9_whyNot_0 rfl (lv_at hl 1 rfl) ?_
  refine lv_bipush (v := 7) hx hb dX9_whyNot_1 (by decide) ?_
  refine lv_icmp_eq (tgt := 12) hx hb dX9_whyNot_3 (by decide) (fun c_ => absurd c_ (by decide)) (fun _ => ?_)
  refine lv_iload_n hx hb dX9_whyNot_6 rfl (lv_at hl 1 rfl) ?_
  refine lv_bipush (v := 8) hx hb dX9_whyNot_7 (by decide) ?_
  refine lv_icmp_ne (tgt := 31) hx hb dX9_whyNot_9 (by decide) (fun _ => ?_) (fun c_ => absurd c_ (by decide))
  refine lv_iload_n hx hb dX9_whyNot_31 rfl (lv_at hl 1 rfl) ?_
  refine lv_bipush (v := 11) hx hb dX9_whyNot_32 (by decide) ?_
  refine lv_icmp_eq (tgt := 43) hx hb dX9_whyNot_34 (by decide) (fun c_ => absurd c_ (by decide)) (fun _ => ?_)
  refine lv_iload_n hx hb dX9_whyNot_37 rfl (lv_at hl 1 rfl) ?_
  refine lv_bipush (v := 12) hx hb dX9_whyNot_38 (by decide) ?_
  refine lv_icmp_ne (tgt := 64) hx hb dX9_whyNot_40 (by decide) (fun _ => ?_) (fun c_ => absurd c_ (by decide))
  refine lv_iload_n hx hb dX9_whyNot_64 rfl (lv_at hl 1 rfl) ?_
  refine lv_bipush (v := 23) hx hb dX9_whyNot_65 (by decide) ?_
  refine lv_icmp_ne (tgt := 91) hx hb dX9_whyNot_67 (by decide) (fun _ => ?_) (fun c_ => absurd c_ (by decide))
  refine lv_iload_n hx hb dX9_whyNot_91 rfl (lv_at hl 1 rfl) ?_
  refine lv_bipush (v := 24) hx hb dX9_whyNot_92 (by decide) ?_
  refine lv_icmp_ne (tgt := 118) hx hb dX9_whyNot_94 (by decide) (fun _ => ?_) (fun c_ => absurd c_ (by decide))
  refine lv_iload_n hx hb dX9_whyNot_118 rfl (lv_at hl 1 rfl) ?_
  refine lv_bipush (v := 29) hx hb dX9_whyNot_119 (by decide) ?_
  refine lv_icmp_ne (tgt := 140) hx hb dX9_whyNot_121 (by decide) (fun _ => ?_) (fun c_ => absurd c_ (by decide))
  refine lv_iload_n hx hb dX9_whyNot_140 rfl (lv_at hl 1 rfl) ?_
  refine lv_bipush (v := 31) hx hb dX9_whyNot_141 (by decide) ?_
  refine lv_icmp_ne (tgt := 197) hx hb dX9_whyNot_143 (by decide) (fun _ => ?_) (fun c_ => absurd c_ (by decide))
  refine lv_iload_n hx hb dX9_whyNot_197 rfl (lv_at hl 1 rfl) ?_
  refine lv_bipush (v := 32) hx hb dX9_whyNot_198 (by decide) ?_
  refine lv_icmp_ne (tgt := 272) hx hb dX9_whyNot_200 (by decide) (fun _ => ?_) (fun c_ => absurd c_ (by decide))
  refine lv_iload_n hx hb dX9_whyNot_272 rfl (lv_at hl 1 rfl) ?_
  refine lv_bipush (v := 33) hx hb dX9_whyNot_273 (by decide) ?_
  refine lv_icmp_ne (tgt := 294) hx hb dX9_whyNot_275 (by decide) (fun _ => ?_) (fun c_ => absurd c_ (by decide))
  refine lv_iload_n hx hb dX9_whyNot_294 rfl (lv_at hl 1 rfl) ?_
  refine lv_bipush (v := 38) hx hb dX9_whyNot_295 (by decide) ?_
  refine lv_icmp_lt (tgt := 306) hx hb dX9_whyNot_297 (by decide) (fun _ => ?_) (fun c_ => absurd (by decide) c_)
  refine lv_iconst (v := 0) hx hb dX9_whyNot_306 (by decide) ?_
  exact r_iret hC hr hlk hw () rfl rfl (Nat.le_of_ble_eq_true rfl) (Nat.le_of_ble_eq_true rfl) dX9_whyNot_307

set_option maxHeartbeats 4000000 in
set_option maxRecDepth 100000 in
theorem c_X9_whyNot_15 (l : Launch) {D : va_G} {q : Nat → ClassId} {ad : Nat → Nat} {κ : KS} {t : Nat → Int32} (sz : Nat) (hs : okStep 15 (t 0) (t 1) (t 2)) (hW : WFm κ) : Met l yX9_whyNot wsX9_whyNot (rmz 5 110) (va_Pc [.ref (ad 0), .int 15] (rPre D q (wM q ad κ t) sz)) (va_Qi (fun (r : Int32) (u : Unit) => r = why κ 15 (t 0) (t 1) (t 2)) (fun (u : Unit) tt => rPo D (rA (wM q ad κ t) sz) (wM q ad κ t) tt) (rA (wM q ad κ t) sz)) 0 0 (rA (wM q ad κ t) sz) := by
  have hi0 : vp_in (t 0) 4 := hs.1
  have hi1 : vp_in (t 1) 4 := hs.2.1
  refine r_start (cc := cX9_whyNot) (maxL := 4) (ret := (some .int)) (by decide) rfl (Nat.le_of_ble_eq_true rfl) ?_
  intro p e s m below meth c ls hC hr hlk hnm hsz hw hl
  have hx := hC.1
  have hb := hC.2.1
  have hl : lv_has ls 4 [(0, .ref (ad 0)), (1, .int 15)] := hl
  refine lv_iload_n hx hb dX9_whyNot_0 rfl (lv_at hl 1 rfl) ?_
  refine lv_bipush (v := 7) hx hb dX9_whyNot_1 (by decide) ?_
  refine lv_icmp_eq (tgt := 12) hx hb dX9_whyNot_3 (by decide) (fun c_ => absurd c_ (by decide)) (fun _ => ?_)
  refine lv_iload_n hx hb dX9_whyNot_6 rfl (lv_at hl 1 rfl) ?_
  refine lv_bipush (v := 8) hx hb dX9_whyNot_7 (by decide) ?_
  refine lv_icmp_ne (tgt := 31) hx hb dX9_whyNot_9 (by decide) (fun _ => ?_) (fun c_ => absurd c_ (by decide))
  refine lv_iload_n hx hb dX9_whyNot_31 rfl (lv_at hl 1 rfl) ?_
  refine lv_bipush (v := 11) hx hb dX9_whyNot_32 (by decide) ?_
  refine lv_icmp_eq (tgt := 43) hx hb dX9_whyNot_34 (by decide) (fun c_ => absurd c_ (by decide)) (fun _ => ?_)
  refine lv_iload_n hx hb dX9_whyNot_37 rfl (lv_at hl 1 rfl) ?_
  refine lv_bipush (v := 12) hx hb dX9_whyNot_38 (by decide) ?_
  refine lv_icmp_ne (tgt := 64) hx hb dX9_whyNot_40 (by decide) (fun _ => ?_) (fun c_ => absurd c_ (by decide))
  refine lv_iload_n hx hb dX9_whyNot_64 rfl (lv_at hl 1 rfl) ?_
  refine lv_bipush (v := 23) hx hb dX9_whyNot_65 (by decide) ?_
  refine lv_icmp_ne (tgt := 91) hx hb dX9_whyNot_67 (by decide) (fun _ => ?_) (fun c_ => absurd c_ (by decide))
  refine lv_iload_n hx hb dX9_whyNot_91 rfl (lv_at hl 1 rfl) ?_
  refine lv_bipush (v := 24) hx hb dX9_whyNot_92 (by decide) ?_
  refine lv_icmp_ne (tgt := 118) hx hb dX9_whyNot_94 (by decide) (fun _ => ?_) (fun c_ => absurd c_ (by decide))
  refine lv_iload_n hx hb dX9_whyNot_118 rfl (lv_at hl 1 rfl) ?_
  refine lv_bipush (v := 29) hx hb dX9_whyNot_119 (by decide) ?_
  refine lv_icmp_ne (tgt := 140) hx hb dX9_whyNot_121 (by decide) (fun _ => ?_) (fun c_ => absurd c_ (by decide))
  refine lv_iload_n hx hb dX9_whyNot_140 rfl (lv_at hl 1 rfl) ?_
  refine lv_bipush (v := 31) hx hb dX9_whyNot_141 (by decide) ?_
  refine lv_icmp_ne (tgt := 197) hx hb dX9_whyNot_143 (by decide) (fun _ => ?_) (fun c_ => absurd c_ (by decide))
  refine lv_iload_n hx hb dX9_whyNot_197 rfl (lv_at hl 1 rfl) ?_
  refine lv_bipush (v := 32) hx hb dX9_whyNot_198 (by decide) ?_
  refine lv_icmp_ne (tgt := 272) hx hb dX9_whyNot_200 (by decide) (fun _ => ?_) (fun c_ => absurd c_ (by decide))
  refine lv_iload_n hx hb dX9_whyNot_272 rfl (lv_at hl 1 rfl) ?_
  refine lv_bipush (v := 33) hx hb dX9_whyNot_273 (by decide) ?_
  refine lv_icmp_ne (tgt := 294) hx hb dX9_whyNot_275 (by decide) (fun _ => ?_) (fun c_ => absurd c_ (by decide))
  refine lv_iload_n hx hb dX9_whyNot_294 rfl (lv_at hl 1 rfl) ?_
  refine lv_bipush (v := 38) hx hb dX9_whyNot_295 (by decide) ?_
  refine lv_icmp_lt (tgt := 306) hx hb dX9_whyNot_297 (by decide) (fun _ => ?_) (fun c_ => absurd (by decide) c_)
  refine lv_iconst (v := 0) hx hb dX9_whyNot_306 (by decide) ?_
  exact r_iret hC hr hlk hw () rfl rfl (Nat.le_of_ble_eq_true rfl) (Nat.le_of_ble_eq_true rfl) dX9_whyNot_307

set_option maxHeartbeats 4000000 in
set_option maxRecDepth 100000 in
theorem c_X9_whyNot_16 (l : Launch) {D : va_G} {q : Nat → ClassId} {ad : Nat → Nat} {κ : KS} {t : Nat → Int32} (sz : Nat) (hs : okStep 16 (t 0) (t 1) (t 2)) (hW : WFm κ) : Met l yX9_whyNot wsX9_whyNot (rmz 5 110) (va_Pc [.ref (ad 0), .int 16] (rPre D q (wM q ad κ t) sz)) (va_Qi (fun (r : Int32) (u : Unit) => r = why κ 16 (t 0) (t 1) (t 2)) (fun (u : Unit) tt => rPo D (rA (wM q ad κ t) sz) (wM q ad κ t) tt) (rA (wM q ad κ t) sz)) 0 0 (rA (wM q ad κ t) sz) := by
  have hi0 : vp_in (t 0) 4 := hs.1
  have hi1 : vp_in (t 1) 4 := hs.2.1
  refine r_start (cc := cX9_whyNot) (maxL := 4) (ret := (some .int)) (by decide) rfl (Nat.le_of_ble_eq_true rfl) ?_
  intro p e s m below meth c ls hC hr hlk hnm hsz hw hl
  have hx := hC.1
  have hb := hC.2.1
  have hl : lv_has ls 4 [(0, .ref (ad 0)), (1, .int 16)] := hl
  refine lv_iload_n hx hb dX9_whyNot_0 rfl (lv_at hl 1 rfl) ?_
  refine lv_bipush (v := 7) hx hb dX9_whyNot_1 (by decide) ?_
  refine lv_icmp_eq (tgt := 12) hx hb dX9_whyNot_3 (by decide) (fun c_ => absurd c_ (by decide)) (fun _ => ?_)
  refine lv_iload_n hx hb dX9_whyNot_6 rfl (lv_at hl 1 rfl) ?_
  refine lv_bipush (v := 8) hx hb dX9_whyNot_7 (by decide) ?_
  refine lv_icmp_ne (tgt := 31) hx hb dX9_whyNot_9 (by decide) (fun _ => ?_) (fun c_ => absurd c_ (by decide))
  refine lv_iload_n hx hb dX9_whyNot_31 rfl (lv_at hl 1 rfl) ?_
  refine lv_bipush (v := 11) hx hb dX9_whyNot_32 (by decide) ?_
  refine lv_icmp_eq (tgt := 43) hx hb dX9_whyNot_34 (by decide) (fun c_ => absurd c_ (by decide)) (fun _ => ?_)
  refine lv_iload_n hx hb dX9_whyNot_37 rfl (lv_at hl 1 rfl) ?_
  refine lv_bipush (v := 12) hx hb dX9_whyNot_38 (by decide) ?_
  refine lv_icmp_ne (tgt := 64) hx hb dX9_whyNot_40 (by decide) (fun _ => ?_) (fun c_ => absurd c_ (by decide))
  refine lv_iload_n hx hb dX9_whyNot_64 rfl (lv_at hl 1 rfl) ?_
  refine lv_bipush (v := 23) hx hb dX9_whyNot_65 (by decide) ?_
  refine lv_icmp_ne (tgt := 91) hx hb dX9_whyNot_67 (by decide) (fun _ => ?_) (fun c_ => absurd c_ (by decide))
  refine lv_iload_n hx hb dX9_whyNot_91 rfl (lv_at hl 1 rfl) ?_
  refine lv_bipush (v := 24) hx hb dX9_whyNot_92 (by decide) ?_
  refine lv_icmp_ne (tgt := 118) hx hb dX9_whyNot_94 (by decide) (fun _ => ?_) (fun c_ => absurd c_ (by decide))
  refine lv_iload_n hx hb dX9_whyNot_118 rfl (lv_at hl 1 rfl) ?_
  refine lv_bipush (v := 29) hx hb dX9_whyNot_119 (by decide) ?_
  refine lv_icmp_ne (tgt := 140) hx hb dX9_whyNot_121 (by decide) (fun _ => ?_) (fun c_ => absurd c_ (by decide))
  refine lv_iload_n hx hb dX9_whyNot_140 rfl (lv_at hl 1 rfl) ?_
  refine lv_bipush (v := 31) hx hb dX9_whyNot_141 (by decide) ?_
  refine lv_icmp_ne (tgt := 197) hx hb dX9_whyNot_143 (by decide) (fun _ => ?_) (fun c_ => absurd c_ (by decide))
  refine lv_iload_n hx hb dX9_whyNot_197 rfl (lv_at hl 1 rfl) ?_
  refine lv_bipush (v := 32) hx hb dX9_whyNot_198 (by decide) ?_
  refine lv_icmp_ne (tgt := 272) hx hb dX9_whyNot_200 (by decide) (fun _ => ?_) (fun c_ => absurd c_ (by decide))
  refine lv_iload_n hx hb dX9_whyNot_272 rfl (lv_at hl 1 rfl) ?_
  refine lv_bipush (v := 33) hx hb dX9_whyNot_273 (by decide) ?_
  refine lv_icmp_ne (tgt := 294) hx hb dX9_whyNot_275 (by decide) (fun _ => ?_) (fun c_ => absurd c_ (by decide))
  refine lv_iload_n hx hb dX9_whyNot_294 rfl (lv_at hl 1 rfl) ?_
  refine lv_bipush (v := 38) hx hb dX9_whyNot_295 (by decide) ?_
  refine lv_icmp_lt (tgt := 306) hx hb dX9_whyNot_297 (by decide) (fun _ => ?_) (fun c_ => absurd (by decide) c_)
  refine lv_iconst (v := 0) hx hb dX9_whyNot_306 (by decide) ?_
  exact r_iret hC hr hlk hw () rfl rfl (Nat.le_of_ble_eq_true rfl) (Nat.le_of_ble_eq_true rfl) dX9_whyNot_307

set_option maxHeartbeats 4000000 in
set_option maxRecDepth 100000 in
theorem c_X9_whyNot_17 (l : Launch) {D : va_G} {q : Nat → ClassId} {ad : Nat → Nat} {κ : KS} {t : Nat → Int32} (sz : Nat) (hs : okStep 17 (t 0) (t 1) (t 2)) (hW : WFm κ) : Met l yX9_whyNot wsX9_whyNot (rmz 5 110) (va_Pc [.ref (ad 0), .int 17] (rPre D q (wM q ad κ t) sz)) (va_Qi (fun (r : Int32) (u : Unit) => r = why κ 17 (t 0) (t 1) (t 2)) (fun (u : Unit) tt => rPo D (rA (wM q ad κ t) sz) (wM q ad κ t) tt) (rA (wM q ad κ t) sz)) 0 0 (rA (wM q ad κ t) sz) := by
  have hi0 : vp_in (t 0) 4 := hs.1
  have hi1 : vp_in (t 1) 4 := hs.2.1
  refine r_start (cc := cX9_whyNot) (maxL := 4) (ret := (some .int)) (by decide) rfl (Nat.le_of_ble_eq_true rfl) ?_
  intro p e s m below meth c ls hC hr hlk hnm hsz hw hl
  have hx := hC.1
  have hb := hC.2.1
  have hl : lv_has ls 4 [(0, .ref (ad 0)), (1, .int 17)] := hl
  refine lv_iload_n hx hb dX9_whyNot_0 rfl (lv_at hl 1 rfl) ?_
  refine lv_bipush (v := 7) hx hb dX9_whyNot_1 (by decide) ?_
  refine lv_icmp_eq (tgt := 12) hx hb dX9_whyNot_3 (by decide) (fun c_ => absurd c_ (by decide)) (fun _ => ?_)
  refine lv_iload_n hx hb dX9_whyNot_6 rfl (lv_at hl 1 rfl) ?_
  refine lv_bipush (v := 8) hx hb dX9_whyNot_7 (by decide) ?_
  refine lv_icmp_ne (tgt := 31) hx hb dX9_whyNot_9 (by decide) (fun _ => ?_) (fun c_ => absurd c_ (by decide))
  refine lv_iload_n hx hb dX9_whyNot_31 rfl (lv_at hl 1 rfl) ?_
  refine lv_bipush (v := 11) hx hb dX9_whyNot_32 (by decide) ?_
  refine lv_icmp_eq (tgt := 43) hx hb dX9_whyNot_34 (by decide) (fun c_ => absurd c_ (by decide)) (fun _ => ?_)
  refine lv_iload_n hx hb dX9_whyNot_37 rfl (lv_at hl 1 rfl) ?_
  refine lv_bipush (v := 12) hx hb dX9_whyNot_38 (by decide) ?_
  refine lv_icmp_ne (tgt := 64) hx hb dX9_whyNot_40 (by decide) (fun _ => ?_) (fun c_ => absurd c_ (by decide))
  refine lv_iload_n hx hb dX9_whyNot_64 rfl (lv_at hl 1 rfl) ?_
  refine lv_bipush (v := 23) hx hb dX9_whyNot_65 (by decide) ?_
  refine lv_icmp_ne (tgt := 91) hx hb dX9_whyNot_67 (by decide) (fun _ => ?_) (fun c_ => absurd c_ (by decide))
  refine lv_iload_n hx hb dX9_whyNot_91 rfl (lv_at hl 1 rfl) ?_
  refine lv_bipush (v := 24) hx hb dX9_whyNot_92 (by decide) ?_
  refine lv_icmp_ne (tgt := 118) hx hb dX9_whyNot_94 (by decide) (fun _ => ?_) (fun c_ => absurd c_ (by decide))
  refine lv_iload_n hx hb dX9_whyNot_118 rfl (lv_at hl 1 rfl) ?_
  refine lv_bipush (v := 29) hx hb dX9_whyNot_119 (by decide) ?_
  refine lv_icmp_ne (tgt := 140) hx hb dX9_whyNot_121 (by decide) (fun _ => ?_) (fun c_ => absurd c_ (by decide))
  refine lv_iload_n hx hb dX9_whyNot_140 rfl (lv_at hl 1 rfl) ?_
  refine lv_bipush (v := 31) hx hb dX9_whyNot_141 (by decide) ?_
  refine lv_icmp_ne (tgt := 197) hx hb dX9_whyNot_143 (by decide) (fun _ => ?_) (fun c_ => absurd c_ (by decide))
  refine lv_iload_n hx hb dX9_whyNot_197 rfl (lv_at hl 1 rfl) ?_
  refine lv_bipush (v := 32) hx hb dX9_whyNot_198 (by decide) ?_
  refine lv_icmp_ne (tgt := 272) hx hb dX9_whyNot_200 (by decide) (fun _ => ?_) (fun c_ => absurd c_ (by decide))
  refine lv_iload_n hx hb dX9_whyNot_272 rfl (lv_at hl 1 rfl) ?_
  refine lv_bipush (v := 33) hx hb dX9_whyNot_273 (by decide) ?_
  refine lv_icmp_ne (tgt := 294) hx hb dX9_whyNot_275 (by decide) (fun _ => ?_) (fun c_ => absurd c_ (by decide))
  refine lv_iload_n hx hb dX9_whyNot_294 rfl (lv_at hl 1 rfl) ?_
  refine lv_bipush (v := 38) hx hb dX9_whyNot_295 (by decide) ?_
  refine lv_icmp_lt (tgt := 306) hx hb dX9_whyNot_297 (by decide) (fun _ => ?_) (fun c_ => absurd (by decide) c_)
  refine lv_iconst (v := 0) hx hb dX9_whyNot_306 (by decide) ?_
  exact r_iret hC hr hlk hw () rfl rfl (Nat.le_of_ble_eq_true rfl) (Nat.le_of_ble_eq_true rfl) dX9_whyNot_307

set_option maxHeartbeats 4000000 in
set_option maxRecDepth 100000 in
theorem c_X9_whyNot_18 (l : Launch) {D : va_G} {q : Nat → ClassId} {ad : Nat → Nat} {κ : KS} {t : Nat → Int32} (sz : Nat) (hs : okStep 18 (t 0) (t 1) (t 2)) (hW : WFm κ) : Met l yX9_whyNot wsX9_whyNot (rmz 5 110) (va_Pc [.ref (ad 0), .int 18] (rPre D q (wM q ad κ t) sz)) (va_Qi (fun (r : Int32) (u : Unit) => r = why κ 18 (t 0) (t 1) (t 2)) (fun (u : Unit) tt => rPo D (rA (wM q ad κ t) sz) (wM q ad κ t) tt) (rA (wM q ad κ t) sz)) 0 0 (rA (wM q ad κ t) sz) := by
  have hi0 : vp_in (t 0) 8 := hs.1
  have hi1 : vp_in (t 1) 4 := hs.2.1
  refine r_start (cc := cX9_whyNot) (maxL := 4) (ret := (some .int)) (by decide) rfl (Nat.le_of_ble_eq_true rfl) ?_
  intro p e s m below meth c ls hC hr hlk hnm hsz hw hl
  have hx := hC.1
  have hb := hC.2.1
  have hl : lv_has ls 4 [(0, .ref (ad 0)), (1, .int 18)] := hl
  refine lv_iload_n hx hb dX9_whyNot_0 rfl (lv_at hl 1 rfl) ?_
  refine lv_bipush (v := 7) hx hb dX9_whyNot_1 (by decide) ?_
  refine lv_icmp_eq (tgt := 12) hx hb dX9_whyNot_3 (by decide) (fun c_ => absurd c_ (by decide)) (fun _ => ?_)
  refine lv_iload_n hx hb dX9_whyNot_6 rfl (lv_at hl 1 rfl) ?_
  refine lv_bipush (v := 8) hx hb dX9_whyNot_7 (by decide) ?_
  refine lv_icmp_ne (tgt := 31) hx hb dX9_whyNot_9 (by decide) (fun _ => ?_) (fun c_ => absurd c_ (by decide))
  refine lv_iload_n hx hb dX9_whyNot_31 rfl (lv_at hl 1 rfl) ?_
  refine lv_bipush (v := 11) hx hb dX9_whyNot_32 (by decide) ?_
  refine lv_icmp_eq (tgt := 43) hx hb dX9_whyNot_34 (by decide) (fun c_ => absurd c_ (by decide)) (fun _ => ?_)
  refine lv_iload_n hx hb dX9_whyNot_37 rfl (lv_at hl 1 rfl) ?_
  refine lv_bipush (v := 12) hx hb dX9_whyNot_38 (by decide) ?_
  refine lv_icmp_ne (tgt := 64) hx hb dX9_whyNot_40 (by decide) (fun _ => ?_) (fun c_ => absurd c_ (by decide))
  refine lv_iload_n hx hb dX9_whyNot_64 rfl (lv_at hl 1 rfl) ?_
  refine lv_bipush (v := 23) hx hb dX9_whyNot_65 (by decide) ?_
  refine lv_icmp_ne (tgt := 91) hx hb dX9_whyNot_67 (by decide) (fun _ => ?_) (fun c_ => absurd c_ (by decide))
  refine lv_iload_n hx hb dX9_whyNot_91 rfl (lv_at hl 1 rfl) ?_
  refine lv_bipush (v := 24) hx hb dX9_whyNot_92 (by decide) ?_
  refine lv_icmp_ne (tgt := 118) hx hb dX9_whyNot_94 (by decide) (fun _ => ?_) (fun c_ => absurd c_ (by decide))
  refine lv_iload_n hx hb dX9_whyNot_118 rfl (lv_at hl 1 rfl) ?_
  refine lv_bipush (v := 29) hx hb dX9_whyNot_119 (by decide) ?_
  refine lv_icmp_ne (tgt := 140) hx hb dX9_whyNot_121 (by decide) (fun _ => ?_) (fun c_ => absurd c_ (by decide))
  refine lv_iload_n hx hb dX9_whyNot_140 rfl (lv_at hl 1 rfl) ?_
  refine lv_bipush (v := 31) hx hb dX9_whyNot_141 (by decide) ?_
  refine lv_icmp_ne (tgt := 197) hx hb dX9_whyNot_143 (by decide) (fun _ => ?_) (fun c_ => absurd c_ (by decide))
  refine lv_iload_n hx hb dX9_whyNot_197 rfl (lv_at hl 1 rfl) ?_
  refine lv_bipush (v := 32) hx hb dX9_whyNot_198 (by decide) ?_
  refine lv_icmp_ne (tgt := 272) hx hb dX9_whyNot_200 (by decide) (fun _ => ?_) (fun c_ => absurd c_ (by decide))
  refine lv_iload_n hx hb dX9_whyNot_272 rfl (lv_at hl 1 rfl) ?_
  refine lv_bipush (v := 33) hx hb dX9_whyNot_273 (by decide) ?_
  refine lv_icmp_ne (tgt := 294) hx hb dX9_whyNot_275 (by decide) (fun _ => ?_) (fun c_ => absurd c_ (by decide))
  refine lv_iload_n hx hb dX9_whyNot_294 rfl (lv_at hl 1 rfl) ?_
  refine lv_bipush (v := 38) hx hb dX9_whyNot_295 (by decide) ?_
  refine lv_icmp_lt (tgt := 306) hx hb dX9_whyNot_297 (by decide) (fun _ => ?_) (fun c_ => absurd (by decide) c_)
  refine lv_iconst (v := 0) hx hb dX9_whyNot_306 (by decide) ?_
  exact r_iret hC hr hlk hw () rfl rfl (Nat.le_of_ble_eq_true rfl) (Nat.le_of_ble_eq_true rfl) dX9_whyNot_307

set_option maxHeartbeats 4000000 in
set_option maxRecDepth 100000 in
theorem c_X9_whyNot_19 (l : Launch) {D : va_G} {q : Nat → ClassId} {ad : Nat → Nat} {κ : KS} {t : Nat → Int32} (sz : Nat) (hs : okStep 19 (t 0) (t 1) (t 2)) (hW : WFm κ) : Met l yX9_whyNot wsX9_whyNot (rmz 5 110) (va_Pc [.ref (ad 0), .int 19] (rPre D q (wM q ad κ t) sz)) (va_Qi (fun (r : Int32) (u : Unit) => r = why κ 19 (t 0) (t 1) (t 2)) (fun (u : Unit) tt => rPo D (rA (wM q ad κ t) sz) (wM q ad κ t) tt) (rA (wM q ad κ t) sz)) 0 0 (rA (wM q ad κ t) sz) := by
  have hi0 : vp_in (t 0) 4 := hs.1
  have hi1 : vp_in (t 1) 4 := hs.2.1
  refine r_start (cc := cX9_whyNot) (maxL := 4) (ret := (some .int)) (by decide) rfl (Nat.le_of_ble_eq_true rfl) ?_
  intro p e s m below meth c ls hC hr hlk hnm hsz hw hl
  have hx := hC.1
  have hb := hC.2.1
  have hl : lv_has ls 4 [(0, .ref (ad 0)), (1, .int 19)] := hl
  refine lv_iload_n hx hb dX9_whyNot_0 rfl (lv_at hl 1 rfl) ?_
  refine lv_bipush (v := 7) hx hb dX9_whyNot_1 (by decide) ?_
  refine lv_icmp_eq (tgt := 12) hx hb dX9_whyNot_3 (by decide) (fun c_ => absurd c_ (by decide)) (fun _ => ?_)
  refine lv_iload_n hx hb dX9_whyNot_6 rfl (lv_at hl 1 rfl) ?_
  refine lv_bipush (v := 8) hx hb dX9_whyNot_7 (by decide) ?_
  refine lv_icmp_ne (tgt := 31) hx hb dX9_whyNot_9 (by decide) (fun _ => ?_) (fun c_ => absurd c_ (by decide))
  refine lv_iload_n hx hb dX9_whyNot_31 rfl (lv_at hl 1 rfl) ?_
  refine lv_bipush (v := 11) hx hb dX9_whyNot_32 (by decide) ?_
  refine lv_icmp_eq (tgt := 43) hx hb dX9_whyNot_34 (by decide) (fun c_ => absurd c_ (by decide)) (fun _ => ?_)
  refine lv_iload_n hx hb dX9_whyNot_37 rfl (lv_at hl 1 rfl) ?_
  refine lv_bipush (v := 12) hx hb dX9_whyNot_38 (by decide) ?_
  refine lv_icmp_ne (tgt := 64) hx hb dX9_whyNot_40 (by decide) (fun _ => ?_) (fun c_ => absurd c_ (by decide))
  refine lv_iload_n hx hb dX9_whyNot_64 rfl (lv_at hl 1 rfl) ?_
  refine lv_bipush (v := 23) hx hb dX9_whyNot_65 (by decide) ?_
  refine lv_icmp_ne (tgt := 91) hx hb dX9_whyNot_67 (by decide) (fun _ => ?_) (fun c_ => absurd c_ (by decide))
  refine lv_iload_n hx hb dX9_whyNot_91 rfl (lv_at hl 1 rfl) ?_
  refine lv_bipush (v := 24) hx hb dX9_whyNot_92 (by decide) ?_
  refine lv_icmp_ne (tgt := 118) hx hb dX9_whyNot_94 (by decide) (fun _ => ?_) (fun c_ => absurd c_ (by decide))
  refine lv_iload_n hx hb dX9_whyNot_118 rfl (lv_at hl 1 rfl) ?_
  refine lv_bipush (v := 29) hx hb dX9_whyNot_119 (by decide) ?_
  refine lv_icmp_ne (tgt := 140) hx hb dX9_whyNot_121 (by decide) (fun _ => ?_) (fun c_ => absurd c_ (by decide))
  refine lv_iload_n hx hb dX9_whyNot_140 rfl (lv_at hl 1 rfl) ?_
  refine lv_bipush (v := 31) hx hb dX9_whyNot_141 (by decide) ?_
  refine lv_icmp_ne (tgt := 197) hx hb dX9_whyNot_143 (by decide) (fun _ => ?_) (fun c_ => absurd c_ (by decide))
  refine lv_iload_n hx hb dX9_whyNot_197 rfl (lv_at hl 1 rfl) ?_
  refine lv_bipush (v := 32) hx hb dX9_whyNot_198 (by decide) ?_
  refine lv_icmp_ne (tgt := 272) hx hb dX9_whyNot_200 (by decide) (fun _ => ?_) (fun c_ => absurd c_ (by decide))
  refine lv_iload_n hx hb dX9_whyNot_272 rfl (lv_at hl 1 rfl) ?_
  refine lv_bipush (v := 33) hx hb dX9_whyNot_273 (by decide) ?_
  refine lv_icmp_ne (tgt := 294) hx hb dX9_whyNot_275 (by decide) (fun _ => ?_) (fun c_ => absurd c_ (by decide))
  refine lv_iload_n hx hb dX9_whyNot_294 rfl (lv_at hl 1 rfl) ?_
  refine lv_bipush (v := 38) hx hb dX9_whyNot_295 (by decide) ?_
  refine lv_icmp_lt (tgt := 306) hx hb dX9_whyNot_297 (by decide) (fun _ => ?_) (fun c_ => absurd (by decide) c_)
  refine lv_iconst (v := 0) hx hb dX9_whyNot_306 (by decide) ?_
  exact r_iret hC hr hlk hw () rfl rfl (Nat.le_of_ble_eq_true rfl) (Nat.le_of_ble_eq_true rfl) dX9_whyNot_307

set_option maxHeartbeats 4000000 in
set_option maxRecDepth 100000 in
theorem c_X9_whyNot_20 (l : Launch) {D : va_G} {q : Nat → ClassId} {ad : Nat → Nat} {κ : KS} {t : Nat → Int32} (sz : Nat) (hs : okStep 20 (t 0) (t 1) (t 2)) (hW : WFm κ) : Met l yX9_whyNot wsX9_whyNot (rmz 5 110) (va_Pc [.ref (ad 0), .int 20] (rPre D q (wM q ad κ t) sz)) (va_Qi (fun (r : Int32) (u : Unit) => r = why κ 20 (t 0) (t 1) (t 2)) (fun (u : Unit) tt => rPo D (rA (wM q ad κ t) sz) (wM q ad κ t) tt) (rA (wM q ad κ t) sz)) 0 0 (rA (wM q ad κ t) sz) := by
  have hi0 : vp_in (t 0) 4 := hs.1
  have hi1 : vp_in (t 1) 4 := hs.2.1
  refine r_start (cc := cX9_whyNot) (maxL := 4) (ret := (some .int)) (by decide) rfl (Nat.le_of_ble_eq_true rfl) ?_
  intro p e s m below meth c ls hC hr hlk hnm hsz hw hl
  have hx := hC.1
  have hb := hC.2.1
  have hl : lv_has ls 4 [(0, .ref (ad 0)), (1, .int 20)] := hl
  refine lv_iload_n hx hb dX9_whyNot_0 rfl (lv_at hl 1 rfl) ?_
  refine lv_bipush (v := 7) hx hb dX9_whyNot_1 (by decide) ?_
  refine lv_icmp_eq (tgt := 12) hx hb dX9_whyNot_3 (by decide) (fun c_ => absurd c_ (by decide)) (fun _ => ?_)
  refine lv_iload_n hx hb dX9_whyNot_6 rfl (lv_at hl 1 rfl) ?_
  refine lv_bipush (v := 8) hx hb dX9_whyNot_7 (by decide) ?_
  refine lv_icmp_ne (tgt := 31) hx hb dX9_whyNot_9 (by decide) (fun _ => ?_) (fun c_ => absurd c_ (by decide))
  refine lv_iload_n hx hb dX9_whyNot_31 rfl (lv_at hl 1 rfl) ?_
  refine lv_bipush (v := 11) hx hb dX9_whyNot_32 (by decide) ?_
  refine lv_icmp_eq (tgt := 43) hx hb dX9_whyNot_34 (by decide) (fun c_ => absurd c_ (by decide)) (fun _ => ?_)
  refine lv_iload_n hx hb dX9_whyNot_37 rfl (lv_at hl 1 rfl) ?_
  refine lv_bipush (v := 12) hx hb dX9_whyNot_38 (by decide) ?_
  refine lv_icmp_ne (tgt := 64) hx hb dX9_whyNot_40 (by decide) (fun _ => ?_) (fun c_ => absurd c_ (by decide))
  refine lv_iload_n hx hb dX9_whyNot_64 rfl (lv_at hl 1 rfl) ?_
  refine lv_bipush (v := 23) hx hb dX9_whyNot_65 (by decide) ?_
  refine lv_icmp_ne (tgt := 91) hx hb dX9_whyNot_67 (by decide) (fun _ => ?_) (fun c_ => absurd c_ (by decide))
  refine lv_iload_n hx hb dX9_whyNot_91 rfl (lv_at hl 1 rfl) ?_
  refine lv_bipush (v := 24) hx hb dX9_whyNot_92 (by decide) ?_
  refine lv_icmp_ne (tgt := 118) hx hb dX9_whyNot_94 (by decide) (fun _ => ?_) (fun c_ => absurd c_ (by decide))
  refine lv_iload_n hx hb dX9_whyNot_118 rfl (lv_at hl 1 rfl) ?_
  refine lv_bipush (v := 29) hx hb dX9_whyNot_119 (by decide) ?_
  refine lv_icmp_ne (tgt := 140) hx hb dX9_whyNot_121 (by decide) (fun _ => ?_) (fun c_ => absurd c_ (by decide))
  refine lv_iload_n hx hb dX9_whyNot_140 rfl (lv_at hl 1 rfl) ?_
  refine lv_bipush (v := 31) hx hb dX9_whyNot_141 (by decide) ?_
  refine lv_icmp_ne (tgt := 197) hx hb dX9_whyNot_143 (by decide) (fun _ => ?_) (fun c_ => absurd c_ (by decide))
  refine lv_iload_n hx hb dX9_whyNot_197 rfl (lv_at hl 1 rfl) ?_
  refine lv_bipush (v := 32) hx hb dX9_whyNot_198 (by decide) ?_
  refine lv_icmp_ne (tgt := 272) hx hb dX9_whyNot_200 (by decide) (fun _ => ?_) (fun c_ => absurd c_ (by decide))
  refine lv_iload_n hx hb dX9_whyNot_272 rfl (lv_at hl 1 rfl) ?_
  refine lv_bipush (v := 33) hx hb dX9_whyNot_273 (by decide) ?_
  refine lv_icmp_ne (tgt := 294) hx hb dX9_whyNot_275 (by decide) (fun _ => ?_) (fun c_ => absurd c_ (by decide))
  refine lv_iload_n hx hb dX9_whyNot_294 rfl (lv_at hl 1 rfl) ?_
  refine lv_bipush (v := 38) hx hb dX9_whyNot_295 (by decide) ?_
  refine lv_icmp_lt (tgt := 306) hx hb dX9_whyNot_297 (by decide) (fun _ => ?_) (fun c_ => absurd (by decide) c_)
  refine lv_iconst (v := 0) hx hb dX9_whyNot_306 (by decide) ?_
  exact r_iret hC hr hlk hw () rfl rfl (Nat.le_of_ble_eq_true rfl) (Nat.le_of_ble_eq_true rfl) dX9_whyNot_307

set_option maxHeartbeats 4000000 in
set_option maxRecDepth 100000 in
theorem c_X9_whyNot_21 (l : Launch) {D : va_G} {q : Nat → ClassId} {ad : Nat → Nat} {κ : KS} {t : Nat → Int32} (sz : Nat) (hs : okStep 21 (t 0) (t 1) (t 2)) (hW : WFm κ) : Met l yX9_whyNot wsX9_whyNot (rmz 5 110) (va_Pc [.ref (ad 0), .int 21] (rPre D q (wM q ad κ t) sz)) (va_Qi (fun (r : Int32) (u : Unit) => r = why κ 21 (t 0) (t 1) (t 2)) (fun (u : Unit) tt => rPo D (rA (wM q ad κ t) sz) (wM q ad κ t) tt) (rA (wM q ad κ t) sz)) 0 0 (rA (wM q ad κ t) sz) := by
  have hi0 : vp_in (t 0) 4 := hs.1
  have hi1 : vp_in (t 1) 4 := hs.2.1
  refine r_start (cc := cX9_whyNot) (maxL := 4) (ret := (some .int)) (by decide) rfl (Nat.le_of_ble_eq_true rfl) ?_
  intro p e s m below meth c ls hC hr hlk hnm hsz hw hl
  have hx := hC.1
  have hb := hC.2.1
  have hl : lv_has ls 4 [(0, .ref (ad 0)), (1, .int 21)] := hl
  refine lv_iload_n hx hb dX9_whyNot_0 rfl (lv_at hl 1 rfl) ?_
  refine lv_bipush (v := 7) hx hb dX9_whyNot_1 (by decide) ?_
  refine lv_icmp_eq (tgt := 12) hx hb dX9_whyNot_3 (by decide) (fun c_ => absurd c_ (by decide)) (fun _ => ?_)
  refine lv_iload_n hx hb dX9_whyNot_6 rfl (lv_at hl 1 rfl) ?_
  refine lv_bipush (v := 8) hx hb dX9_whyNot_7 (by decide) ?_
  refine lv_icmp_ne (tgt := 31) hx hb dX9_whyNot_9 (by decide) (fun _ => ?_) (fun c_ => absurd c_ (by decide))
  refine lv_iload_n hx hb dX9_whyNot_31 rfl (lv_at hl 1 rfl) ?_
  refine lv_bipush (v := 11) hx hb dX9_whyNot_32 (by decide) ?_
  refine lv_icmp_eq (tgt := 43) hx hb dX9_whyNot_34 (by decide) (fun c_ => absurd c_ (by decide)) (fun _ => ?_)
  refine lv_iload_n hx hb dX9_whyNot_37 rfl (lv_at hl 1 rfl) ?_
  refine lv_bipush (v := 12) hx hb dX9_whyNot_38 (by decide) ?_
  refine lv_icmp_ne (tgt := 64) hx hb dX9_whyNot_40 (by decide) (fun _ => ?_) (fun c_ => absurd c_ (by decide))
  refine lv_iload_n hx hb dX9_whyNot_64 rfl (lv_at hl 1 rfl) ?_
  refine lv_bipush (v := 23) hx hb dX9_whyNot_65 (by decide) ?_
  refine lv_icmp_ne (tgt := 91) hx hb dX9_whyNot_67 (by decide) (fun _ => ?_) (fun c_ => absurd c_ (by decide))
  refine lv_iload_n hx hb dX9_whyNot_91 rfl (lv_at hl 1 rfl) ?_
  refine lv_bipush (v := 24) hx hb dX9_whyNot_92 (by decide) ?_
  refine lv_icmp_ne (tgt := 118) hx hb dX9_whyNot_94 (by decide) (fun _ => ?_) (fun c_ => absurd c_ (by decide))
  refine lv_iload_n hx hb dX9_whyNot_118 rfl (lv_at hl 1 rfl) ?_
  refine lv_bipush (v := 29) hx hb dX9_whyNot_119 (by decide) ?_
  refine lv_icmp_ne (tgt := 140) hx hb dX9_whyNot_121 (by decide) (fun _ => ?_) (fun c_ => absurd c_ (by decide))
  refine lv_iload_n hx hb dX9_whyNot_140 rfl (lv_at hl 1 rfl) ?_
  refine lv_bipush (v := 31) hx hb dX9_whyNot_141 (by decide) ?_
  refine lv_icmp_ne (tgt := 197) hx hb dX9_whyNot_143 (by decide) (fun _ => ?_) (fun c_ => absurd c_ (by decide))
  refine lv_iload_n hx hb dX9_whyNot_197 rfl (lv_at hl 1 rfl) ?_
  refine lv_bipush (v := 32) hx hb dX9_whyNot_198 (by decide) ?_
  refine lv_icmp_ne (tgt := 272) hx hb dX9_whyNot_200 (by decide) (fun _ => ?_) (fun c_ => absurd c_ (by decide))
  refine lv_iload_n hx hb dX9_whyNot_272 rfl (lv_at hl 1 rfl) ?_
  refine lv_bipush (v := 33) hx hb dX9_whyNot_273 (by decide) ?_
  refine lv_icmp_ne (tgt := 294) hx hb dX9_whyNot_275 (by decide) (fun _ => ?_) (fun c_ => absurd c_ (by decide))
  refine lv_iload_n hx hb dX9_whyNot_294 rfl (lv_at hl 1 rfl) ?_
  refine lv_bipush (v := 38) hx hb dX9_whyNot_295 (by decide) ?_
  refine lv_icmp_lt (tgt := 306) hx hb dX9_whyNot_297 (by decide) (fun _ => ?_) (fun c_ => absurd (by decide) c_)
  refine lv_iconst (v := 0) hx hb dX9_whyNot_306 (by decide) ?_
  exact r_iret hC hr hlk hw () rfl rfl (Nat.le_of_ble_eq_true rfl) (Nat.le_of_ble_eq_true rfl) dX9_whyNot_307

set_option maxHeartbeats 4000000 in
set_option maxRecDepth 100000 in
theorem c_X9_whyNot_22 (l : Launch) {D : va_G} {q : Nat → ClassId} {ad : Nat → Nat} {κ : KS} {t : Nat → Int32} (sz : Nat) (hs : okStep 22 (t 0) (t 1) (t 2)) (hW : WFm κ) : Met l yX9_whyNot wsX9_whyNot (rmz 5 110) (va_Pc [.ref (ad 0), .int 22] (rPre D q (wM q ad κ t) sz)) (va_Qi (fun (r : Int32) (u : Unit) => r = why κ 22 (t 0) (t 1) (t 2)) (fun (u : Unit) tt => rPo D (rA (wM q ad κ t) sz) (wM q ad κ t) tt) (rA (wM q ad κ t) sz)) 0 0 (rA (wM q ad κ t) sz) := by
  have hi0 : vp_in (t 0) 4 := hs.1
  have hi1 : vp_in (t 1) 4 := hs.2.1
  refine r_start (cc := cX9_whyNot) (maxL := 4) (ret := (some .int)) (by decide) rfl (Nat.le_of_ble_eq_true rfl) ?_
  intro p e s m below meth c ls hC hr hlk hnm hsz hw hl
  have hx := hC.1
  have hb := hC.2.1
  have hl : lv_has ls 4 [(0, .ref (ad 0)), (1, .int 22)] := hl
  refine lv_iload_n hx hb dX9_whyNot_0 rfl (lv_at hl 1 rfl) ?_
  refine lv_bipush (v := 7) hx hb dX9_whyNot_1 (by decide) ?_
  refine lv_icmp_eq (tgt := 12) hx hb dX9_whyNot_3 (by decide) (fun c_ => absurd c_ (by decide)) (fun _ => ?_)
  refine lv_iload_n hx hb dX9_whyNot_6 rfl (lv_at hl 1 rfl) ?_
  refine lv_bipush (v := 8) hx hb dX9_whyNot_7 (by decide) ?_
  refine lv_icmp_ne (tgt := 31) hx hb dX9_whyNot_9 (by decide) (fun _ => ?_) (fun c_ => absurd c_ (by decide))
  refine lv_iload_n hx hb dX9_whyNot_31 rfl (lv_at hl 1 rfl) ?_
  refine lv_bipush (v := 11) hx hb dX9_whyNot_32 (by decide) ?_
  refine lv_icmp_eq (tgt := 43) hx hb dX9_whyNot_34 (by decide) (fun c_ => absurd c_ (by decide)) (fun _ => ?_)
  refine lv_iload_n hx hb dX9_whyNot_37 rfl (lv_at hl 1 rfl) ?_
  refine lv_bipush (v := 12) hx hb dX9_whyNot_38 (by decide) ?_
  refine lv_icmp_ne (tgt := 64) hx hb dX9_whyNot_40 (by decide) (fun _ => ?_) (fun c_ => absurd c_ (by decide))
  refine lv_iload_n hx hb dX9_whyNot_64 rfl (lv_at hl 1 rfl) ?_
  refine lv_bipush (v := 23) hx hb dX9_whyNot_65 (by decide) ?_
  refine lv_icmp_ne (tgt := 91) hx hb dX9_whyNot_67 (by decide) (fun _ => ?_) (fun c_ => absurd c_ (by decide))
  refine lv_iload_n hx hb dX9_whyNot_91 rfl (lv_at hl 1 rfl) ?_
  refine lv_bipush (v := 24) hx hb dX9_whyNot_92 (by decide) ?_
  refine lv_icmp_ne (tgt := 118) hx hb dX9_whyNot_94 (by decide) (fun _ => ?_) (fun c_ => absurd c_ (by decide))
  refine lv_iload_n hx hb dX9_whyNot_118 rfl (lv_at hl 1 rfl) ?_
  refine lv_bipush (v := 29) hx hb dX9_whyNot_119 (by decide) ?_
  refine lv_icmp_ne (tgt := 140) hx hb dX9_whyNot_121 (by decide) (fun _ => ?_) (fun c_ => absurd c_ (by decide))
  refine lv_iload_n hx hb dX9_whyNot_140 rfl (lv_at hl 1 rfl) ?_
  refine lv_bipush (v := 31) hx hb dX9_whyNot_141 (by decide) ?_
  refine lv_icmp_ne (tgt := 197) hx hb dX9_whyNot_143 (by decide) (fun _ => ?_) (fun c_ => absurd c_ (by decide))
  refine lv_iload_n hx hb dX9_whyNot_197 rfl (lv_at hl 1 rfl) ?_
  refine lv_bipush (v := 32) hx hb dX9_whyNot_198 (by decide) ?_
  refine lv_icmp_ne (tgt := 272) hx hb dX9_whyNot_200 (by decide) (fun _ => ?_) (fun c_ => absurd c_ (by decide))
  refine lv_iload_n hx hb dX9_whyNot_272 rfl (lv_at hl 1 rfl) ?_
  refine lv_bipush (v := 33) hx hb dX9_whyNot_273 (by decide) ?_
  refine lv_icmp_ne (tgt := 294) hx hb dX9_whyNot_275 (by decide) (fun _ => ?_) (fun c_ => absurd c_ (by decide))
  refine lv_iload_n hx hb dX9_whyNot_294 rfl (lv_at hl 1 rfl) ?_
  refine lv_bipush (v := 38) hx hb dX9_whyNot_295 (by decide) ?_
  refine lv_icmp_lt (tgt := 306) hx hb dX9_whyNot_297 (by decide) (fun _ => ?_) (fun c_ => absurd (by decide) c_)
  refine lv_iconst (v := 0) hx hb dX9_whyNot_306 (by decide) ?_
  exact r_iret hC hr hlk hw () rfl rfl (Nat.le_of_ble_eq_true rfl) (Nat.le_of_ble_eq_true rfl) dX9_whyNot_307

set_option maxHeartbeats 4000000 in
set_option maxRecDepth 100000 in
theorem c_X9_whyNot_23 (l : Launch) {D : va_G} {q : Nat → ClassId} {ad : Nat → Nat} {κ : KS} {t : Nat → Int32} (sz : Nat) (hs : okStep 23 (t 0) (t 1) (t 2)) (hW : WFm κ) : Met l yX9_whyNot wsX9_whyNot (rmz 5 110) (va_Pc [.ref (ad 0), .int 23] (rPre D q (wM q ad κ t) sz)) (va_Qi (fun (r : Int32) (u : Unit) => r = why κ 23 (t 0) (t 1) (t 2)) (fun (u : Unit) tt => rPo D (rA (wM q ad κ t) sz) (wM q ad κ t) tt) (rA (wM q ad κ t) sz)) 0 0 (rA (wM q ad κ t) sz) := by
  have hi0 : vp_in (t 0) 4 := hs.1
  have hi1 : vp_in (t 1) 4 := hs.2.1
  have hi2 : vp_in (t 2) 4 := hs.2.2
  refine r_start (cc := cX9_whyNot) (maxL := 4) (ret := (some .int)) (by decide) rfl (Nat.le_of_ble_eq_true rfl) ?_
  intro p e s m below meth c ls hC hr hlk hnm hsz hw hl
  have hx := hC.1
  have hb := hC.2.1
  have hl : lv_has ls 4 [(0, .ref (ad 0)), (1, .int 23)] := hl
  refine lv_iload_n hx hb dX9_whyNot_0 rfl (lv_at hl 1 rfl) ?_
  refine lv_bipush (v := 7) hx hb dX9_whyNot_1 (by decide) ?_
  refine lv_icmp_eq (tgt := 12) hx hb dX9_whyNot_3 (by decide) (fun c_ => absurd c_ (by decide)) (fun _ => ?_)
  refine lv_iload_n hx hb dX9_whyNot_6 rfl (lv_at hl 1 rfl) ?_
  refine lv_bipush (v := 8) hx hb dX9_whyNot_7 (by decide) ?_
  refine lv_icmp_ne (tgt := 31) hx hb dX9_whyNot_9 (by decide) (fun _ => ?_) (fun c_ => absurd c_ (by decide))
  refine lv_iload_n hx hb dX9_whyNot_31 rfl (lv_at hl 1 rfl) ?_
  refine lv_bipush (v := 11) hx hb dX9_whyNot_32 (by decide) ?_
  refine lv_icmp_eq (tgt := 43) hx hb dX9_whyNot_34 (by decide) (fun c_ => absurd c_ (by decide)) (fun _ => ?_)
  refine lv_iload_n hx hb dX9_whyNot_37 rfl (lv_at hl 1 rfl) ?_
  refine lv_bipush (v := 12) hx hb dX9_whyNot_38 (by decide) ?_
  refine lv_icmp_ne (tgt := 64) hx hb dX9_whyNot_40 (by decide) (fun _ => ?_) (fun c_ => absurd c_ (by decide))
  refine lv_iload_n hx hb dX9_whyNot_64 rfl (lv_at hl 1 rfl) ?_
  refine lv_bipush (v := 23) hx hb dX9_whyNot_65 (by decide) ?_
  refine lv_icmp_ne (tgt := 91) hx hb dX9_whyNot_67 (by decide) (fun c_ => absurd (by decide) c_) (fun _ => ?_)
  refine lv_aload_n hx hb dX9_whyNot_70 rfl (lv_at hl 0 rfl) ?_
  refine r_get hC hw rk9 in_X9_whyNot_9 0 (wMl 0 (by decide)) wM0 6 (by decide) lk_X9_whyNot_23 (v := .ref (ad 5)) rfl dX9_whyNot_71 ?_
  refine lv_aload_n hx hb dX9_whyNot_74 rfl (lv_at hl 0 rfl) ?_
  refine r_get hC hw rk9 in_X9_whyNot_9 0 (wMl 0 (by decide)) wM0 32 (by decide) lk_X9_whyNot_123 (v := .int (t 2)) rfl dX9_whyNot_75 ?_
  refine r_fald hC hw 5 (wMl 5 (by decide)) wM5 (by assumption) dX9_whyNot_78 ?_
  refine lv_fconst0 hx hb dX9_whyNot_79 ?_
  refine lv_fcmp hx hb dX9_whyNot_80 ?_
  refine lv_if_ne (tgt := 89) hx hb dX9_whyNot_81 (by decide) (fun c_1 => ?_) (fun c_1 => ?_)
  · refine lv_iconst (v := 0) hx hb dX9_whyNot_89 (by decide) ?_
    exact r_iret hC hr hlk hw () rfl (if_neg c_1).symm (Nat.le_of_ble_eq_true rfl) (Nat.le_of_ble_eq_true rfl) dX9_whyNot_90
  · refine lv_bipush (v := 6) hx hb dX9_whyNot_84 (by decide) ?_
    refine lv_goto (tgt := 90) hx hb dX9_whyNot_86 (by decide) ?_
    exact r_iret hC hr hlk hw () rfl (if_pos c_1).symm (Nat.le_of_ble_eq_true rfl) (Nat.le_of_ble_eq_true rfl) dX9_whyNot_90

set_option maxHeartbeats 4000000 in
set_option maxRecDepth 100000 in
theorem c_X9_whyNot_24 (l : Launch) {D : va_G} {q : Nat → ClassId} {ad : Nat → Nat} {κ : KS} {t : Nat → Int32} (sz : Nat) (hs : okStep 24 (t 0) (t 1) (t 2)) (hW : WFm κ) : Met l yX9_whyNot wsX9_whyNot (rmz 5 110) (va_Pc [.ref (ad 0), .int 24] (rPre D q (wM q ad κ t) sz)) (va_Qi (fun (r : Int32) (u : Unit) => r = why κ 24 (t 0) (t 1) (t 2)) (fun (u : Unit) tt => rPo D (rA (wM q ad κ t) sz) (wM q ad κ t) tt) (rA (wM q ad κ t) sz)) 0 0 (rA (wM q ad κ t) sz) := by
  have hi0 : vp_in (t 0) 4 := hs.1
  have hi1 : vp_in (t 1) 4 := hs.2.1
  have hi2 : vp_in (t 2) 4 := hs.2.2
  refine r_start (cc := cX9_whyNot) (maxL := 4) (ret := (some .int)) (by decide) rfl (Nat.le_of_ble_eq_true rfl) ?_
  intro p e s m below meth c ls hC hr hlk hnm hsz hw hl
  have hx := hC.1
  have hb := hC.2.1
  have hl : lv_has ls 4 [(0, .ref (ad 0)), (1, .int 24)] := hl
  refine lv_iload_n hx hb dX9_whyNot_0 rfl (lv_at hl 1 rfl) ?_
  refine lv_bipush (v := 7) hx hb dX9_whyNot_1 (by decide) ?_
  refine lv_icmp_eq (tgt := 12) hx hb dX9_whyNot_3 (by decide) (fun c_ => absurd c_ (by decide)) (fun _ => ?_)
  refine lv_iload_n hx hb dX9_whyNot_6 rfl (lv_at hl 1 rfl) ?_
  refine lv_bipush (v := 8) hx hb dX9_whyNot_7 (by decide) ?_
  refine lv_icmp_ne (tgt := 31) hx hb dX9_whyNot_9 (by decide) (fun _ => ?_) (fun c_ => absurd c_ (by decide))
  refine lv_iload_n hx hb dX9_whyNot_31 rfl (lv_at hl 1 rfl) ?_
  refine lv_bipush (v := 11) hx hb dX9_whyNot_32 (by decide) ?_
  refine lv_icmp_eq (tgt := 43) hx hb dX9_whyNot_34 (by decide) (fun c_ => absurd c_ (by decide)) (fun _ => ?_)
  refine lv_iload_n hx hb dX9_whyNot_37 rfl (lv_at hl 1 rfl) ?_
  refine lv_bipush (v := 12) hx hb dX9_whyNot_38 (by decide) ?_
  refine lv_icmp_ne (tgt := 64) hx hb dX9_whyNot_40 (by decide) (fun _ => ?_) (fun c_ => absurd c_ (by decide))
  refine lv_iload_n hx hb dX9_whyNot_64 rfl (lv_at hl 1 rfl) ?_
  refine lv_bipush (v := 23) hx hb dX9_whyNot_65 (by decide) ?_
  refine lv_icmp_ne (tgt := 91) hx hb dX9_whyNot_67 (by decide) (fun _ => ?_) (fun c_ => absurd c_ (by decide))
  refine lv_iload_n hx hb dX9_whyNot_91 rfl (lv_at hl 1 rfl) ?_
  refine lv_bipush (v := 24) hx hb dX9_whyNot_92 (by decide) ?_
  refine lv_icmp_ne (tgt := 118) hx hb dX9_whyNot_94 (by decide) (fun c_ => absurd (by decide) c_) (fun _ => ?_)
  refine lv_aload_n hx hb dX9_whyNot_97 rfl (lv_at hl 0 rfl) ?_
  refine r_get hC hw rk9 in_X9_whyNot_9 0 (wMl 0 (by decide)) wM0 7 (by decide) lk_X9_whyNot_27 (v := .ref (ad 6)) rfl dX9_whyNot_98 ?_
  refine lv_aload_n hx hb dX9_whyNot_101 rfl (lv_at hl 0 rfl) ?_
  refine r_get hC hw rk9 in_X9_whyNot_9 0 (wMl 0 (by decide)) wM0 32 (by decide) lk_X9_whyNot_123 (v := .int (t 2)) rfl dX9_whyNot_102 ?_
  refine r_dald hC hw 6 (wMl 6 (by decide)) wM6 (by assumption) dX9_whyNot_105 ?_
  refine lv_dconst0 hx hb dX9_whyNot_106 ?_
  refine lv_dcmp hx hb dX9_whyNot_107 ?_
  refine lv_if_ne (tgt := 116) hx hb dX9_whyNot_108 (by decide) (fun c_1 => ?_) (fun c_1 => ?_)
  · refine lv_iconst (v := 0) hx hb dX9_whyNot_116 (by decide) ?_
    exact r_iret hC hr hlk hw () rfl (if_neg c_1).symm (Nat.le_of_ble_eq_true rfl) (Nat.le_of_ble_eq_true rfl) dX9_whyNot_117
  · refine lv_bipush (v := 6) hx hb dX9_whyNot_111 (by decide) ?_
    refine lv_goto (tgt := 117) hx hb dX9_whyNot_113 (by decide) ?_
    exact r_iret hC hr hlk hw () rfl (if_pos c_1).symm (Nat.le_of_ble_eq_true rfl) (Nat.le_of_ble_eq_true rfl) dX9_whyNot_117

set_option maxHeartbeats 4000000 in
set_option maxRecDepth 100000 in
theorem c_X9_whyNot_25 (l : Launch) {D : va_G} {q : Nat → ClassId} {ad : Nat → Nat} {κ : KS} {t : Nat → Int32} (sz : Nat) (hs : okStep 25 (t 0) (t 1) (t 2)) (hW : WFm κ) : Met l yX9_whyNot wsX9_whyNot (rmz 5 110) (va_Pc [.ref (ad 0), .int 25] (rPre D q (wM q ad κ t) sz)) (va_Qi (fun (r : Int32) (u : Unit) => r = why κ 25 (t 0) (t 1) (t 2)) (fun (u : Unit) tt => rPo D (rA (wM q ad κ t) sz) (wM q ad κ t) tt) (rA (wM q ad κ t) sz)) 0 0 (rA (wM q ad κ t) sz) := by
  have hi0 : vp_in (t 0) 8 := hs.1
  have hi1 : vp_in (t 1) 8 := hs.2.1
  have hi2 : vp_in (t 2) 8 := hs.2.2
  refine r_start (cc := cX9_whyNot) (maxL := 4) (ret := (some .int)) (by decide) rfl (Nat.le_of_ble_eq_true rfl) ?_
  intro p e s m below meth c ls hC hr hlk hnm hsz hw hl
  have hx := hC.1
  have hb := hC.2.1
  have hl : lv_has ls 4 [(0, .ref (ad 0)), (1, .int 25)] := hl
  refine lv_iload_n hx hb dX9_whyNot_0 rfl (lv_at hl 1 rfl) ?_
  refine lv_bipush (v := 7) hx hb dX9_whyNot_1 (by decide) ?_
  refine lv_icmp_eq (tgt := 12) hx hb dX9_whyNot_3 (by decide) (fun c_ => absurd c_ (by decide)) (fun _ => ?_)
  refine lv_iload_n hx hb dX9_whyNot_6 rfl (lv_at hl 1 rfl) ?_
  refine lv_bipush (v := 8) hx hb dX9_whyNot_7 (by decide) ?_
  refine lv_icmp_ne (tgt := 31) hx hb dX9_whyNot_9 (by decide) (fun _ => ?_) (fun c_ => absurd c_ (by decide))
  refine lv_iload_n hx hb dX9_whyNot_31 rfl (lv_at hl 1 rfl) ?_
  refine lv_bipush (v := 11) hx hb dX9_whyNot_32 (by decide) ?_
  refine lv_icmp_eq (tgt := 43) hx hb dX9_whyNot_34 (by decide) (fun c_ => absurd c_ (by decide)) (fun _ => ?_)
  refine lv_iload_n hx hb dX9_whyNot_37 rfl (lv_at hl 1 rfl) ?_
  refine lv_bipush (v := 12) hx hb dX9_whyNot_38 (by decide) ?_
  refine lv_icmp_ne (tgt := 64) hx hb dX9_whyNot_40 (by decide) (fun _ => ?_) (fun c_ => absurd c_ (by decide))
  refine lv_iload_n hx hb dX9_whyNot_64 rfl (lv_at hl 1 rfl) ?_
  refine lv_bipush (v := 23) hx hb dX9_whyNot_65 (by decide) ?_
  refine lv_icmp_ne (tgt := 91) hx hb dX9_whyNot_67 (by decide) (fun _ => ?_) (fun c_ => absurd c_ (by decide))
  refine lv_iload_n hx hb dX9_whyNot_91 rfl (lv_at hl 1 rfl) ?_
  refine lv_bipush (v := 24) hx hb dX9_whyNot_92 (by decide) ?_
  refine lv_icmp_ne (tgt := 118) hx hb dX9_whyNot_94 (by decide) (fun _ => ?_) (fun c_ => absurd c_ (by decide))
  refine lv_iload_n hx hb dX9_whyNot_118 rfl (lv_at hl 1 rfl) ?_
  refine lv_bipush (v := 29) hx hb dX9_whyNot_119 (by decide) ?_
  refine lv_icmp_ne (tgt := 140) hx hb dX9_whyNot_121 (by decide) (fun _ => ?_) (fun c_ => absurd c_ (by decide))
  refine lv_iload_n hx hb dX9_whyNot_140 rfl (lv_at hl 1 rfl) ?_
  refine lv_bipush (v := 31) hx hb dX9_whyNot_141 (by decide) ?_
  refine lv_icmp_ne (tgt := 197) hx hb dX9_whyNot_143 (by decide) (fun _ => ?_) (fun c_ => absurd c_ (by decide))
  refine lv_iload_n hx hb dX9_whyNot_197 rfl (lv_at hl 1 rfl) ?_
  refine lv_bipush (v := 32) hx hb dX9_whyNot_198 (by decide) ?_
  refine lv_icmp_ne (tgt := 272) hx hb dX9_whyNot_200 (by decide) (fun _ => ?_) (fun c_ => absurd c_ (by decide))
  refine lv_iload_n hx hb dX9_whyNot_272 rfl (lv_at hl 1 rfl) ?_
  refine lv_bipush (v := 33) hx hb dX9_whyNot_273 (by decide) ?_
  refine lv_icmp_ne (tgt := 294) hx hb dX9_whyNot_275 (by decide) (fun _ => ?_) (fun c_ => absurd c_ (by decide))
  refine lv_iload_n hx hb dX9_whyNot_294 rfl (lv_at hl 1 rfl) ?_
  refine lv_bipush (v := 38) hx hb dX9_whyNot_295 (by decide) ?_
  refine lv_icmp_lt (tgt := 306) hx hb dX9_whyNot_297 (by decide) (fun _ => ?_) (fun c_ => absurd (by decide) c_)
  refine lv_iconst (v := 0) hx hb dX9_whyNot_306 (by decide) ?_
  exact r_iret hC hr hlk hw () rfl rfl (Nat.le_of_ble_eq_true rfl) (Nat.le_of_ble_eq_true rfl) dX9_whyNot_307

set_option maxHeartbeats 4000000 in
set_option maxRecDepth 100000 in
theorem c_X9_whyNot_26 (l : Launch) {D : va_G} {q : Nat → ClassId} {ad : Nat → Nat} {κ : KS} {t : Nat → Int32} (sz : Nat) (hs : okStep 26 (t 0) (t 1) (t 2)) (hW : WFm κ) : Met l yX9_whyNot wsX9_whyNot (rmz 5 110) (va_Pc [.ref (ad 0), .int 26] (rPre D q (wM q ad κ t) sz)) (va_Qi (fun (r : Int32) (u : Unit) => r = why κ 26 (t 0) (t 1) (t 2)) (fun (u : Unit) tt => rPo D (rA (wM q ad κ t) sz) (wM q ad κ t) tt) (rA (wM q ad κ t) sz)) 0 0 (rA (wM q ad κ t) sz) := by
  have hi0 : vp_in (t 0) 8 := hs.1
  have hi1 : vp_in (t 1) 4 := hs.2.1
  have hi2 : vp_in (t 2) 4 := hs.2.2
  refine r_start (cc := cX9_whyNot) (maxL := 4) (ret := (some .int)) (by decide) rfl (Nat.le_of_ble_eq_true rfl) ?_
  intro p e s m below meth c ls hC hr hlk hnm hsz hw hl
  have hx := hC.1
  have hb := hC.2.1
  have hl : lv_has ls 4 [(0, .ref (ad 0)), (1, .int 26)] := hl
  refine lv_iload_n hx hb dX9_whyNot_0 rfl (lv_at hl 1 rfl) ?_
  refine lv_bipush (v := 7) hx hb dX9_whyNot_1 (by decide) ?_
  refine lv_icmp_eq (tgt := 12) hx hb dX9_whyNot_3 (by decide) (fun c_ => absurd c_ (by decide)) (fun _ => ?_)
  refine lv_iload_n hx hb dX9_whyNot_6 rfl (lv_at hl 1 rfl) ?_
  refine lv_bipush (v := 8) hx hb dX9_whyNot_7 (by decide) ?_
  refine lv_icmp_ne (tgt := 31) hx hb dX9_whyNot_9 (by decide) (fun _ => ?_) (fun c_ => absurd c_ (by decide))
  refine lv_iload_n hx hb dX9_whyNot_31 rfl (lv_at hl 1 rfl) ?_
  refine lv_bipush (v := 11) hx hb dX9_whyNot_32 (by decide) ?_
  refine lv_icmp_eq (tgt := 43) hx hb dX9_whyNot_34 (by decide) (fun c_ => absurd c_ (by decide)) (fun _ => ?_)
  refine lv_iload_n hx hb dX9_whyNot_37 rfl (lv_at hl 1 rfl) ?_
  refine lv_bipush (v := 12) hx hb dX9_whyNot_38 (by decide) ?_
  refine lv_icmp_ne (tgt := 64) hx hb dX9_whyNot_40 (by decide) (fun _ => ?_) (fun c_ => absurd c_ (by decide))
  refine lv_iload_n hx hb dX9_whyNot_64 rfl (lv_at hl 1 rfl) ?_
  refine lv_bipush (v := 23) hx hb dX9_whyNot_65 (by decide) ?_
  refine lv_icmp_ne (tgt := 91) hx hb dX9_whyNot_67 (by decide) (fun _ => ?_) (fun c_ => absurd c_ (by decide))
  refine lv_iload_n hx hb dX9_whyNot_91 rfl (lv_at hl 1 rfl) ?_
  refine lv_bipush (v := 24) hx hb dX9_whyNot_92 (by decide) ?_
  refine lv_icmp_ne (tgt := 118) hx hb dX9_whyNot_94 (by decide) (fun _ => ?_) (fun c_ => absurd c_ (by decide))
  refine lv_iload_n hx hb dX9_whyNot_118 rfl (lv_at hl 1 rfl) ?_
  refine lv_bipush (v := 29) hx hb dX9_whyNot_119 (by decide) ?_
  refine lv_icmp_ne (tgt := 140) hx hb dX9_whyNot_121 (by decide) (fun _ => ?_) (fun c_ => absurd c_ (by decide))
  refine lv_iload_n hx hb dX9_whyNot_140 rfl (lv_at hl 1 rfl) ?_
  refine lv_bipush (v := 31) hx hb dX9_whyNot_141 (by decide) ?_
  refine lv_icmp_ne (tgt := 197) hx hb dX9_whyNot_143 (by decide) (fun _ => ?_) (fun c_ => absurd c_ (by decide))
  refine lv_iload_n hx hb dX9_whyNot_197 rfl (lv_at hl 1 rfl) ?_
  refine lv_bipush (v := 32) hx hb dX9_whyNot_198 (by decide) ?_
  refine lv_icmp_ne (tgt := 272) hx hb dX9_whyNot_200 (by decide) (fun _ => ?_) (fun c_ => absurd c_ (by decide))
  refine lv_iload_n hx hb dX9_whyNot_272 rfl (lv_at hl 1 rfl) ?_
  refine lv_bipush (v := 33) hx hb dX9_whyNot_273 (by decide) ?_
  refine lv_icmp_ne (tgt := 294) hx hb dX9_whyNot_275 (by decide) (fun _ => ?_) (fun c_ => absurd c_ (by decide))
  refine lv_iload_n hx hb dX9_whyNot_294 rfl (lv_at hl 1 rfl) ?_
  refine lv_bipush (v := 38) hx hb dX9_whyNot_295 (by decide) ?_
  refine lv_icmp_lt (tgt := 306) hx hb dX9_whyNot_297 (by decide) (fun _ => ?_) (fun c_ => absurd (by decide) c_)
  refine lv_iconst (v := 0) hx hb dX9_whyNot_306 (by decide) ?_
  exact r_iret hC hr hlk hw () rfl rfl (Nat.le_of_ble_eq_true rfl) (Nat.le_of_ble_eq_true rfl) dX9_whyNot_307

set_option maxHeartbeats 4000000 in
set_option maxRecDepth 100000 in
theorem c_X9_whyNot_27 (l : Launch) {D : va_G} {q : Nat → ClassId} {ad : Nat → Nat} {κ : KS} {t : Nat → Int32} (sz : Nat) (hs : okStep 27 (t 0) (t 1) (t 2)) (hW : WFm κ) : Met l yX9_whyNot wsX9_whyNot (rmz 5 110) (va_Pc [.ref (ad 0), .int 27] (rPre D q (wM q ad κ t) sz)) (va_Qi (fun (r : Int32) (u : Unit) => r = why κ 27 (t 0) (t 1) (t 2)) (fun (u : Unit) tt => rPo D (rA (wM q ad κ t) sz) (wM q ad κ t) tt) (rA (wM q ad κ t) sz)) 0 0 (rA (wM q ad κ t) sz) := by
  have hi0 : vp_in (t 0) 200 := hs.1
  refine r_start (cc := cX9_whyNot) (maxL := 4) (ret := (some .int)) (by decide) rfl (Nat.le_of_ble_eq_true rfl) ?_
  intro p e s m below meth c ls hC hr hlk hnm hsz hw hl
  have hx := hC.1
  have hb := hC.2.1
  have hl : lv_has ls 4 [(0, .ref (ad 0)), (1, .int 27)] := hl
  refine lv_iload_n hx hb dX9_whyNot_0 rfl (lv_at hl 1 rfl) ?_
  refine lv_bipush (v := 7) hx hb dX9_whyNot_1 (by decide) ?_
  refine lv_icmp_eq (tgt := 12) hx hb dX9_whyNot_3 (by decide) (fun c_ => absurd c_ (by decide)) (fun _ => ?_)
  refine lv_iload_n hx hb dX9_whyNot_6 rfl (lv_at hl 1 rfl) ?_
  refine lv_bipush (v := 8) hx hb dX9_whyNot_7 (by decide) ?_
  refine lv_icmp_ne (tgt := 31) hx hb dX9_whyNot_9 (by decide) (fun _ => ?_) (fun c_ => absurd c_ (by decide))
  refine lv_iload_n hx hb dX9_whyNot_31 rfl (lv_at hl 1 rfl) ?_
  refine lv_bipush (v := 11) hx hb dX9_whyNot_32 (by decide) ?_
  refine lv_icmp_eq (tgt := 43) hx hb dX9_whyNot_34 (by decide) (fun c_ => absurd c_ (by decide)) (fun _ => ?_)
  refine lv_iload_n hx hb dX9_whyNot_37 rfl (lv_at hl 1 rfl) ?_
  refine lv_bipush (v := 12) hx hb dX9_whyNot_38 (by decide) ?_
  refine lv_icmp_ne (tgt := 64) hx hb dX9_whyNot_40 (by decide) (fun _ => ?_) (fun c_ => absurd c_ (by decide))
  refine lv_iload_n hx hb dX9_whyNot_64 rfl (lv_at hl 1 rfl) ?_
  refine lv_bipush (v := 23) hx hb dX9_whyNot_65 (by decide) ?_
  refine lv_icmp_ne (tgt := 91) hx hb dX9_whyNot_67 (by decide) (fun _ => ?_) (fun c_ => absurd c_ (by decide))
  refine lv_iload_n hx hb dX9_whyNot_91 rfl (lv_at hl 1 rfl) ?_
  refine lv_bipush (v := 24) hx hb dX9_whyNot_92 (by decide) ?_
  refine lv_icmp_ne (tgt := 118) hx hb dX9_whyNot_94 (by decide) (fun _ => ?_) (fun c_ => absurd c_ (by decide))
  refine lv_iload_n hx hb dX9_whyNot_118 rfl (lv_at hl 1 rfl) ?_
  refine lv_bipush (v := 29) hx hb dX9_whyNot_119 (by decide) ?_
  refine lv_icmp_ne (tgt := 140) hx hb dX9_whyNot_121 (by decide) (fun _ => ?_) (fun c_ => absurd c_ (by decide))
  refine lv_iload_n hx hb dX9_whyNot_140 rfl (lv_at hl 1 rfl) ?_
  refine lv_bipush (v := 31) hx hb dX9_whyNot_141 (by decide) ?_
  refine lv_icmp_ne (tgt := 197) hx hb dX9_whyNot_143 (by decide) (fun _ => ?_) (fun c_ => absurd c_ (by decide))
  refine lv_iload_n hx hb dX9_whyNot_197 rfl (lv_at hl 1 rfl) ?_
  refine lv_bipush (v := 32) hx hb dX9_whyNot_198 (by decide) ?_
  refine lv_icmp_ne (tgt := 272) hx hb dX9_whyNot_200 (by decide) (fun _ => ?_) (fun c_ => absurd c_ (by decide))
  refine lv_iload_n hx hb dX9_whyNot_272 rfl (lv_at hl 1 rfl) ?_
  refine lv_bipush (v := 33) hx hb dX9_whyNot_273 (by decide) ?_
  refine lv_icmp_ne (tgt := 294) hx hb dX9_whyNot_275 (by decide) (fun _ => ?_) (fun c_ => absurd c_ (by decide))
  refine lv_iload_n hx hb dX9_whyNot_294 rfl (lv_at hl 1 rfl) ?_
  refine lv_bipush (v := 38) hx hb dX9_whyNot_295 (by decide) ?_
  refine lv_icmp_lt (tgt := 306) hx hb dX9_whyNot_297 (by decide) (fun _ => ?_) (fun c_ => absurd (by decide) c_)
  refine lv_iconst (v := 0) hx hb dX9_whyNot_306 (by decide) ?_
  exact r_iret hC hr hlk hw () rfl rfl (Nat.le_of_ble_eq_true rfl) (Nat.le_of_ble_eq_true rfl) dX9_whyNot_307

set_option maxHeartbeats 4000000 in
set_option maxRecDepth 100000 in
theorem c_X9_whyNot_28 (l : Launch) {D : va_G} {q : Nat → ClassId} {ad : Nat → Nat} {κ : KS} {t : Nat → Int32} (sz : Nat) (hs : okStep 28 (t 0) (t 1) (t 2)) (hW : WFm κ) : Met l yX9_whyNot wsX9_whyNot (rmz 5 110) (va_Pc [.ref (ad 0), .int 28] (rPre D q (wM q ad κ t) sz)) (va_Qi (fun (r : Int32) (u : Unit) => r = why κ 28 (t 0) (t 1) (t 2)) (fun (u : Unit) tt => rPo D (rA (wM q ad κ t) sz) (wM q ad κ t) tt) (rA (wM q ad κ t) sz)) 0 0 (rA (wM q ad κ t) sz) := by
  have hi0 : vp_in (t 0) 8 := hs.1
  have hi1 : vp_in (t 1) 200 := hs.2.1
  refine r_start (cc := cX9_whyNot) (maxL := 4) (ret := (some .int)) (by decide) rfl (Nat.le_of_ble_eq_true rfl) ?_
  intro p e s m below meth c ls hC hr hlk hnm hsz hw hl
  have hx := hC.1
  have hb := hC.2.1
  have hl : lv_has ls 4 [(0, .ref (ad 0)), (1, .int 28)] := hl
  refine lv_iload_n hx hb dX9_whyNot_0 rfl (lv_at hl 1 rfl) ?_
  refine lv_bipush (v := 7) hx hb dX9_whyNot_1 (by decide) ?_
  refine lv_icmp_eq (tgt := 12) hx hb dX9_whyNot_3 (by decide) (fun c_ => absurd c_ (by decide)) (fun _ => ?_)
  refine lv_iload_n hx hb dX9_whyNot_6 rfl (lv_at hl 1 rfl) ?_
  refine lv_bipush (v := 8) hx hb dX9_whyNot_7 (by decide) ?_
  refine lv_icmp_ne (tgt := 31) hx hb dX9_whyNot_9 (by decide) (fun _ => ?_) (fun c_ => absurd c_ (by decide))
  refine lv_iload_n hx hb dX9_whyNot_31 rfl (lv_at hl 1 rfl) ?_
  refine lv_bipush (v := 11) hx hb dX9_whyNot_32 (by decide) ?_
  refine lv_icmp_eq (tgt := 43) hx hb dX9_whyNot_34 (by decide) (fun c_ => absurd c_ (by decide)) (fun _ => ?_)
  refine lv_iload_n hx hb dX9_whyNot_37 rfl (lv_at hl 1 rfl) ?_
  refine lv_bipush (v := 12) hx hb dX9_whyNot_38 (by decide) ?_
  refine lv_icmp_ne (tgt := 64) hx hb dX9_whyNot_40 (by decide) (fun _ => ?_) (fun c_ => absurd c_ (by decide))
  refine lv_iload_n hx hb dX9_whyNot_64 rfl (lv_at hl 1 rfl) ?_
  refine lv_bipush (v := 23) hx hb dX9_whyNot_65 (by decide) ?_
  refine lv_icmp_ne (tgt := 91) hx hb dX9_whyNot_67 (by decide) (fun _ => ?_) (fun c_ => absurd c_ (by decide))
  refine lv_iload_n hx hb dX9_whyNot_91 rfl (lv_at hl 1 rfl) ?_
  refine lv_bipush (v := 24) hx hb dX9_whyNot_92 (by decide) ?_
  refine lv_icmp_ne (tgt := 118) hx hb dX9_whyNot_94 (by decide) (fun _ => ?_) (fun c_ => absurd c_ (by decide))
  refine lv_iload_n hx hb dX9_whyNot_118 rfl (lv_at hl 1 rfl) ?_
  refine lv_bipush (v := 29) hx hb dX9_whyNot_119 (by decide) ?_
  refine lv_icmp_ne (tgt := 140) hx hb dX9_whyNot_121 (by decide) (fun _ => ?_) (fun c_ => absurd c_ (by decide))
  refine lv_iload_n hx hb dX9_whyNot_140 rfl (lv_at hl 1 rfl) ?_
  refine lv_bipush (v := 31) hx hb dX9_whyNot_141 (by decide) ?_
  refine lv_icmp_ne (tgt := 197) hx hb dX9_whyNot_143 (by decide) (fun _ => ?_) (fun c_ => absurd c_ (by decide))
  refine lv_iload_n hx hb dX9_whyNot_197 rfl (lv_at hl 1 rfl) ?_
  refine lv_bipush (v := 32) hx hb dX9_whyNot_198 (by decide) ?_
  refine lv_icmp_ne (tgt := 272) hx hb dX9_whyNot_200 (by decide) (fun _ => ?_) (fun c_ => absurd c_ (by decide))
  refine lv_iload_n hx hb dX9_whyNot_272 rfl (lv_at hl 1 rfl) ?_
  refine lv_bipush (v := 33) hx hb dX9_whyNot_273 (by decide) ?_
  refine lv_icmp_ne (tgt := 294) hx hb dX9_whyNot_275 (by decide) (fun _ => ?_) (fun c_ => absurd c_ (by decide))
  refine lv_iload_n hx hb dX9_whyNot_294 rfl (lv_at hl 1 rfl) ?_
  refine lv_bipush (v := 38) hx hb dX9_whyNot_295 (by decide) ?_
  refine lv_icmp_lt (tgt := 306) hx hb dX9_whyNot_297 (by decide) (fun _ => ?_) (fun c_ => absurd (by decide) c_)
  refine lv_iconst (v := 0) hx hb dX9_whyNot_306 (by decide) ?_
  exact r_iret hC hr hlk hw () rfl rfl (Nat.le_of_ble_eq_true rfl) (Nat.le_of_ble_eq_true rfl) dX9_whyNot_307

set_option maxHeartbeats 4000000 in
set_option maxRecDepth 100000 in
theorem c_X9_whyNot_29 (l : Launch) {D : va_G} {q : Nat → ClassId} {ad : Nat → Nat} {κ : KS} {t : Nat → Int32} (sz : Nat) (hs : okStep 29 (t 0) (t 1) (t 2)) (hW : WFm κ) : Met l yX9_whyNot wsX9_whyNot (rmz 5 110) (va_Pc [.ref (ad 0), .int 29] (rPre D q (wM q ad κ t) sz)) (va_Qi (fun (r : Int32) (u : Unit) => r = why κ 29 (t 0) (t 1) (t 2)) (fun (u : Unit) tt => rPo D (rA (wM q ad κ t) sz) (wM q ad κ t) tt) (rA (wM q ad κ t) sz)) 0 0 (rA (wM q ad κ t) sz) := by
  have hi0 : vp_in (t 0) 200 := hs.1
  refine r_start (cc := cX9_whyNot) (maxL := 4) (ret := (some .int)) (by decide) rfl (Nat.le_of_ble_eq_true rfl) ?_
  intro p e s m below meth c ls hC hr hlk hnm hsz hw hl
  have hx := hC.1
  have hb := hC.2.1
  have hl : lv_has ls 4 [(0, .ref (ad 0)), (1, .int 29)] := hl
  refine lv_iload_n hx hb dX9_whyNot_0 rfl (lv_at hl 1 rfl) ?_
  refine lv_bipush (v := 7) hx hb dX9_whyNot_1 (by decide) ?_
  refine lv_icmp_eq (tgt := 12) hx hb dX9_whyNot_3 (by decide) (fun c_ => absurd c_ (by decide)) (fun _ => ?_)
  refine lv_iload_n hx hb dX9_whyNot_6 rfl (lv_at hl 1 rfl) ?_
  refine lv_bipush (v := 8) hx hb dX9_whyNot_7 (by decide) ?_
  refine lv_icmp_ne (tgt := 31) hx hb dX9_whyNot_9 (by decide) (fun _ => ?_) (fun c_ => absurd c_ (by decide))
  refine lv_iload_n hx hb dX9_whyNot_31 rfl (lv_at hl 1 rfl) ?_
  refine lv_bipush (v := 11) hx hb dX9_whyNot_32 (by decide) ?_
  refine lv_icmp_eq (tgt := 43) hx hb dX9_whyNot_34 (by decide) (fun c_ => absurd c_ (by decide)) (fun _ => ?_)
  refine lv_iload_n hx hb dX9_whyNot_37 rfl (lv_at hl 1 rfl) ?_
  refine lv_bipush (v := 12) hx hb dX9_whyNot_38 (by decide) ?_
  refine lv_icmp_ne (tgt := 64) hx hb dX9_whyNot_40 (by decide) (fun _ => ?_) (fun c_ => absurd c_ (by decide))
  refine lv_iload_n hx hb dX9_whyNot_64 rfl (lv_at hl 1 rfl) ?_
  refine lv_bipush (v := 23) hx hb dX9_whyNot_65 (by decide) ?_
  refine lv_icmp_ne (tgt := 91) hx hb dX9_whyNot_67 (by decide) (fun _ => ?_) (fun c_ => absurd c_ (by decide))
  refine lv_iload_n hx hb dX9_whyNot_91 rfl (lv_at hl 1 rfl) ?_
  refine lv_bipush (v := 24) hx hb dX9_whyNot_92 (by decide) ?_
  refine lv_icmp_ne (tgt := 118) hx hb dX9_whyNot_94 (by decide) (fun _ => ?_) (fun c_ => absurd c_ (by decide))
  refine lv_iload_n hx hb dX9_whyNot_118 rfl (lv_at hl 1 rfl) ?_
  refine lv_bipush (v := 29) hx hb dX9_whyNot_119 (by decide) ?_
  refine lv_icmp_ne (tgt := 140) hx hb dX9_whyNot_121 (by decide) (fun c_ => absurd (by decide) c_) (fun _ => ?_)
  refine lv_aload_n hx hb dX9_whyNot_124 rfl (lv_at hl 0 rfl) ?_
  refine r_get hC hw rk9 in_X9_whyNot_9 0 (wMl 0 (by decide)) wM0 22 (by decide) lk_X9_whyNot_98 (v := .int (sI κ 6)) rfl dX9_whyNot_125 ?_
  refine lv_bipush (v := 12) hx hb dX9_whyNot_128 (by decide) ?_
  refine lv_icmp_ne (tgt := 138) hx hb dX9_whyNot_130 (by decide) (fun c_1 => ?_) (fun c_1 => ?_)
  · refine lv_iconst (v := 0) hx hb dX9_whyNot_138 (by decide) ?_
    exact r_iret hC hr hlk hw () rfl (if_neg c_1).symm (Nat.le_of_ble_eq_true rfl) (Nat.le_of_ble_eq_true rfl) dX9_whyNot_139
  · refine lv_bipush (v := 7) hx hb dX9_whyNot_133 (by decide) ?_
    refine lv_goto (tgt := 139) hx hb dX9_whyNot_135 (by decide) ?_
    exact r_iret hC hr hlk hw () rfl (if_pos c_1).symm (Nat.le_of_ble_eq_true rfl) (Nat.le_of_ble_eq_true rfl) dX9_whyNot_139

set_option maxHeartbeats 4000000 in
set_option maxRecDepth 100000 in
theorem c_X9_whyNot_30 (l : Launch) {D : va_G} {q : Nat → ClassId} {ad : Nat → Nat} {κ : KS} {t : Nat → Int32} (sz : Nat) (hs : okStep 30 (t 0) (t 1) (t 2)) (hW : WFm κ) : Met l yX9_whyNot wsX9_whyNot (rmz 5 110) (va_Pc [.ref (ad 0), .int 30] (rPre D q (wM q ad κ t) sz)) (va_Qi (fun (r : Int32) (u : Unit) => r = why κ 30 (t 0) (t 1) (t 2)) (fun (u : Unit) tt => rPo D (rA (wM q ad κ t) sz) (wM q ad κ t) tt) (rA (wM q ad κ t) sz)) 0 0 (rA (wM q ad κ t) sz) := by
  refine r_start (cc := cX9_whyNot) (maxL := 4) (ret := (some .int)) (by decide) rfl (Nat.le_of_ble_eq_true rfl) ?_
  intro p e s m below meth c ls hC hr hlk hnm hsz hw hl
  have hx := hC.1
  have hb := hC.2.1
  have hl : lv_has ls 4 [(0, .ref (ad 0)), (1, .int 30)] := hl
  refine lv_iload_n hx hb dX9_whyNot_0 rfl (lv_at hl 1 rfl) ?_
  refine lv_bipush (v := 7) hx hb dX9_whyNot_1 (by decide) ?_
  refine lv_icmp_eq (tgt := 12) hx hb dX9_whyNot_3 (by decide) (fun c_ => absurd c_ (by decide)) (fun _ => ?_)
  refine lv_iload_n hx hb dX9_whyNot_6 rfl (lv_at hl 1 rfl) ?_
  refine lv_bipush (v := 8) hx hb dX9_whyNot_7 (by decide) ?_
  refine lv_icmp_ne (tgt := 31) hx hb dX9_whyNot_9 (by decide) (fun _ => ?_) (fun c_ => absurd c_ (by decide))
  refine lv_iload_n hx hb dX9_whyNot_31 rfl (lv_at hl 1 rfl) ?_
  refine lv_bipush (v := 11) hx hb dX9_whyNot_32 (by decide) ?_
  refine lv_icmp_eq (tgt := 43) hx hb dX9_whyNot_34 (by decide) (fun c_ => absurd c_ (by decide)) (fun _ => ?_)
  refine lv_iload_n hx hb dX9_whyNot_37 rfl (lv_at hl 1 rfl) ?_
  refine lv_bipush (v := 12) hx hb dX9_whyNot_38 (by decide) ?_
  refine lv_icmp_ne (tgt := 64) hx hb dX9_whyNot_40 (by decide) (fun _ => ?_) (fun c_ => absurd c_ (by decide))
  refine lv_iload_n hx hb dX9_whyNot_64 rfl (lv_at hl 1 rfl) ?_
  refine lv_bipush (v := 23) hx hb dX9_whyNot_65 (by decide) ?_
  refine lv_icmp_ne (tgt := 91) hx hb dX9_whyNot_67 (by decide) (fun _ => ?_) (fun c_ => absurd c_ (by decide))
  refine lv_iload_n hx hb dX9_whyNot_91 rfl (lv_at hl 1 rfl) ?_
  refine lv_bipush (v := 24) hx hb dX9_whyNot_92 (by decide) ?_
  refine lv_icmp_ne (tgt := 118) hx hb dX9_whyNot_94 (by decide) (fun _ => ?_) (fun c_ => absurd c_ (by decide))
  refine lv_iload_n hx hb dX9_whyNot_118 rfl (lv_at hl 1 rfl) ?_
  refine lv_bipush (v := 29) hx hb dX9_whyNot_119 (by decide) ?_
  refine lv_icmp_ne (tgt := 140) hx hb dX9_whyNot_121 (by decide) (fun _ => ?_) (fun c_ => absurd c_ (by decide))
  refine lv_iload_n hx hb dX9_whyNot_140 rfl (lv_at hl 1 rfl) ?_
  refine lv_bipush (v := 31) hx hb dX9_whyNot_141 (by decide) ?_
  refine lv_icmp_ne (tgt := 197) hx hb dX9_whyNot_143 (by decide) (fun _ => ?_) (fun c_ => absurd c_ (by decide))
  refine lv_iload_n hx hb dX9_whyNot_197 rfl (lv_at hl 1 rfl) ?_
  refine lv_bipush (v := 32) hx hb dX9_whyNot_198 (by decide) ?_
  refine lv_icmp_ne (tgt := 272) hx hb dX9_whyNot_200 (by decide) (fun _ => ?_) (fun c_ => absurd c_ (by decide))
  refine lv_iload_n hx hb dX9_whyNot_272 rfl (lv_at hl 1 rfl) ?_
  refine lv_bipush (v := 33) hx hb dX9_whyNot_273 (by decide) ?_
  refine lv_icmp_ne (tgt := 294) hx hb dX9_whyNot_275 (by decide) (fun _ => ?_) (fun c_ => absurd c_ (by decide))
  refine lv_iload_n hx hb dX9_whyNot_294 rfl (lv_at hl 1 rfl) ?_
  refine lv_bipush (v := 38) hx hb dX9_whyNot_295 (by decide) ?_
  refine lv_icmp_lt (tgt := 306) hx hb dX9_whyNot_297 (by decide) (fun _ => ?_) (fun c_ => absurd (by decide) c_)
  refine lv_iconst (v := 0) hx hb dX9_whyNot_306 (by decide) ?_
  exact r_iret hC hr hlk hw () rfl rfl (Nat.le_of_ble_eq_true rfl) (Nat.le_of_ble_eq_true rfl) dX9_whyNot_307

set_option maxHeartbeats 4000000 in
set_option maxRecDepth 100000 in
theorem c_X9_whyNot_31 (l : Launch) {D : va_G} {q : Nat → ClassId} {ad : Nat → Nat} {κ : KS} {t : Nat → Int32} (sz : Nat) (hs : okStep 31 (t 0) (t 1) (t 2)) (hW : WFm κ) : Met l yX9_whyNot wsX9_whyNot (rmz 5 110) (va_Pc [.ref (ad 0), .int 31] (rPre D q (wM q ad κ t) sz)) (va_Qi (fun (r : Int32) (u : Unit) => r = why κ 31 (t 0) (t 1) (t 2)) (fun (u : Unit) tt => rPo D (rA (wM q ad κ t) sz) (wM q ad κ t) tt) (rA (wM q ad κ t) sz)) 0 0 (rA (wM q ad κ t) sz) := by
  have hi0 : vp_in (t 0) 8 := hs.1
  have hi1 : vp_in (t 1) 10 := hs.2.1
  have hi2 : vp_in (t 2) 8 := hs.2.2
  refine r_start (cc := cX9_whyNot) (maxL := 4) (ret := (some .int)) (by decide) rfl (Nat.le_of_ble_eq_true rfl) ?_
  intro p e s m below meth c ls hC hr hlk hnm hsz hw hl
  have hx := hC.1
  have hb := hC.2.1
  have hl : lv_has ls 4 [(0, .ref (ad 0)), (1, .int 31)] := hl
  refine lv_iload_n hx hb dX9_whyNot_0 rfl (lv_at hl 1 rfl) ?_
  refine lv_bipush (v := 7) hx hb dX9_whyNot_1 (by decide) ?_
  refine lv_icmp_eq (tgt := 12) hx hb dX9_whyNot_3 (by decide) (fun c_ => absurd c_ (by decide)) (fun _ => ?_)
  refine lv_iload_n hx hb dX9_whyNot_6 rfl (lv_at hl 1 rfl) ?_
  refine lv_bipush (v := 8) hx hb dX9_whyNot_7 (by decide) ?_
  refine lv_icmp_ne (tgt := 31) hx hb dX9_whyNot_9 (by decide) (fun _ => ?_) (fun c_ => absurd c_ (by decide))
  refine lv_iload_n hx hb dX9_whyNot_31 rfl (lv_at hl 1 rfl) ?_
  refine lv_bipush (v := 11) hx hb dX9_whyNot_32 (by decide) ?_
  refine lv_icmp_eq (tgt := 43) hx hb dX9_whyNot_34 (by decide) (fun c_ => absurd c_ (by decide)) (fun _ => ?_)
  refine lv_iload_n hx hb dX9_whyNot_37 rfl (lv_at hl 1 rfl) ?_
  refine lv_bipush (v := 12) hx hb dX9_whyNot_38 (by decide) ?_
  refine lv_icmp_ne (tgt := 64) hx hb dX9_whyNot_40 (by decide) (fun _ => ?_) (fun c_ => absurd c_ (by decide))
  refine lv_iload_n hx hb dX9_whyNot_64 rfl (lv_at hl 1 rfl) ?_
  refine lv_bipush (v := 23) hx hb dX9_whyNot_65 (by decide) ?_
  refine lv_icmp_ne (tgt := 91) hx hb dX9_whyNot_67 (by decide) (fun _ => ?_) (fun c_ => absurd c_ (by decide))
  refine lv_iload_n hx hb dX9_whyNot_91 rfl (lv_at hl 1 rfl) ?_
  refine lv_bipush (v := 24) hx hb dX9_whyNot_92 (by decide) ?_
  refine lv_icmp_ne (tgt := 118) hx hb dX9_whyNot_94 (by decide) (fun _ => ?_) (fun c_ => absurd c_ (by decide))
  refine lv_iload_n hx hb dX9_whyNot_118 rfl (lv_at hl 1 rfl) ?_
  refine lv_bipush (v := 29) hx hb dX9_whyNot_119 (by decide) ?_
  refine lv_icmp_ne (tgt := 140) hx hb dX9_whyNot_121 (by decide) (fun _ => ?_) (fun c_ => absurd c_ (by decide))
  refine lv_iload_n hx hb dX9_whyNot_140 rfl (lv_at hl 1 rfl) ?_
  refine lv_bipush (v := 31) hx hb dX9_whyNot_141 (by decide) ?_
  refine lv_icmp_ne (tgt := 197) hx hb dX9_whyNot_143 (by decide) (fun c_ => absurd (by decide) c_) (fun _ => ?_)
  refine lv_aload_n hx hb dX9_whyNot_146 rfl (lv_at hl 0 rfl) ?_
  refine r_get hC hw rk9 in_X9_whyNot_9 0 (wMl 0 (by decide)) wM0 4 (by decide) lk_X9_whyNot_16 (v := .ref (ad 3)) rfl dX9_whyNot_147 ?_
  refine lv_aload_n hx hb dX9_whyNot_150 rfl (lv_at hl 0 rfl) ?_
  refine r_get hC hw rk9 in_X9_whyNot_9 0 (wMl 0 (by decide)) wM0 32 (by decide) lk_X9_whyNot_123 (v := .int (t 2)) rfl dX9_whyNot_151 ?_
  refine r_iald hC hw 3 (wMl 3 (by decide)) wM3 (by assumption) dX9_whyNot_154 ?_
  refine lv_bipush (v := 12) hx hb dX9_whyNot_155 (by decide) ?_
  refine lv_icmp_le (tgt := 165) hx hb dX9_whyNot_157 (by decide) (fun c_1 => ?_) (fun c_1 => ?_)
  · refine lv_aload_n hx hb dX9_whyNot_165 rfl (lv_at hl 0 rfl) ?_
    refine r_get hC hw rk9 in_X9_whyNot_9 0 (wMl 0 (by decide)) wM0 4 (by decide) lk_X9_whyNot_16 (v := .ref (ad 3)) rfl dX9_whyNot_166 ?_
    refine lv_aload_n hx hb dX9_whyNot_169 rfl (lv_at hl 0 rfl) ?_
    refine r_get hC hw rk9 in_X9_whyNot_9 0 (wMl 0 (by decide)) wM0 32 (by decide) lk_X9_whyNot_123 (v := .int (t 2)) rfl dX9_whyNot_170 ?_
    refine r_iald hC hw 3 (wMl 3 (by decide)) wM3 (by assumption) dX9_whyNot_173 ?_
    refine lv_if_ge (tgt := 181) hx hb dX9_whyNot_174 (by decide) (fun c_2 => ?_) (fun c_2 => ?_)
    · refine lv_aload_n hx hb dX9_whyNot_181 rfl (lv_at hl 0 rfl) ?_
      refine r_get hC hw rk9 in_X9_whyNot_9 0 (wMl 0 (by decide)) wM0 17 (by decide) lk_X9_whyNot_89 (v := .int (sI κ 2)) rfl dX9_whyNot_182 ?_
      refine lv_bipush (v := 60) hx hb dX9_whyNot_185 (by decide) ?_
      refine lv_icmp_ne (tgt := 195) hx hb dX9_whyNot_187 (by decide) (fun c_3 => ?_) (fun c_3 => ?_)
      · refine lv_iconst (v := 0) hx hb dX9_whyNot_195 (by decide) ?_
        exact r_iret hC hr hlk hw () rfl ((if_pos c_1).trans ((if_pos c_2).trans (if_neg c_3))).symm (Nat.le_of_ble_eq_true rfl) (Nat.le_of_ble_eq_true rfl) dX9_whyNot_196
      · refine lv_bipush (v := 7) hx hb dX9_whyNot_190 (by decide) ?_
        refine lv_goto (tgt := 196) hx hb dX9_whyNot_192 (by decide) ?_
        exact r_iret hC hr hlk hw () rfl ((if_pos c_1).trans ((if_pos c_2).trans (if_pos c_3))).symm (Nat.le_of_ble_eq_true rfl) (Nat.le_of_ble_eq_true rfl) dX9_whyNot_196
    · refine lv_iconst (v := 3) hx hb dX9_whyNot_177 (by decide) ?_
      refine lv_goto (tgt := 196) hx hb dX9_whyNot_178 (by decide) ?_
      exact r_iret hC hr hlk hw () rfl ((if_pos c_1).trans (if_neg c_2)).symm (Nat.le_of_ble_eq_true rfl) (Nat.le_of_ble_eq_true rfl) dX9_whyNot_196
  · refine lv_bipush (v := 7) hx hb dX9_whyNot_160 (by decide) ?_
    refine lv_goto (tgt := 196) hx hb dX9_whyNot_162 (by decide) ?_
    exact r_iret hC hr hlk hw () rfl (if_neg c_1).symm (Nat.le_of_ble_eq_true rfl) (Nat.le_of_ble_eq_true rfl) dX9_whyNot_196

set_option maxHeartbeats 4000000 in
set_option maxRecDepth 100000 in
theorem c_X9_whyNot_32 (l : Launch) {D : va_G} {q : Nat → ClassId} {ad : Nat → Nat} {κ : KS} {t : Nat → Int32} (sz : Nat) (hs : okStep 32 (t 0) (t 1) (t 2)) (hW : WFm κ) : Met l yX9_whyNot wsX9_whyNot (rmz 5 110) (va_Pc [.ref (ad 0), .int 32] (rPre D q (wM q ad κ t) sz)) (va_Qi (fun (r : Int32) (u : Unit) => r = why κ 32 (t 0) (t 1) (t 2)) (fun (u : Unit) tt => rPo D (rA (wM q ad κ t) sz) (wM q ad κ t) tt) (rA (wM q ad κ t) sz)) 0 0 (rA (wM q ad κ t) sz) := by
  have hi0 : vp_in (t 0) 8 := hs.1
  have hi1 : vp_in (t 1) 8 := hs.2.1
  have hi2 : vp_in (t 2) 8 := hs.2.2
  refine r_start (cc := cX9_whyNot) (maxL := 4) (ret := (some .int)) (by decide) rfl (Nat.le_of_ble_eq_true rfl) ?_
  intro p e s m below meth c ls hC hr hlk hnm hsz hw hl
  have hx := hC.1
  have hb := hC.2.1
  have hl : lv_has ls 4 [(0, .ref (ad 0)), (1, .int 32)] := hl
  refine lv_iload_n hx hb dX9_whyNot_0 rfl (lv_at hl 1 rfl) ?_
  refine lv_bipush (v := 7) hx hb dX9_whyNot_1 (by decide) ?_
  refine lv_icmp_eq (tgt := 12) hx hb dX9_whyNot_3 (by decide) (fun c_ => absurd c_ (by decide)) (fun _ => ?_)
  refine lv_iload_n hx hb dX9_whyNot_6 rfl (lv_at hl 1 rfl) ?_
  refine lv_bipush (v := 8) hx hb dX9_whyNot_7 (by decide) ?_
  refine lv_icmp_ne (tgt := 31) hx hb dX9_whyNot_9 (by decide) (fun _ => ?_) (fun c_ => absurd c_ (by decide))
  refine lv_iload_n hx hb dX9_whyNot_31 rfl (lv_at hl 1 rfl) ?_
  refine lv_bipush (v := 11) hx hb dX9_whyNot_32 (by decide) ?_
  refine lv_icmp_eq (tgt := 43) hx hb dX9_whyNot_34 (by decide) (fun c_ => absurd c_ (by decide)) (fun _ => ?_)
  refine lv_iload_n hx hb dX9_whyNot_37 rfl (lv_at hl 1 rfl) ?_
  refine lv_bipush (v := 12) hx hb dX9_whyNot_38 (by decide) ?_
  refine lv_icmp_ne (tgt := 64) hx hb dX9_whyNot_40 (by decide) (fun _ => ?_) (fun c_ => absurd c_ (by decide))
  refine lv_iload_n hx hb dX9_whyNot_64 rfl (lv_at hl 1 rfl) ?_
  refine lv_bipush (v := 23) hx hb dX9_whyNot_65 (by decide) ?_
  refine lv_icmp_ne (tgt := 91) hx hb dX9_whyNot_67 (by decide) (fun _ => ?_) (fun c_ => absurd c_ (by decide))
  refine lv_iload_n hx hb dX9_whyNot_91 rfl (lv_at hl 1 rfl) ?_
  refine lv_bipush (v := 24) hx hb dX9_whyNot_92 (by decide) ?_
  refine lv_icmp_ne (tgt := 118) hx hb dX9_whyNot_94 (by decide) (fun _ => ?_) (fun c_ => absurd c_ (by decide))
  refine lv_iload_n hx hb dX9_whyNot_118 rfl (lv_at hl 1 rfl) ?_
  refine lv_bipush (v := 29) hx hb dX9_whyNot_119 (by decide) ?_
  refine lv_icmp_ne (tgt := 140) hx hb dX9_whyNot_121 (by decide) (fun _ => ?_) (fun c_ => absurd c_ (by decide))
  refine lv_iload_n hx hb dX9_whyNot_140 rfl (lv_at hl 1 rfl) ?_
  refine lv_bipush (v := 31) hx hb dX9_whyNot_141 (by decide) ?_
  refine lv_icmp_ne (tgt := 197) hx hb dX9_whyNot_143 (by decide) (fun _ => ?_) (fun c_ => absurd c_ (by decide))
  refine lv_iload_n hx hb dX9_whyNot_197 rfl (lv_at hl 1 rfl) ?_
  refine lv_bipush (v := 32) hx hb dX9_whyNot_198 (by decide) ?_
  refine lv_icmp_ne (tgt := 272) hx hb dX9_whyNot_200 (by decide) (fun c_ => absurd (by decide) c_) (fun _ => ?_)
  refine lv_aload_n hx hb dX9_whyNot_203 rfl (lv_at hl 0 rfl) ?_
  refine r_get hC hw rk9 in_X9_whyNot_9 0 (wMl 0 (by decide)) wM0 4 (by decide) lk_X9_whyNot_16 (v := .ref (ad 3)) rfl dX9_whyNot_204 ?_
  refine lv_aload_n hx hb dX9_whyNot_207 rfl (lv_at hl 0 rfl) ?_
  refine r_get hC hw rk9 in_X9_whyNot_9 0 (wMl 0 (by decide)) wM0 31 (by decide) lk_X9_whyNot_126 (v := .int (t 1)) rfl dX9_whyNot_208 ?_
  refine r_iald hC hw 3 (wMl 3 (by decide)) wM3 (by assumption) dX9_whyNot_211 ?_
  refine lv_istore_n (lv' := [(2, .int (sA κ 2 (aN (t 1)))), (0, .ref (ad 0)), (1, .int 32)]) hx hb dX9_whyNot_212 rfl hl (by decide) rfl (fun ls hl => ?_)
  refine lv_aload_n hx hb dX9_whyNot_213 rfl (lv_at hl 1 rfl) ?_
  refine r_get hC hw rk9 in_X9_whyNot_9 0 (wMl 0 (by decide)) wM0 4 (by decide) lk_X9_whyNot_16 (v := .ref (ad 3)) rfl dX9_whyNot_214 ?_
  refine lv_aload_n hx hb dX9_whyNot_217 rfl (lv_at hl 1 rfl) ?_
  refine r_get hC hw rk9 in_X9_whyNot_9 0 (wMl 0 (by decide)) wM0 32 (by decide) lk_X9_whyNot_123 (v := .int (t 2)) rfl dX9_whyNot_218 ?_
  refine r_iald hC hw 3 (wMl 3 (by decide)) wM3 (by assumption) dX9_whyNot_221 ?_
  refine lv_istore_n (lv' := [(3, .int (sA κ 2 (aN (t 2)))), (2, .int (sA κ 2 (aN (t 1)))), (0, .ref (ad 0)), (1, .int 32)]) hx hb dX9_whyNot_222 rfl hl (by decide) rfl (fun ls hl => ?_)
  refine lv_iload_n hx hb dX9_whyNot_223 rfl (lv_at hl 1 rfl) ?_
  refine lv_bipush (v := 6) hx hb dX9_whyNot_224 (by decide) ?_
  refine lv_icmp_gt (tgt := 235) hx hb dX9_whyNot_226 (by decide) (fun c_1 => ?_) (fun c_1 => ?_)
  · refine lv_bipush (v := 7) hx hb dX9_whyNot_235 (by decide) ?_
    refine lv_goto (tgt := 271) hx hb dX9_whyNot_237 (by decide) ?_
    exact r_iret hC hr hlk hw () rfl (if_neg (Int32.not_le.mpr c_1)).symm (Nat.le_of_ble_eq_true rfl) (Nat.le_of_ble_eq_true rfl) dX9_whyNot_271
  · refine lv_iload_n hx hb dX9_whyNot_229 rfl (lv_at hl 0 rfl) ?_
    refine lv_bipush (v := 6) hx hb dX9_whyNot_230 (by decide) ?_
    refine lv_icmp_le (tgt := 240) hx hb dX9_whyNot_232 (by decide) (fun c_2 => ?_) (fun c_2 => ?_)
    · refine lv_iload_n hx hb dX9_whyNot_240 rfl (lv_at hl 1 rfl) ?_
      refine lv_if_lt (tgt := 248) hx hb dX9_whyNot_241 (by decide) (fun c_3 => ?_) (fun c_3 => ?_)
      · refine lv_iconst (v := 3) hx hb dX9_whyNot_248 (by decide) ?_
        refine lv_goto (tgt := 271) hx hb dX9_whyNot_249 (by decide) ?_
        exact r_iret hC hr hlk hw () rfl ((if_pos (Int32.not_lt.mp c_1)).trans ((if_pos c_2).trans (if_neg (Int32.not_le.mpr c_3)))).symm (Nat.le_of_ble_eq_true rfl) (Nat.le_of_ble_eq_true rfl) dX9_whyNot_271
      · refine lv_iload_n hx hb dX9_whyNot_244 rfl (lv_at hl 0 rfl) ?_
        refine lv_if_ge (tgt := 252) hx hb dX9_whyNot_245 (by decide) (fun c_4 => ?_) (fun c_4 => ?_)
        · refine lv_aload_n hx hb dX9_whyNot_252 rfl (lv_at hl 2 rfl) ?_
          refine r_get hC hw rk9 in_X9_whyNot_9 0 (wMl 0 (by decide)) wM0 17 (by decide) lk_X9_whyNot_89 (v := .int (sI κ 2)) rfl dX9_whyNot_253 ?_
          refine lv_iconst (v := 1) hx hb dX9_whyNot_256 (by decide) ?_
          refine lv_iadd hx hb dX9_whyNot_257 ?_
          refine lv_iload_n hx hb dX9_whyNot_258 rfl (lv_at hl 1 rfl) ?_
          refine lv_iadd hx hb dX9_whyNot_259 ?_
          refine lv_bipush (v := 60) hx hb dX9_whyNot_260 (by decide) ?_
          refine lv_icmp_le (tgt := 270) hx hb dX9_whyNot_262 (by decide) (fun c_5 => ?_) (fun c_5 => ?_)
          · refine lv_iconst (v := 0) hx hb dX9_whyNot_270 (by decide) ?_
            exact r_iret hC hr hlk hw () rfl ((if_pos (Int32.not_lt.mp c_1)).trans ((if_pos c_2).trans ((if_pos (Int32.not_lt.mp c_3)).trans ((if_pos c_4).trans (if_pos c_5))))).symm (Nat.le_of_ble_eq_true rfl) (Nat.le_of_ble_eq_true rfl) dX9_whyNot_271
          · refine lv_bipush (v := 7) hx hb dX9_whyNot_265 (by decide) ?_
            refine lv_goto (tgt := 271) hx hb dX9_whyNot_267 (by decide) ?_
            exact r_iret hC hr hlk hw () rfl ((if_pos (Int32.not_lt.mp c_1)).trans ((if_pos c_2).trans ((if_pos (Int32.not_lt.mp c_3)).trans ((if_pos c_4).trans (if_neg c_5))))).symm (Nat.le_of_ble_eq_true rfl) (Nat.le_of_ble_eq_true rfl) dX9_whyNot_271
        · refine lv_iconst (v := 3) hx hb dX9_whyNot_248 (by decide) ?_
          refine lv_goto (tgt := 271) hx hb dX9_whyNot_249 (by decide) ?_
          exact r_iret hC hr hlk hw () rfl ((if_pos (Int32.not_lt.mp c_1)).trans ((if_pos c_2).trans ((if_pos (Int32.not_lt.mp c_3)).trans (if_neg c_4)))).symm (Nat.le_of_ble_eq_true rfl) (Nat.le_of_ble_eq_true rfl) dX9_whyNot_271
    · refine lv_bipush (v := 7) hx hb dX9_whyNot_235 (by decide) ?_
      refine lv_goto (tgt := 271) hx hb dX9_whyNot_237 (by decide) ?_
      exact r_iret hC hr hlk hw () rfl ((if_pos (Int32.not_lt.mp c_1)).trans (if_neg c_2)).symm (Nat.le_of_ble_eq_true rfl) (Nat.le_of_ble_eq_true rfl) dX9_whyNot_271

set_option maxHeartbeats 4000000 in
set_option maxRecDepth 100000 in
theorem c_X9_whyNot_33 (l : Launch) {D : va_G} {q : Nat → ClassId} {ad : Nat → Nat} {κ : KS} {t : Nat → Int32} (sz : Nat) (hs : okStep 33 (t 0) (t 1) (t 2)) (hW : WFm κ) : Met l yX9_whyNot wsX9_whyNot (rmz 5 110) (va_Pc [.ref (ad 0), .int 33] (rPre D q (wM q ad κ t) sz)) (va_Qi (fun (r : Int32) (u : Unit) => r = why κ 33 (t 0) (t 1) (t 2)) (fun (u : Unit) tt => rPo D (rA (wM q ad κ t) sz) (wM q ad κ t) tt) (rA (wM q ad κ t) sz)) 0 0 (rA (wM q ad κ t) sz) := by
  have hi0 : vp_in (t 0) 8 := hs.1
  have hi1 : vp_in (t 1 - 11) 4 := hs.2.1
  have hi2 : vp_in (t 2) 8 := hs.2.2
  refine r_start (cc := cX9_whyNot) (maxL := 4) (ret := (some .int)) (by decide) rfl (Nat.le_of_ble_eq_true rfl) ?_
  intro p e s m below meth c ls hC hr hlk hnm hsz hw hl
  have hx := hC.1
  have hb := hC.2.1
  have hl : lv_has ls 4 [(0, .ref (ad 0)), (1, .int 33)] := hl
  refine lv_iload_n hx hb dX9_whyNot_0 rfl (lv_at hl 1 rfl) ?_
  refine lv_bipush (v := 7) hx hb dX9_whyNot_1 (by decide) ?_
  refine lv_icmp_eq (tgt := 12) hx hb dX9_whyNot_3 (by decide) (fun c_ => absurd c_ (by decide)) (fun _ => ?_)
  refine lv_iload_n hx hb dX9_whyNot_6 rfl (lv_at hl 1 rfl) ?_
  refine lv_bipush (v := 8) hx hb dX9_whyNot_7 (by decide) ?_
  refine lv_icmp_ne (tgt := 31) hx hb dX9_whyNot_9 (by decide) (fun _ => ?_) (fun c_ => absurd c_ (by decide))
  refine lv_iload_n hx hb dX9_whyNot_31 rfl (lv_at hl 1 rfl) ?_
  refine lv_bipush (v := 11) hx hb dX9_whyNot_32 (by decide) ?_
  refine lv_icmp_eq (tgt := 43) hx hb dX9_whyNot_34 (by decide) (fun c_ => absurd c_ (by decide)) (fun _ => ?_)
  refine lv_iload_n hx hb dX9_whyNot_37 rfl (lv_at hl 1 rfl) ?_
  refine lv_bipush (v := 12) hx hb dX9_whyNot_38 (by decide) ?_
  refine lv_icmp_ne (tgt := 64) hx hb dX9_whyNot_40 (by decide) (fun _ => ?_) (fun c_ => absurd c_ (by decide))
  refine lv_iload_n hx hb dX9_whyNot_64 rfl (lv_at hl 1 rfl) ?_
  refine lv_bipush (v := 23) hx hb dX9_whyNot_65 (by decide) ?_
  refine lv_icmp_ne (tgt := 91) hx hb dX9_whyNot_67 (by decide) (fun _ => ?_) (fun c_ => absurd c_ (by decide))
  refine lv_iload_n hx hb dX9_whyNot_91 rfl (lv_at hl 1 rfl) ?_
  refine lv_bipush (v := 24) hx hb dX9_whyNot_92 (by decide) ?_
  refine lv_icmp_ne (tgt := 118) hx hb dX9_whyNot_94 (by decide) (fun _ => ?_) (fun c_ => absurd c_ (by decide))
  refine lv_iload_n hx hb dX9_whyNot_118 rfl (lv_at hl 1 rfl) ?_
  refine lv_bipush (v := 29) hx hb dX9_whyNot_119 (by decide) ?_
  refine lv_icmp_ne (tgt := 140) hx hb dX9_whyNot_121 (by decide) (fun _ => ?_) (fun c_ => absurd c_ (by decide))
  refine lv_iload_n hx hb dX9_whyNot_140 rfl (lv_at hl 1 rfl) ?_
  refine lv_bipush (v := 31) hx hb dX9_whyNot_141 (by decide) ?_
  refine lv_icmp_ne (tgt := 197) hx hb dX9_whyNot_143 (by decide) (fun _ => ?_) (fun c_ => absurd c_ (by decide))
  refine lv_iload_n hx hb dX9_whyNot_197 rfl (lv_at hl 1 rfl) ?_
  refine lv_bipush (v := 32) hx hb dX9_whyNot_198 (by decide) ?_
  refine lv_icmp_ne (tgt := 272) hx hb dX9_whyNot_200 (by decide) (fun _ => ?_) (fun c_ => absurd c_ (by decide))
  refine lv_iload_n hx hb dX9_whyNot_272 rfl (lv_at hl 1 rfl) ?_
  refine lv_bipush (v := 33) hx hb dX9_whyNot_273 (by decide) ?_
  refine lv_icmp_ne (tgt := 294) hx hb dX9_whyNot_275 (by decide) (fun c_ => absurd (by decide) c_) (fun _ => ?_)
  refine lv_aload_n hx hb dX9_whyNot_278 rfl (lv_at hl 0 rfl) ?_
  refine r_get hC hw rk9 in_X9_whyNot_9 0 (wMl 0 (by decide)) wM0 17 (by decide) lk_X9_whyNot_89 (v := .int (sI κ 2)) rfl dX9_whyNot_279 ?_
  refine lv_bipush (v := 60) hx hb dX9_whyNot_282 (by decide) ?_
  refine lv_icmp_ne (tgt := 292) hx hb dX9_whyNot_284 (by decide) (fun c_1 => ?_) (fun c_1 => ?_)
  · refine lv_iconst (v := 0) hx hb dX9_whyNot_292 (by decide) ?_
    exact r_iret hC hr hlk hw () rfl (if_neg c_1).symm (Nat.le_of_ble_eq_true rfl) (Nat.le_of_ble_eq_true rfl) dX9_whyNot_293
  · refine lv_bipush (v := 7) hx hb dX9_whyNot_287 (by decide) ?_
    refine lv_goto (tgt := 293) hx hb dX9_whyNot_289 (by decide) ?_
    exact r_iret hC hr hlk hw () rfl (if_pos c_1).symm (Nat.le_of_ble_eq_true rfl) (Nat.le_of_ble_eq_true rfl) dX9_whyNot_293

set_option maxHeartbeats 4000000 in
set_option maxRecDepth 100000 in
theorem c_X9_whyNot_34 (l : Launch) {D : va_G} {q : Nat → ClassId} {ad : Nat → Nat} {κ : KS} {t : Nat → Int32} (sz : Nat) (hs : okStep 34 (t 0) (t 1) (t 2)) (hW : WFm κ) : Met l yX9_whyNot wsX9_whyNot (rmz 5 110) (va_Pc [.ref (ad 0), .int 34] (rPre D q (wM q ad κ t) sz)) (va_Qi (fun (r : Int32) (u : Unit) => r = why κ 34 (t 0) (t 1) (t 2)) (fun (u : Unit) tt => rPo D (rA (wM q ad κ t) sz) (wM q ad κ t) tt) (rA (wM q ad κ t) sz)) 0 0 (rA (wM q ad κ t) sz) := by
  have hi0 : vp_in (t 0) 8 := hs.1
  have hi1 : vp_in (t 1) 8 := hs.2.1
  refine r_start (cc := cX9_whyNot) (maxL := 4) (ret := (some .int)) (by decide) rfl (Nat.le_of_ble_eq_true rfl) ?_
  intro p e s m below meth c ls hC hr hlk hnm hsz hw hl
  have hx := hC.1
  have hb := hC.2.1
  have hl : lv_has ls 4 [(0, .ref (ad 0)), (1, .int 34)] := hl
  refine lv_iload_n hx hb dX9_whyNot_0 rfl (lv_at hl 1 rfl) ?_
  refine lv_bipush (v := 7) hx hb dX9_whyNot_1 (by decide) ?_
  refine lv_icmp_eq (tgt := 12) hx hb dX9_whyNot_3 (by decide) (fun c_ => absurd c_ (by decide)) (fun _ => ?_)
  refine lv_iload_n hx hb dX9_whyNot_6 rfl (lv_at hl 1 rfl) ?_
  refine lv_bipush (v := 8) hx hb dX9_whyNot_7 (by decide) ?_
  refine lv_icmp_ne (tgt := 31) hx hb dX9_whyNot_9 (by decide) (fun _ => ?_) (fun c_ => absurd c_ (by decide))
  refine lv_iload_n hx hb dX9_whyNot_31 rfl (lv_at hl 1 rfl) ?_
  refine lv_bipush (v := 11) hx hb dX9_whyNot_32 (by decide) ?_
  refine lv_icmp_eq (tgt := 43) hx hb dX9_whyNot_34 (by decide) (fun c_ => absurd c_ (by decide)) (fun _ => ?_)
  refine lv_iload_n hx hb dX9_whyNot_37 rfl (lv_at hl 1 rfl) ?_
  refine lv_bipush (v := 12) hx hb dX9_whyNot_38 (by decide) ?_
  refine lv_icmp_ne (tgt := 64) hx hb dX9_whyNot_40 (by decide) (fun _ => ?_) (fun c_ => absurd c_ (by decide))
  refine lv_iload_n hx hb dX9_whyNot_64 rfl (lv_at hl 1 rfl) ?_
  refine lv_bipush (v := 23) hx hb dX9_whyNot_65 (by decide) ?_
  refine lv_icmp_ne (tgt := 91) hx hb dX9_whyNot_67 (by decide) (fun _ => ?_) (fun c_ => absurd c_ (by decide))
  refine lv_iload_n hx hb dX9_whyNot_91 rfl (lv_at hl 1 rfl) ?_
  refine lv_bipush (v := 24) hx hb dX9_whyNot_92 (by decide) ?_
  refine lv_icmp_ne (tgt := 118) hx hb dX9_whyNot_94 (by decide) (fun _ => ?_) (fun c_ => absurd c_ (by decide))
  refine lv_iload_n hx hb dX9_whyNot_118 rfl (lv_at hl 1 rfl) ?_
  refine lv_bipush (v := 29) hx hb dX9_whyNot_119 (by decide) ?_
  refine lv_icmp_ne (tgt := 140) hx hb dX9_whyNot_121 (by decide) (fun _ => ?_) (fun c_ => absurd c_ (by decide))
  refine lv_iload_n hx hb dX9_whyNot_140 rfl (lv_at hl 1 rfl) ?_
  refine lv_bipush (v := 31) hx hb dX9_whyNot_141 (by decide) ?_
  refine lv_icmp_ne (tgt := 197) hx hb dX9_whyNot_143 (by decide) (fun _ => ?_) (fun c_ => absurd c_ (by decide))
  refine lv_iload_n hx hb dX9_whyNot_197 rfl (lv_at hl 1 rfl) ?_
  refine lv_bipush (v := 32) hx hb dX9_whyNot_198 (by decide) ?_
  refine lv_icmp_ne (tgt := 272) hx hb dX9_whyNot_200 (by decide) (fun _ => ?_) (fun c_ => absurd c_ (by decide))
  refine lv_iload_n hx hb dX9_whyNot_272 rfl (lv_at hl 1 rfl) ?_
  refine lv_bipush (v := 33) hx hb dX9_whyNot_273 (by decide) ?_
  refine lv_icmp_ne (tgt := 294) hx hb dX9_whyNot_275 (by decide) (fun _ => ?_) (fun c_ => absurd c_ (by decide))
  refine lv_iload_n hx hb dX9_whyNot_294 rfl (lv_at hl 1 rfl) ?_
  refine lv_bipush (v := 38) hx hb dX9_whyNot_295 (by decide) ?_
  refine lv_icmp_lt (tgt := 306) hx hb dX9_whyNot_297 (by decide) (fun _ => ?_) (fun c_ => absurd (by decide) c_)
  refine lv_iconst (v := 0) hx hb dX9_whyNot_306 (by decide) ?_
  exact r_iret hC hr hlk hw () rfl rfl (Nat.le_of_ble_eq_true rfl) (Nat.le_of_ble_eq_true rfl) dX9_whyNot_307

set_option maxHeartbeats 4000000 in
set_option maxRecDepth 100000 in
theorem c_X9_whyNot_35 (l : Launch) {D : va_G} {q : Nat → ClassId} {ad : Nat → Nat} {κ : KS} {t : Nat → Int32} (sz : Nat) (hs : okStep 35 (t 0) (t 1) (t 2)) (hW : WFm κ) : Met l yX9_whyNot wsX9_whyNot (rmz 5 110) (va_Pc [.ref (ad 0), .int 35] (rPre D q (wM q ad κ t) sz)) (va_Qi (fun (r : Int32) (u : Unit) => r = why κ 35 (t 0) (t 1) (t 2)) (fun (u : Unit) tt => rPo D (rA (wM q ad κ t) sz) (wM q ad κ t) tt) (rA (wM q ad κ t) sz)) 0 0 (rA (wM q ad κ t) sz) := by
  have hi0 : vp_in (t 0) 8 := hs.1
  refine r_start (cc := cX9_whyNot) (maxL := 4) (ret := (some .int)) (by decide) rfl (Nat.le_of_ble_eq_true rfl) ?_
  intro p e s m below meth c ls hC hr hlk hnm hsz hw hl
  have hx := hC.1
  have hb := hC.2.1
  have hl : lv_has ls 4 [(0, .ref (ad 0)), (1, .int 35)] := hl
  refine lv_iload_n hx hb dX9_whyNot_0 rfl (lv_at hl 1 rfl) ?_
  refine lv_bipush (v := 7) hx hb dX9_whyNot_1 (by decide) ?_
  refine lv_icmp_eq (tgt := 12) hx hb dX9_whyNot_3 (by decide) (fun c_ => absurd c_ (by decide)) (fun _ => ?_)
  refine lv_iload_n hx hb dX9_whyNot_6 rfl (lv_at hl 1 rfl) ?_
  refine lv_bipush (v := 8) hx hb dX9_whyNot_7 (by decide) ?_
  refine lv_icmp_ne (tgt := 31) hx hb dX9_whyNot_9 (by decide) (fun _ => ?_) (fun c_ => absurd c_ (by decide))
  refine lv_iload_n hx hb dX9_whyNot_31 rfl (lv_at hl 1 rfl) ?_
  refine lv_bipush (v := 11) hx hb dX9_whyNot_32 (by decide) ?_
  refine lv_icmp_eq (tgt := 43) hx hb dX9_whyNot_34 (by decide) (fun c_ => absurd c_ (by decide)) (fun _ => ?_)
  refine lv_iload_n hx hb dX9_whyNot_37 rfl (lv_at hl 1 rfl) ?_
  refine lv_bipush (v := 12) hx hb dX9_whyNot_38 (by decide) ?_
  refine lv_icmp_ne (tgt := 64) hx hb dX9_whyNot_40 (by decide) (fun _ => ?_) (fun c_ => absurd c_ (by decide))
  refine lv_iload_n hx hb dX9_whyNot_64 rfl (lv_at hl 1 rfl) ?_
  refine lv_bipush (v := 23) hx hb dX9_whyNot_65 (by decide) ?_
  refine lv_icmp_ne (tgt := 91) hx hb dX9_whyNot_67 (by decide) (fun _ => ?_) (fun c_ => absurd c_ (by decide))
  refine lv_iload_n hx hb dX9_whyNot_91 rfl (lv_at hl 1 rfl) ?_
  refine lv_bipush (v := 24) hx hb dX9_whyNot_92 (by decide) ?_
  refine lv_icmp_ne (tgt := 118) hx hb dX9_whyNot_94 (by decide) (fun _ => ?_) (fun c_ => absurd c_ (by decide))
  refine lv_iload_n hx hb dX9_whyNot_118 rfl (lv_at hl 1 rfl) ?_
  refine lv_bipush (v := 29) hx hb dX9_whyNot_119 (by decide) ?_
  refine lv_icmp_ne (tgt := 140) hx hb dX9_whyNot_121 (by decide) (fun _ => ?_) (fun c_ => absurd c_ (by decide))
  refine lv_iload_n hx hb dX9_whyNot_140 rfl (lv_at hl 1 rfl) ?_
  refine lv_bipush (v := 31) hx hb dX9_whyNot_141 (by decide) ?_
  refine lv_icmp_ne (tgt := 197) hx hb dX9_whyNot_143 (by decide) (fun _ => ?_) (fun c_ => absurd c_ (by decide))
  refine lv_iload_n hx hb dX9_whyNot_197 rfl (lv_at hl 1 rfl) ?_
  refine lv_bipush (v := 32) hx hb dX9_whyNot_198 (by decide) ?_
  refine lv_icmp_ne (tgt := 272) hx hb dX9_whyNot_200 (by decide) (fun _ => ?_) (fun c_ => absurd c_ (by decide))
  refine lv_iload_n hx hb dX9_whyNot_272 rfl (lv_at hl 1 rfl) ?_
  refine lv_bipush (v := 33) hx hb dX9_whyNot_273 (by decide) ?_
  refine lv_icmp_ne (tgt := 294) hx hb dX9_whyNot_275 (by decide) (fun _ => ?_) (fun c_ => absurd c_ (by decide))
  refine lv_iload_n hx hb dX9_whyNot_294 rfl (lv_at hl 1 rfl) ?_
  refine lv_bipush (v := 38) hx hb dX9_whyNot_295 (by decide) ?_
  refine lv_icmp_lt (tgt := 306) hx hb dX9_whyNot_297 (by decide) (fun _ => ?_) (fun c_ => absurd (by decide) c_)
  refine lv_iconst (v := 0) hx hb dX9_whyNot_306 (by decide) ?_
  exact r_iret hC hr hlk hw () rfl rfl (Nat.le_of_ble_eq_true rfl) (Nat.le_of_ble_eq_true rfl) dX9_whyNot_307

set_option maxHeartbeats 4000000 in
set_option maxRecDepth 100000 in
theorem c_X9_whyNot_36 (l : Launch) {D : va_G} {q : Nat → ClassId} {ad : Nat → Nat} {κ : KS} {t : Nat → Int32} (sz : Nat) (hs : okStep 36 (t 0) (t 1) (t 2)) (hW : WFm κ) : Met l yX9_whyNot wsX9_whyNot (rmz 5 110) (va_Pc [.ref (ad 0), .int 36] (rPre D q (wM q ad κ t) sz)) (va_Qi (fun (r : Int32) (u : Unit) => r = why κ 36 (t 0) (t 1) (t 2)) (fun (u : Unit) tt => rPo D (rA (wM q ad κ t) sz) (wM q ad κ t) tt) (rA (wM q ad κ t) sz)) 0 0 (rA (wM q ad κ t) sz) := by
  have hi0 : vp_in (t 0) 8 := hs.1
  have hi1 : vp_in (t 1) 8 := hs.2.1
  have hi2 : vp_in (t 2) 8 := hs.2.2
  refine r_start (cc := cX9_whyNot) (maxL := 4) (ret := (some .int)) (by decide) rfl (Nat.le_of_ble_eq_true rfl) ?_
  intro p e s m below meth c ls hC hr hlk hnm hsz hw hl
  have hx := hC.1
  have hb := hC.2.1
  have hl : lv_has ls 4 [(0, .ref (ad 0)), (1, .int 36)] := hl
  refine lv_iload_n hx hb dX9_whyNot_0 rfl (lv_at hl 1 rfl) ?_
  refine lv_bipush (v := 7) hx hb dX9_whyNot_1 (by decide) ?_
  refine lv_icmp_eq (tgt := 12) hx hb dX9_whyNot_3 (by decide) (fun c_ => absurd c_ (by decide)) (fun _ => ?_)
  refine lv_iload_n hx hb dX9_whyNot_6 rfl (lv_at hl 1 rfl) ?_
  refine lv_bipush (v := 8) hx hb dX9_whyNot_7 (by decide) ?_
  refine lv_icmp_ne (tgt := 31) hx hb dX9_whyNot_9 (by decide) (fun _ => ?_) (fun c_ => absurd c_ (by decide))
  refine lv_iload_n hx hb dX9_whyNot_31 rfl (lv_at hl 1 rfl) ?_
  refine lv_bipush (v := 11) hx hb dX9_whyNot_32 (by decide) ?_
  refine lv_icmp_eq (tgt := 43) hx hb dX9_whyNot_34 (by decide) (fun c_ => absurd c_ (by decide)) (fun _ => ?_)
  refine lv_iload_n hx hb dX9_whyNot_37 rfl (lv_at hl 1 rfl) ?_
  refine lv_bipush (v := 12) hx hb dX9_whyNot_38 (by decide) ?_
  refine lv_icmp_ne (tgt := 64) hx hb dX9_whyNot_40 (by decide) (fun _ => ?_) (fun c_ => absurd c_ (by decide))
  refine lv_iload_n hx hb dX9_whyNot_64 rfl (lv_at hl 1 rfl) ?_
  refine lv_bipush (v := 23) hx hb dX9_whyNot_65 (by decide) ?_
  refine lv_icmp_ne (tgt := 91) hx hb dX9_whyNot_67 (by decide) (fun _ => ?_) (fun c_ => absurd c_ (by decide))
  refine lv_iload_n hx hb dX9_whyNot_91 rfl (lv_at hl 1 rfl) ?_
  refine lv_bipush (v := 24) hx hb dX9_whyNot_92 (by decide) ?_
  refine lv_icmp_ne (tgt := 118) hx hb dX9_whyNot_94 (by decide) (fun _ => ?_) (fun c_ => absurd c_ (by decide))
  refine lv_iload_n hx hb dX9_whyNot_118 rfl (lv_at hl 1 rfl) ?_
  refine lv_bipush (v := 29) hx hb dX9_whyNot_119 (by decide) ?_
  refine lv_icmp_ne (tgt := 140) hx hb dX9_whyNot_121 (by decide) (fun _ => ?_) (fun c_ => absurd c_ (by decide))
  refine lv_iload_n hx hb dX9_whyNot_140 rfl (lv_at hl 1 rfl) ?_
  refine lv_bipush (v := 31) hx hb dX9_whyNot_141 (by decide) ?_
  refine lv_icmp_ne (tgt := 197) hx hb dX9_whyNot_143 (by decide) (fun _ => ?_) (fun c_ => absurd c_ (by decide))
  refine lv_iload_n hx hb dX9_whyNot_197 rfl (lv_at hl 1 rfl) ?_
  refine lv_bipush (v := 32) hx hb dX9_whyNot_198 (by decide) ?_
  refine lv_icmp_ne (tgt := 272) hx hb dX9_whyNot_200 (by decide) (fun _ => ?_) (fun c_ => absurd c_ (by decide))
  refine lv_iload_n hx hb dX9_whyNot_272 rfl (lv_at hl 1 rfl) ?_
  refine lv_bipush (v := 33) hx hb dX9_whyNot_273 (by decide) ?_
  refine lv_icmp_ne (tgt := 294) hx hb dX9_whyNot_275 (by decide) (fun _ => ?_) (fun c_ => absurd c_ (by decide))
  refine lv_iload_n hx hb dX9_whyNot_294 rfl (lv_at hl 1 rfl) ?_
  refine lv_bipush (v := 38) hx hb dX9_whyNot_295 (by decide) ?_
  refine lv_icmp_lt (tgt := 306) hx hb dX9_whyNot_297 (by decide) (fun _ => ?_) (fun c_ => absurd (by decide) c_)
  refine lv_iconst (v := 0) hx hb dX9_whyNot_306 (by decide) ?_
  exact r_iret hC hr hlk hw () rfl rfl (Nat.le_of_ble_eq_true rfl) (Nat.le_of_ble_eq_true rfl) dX9_whyNot_307

set_option maxHeartbeats 4000000 in
set_option maxRecDepth 100000 in
theorem c_X9_whyNot_37 (l : Launch) {D : va_G} {q : Nat → ClassId} {ad : Nat → Nat} {κ : KS} {t : Nat → Int32} (sz : Nat) (hs : okStep 37 (t 0) (t 1) (t 2)) (hW : WFm κ) : Met l yX9_whyNot wsX9_whyNot (rmz 5 110) (va_Pc [.ref (ad 0), .int 37] (rPre D q (wM q ad κ t) sz)) (va_Qi (fun (r : Int32) (u : Unit) => r = why κ 37 (t 0) (t 1) (t 2)) (fun (u : Unit) tt => rPo D (rA (wM q ad κ t) sz) (wM q ad κ t) tt) (rA (wM q ad κ t) sz)) 0 0 (rA (wM q ad κ t) sz) := by
  have hi0 : vp_in (t 0) 8 := hs.1
  have hi1 : vp_in (t 1) 8 := hs.2.1
  have hi2 : vp_in (t 2) 17 := hs.2.2
  refine r_start (cc := cX9_whyNot) (maxL := 4) (ret := (some .int)) (by decide) rfl (Nat.le_of_ble_eq_true rfl) ?_
  intro p e s m below meth c ls hC hr hlk hnm hsz hw hl
  have hx := hC.1
  have hb := hC.2.1
  have hl : lv_has ls 4 [(0, .ref (ad 0)), (1, .int 37)] := hl
  refine lv_iload_n hx hb dX9_whyNot_0 rfl (lv_at hl 1 rfl) ?_
  refine lv_bipush (v := 7) hx hb dX9_whyNot_1 (by decide) ?_
  refine lv_icmp_eq (tgt := 12) hx hb dX9_whyNot_3 (by decide) (fun c_ => absurd c_ (by decide)) (fun _ => ?_)
  refine lv_iload_n hx hb dX9_whyNot_6 rfl (lv_at hl 1 rfl) ?_
  refine lv_bipush (v := 8) hx hb dX9_whyNot_7 (by decide) ?_
  refine lv_icmp_ne (tgt := 31) hx hb dX9_whyNot_9 (by decide) (fun _ => ?_) (fun c_ => absurd c_ (by decide))
  refine lv_iload_n hx hb dX9_whyNot_31 rfl (lv_at hl 1 rfl) ?_
  refine lv_bipush (v := 11) hx hb dX9_whyNot_32 (by decide) ?_
  refine lv_icmp_eq (tgt := 43) hx hb dX9_whyNot_34 (by decide) (fun c_ => absurd c_ (by decide)) (fun _ => ?_)
  refine lv_iload_n hx hb dX9_whyNot_37 rfl (lv_at hl 1 rfl) ?_
  refine lv_bipush (v := 12) hx hb dX9_whyNot_38 (by decide) ?_
  refine lv_icmp_ne (tgt := 64) hx hb dX9_whyNot_40 (by decide) (fun _ => ?_) (fun c_ => absurd c_ (by decide))
  refine lv_iload_n hx hb dX9_whyNot_64 rfl (lv_at hl 1 rfl) ?_
  refine lv_bipush (v := 23) hx hb dX9_whyNot_65 (by decide) ?_
  refine lv_icmp_ne (tgt := 91) hx hb dX9_whyNot_67 (by decide) (fun _ => ?_) (fun c_ => absurd c_ (by decide))
  refine lv_iload_n hx hb dX9_whyNot_91 rfl (lv_at hl 1 rfl) ?_
  refine lv_bipush (v := 24) hx hb dX9_whyNot_92 (by decide) ?_
  refine lv_icmp_ne (tgt := 118) hx hb dX9_whyNot_94 (by decide) (fun _ => ?_) (fun c_ => absurd c_ (by decide))
  refine lv_iload_n hx hb dX9_whyNot_118 rfl (lv_at hl 1 rfl) ?_
  refine lv_bipush (v := 29) hx hb dX9_whyNot_119 (by decide) ?_
  refine lv_icmp_ne (tgt := 140) hx hb dX9_whyNot_121 (by decide) (fun _ => ?_) (fun c_ => absurd c_ (by decide))
  refine lv_iload_n hx hb dX9_whyNot_140 rfl (lv_at hl 1 rfl) ?_
  refine lv_bipush (v := 31) hx hb dX9_whyNot_141 (by decide) ?_
  refine lv_icmp_ne (tgt := 197) hx hb dX9_whyNot_143 (by decide) (fun _ => ?_) (fun c_ => absurd c_ (by decide))
  refine lv_iload_n hx hb dX9_whyNot_197 rfl (lv_at hl 1 rfl) ?_
  refine lv_bipush (v := 32) hx hb dX9_whyNot_198 (by decide) ?_
  refine lv_icmp_ne (tgt := 272) hx hb dX9_whyNot_200 (by decide) (fun _ => ?_) (fun c_ => absurd c_ (by decide))
  refine lv_iload_n hx hb dX9_whyNot_272 rfl (lv_at hl 1 rfl) ?_
  refine lv_bipush (v := 33) hx hb dX9_whyNot_273 (by decide) ?_
  refine lv_icmp_ne (tgt := 294) hx hb dX9_whyNot_275 (by decide) (fun _ => ?_) (fun c_ => absurd c_ (by decide))
  refine lv_iload_n hx hb dX9_whyNot_294 rfl (lv_at hl 1 rfl) ?_
  refine lv_bipush (v := 38) hx hb dX9_whyNot_295 (by decide) ?_
  refine lv_icmp_lt (tgt := 306) hx hb dX9_whyNot_297 (by decide) (fun _ => ?_) (fun c_ => absurd (by decide) c_)
  refine lv_iconst (v := 0) hx hb dX9_whyNot_306 (by decide) ?_
  exact r_iret hC hr hlk hw () rfl rfl (Nat.le_of_ble_eq_true rfl) (Nat.le_of_ble_eq_true rfl) dX9_whyNot_307

set_option maxHeartbeats 4000000 in
set_option maxRecDepth 100000 in
theorem c_X9_whyNot_38 (l : Launch) {D : va_G} {q : Nat → ClassId} {ad : Nat → Nat} {κ : KS} {t : Nat → Int32} (sz : Nat) (hs : okStep 38 (t 0) (t 1) (t 2)) (hW : WFm κ) : Met l yX9_whyNot wsX9_whyNot (rmz 5 110) (va_Pc [.ref (ad 0), .int 38] (rPre D q (wM q ad κ t) sz)) (va_Qi (fun (r : Int32) (u : Unit) => r = why κ 38 (t 0) (t 1) (t 2)) (fun (u : Unit) tt => rPo D (rA (wM q ad κ t) sz) (wM q ad κ t) tt) (rA (wM q ad κ t) sz)) 0 0 (rA (wM q ad κ t) sz) := by
  have hi0 : vp_in (t 0) 8 := hs.1
  have hi1 : vp_in (t 1) 8 := hs.2.1
  refine r_start (cc := cX9_whyNot) (maxL := 4) (ret := (some .int)) (by decide) rfl (Nat.le_of_ble_eq_true rfl) ?_
  intro p e s m below meth c ls hC hr hlk hnm hsz hw hl
  have hx := hC.1
  have hb := hC.2.1
  have hl : lv_has ls 4 [(0, .ref (ad 0)), (1, .int 38)] := hl
  refine lv_iload_n hx hb dX9_whyNot_0 rfl (lv_at hl 1 rfl) ?_
  refine lv_bipush (v := 7) hx hb dX9_whyNot_1 (by decide) ?_
  refine lv_icmp_eq (tgt := 12) hx hb dX9_whyNot_3 (by decide) (fun c_ => absurd c_ (by decide)) (fun _ => ?_)
  refine lv_iload_n hx hb dX9_whyNot_6 rfl (lv_at hl 1 rfl) ?_
  refine lv_bipush (v := 8) hx hb dX9_whyNot_7 (by decide) ?_
  refine lv_icmp_ne (tgt := 31) hx hb dX9_whyNot_9 (by decide) (fun _ => ?_) (fun c_ => absurd c_ (by decide))
  refine lv_iload_n hx hb dX9_whyNot_31 rfl (lv_at hl 1 rfl) ?_
  refine lv_bipush (v := 11) hx hb dX9_whyNot_32 (by decide) ?_
  refine lv_icmp_eq (tgt := 43) hx hb dX9_whyNot_34 (by decide) (fun c_ => absurd c_ (by decide)) (fun _ => ?_)
  refine lv_iload_n hx hb dX9_whyNot_37 rfl (lv_at hl 1 rfl) ?_
  refine lv_bipush (v := 12) hx hb dX9_whyNot_38 (by decide) ?_
  refine lv_icmp_ne (tgt := 64) hx hb dX9_whyNot_40 (by decide) (fun _ => ?_) (fun c_ => absurd c_ (by decide))
  refine lv_iload_n hx hb dX9_whyNot_64 rfl (lv_at hl 1 rfl) ?_
  refine lv_bipush (v := 23) hx hb dX9_whyNot_65 (by decide) ?_
  refine lv_icmp_ne (tgt := 91) hx hb dX9_whyNot_67 (by decide) (fun _ => ?_) (fun c_ => absurd c_ (by decide))
  refine lv_iload_n hx hb dX9_whyNot_91 rfl (lv_at hl 1 rfl) ?_
  refine lv_bipush (v := 24) hx hb dX9_whyNot_92 (by decide) ?_
  refine lv_icmp_ne (tgt := 118) hx hb dX9_whyNot_94 (by decide) (fun _ => ?_) (fun c_ => absurd c_ (by decide))
  refine lv_iload_n hx hb dX9_whyNot_118 rfl (lv_at hl 1 rfl) ?_
  refine lv_bipush (v := 29) hx hb dX9_whyNot_119 (by decide) ?_
  refine lv_icmp_ne (tgt := 140) hx hb dX9_whyNot_121 (by decide) (fun _ => ?_) (fun c_ => absurd c_ (by decide))
  refine lv_iload_n hx hb dX9_whyNot_140 rfl (lv_at hl 1 rfl) ?_
  refine lv_bipush (v := 31) hx hb dX9_whyNot_141 (by decide) ?_
  refine lv_icmp_ne (tgt := 197) hx hb dX9_whyNot_143 (by decide) (fun _ => ?_) (fun c_ => absurd c_ (by decide))
  refine lv_iload_n hx hb dX9_whyNot_197 rfl (lv_at hl 1 rfl) ?_
  refine lv_bipush (v := 32) hx hb dX9_whyNot_198 (by decide) ?_
  refine lv_icmp_ne (tgt := 272) hx hb dX9_whyNot_200 (by decide) (fun _ => ?_) (fun c_ => absurd c_ (by decide))
  refine lv_iload_n hx hb dX9_whyNot_272 rfl (lv_at hl 1 rfl) ?_
  refine lv_bipush (v := 33) hx hb dX9_whyNot_273 (by decide) ?_
  refine lv_icmp_ne (tgt := 294) hx hb dX9_whyNot_275 (by decide) (fun _ => ?_) (fun c_ => absurd c_ (by decide))
  refine lv_iload_n hx hb dX9_whyNot_294 rfl (lv_at hl 1 rfl) ?_
  refine lv_bipush (v := 38) hx hb dX9_whyNot_295 (by decide) ?_
  refine lv_icmp_lt (tgt := 306) hx hb dX9_whyNot_297 (by decide) (fun c_ => absurd c_ (by decide)) (fun _ => ?_)
  refine lv_aload_n hx hb dX9_whyNot_300 rfl (lv_at hl 0 rfl) ?_
  refine lv_iload_n hx hb dX9_whyNot_301 rfl (lv_at hl 1 rfl) ?_
  refine r_ki hw (r_runV (rest := []) hC hw 0 (c_X9_whyNotThing_38 l _ hs hW) rk9 (wMl 0 (by decide)) wM0 1 gX9_whyNot_X9_whyNotThing rfl rfl rfl (by decide +kernel) ⟨Nat.le_of_ble_eq_true rfl, Nat.le_of_ble_eq_true rfl⟩ rfl hl.1 rfl (Nat.le_of_ble_eq_true rfl) dX9_whyNot_302 ⟨Nat.le_of_ble_eq_true rfl, Nat.le_of_ble_eq_true rfl⟩) (fun r_2 u_3 H locs h_1 hw => ?_)
  subst h_1
  exact r_iret hC hr hlk hw () rfl rfl (Nat.le_of_ble_eq_true rfl) (Nat.le_of_ble_eq_true rfl) dX9_whyNot_305

set_option maxHeartbeats 4000000 in
set_option maxRecDepth 100000 in
theorem c_X9_whyNot_39 (l : Launch) {D : va_G} {q : Nat → ClassId} {ad : Nat → Nat} {κ : KS} {t : Nat → Int32} (sz : Nat) (hs : okStep 39 (t 0) (t 1) (t 2)) (hW : WFm κ) : Met l yX9_whyNot wsX9_whyNot (rmz 5 110) (va_Pc [.ref (ad 0), .int 39] (rPre D q (wM q ad κ t) sz)) (va_Qi (fun (r : Int32) (u : Unit) => r = why κ 39 (t 0) (t 1) (t 2)) (fun (u : Unit) tt => rPo D (rA (wM q ad κ t) sz) (wM q ad κ t) tt) (rA (wM q ad κ t) sz)) 0 0 (rA (wM q ad κ t) sz) := by
  have hi0 : vp_in (t 0) 8 := hs.1
  have hi1 : vp_in (t 1) 8 := hs.2.1
  have hi2 : vp_in (t 2) 8 := hs.2.2
  refine r_start (cc := cX9_whyNot) (maxL := 4) (ret := (some .int)) (by decide) rfl (Nat.le_of_ble_eq_true rfl) ?_
  intro p e s m below meth c ls hC hr hlk hnm hsz hw hl
  have hx := hC.1
  have hb := hC.2.1
  have hl : lv_has ls 4 [(0, .ref (ad 0)), (1, .int 39)] := hl
  refine lv_iload_n hx hb dX9_whyNot_0 rfl (lv_at hl 1 rfl) ?_
  refine lv_bipush (v := 7) hx hb dX9_whyNot_1 (by decide) ?_
  refine lv_icmp_eq (tgt := 12) hx hb dX9_whyNot_3 (by decide) (fun c_ => absurd c_ (by decide)) (fun _ => ?_)
  refine lv_iload_n hx hb dX9_whyNot_6 rfl (lv_at hl 1 rfl) ?_
  refine lv_bipush (v := 8) hx hb dX9_whyNot_7 (by decide) ?_
  refine lv_icmp_ne (tgt := 31) hx hb dX9_whyNot_9 (by decide) (fun _ => ?_) (fun c_ => absurd c_ (by decide))
  refine lv_iload_n hx hb dX9_whyNot_31 rfl (lv_at hl 1 rfl) ?_
  refine lv_bipush (v := 11) hx hb dX9_whyNot_32 (by decide) ?_
  refine lv_icmp_eq (tgt := 43) hx hb dX9_whyNot_34 (by decide) (fun c_ => absurd c_ (by decide)) (fun _ => ?_)
  refine lv_iload_n hx hb dX9_whyNot_37 rfl (lv_at hl 1 rfl) ?_
  refine lv_bipush (v := 12) hx hb dX9_whyNot_38 (by decide) ?_
  refine lv_icmp_ne (tgt := 64) hx hb dX9_whyNot_40 (by decide) (fun _ => ?_) (fun c_ => absurd c_ (by decide))
  refine lv_iload_n hx hb dX9_whyNot_64 rfl (lv_at hl 1 rfl) ?_
  refine lv_bipush (v := 23) hx hb dX9_whyNot_65 (by decide) ?_
  refine lv_icmp_ne (tgt := 91) hx hb dX9_whyNot_67 (by decide) (fun _ => ?_) (fun c_ => absurd c_ (by decide))
  refine lv_iload_n hx hb dX9_whyNot_91 rfl (lv_at hl 1 rfl) ?_
  refine lv_bipush (v := 24) hx hb dX9_whyNot_92 (by decide) ?_
  refine lv_icmp_ne (tgt := 118) hx hb dX9_whyNot_94 (by decide) (fun _ => ?_) (fun c_ => absurd c_ (by decide))
  refine lv_iload_n hx hb dX9_whyNot_118 rfl (lv_at hl 1 rfl) ?_
  refine lv_bipush (v := 29) hx hb dX9_whyNot_119 (by decide) ?_
  refine lv_icmp_ne (tgt := 140) hx hb dX9_whyNot_121 (by decide) (fun _ => ?_) (fun c_ => absurd c_ (by decide))
  refine lv_iload_n hx hb dX9_whyNot_140 rfl (lv_at hl 1 rfl) ?_
  refine lv_bipush (v := 31) hx hb dX9_whyNot_141 (by decide) ?_
  refine lv_icmp_ne (tgt := 197) hx hb dX9_whyNot_143 (by decide) (fun _ => ?_) (fun c_ => absurd c_ (by decide))
  refine lv_iload_n hx hb dX9_whyNot_197 rfl (lv_at hl 1 rfl) ?_
  refine lv_bipush (v := 32) hx hb dX9_whyNot_198 (by decide) ?_
  refine lv_icmp_ne (tgt := 272) hx hb dX9_whyNot_200 (by decide) (fun _ => ?_) (fun c_ => absurd c_ (by decide))
  refine lv_iload_n hx hb dX9_whyNot_272 rfl (lv_at hl 1 rfl) ?_
  refine lv_bipush (v := 33) hx hb dX9_whyNot_273 (by decide) ?_
  refine lv_icmp_ne (tgt := 294) hx hb dX9_whyNot_275 (by decide) (fun _ => ?_) (fun c_ => absurd c_ (by decide))
  refine lv_iload_n hx hb dX9_whyNot_294 rfl (lv_at hl 1 rfl) ?_
  refine lv_bipush (v := 38) hx hb dX9_whyNot_295 (by decide) ?_
  refine lv_icmp_lt (tgt := 306) hx hb dX9_whyNot_297 (by decide) (fun c_ => absurd c_ (by decide)) (fun _ => ?_)
  refine lv_aload_n hx hb dX9_whyNot_300 rfl (lv_at hl 0 rfl) ?_
  refine lv_iload_n hx hb dX9_whyNot_301 rfl (lv_at hl 1 rfl) ?_
  refine r_ki hw (r_runV (rest := []) hC hw 0 (c_X9_whyNotThing_39 l _ hs hW) rk9 (wMl 0 (by decide)) wM0 1 gX9_whyNot_X9_whyNotThing rfl rfl rfl (by decide +kernel) ⟨Nat.le_of_ble_eq_true rfl, Nat.le_of_ble_eq_true rfl⟩ rfl hl.1 rfl (Nat.le_of_ble_eq_true rfl) dX9_whyNot_302 ⟨Nat.le_of_ble_eq_true rfl, Nat.le_of_ble_eq_true rfl⟩) (fun r_2 u_3 H locs h_1 hw => ?_)
  subst h_1
  exact r_iret hC hr hlk hw () rfl rfl (Nat.le_of_ble_eq_true rfl) (Nat.le_of_ble_eq_true rfl) dX9_whyNot_305

set_option maxHeartbeats 4000000 in
set_option maxRecDepth 100000 in
theorem c_X9_whyNot_40 (l : Launch) {D : va_G} {q : Nat → ClassId} {ad : Nat → Nat} {κ : KS} {t : Nat → Int32} (sz : Nat) (hs : okStep 40 (t 0) (t 1) (t 2)) (hW : WFm κ) : Met l yX9_whyNot wsX9_whyNot (rmz 5 110) (va_Pc [.ref (ad 0), .int 40] (rPre D q (wM q ad κ t) sz)) (va_Qi (fun (r : Int32) (u : Unit) => r = why κ 40 (t 0) (t 1) (t 2)) (fun (u : Unit) tt => rPo D (rA (wM q ad κ t) sz) (wM q ad κ t) tt) (rA (wM q ad κ t) sz)) 0 0 (rA (wM q ad κ t) sz) := by
  have hi0 : vp_in (t 0) 8 := hs.1
  have hi1 : vp_in (t 1) 8 := hs.2.1
  have hi2 : vp_in (t 2) 8 := hs.2.2
  refine r_start (cc := cX9_whyNot) (maxL := 4) (ret := (some .int)) (by decide) rfl (Nat.le_of_ble_eq_true rfl) ?_
  intro p e s m below meth c ls hC hr hlk hnm hsz hw hl
  have hx := hC.1
  have hb := hC.2.1
  have hl : lv_has ls 4 [(0, .ref (ad 0)), (1, .int 40)] := hl
  refine lv_iload_n hx hb dX9_whyNot_0 rfl (lv_at hl 1 rfl) ?_
  refine lv_bipush (v := 7) hx hb dX9_whyNot_1 (by decide) ?_
  refine lv_icmp_eq (tgt := 12) hx hb dX9_whyNot_3 (by decide) (fun c_ => absurd c_ (by decide)) (fun _ => ?_)
  refine lv_iload_n hx hb dX9_whyNot_6 rfl (lv_at hl 1 rfl) ?_
  refine lv_bipush (v := 8) hx hb dX9_whyNot_7 (by decide) ?_
  refine lv_icmp_ne (tgt := 31) hx hb dX9_whyNot_9 (by decide) (fun _ => ?_) (fun c_ => absurd c_ (by decide))
  refine lv_iload_n hx hb dX9_whyNot_31 rfl (lv_at hl 1 rfl) ?_
  refine lv_bipush (v := 11) hx hb dX9_whyNot_32 (by decide) ?_
  refine lv_icmp_eq (tgt := 43) hx hb dX9_whyNot_34 (by decide) (fun c_ => absurd c_ (by decide)) (fun _ => ?_)
  refine lv_iload_n hx hb dX9_whyNot_37 rfl (lv_at hl 1 rfl) ?_
  refine lv_bipush (v := 12) hx hb dX9_whyNot_38 (by decide) ?_
  refine lv_icmp_ne (tgt := 64) hx hb dX9_whyNot_40 (by decide) (fun _ => ?_) (fun c_ => absurd c_ (by decide))
  refine lv_iload_n hx hb dX9_whyNot_64 rfl (lv_at hl 1 rfl) ?_
  refine lv_bipush (v := 23) hx hb dX9_whyNot_65 (by decide) ?_
  refine lv_icmp_ne (tgt := 91) hx hb dX9_whyNot_67 (by decide) (fun _ => ?_) (fun c_ => absurd c_ (by decide))
  refine lv_iload_n hx hb dX9_whyNot_91 rfl (lv_at hl 1 rfl) ?_
  refine lv_bipush (v := 24) hx hb dX9_whyNot_92 (by decide) ?_
  refine lv_icmp_ne (tgt := 118) hx hb dX9_whyNot_94 (by decide) (fun _ => ?_) (fun c_ => absurd c_ (by decide))
  refine lv_iload_n hx hb dX9_whyNot_118 rfl (lv_at hl 1 rfl) ?_
  refine lv_bipush (v := 29) hx hb dX9_whyNot_119 (by decide) ?_
  refine lv_icmp_ne (tgt := 140) hx hb dX9_whyNot_121 (by decide) (fun _ => ?_) (fun c_ => absurd c_ (by decide))
  refine lv_iload_n hx hb dX9_whyNot_140 rfl (lv_at hl 1 rfl) ?_
  refine lv_bipush (v := 31) hx hb dX9_whyNot_141 (by decide) ?_
  refine lv_icmp_ne (tgt := 197) hx hb dX9_whyNot_143 (by decide) (fun _ => ?_) (fun c_ => absurd c_ (by decide))
  refine lv_iload_n hx hb dX9_whyNot_197 rfl (lv_at hl 1 rfl) ?_
  refine lv_bipush (v := 32) hx hb dX9_whyNot_198 (by decide) ?_
  refine lv_icmp_ne (tgt := 272) hx hb dX9_whyNot_200 (by decide) (fun _ => ?_) (fun c_ => absurd c_ (by decide))
  refine lv_iload_n hx hb dX9_whyNot_272 rfl (lv_at hl 1 rfl) ?_
  refine lv_bipush (v := 33) hx hb dX9_whyNot_273 (by decide) ?_
  refine lv_icmp_ne (tgt := 294) hx hb dX9_whyNot_275 (by decide) (fun _ => ?_) (fun c_ => absurd c_ (by decide))
  refine lv_iload_n hx hb dX9_whyNot_294 rfl (lv_at hl 1 rfl) ?_
  refine lv_bipush (v := 38) hx hb dX9_whyNot_295 (by decide) ?_
  refine lv_icmp_lt (tgt := 306) hx hb dX9_whyNot_297 (by decide) (fun c_ => absurd c_ (by decide)) (fun _ => ?_)
  refine lv_aload_n hx hb dX9_whyNot_300 rfl (lv_at hl 0 rfl) ?_
  refine lv_iload_n hx hb dX9_whyNot_301 rfl (lv_at hl 1 rfl) ?_
  refine r_ki hw (r_runV (rest := []) hC hw 0 (c_X9_whyNotThing_40 l _ hs hW) rk9 (wMl 0 (by decide)) wM0 1 gX9_whyNot_X9_whyNotThing rfl rfl rfl (by decide +kernel) ⟨Nat.le_of_ble_eq_true rfl, Nat.le_of_ble_eq_true rfl⟩ rfl hl.1 rfl (Nat.le_of_ble_eq_true rfl) dX9_whyNot_302 ⟨Nat.le_of_ble_eq_true rfl, Nat.le_of_ble_eq_true rfl⟩) (fun r_2 u_3 H locs h_1 hw => ?_)
  subst h_1
  exact r_iret hC hr hlk hw () rfl rfl (Nat.le_of_ble_eq_true rfl) (Nat.le_of_ble_eq_true rfl) dX9_whyNot_305

set_option maxHeartbeats 4000000 in
set_option maxRecDepth 100000 in
theorem c_X9_whyNot_41 (l : Launch) {D : va_G} {q : Nat → ClassId} {ad : Nat → Nat} {κ : KS} {t : Nat → Int32} (sz : Nat) (hs : okStep 41 (t 0) (t 1) (t 2)) (hW : WFm κ) : Met l yX9_whyNot wsX9_whyNot (rmz 5 110) (va_Pc [.ref (ad 0), .int 41] (rPre D q (wM q ad κ t) sz)) (va_Qi (fun (r : Int32) (u : Unit) => r = why κ 41 (t 0) (t 1) (t 2)) (fun (u : Unit) tt => rPo D (rA (wM q ad κ t) sz) (wM q ad κ t) tt) (rA (wM q ad κ t) sz)) 0 0 (rA (wM q ad κ t) sz) := by
  have hi0 : vp_in (t 0) 8 := hs.1
  have hi1 : vp_in (t 1) 8 := hs.2.1
  have hi2 : vp_in (t 2) 8 := hs.2.2
  refine r_start (cc := cX9_whyNot) (maxL := 4) (ret := (some .int)) (by decide) rfl (Nat.le_of_ble_eq_true rfl) ?_
  intro p e s m below meth c ls hC hr hlk hnm hsz hw hl
  have hx := hC.1
  have hb := hC.2.1
  have hl : lv_has ls 4 [(0, .ref (ad 0)), (1, .int 41)] := hl
  refine lv_iload_n hx hb dX9_whyNot_0 rfl (lv_at hl 1 rfl) ?_
  refine lv_bipush (v := 7) hx hb dX9_whyNot_1 (by decide) ?_
  refine lv_icmp_eq (tgt := 12) hx hb dX9_whyNot_3 (by decide) (fun c_ => absurd c_ (by decide)) (fun _ => ?_)
  refine lv_iload_n hx hb dX9_whyNot_6 rfl (lv_at hl 1 rfl) ?_
  refine lv_bipush (v := 8) hx hb dX9_whyNot_7 (by decide) ?_
  refine lv_icmp_ne (tgt := 31) hx hb dX9_whyNot_9 (by decide) (fun _ => ?_) (fun c_ => absurd c_ (by decide))
  refine lv_iload_n hx hb dX9_whyNot_31 rfl (lv_at hl 1 rfl) ?_
  refine lv_bipush (v := 11) hx hb dX9_whyNot_32 (by decide) ?_
  refine lv_icmp_eq (tgt := 43) hx hb dX9_whyNot_34 (by decide) (fun c_ => absurd c_ (by decide)) (fun _ => ?_)
  refine lv_iload_n hx hb dX9_whyNot_37 rfl (lv_at hl 1 rfl) ?_
  refine lv_bipush (v := 12) hx hb dX9_whyNot_38 (by decide) ?_
  refine lv_icmp_ne (tgt := 64) hx hb dX9_whyNot_40 (by decide) (fun _ => ?_) (fun c_ => absurd c_ (by decide))
  refine lv_iload_n hx hb dX9_whyNot_64 rfl (lv_at hl 1 rfl) ?_
  refine lv_bipush (v := 23) hx hb dX9_whyNot_65 (by decide) ?_
  refine lv_icmp_ne (tgt := 91) hx hb dX9_whyNot_67 (by decide) (fun _ => ?_) (fun c_ => absurd c_ (by decide))
  refine lv_iload_n hx hb dX9_whyNot_91 rfl (lv_at hl 1 rfl) ?_
  refine lv_bipush (v := 24) hx hb dX9_whyNot_92 (by decide) ?_
  refine lv_icmp_ne (tgt := 118) hx hb dX9_whyNot_94 (by decide) (fun _ => ?_) (fun c_ => absurd c_ (by decide))
  refine lv_iload_n hx hb dX9_whyNot_118 rfl (lv_at hl 1 rfl) ?_
  refine lv_bipush (v := 29) hx hb dX9_whyNot_119 (by decide) ?_
  refine lv_icmp_ne (tgt := 140) hx hb dX9_whyNot_121 (by decide) (fun _ => ?_) (fun c_ => absurd c_ (by decide))
  refine lv_iload_n hx hb dX9_whyNot_140 rfl (lv_at hl 1 rfl) ?_
  refine lv_bipush (v := 31) hx hb dX9_whyNot_141 (by decide) ?_
  refine lv_icmp_ne (tgt := 197) hx hb dX9_whyNot_143 (by decide) (fun _ => ?_) (fun c_ => absurd c_ (by decide))
  refine lv_iload_n hx hb dX9_whyNot_197 rfl (lv_at hl 1 rfl) ?_
  refine lv_bipush (v := 32) hx hb dX9_whyNot_198 (by decide) ?_
  refine lv_icmp_ne (tgt := 272) hx hb dX9_whyNot_200 (by decide) (fun _ => ?_) (fun c_ => absurd c_ (by decide))
  refine lv_iload_n hx hb dX9_whyNot_272 rfl (lv_at hl 1 rfl) ?_
  refine lv_bipush (v := 33) hx hb dX9_whyNot_273 (by decide) ?_
  refine lv_icmp_ne (tgt := 294) hx hb dX9_whyNot_275 (by decide) (fun _ => ?_) (fun c_ => absurd c_ (by decide))
  refine lv_iload_n hx hb dX9_whyNot_294 rfl (lv_at hl 1 rfl) ?_
  refine lv_bipush (v := 38) hx hb dX9_whyNot_295 (by decide) ?_
  refine lv_icmp_lt (tgt := 306) hx hb dX9_whyNot_297 (by decide) (fun c_ => absurd c_ (by decide)) (fun _ => ?_)
  refine lv_aload_n hx hb dX9_whyNot_300 rfl (lv_at hl 0 rfl) ?_
  refine lv_iload_n hx hb dX9_whyNot_301 rfl (lv_at hl 1 rfl) ?_
  refine r_ki hw (r_runV (rest := []) hC hw 0 (c_X9_whyNotThing_41 l _ hs hW) rk9 (wMl 0 (by decide)) wM0 1 gX9_whyNot_X9_whyNotThing rfl rfl rfl (by decide +kernel) ⟨Nat.le_of_ble_eq_true rfl, Nat.le_of_ble_eq_true rfl⟩ rfl hl.1 rfl (Nat.le_of_ble_eq_true rfl) dX9_whyNot_302 ⟨Nat.le_of_ble_eq_true rfl, Nat.le_of_ble_eq_true rfl⟩) (fun r_2 u_3 H locs h_1 hw => ?_)
  subst h_1
  exact r_iret hC hr hlk hw () rfl rfl (Nat.le_of_ble_eq_true rfl) (Nat.le_of_ble_eq_true rfl) dX9_whyNot_305

set_option maxHeartbeats 4000000 in
set_option maxRecDepth 100000 in
theorem c_X9_whyNot_42 (l : Launch) {D : va_G} {q : Nat → ClassId} {ad : Nat → Nat} {κ : KS} {t : Nat → Int32} (sz : Nat) (hs : okStep 42 (t 0) (t 1) (t 2)) (hW : WFm κ) : Met l yX9_whyNot wsX9_whyNot (rmz 5 110) (va_Pc [.ref (ad 0), .int 42] (rPre D q (wM q ad κ t) sz)) (va_Qi (fun (r : Int32) (u : Unit) => r = why κ 42 (t 0) (t 1) (t 2)) (fun (u : Unit) tt => rPo D (rA (wM q ad κ t) sz) (wM q ad κ t) tt) (rA (wM q ad κ t) sz)) 0 0 (rA (wM q ad κ t) sz) := by
  have hi0 : vp_in (t 0) 8 := hs.1
  have hi1 : vp_in (t 1) 8 := hs.2.1
  have hi2 : vp_in (t 2) 8 := hs.2.2
  refine r_start (cc := cX9_whyNot) (maxL := 4) (ret := (some .int)) (by decide) rfl (Nat.le_of_ble_eq_true rfl) ?_
  intro p e s m below meth c ls hC hr hlk hnm hsz hw hl
  have hx := hC.1
  have hb := hC.2.1
  have hl : lv_has ls 4 [(0, .ref (ad 0)), (1, .int 42)] := hl
  refine lv_iload_n hx hb dX9_whyNot_0 rfl (lv_at hl 1 rfl) ?_
  refine lv_bipush (v := 7) hx hb dX9_whyNot_1 (by decide) ?_
  refine lv_icmp_eq (tgt := 12) hx hb dX9_whyNot_3 (by decide) (fun c_ => absurd c_ (by decide)) (fun _ => ?_)
  refine lv_iload_n hx hb dX9_whyNot_6 rfl (lv_at hl 1 rfl) ?_
  refine lv_bipush (v := 8) hx hb dX9_whyNot_7 (by decide) ?_
  refine lv_icmp_ne (tgt := 31) hx hb dX9_whyNot_9 (by decide) (fun _ => ?_) (fun c_ => absurd c_ (by decide))
  refine lv_iload_n hx hb dX9_whyNot_31 rfl (lv_at hl 1 rfl) ?_
  refine lv_bipush (v := 11) hx hb dX9_whyNot_32 (by decide) ?_
  refine lv_icmp_eq (tgt := 43) hx hb dX9_whyNot_34 (by decide) (fun c_ => absurd c_ (by decide)) (fun _ => ?_)
  refine lv_iload_n hx hb dX9_whyNot_37 rfl (lv_at hl 1 rfl) ?_
  refine lv_bipush (v := 12) hx hb dX9_whyNot_38 (by decide) ?_
  refine lv_icmp_ne (tgt := 64) hx hb dX9_whyNot_40 (by decide) (fun _ => ?_) (fun c_ => absurd c_ (by decide))
  refine lv_iload_n hx hb dX9_whyNot_64 rfl (lv_at hl 1 rfl) ?_
  refine lv_bipush (v := 23) hx hb dX9_whyNot_65 (by decide) ?_
  refine lv_icmp_ne (tgt := 91) hx hb dX9_whyNot_67 (by decide) (fun _ => ?_) (fun c_ => absurd c_ (by decide))
  refine lv_iload_n hx hb dX9_whyNot_91 rfl (lv_at hl 1 rfl) ?_
  refine lv_bipush (v := 24) hx hb dX9_whyNot_92 (by decide) ?_
  refine lv_icmp_ne (tgt := 118) hx hb dX9_whyNot_94 (by decide) (fun _ => ?_) (fun c_ => absurd c_ (by decide))
  refine lv_iload_n hx hb dX9_whyNot_118 rfl (lv_at hl 1 rfl) ?_
  refine lv_bipush (v := 29) hx hb dX9_whyNot_119 (by decide) ?_
  refine lv_icmp_ne (tgt := 140) hx hb dX9_whyNot_121 (by decide) (fun _ => ?_) (fun c_ => absurd c_ (by decide))
  refine lv_iload_n hx hb dX9_whyNot_140 rfl (lv_at hl 1 rfl) ?_
  refine lv_bipush (v := 31) hx hb dX9_whyNot_141 (by decide) ?_
  refine lv_icmp_ne (tgt := 197) hx hb dX9_whyNot_143 (by decide) (fun _ => ?_) (fun c_ => absurd c_ (by decide))
  refine lv_iload_n hx hb dX9_whyNot_197 rfl (lv_at hl 1 rfl) ?_
  refine lv_bipush (v := 32) hx hb dX9_whyNot_198 (by decide) ?_
  refine lv_icmp_ne (tgt := 272) hx hb dX9_whyNot_200 (by decide) (fun _ => ?_) (fun c_ => absurd c_ (by decide))
  refine lv_iload_n hx hb dX9_whyNot_272 rfl (lv_at hl 1 rfl) ?_
  refine lv_bipush (v := 33) hx hb dX9_whyNot_273 (by decide) ?_
  refine lv_icmp_ne (tgt := 294) hx hb dX9_whyNot_275 (by decide) (fun _ => ?_) (fun c_ => absurd c_ (by decide))
  refine lv_iload_n hx hb dX9_whyNot_294 rfl (lv_at hl 1 rfl) ?_
  refine lv_bipush (v := 38) hx hb dX9_whyNot_295 (by decide) ?_
  refine lv_icmp_lt (tgt := 306) hx hb dX9_whyNot_297 (by decide) (fun c_ => absurd c_ (by decide)) (fun _ => ?_)
  refine lv_aload_n hx hb dX9_whyNot_300 rfl (lv_at hl 0 rfl) ?_
  refine lv_iload_n hx hb dX9_whyNot_301 rfl (lv_at hl 1 rfl) ?_
  refine r_ki hw (r_runV (rest := []) hC hw 0 (c_X9_whyNotThing_42 l _ hs hW) rk9 (wMl 0 (by decide)) wM0 1 gX9_whyNot_X9_whyNotThing rfl rfl rfl (by decide +kernel) ⟨Nat.le_of_ble_eq_true rfl, Nat.le_of_ble_eq_true rfl⟩ rfl hl.1 rfl (Nat.le_of_ble_eq_true rfl) dX9_whyNot_302 ⟨Nat.le_of_ble_eq_true rfl, Nat.le_of_ble_eq_true rfl⟩) (fun r_2 u_3 H locs h_1 hw => ?_)
  subst h_1
  exact r_iret hC hr hlk hw () rfl rfl (Nat.le_of_ble_eq_true rfl) (Nat.le_of_ble_eq_true rfl) dX9_whyNot_305

set_option maxHeartbeats 4000000 in
set_option maxRecDepth 100000 in
theorem c_X9_whyNot_43 (l : Launch) {D : va_G} {q : Nat → ClassId} {ad : Nat → Nat} {κ : KS} {t : Nat → Int32} (sz : Nat) (hs : okStep 43 (t 0) (t 1) (t 2)) (hW : WFm κ) : Met l yX9_whyNot wsX9_whyNot (rmz 5 110) (va_Pc [.ref (ad 0), .int 43] (rPre D q (wM q ad κ t) sz)) (va_Qi (fun (r : Int32) (u : Unit) => r = why κ 43 (t 0) (t 1) (t 2)) (fun (u : Unit) tt => rPo D (rA (wM q ad κ t) sz) (wM q ad κ t) tt) (rA (wM q ad κ t) sz)) 0 0 (rA (wM q ad κ t) sz) := by
  have hi0 : vp_in (t 0) 8 := hs.1
  have hi1 : vp_in (t 1) 8 := hs.2.1
  have hi2 : vp_in (t 2) 8 := hs.2.2
  refine r_start (cc := cX9_whyNot) (maxL := 4) (ret := (some .int)) (by decide) rfl (Nat.le_of_ble_eq_true rfl) ?_
  intro p e s m below meth c ls hC hr hlk hnm hsz hw hl
  have hx := hC.1
  have hb := hC.2.1
  have hl : lv_has ls 4 [(0, .ref (ad 0)), (1, .int 43)] := hl
  refine lv_iload_n hx hb dX9_whyNot_0 rfl (lv_at hl 1 rfl) ?_
  refine lv_bipush (v := 7) hx hb dX9_whyNot_1 (by decide) ?_
  refine lv_icmp_eq (tgt := 12) hx hb dX9_whyNot_3 (by decide) (fun c_ => absurd c_ (by decide)) (fun _ => ?_)
  refine lv_iload_n hx hb dX9_whyNot_6 rfl (lv_at hl 1 rfl) ?_
  refine lv_bipush (v := 8) hx hb dX9_whyNot_7 (by decide) ?_
  refine lv_icmp_ne (tgt := 31) hx hb dX9_whyNot_9 (by decide) (fun _ => ?_) (fun c_ => absurd c_ (by decide))
  refine lv_iload_n hx hb dX9_whyNot_31 rfl (lv_at hl 1 rfl) ?_
  refine lv_bipush (v := 11) hx hb dX9_whyNot_32 (by decide) ?_
  refine lv_icmp_eq (tgt := 43) hx hb dX9_whyNot_34 (by decide) (fun c_ => absurd c_ (by decide)) (fun _ => ?_)
  refine lv_iload_n hx hb dX9_whyNot_37 rfl (lv_at hl 1 rfl) ?_
  refine lv_bipush (v := 12) hx hb dX9_whyNot_38 (by decide) ?_
  refine lv_icmp_ne (tgt := 64) hx hb dX9_whyNot_40 (by decide) (fun _ => ?_) (fun c_ => absurd c_ (by decide))
  refine lv_iload_n hx hb dX9_whyNot_64 rfl (lv_at hl 1 rfl) ?_
  refine lv_bipush (v := 23) hx hb dX9_whyNot_65 (by decide) ?_
  refine lv_icmp_ne (tgt := 91) hx hb dX9_whyNot_67 (by decide) (fun _ => ?_) (fun c_ => absurd c_ (by decide))
  refine lv_iload_n hx hb dX9_whyNot_91 rfl (lv_at hl 1 rfl) ?_
  refine lv_bipush (v := 24) hx hb dX9_whyNot_92 (by decide) ?_
  refine lv_icmp_ne (tgt := 118) hx hb dX9_whyNot_94 (by decide) (fun _ => ?_) (fun c_ => absurd c_ (by decide))
  refine lv_iload_n hx hb dX9_whyNot_118 rfl (lv_at hl 1 rfl) ?_
  refine lv_bipush (v := 29) hx hb dX9_whyNot_119 (by decide) ?_
  refine lv_icmp_ne (tgt := 140) hx hb dX9_whyNot_121 (by decide) (fun _ => ?_) (fun c_ => absurd c_ (by decide))
  refine lv_iload_n hx hb dX9_whyNot_140 rfl (lv_at hl 1 rfl) ?_
  refine lv_bipush (v := 31) hx hb dX9_whyNot_141 (by decide) ?_
  refine lv_icmp_ne (tgt := 197) hx hb dX9_whyNot_143 (by decide) (fun _ => ?_) (fun c_ => absurd c_ (by decide))
  refine lv_iload_n hx hb dX9_whyNot_197 rfl (lv_at hl 1 rfl) ?_
  refine lv_bipush (v := 32) hx hb dX9_whyNot_198 (by decide) ?_
  refine lv_icmp_ne (tgt := 272) hx hb dX9_whyNot_200 (by decide) (fun _ => ?_) (fun c_ => absurd c_ (by decide))
  refine lv_iload_n hx hb dX9_whyNot_272 rfl (lv_at hl 1 rfl) ?_
  refine lv_bipush (v := 33) hx hb dX9_whyNot_273 (by decide) ?_
  refine lv_icmp_ne (tgt := 294) hx hb dX9_whyNot_275 (by decide) (fun _ => ?_) (fun c_ => absurd c_ (by decide))
  refine lv_iload_n hx hb dX9_whyNot_294 rfl (lv_at hl 1 rfl) ?_
  refine lv_bipush (v := 38) hx hb dX9_whyNot_295 (by decide) ?_
  refine lv_icmp_lt (tgt := 306) hx hb dX9_whyNot_297 (by decide) (fun c_ => absurd c_ (by decide)) (fun _ => ?_)
  refine lv_aload_n hx hb dX9_whyNot_300 rfl (lv_at hl 0 rfl) ?_
  refine lv_iload_n hx hb dX9_whyNot_301 rfl (lv_at hl 1 rfl) ?_
  refine r_ki hw (r_runV (rest := []) hC hw 0 (c_X9_whyNotThing_43 l _ hs hW) rk9 (wMl 0 (by decide)) wM0 1 gX9_whyNot_X9_whyNotThing rfl rfl rfl (by decide +kernel) ⟨Nat.le_of_ble_eq_true rfl, Nat.le_of_ble_eq_true rfl⟩ rfl hl.1 rfl (Nat.le_of_ble_eq_true rfl) dX9_whyNot_302 ⟨Nat.le_of_ble_eq_true rfl, Nat.le_of_ble_eq_true rfl⟩) (fun r_2 u_3 H locs h_1 hw => ?_)
  subst h_1
  exact r_iret hC hr hlk hw () rfl rfl (Nat.le_of_ble_eq_true rfl) (Nat.le_of_ble_eq_true rfl) dX9_whyNot_305

set_option maxHeartbeats 4000000 in
set_option maxRecDepth 100000 in
theorem c_X9_whyNot_44 (l : Launch) {D : va_G} {q : Nat → ClassId} {ad : Nat → Nat} {κ : KS} {t : Nat → Int32} (sz : Nat) (hs : okStep 44 (t 0) (t 1) (t 2)) (hW : WFm κ) : Met l yX9_whyNot wsX9_whyNot (rmz 5 110) (va_Pc [.ref (ad 0), .int 44] (rPre D q (wM q ad κ t) sz)) (va_Qi (fun (r : Int32) (u : Unit) => r = why κ 44 (t 0) (t 1) (t 2)) (fun (u : Unit) tt => rPo D (rA (wM q ad κ t) sz) (wM q ad κ t) tt) (rA (wM q ad κ t) sz)) 0 0 (rA (wM q ad κ t) sz) := by
  have hi0 : vp_in (t 0) 4 := hs.1
  have hi1 : vp_in (t 1) 8 := hs.2.1
  have hi2 : vp_in (t 2) 8 := hs.2.2
  refine r_start (cc := cX9_whyNot) (maxL := 4) (ret := (some .int)) (by decide) rfl (Nat.le_of_ble_eq_true rfl) ?_
  intro p e s m below meth c ls hC hr hlk hnm hsz hw hl
  have hx := hC.1
  have hb := hC.2.1
  have hl : lv_has ls 4 [(0, .ref (ad 0)), (1, .int 44)] := hl
  refine lv_iload_n hx hb dX9_whyNot_0 rfl (lv_at hl 1 rfl) ?_
  refine lv_bipush (v := 7) hx hb dX9_whyNot_1 (by decide) ?_
  refine lv_icmp_eq (tgt := 12) hx hb dX9_whyNot_3 (by decide) (fun c_ => absurd c_ (by decide)) (fun _ => ?_)
  refine lv_iload_n hx hb dX9_whyNot_6 rfl (lv_at hl 1 rfl) ?_
  refine lv_bipush (v := 8) hx hb dX9_whyNot_7 (by decide) ?_
  refine lv_icmp_ne (tgt := 31) hx hb dX9_whyNot_9 (by decide) (fun _ => ?_) (fun c_ => absurd c_ (by decide))
  refine lv_iload_n hx hb dX9_whyNot_31 rfl (lv_at hl 1 rfl) ?_
  refine lv_bipush (v := 11) hx hb dX9_whyNot_32 (by decide) ?_
  refine lv_icmp_eq (tgt := 43) hx hb dX9_whyNot_34 (by decide) (fun c_ => absurd c_ (by decide)) (fun _ => ?_)
  refine lv_iload_n hx hb dX9_whyNot_37 rfl (lv_at hl 1 rfl) ?_
  refine lv_bipush (v := 12) hx hb dX9_whyNot_38 (by decide) ?_
  refine lv_icmp_ne (tgt := 64) hx hb dX9_whyNot_40 (by decide) (fun _ => ?_) (fun c_ => absurd c_ (by decide))
  refine lv_iload_n hx hb dX9_whyNot_64 rfl (lv_at hl 1 rfl) ?_
  refine lv_bipush (v := 23) hx hb dX9_whyNot_65 (by decide) ?_
  refine lv_icmp_ne (tgt := 91) hx hb dX9_whyNot_67 (by decide) (fun _ => ?_) (fun c_ => absurd c_ (by decide))
  refine lv_iload_n hx hb dX9_whyNot_91 rfl (lv_at hl 1 rfl) ?_
  refine lv_bipush (v := 24) hx hb dX9_whyNot_92 (by decide) ?_
  refine lv_icmp_ne (tgt := 118) hx hb dX9_whyNot_94 (by decide) (fun _ => ?_) (fun c_ => absurd c_ (by decide))
  refine lv_iload_n hx hb dX9_whyNot_118 rfl (lv_at hl 1 rfl) ?_
  refine lv_bipush (v := 29) hx hb dX9_whyNot_119 (by decide) ?_
  refine lv_icmp_ne (tgt := 140) hx hb dX9_whyNot_121 (by decide) (fun _ => ?_) (fun c_ => absurd c_ (by decide))
  refine lv_iload_n hx hb dX9_whyNot_140 rfl (lv_at hl 1 rfl) ?_
  refine lv_bipush (v := 31) hx hb dX9_whyNot_141 (by decide) ?_
  refine lv_icmp_ne (tgt := 197) hx hb dX9_whyNot_143 (by decide) (fun _ => ?_) (fun c_ => absurd c_ (by decide))
  refine lv_iload_n hx hb dX9_whyNot_197 rfl (lv_at hl 1 rfl) ?_
  refine lv_bipush (v := 32) hx hb dX9_whyNot_198 (by decide) ?_
  refine lv_icmp_ne (tgt := 272) hx hb dX9_whyNot_200 (by decide) (fun _ => ?_) (fun c_ => absurd c_ (by decide))
  refine lv_iload_n hx hb dX9_whyNot_272 rfl (lv_at hl 1 rfl) ?_
  refine lv_bipush (v := 33) hx hb dX9_whyNot_273 (by decide) ?_
  refine lv_icmp_ne (tgt := 294) hx hb dX9_whyNot_275 (by decide) (fun _ => ?_) (fun c_ => absurd c_ (by decide))
  refine lv_iload_n hx hb dX9_whyNot_294 rfl (lv_at hl 1 rfl) ?_
  refine lv_bipush (v := 38) hx hb dX9_whyNot_295 (by decide) ?_
  refine lv_icmp_lt (tgt := 306) hx hb dX9_whyNot_297 (by decide) (fun c_ => absurd c_ (by decide)) (fun _ => ?_)
  refine lv_aload_n hx hb dX9_whyNot_300 rfl (lv_at hl 0 rfl) ?_
  refine lv_iload_n hx hb dX9_whyNot_301 rfl (lv_at hl 1 rfl) ?_
  refine r_ki hw (r_runV (rest := []) hC hw 0 (c_X9_whyNotThing_44 l _ hs hW) rk9 (wMl 0 (by decide)) wM0 1 gX9_whyNot_X9_whyNotThing rfl rfl rfl (by decide +kernel) ⟨Nat.le_of_ble_eq_true rfl, Nat.le_of_ble_eq_true rfl⟩ rfl hl.1 rfl (Nat.le_of_ble_eq_true rfl) dX9_whyNot_302 ⟨Nat.le_of_ble_eq_true rfl, Nat.le_of_ble_eq_true rfl⟩) (fun r_2 u_3 H locs h_1 hw => ?_)
  subst h_1
  exact r_iret hC hr hlk hw () rfl rfl (Nat.le_of_ble_eq_true rfl) (Nat.le_of_ble_eq_true rfl) dX9_whyNot_305

set_option maxHeartbeats 4000000 in
set_option maxRecDepth 100000 in
theorem c_X9_whyNot_45 (l : Launch) {D : va_G} {q : Nat → ClassId} {ad : Nat → Nat} {κ : KS} {t : Nat → Int32} (sz : Nat) (hs : okStep 45 (t 0) (t 1) (t 2)) (hW : WFm κ) : Met l yX9_whyNot wsX9_whyNot (rmz 5 110) (va_Pc [.ref (ad 0), .int 45] (rPre D q (wM q ad κ t) sz)) (va_Qi (fun (r : Int32) (u : Unit) => r = why κ 45 (t 0) (t 1) (t 2)) (fun (u : Unit) tt => rPo D (rA (wM q ad κ t) sz) (wM q ad κ t) tt) (rA (wM q ad κ t) sz)) 0 0 (rA (wM q ad κ t) sz) := by
  have hi0 : vp_in (t 0) 4 := hs.1
  have hi1 : vp_in (t 1) 8 := hs.2.1
  have hi2 : vp_in (t 2) 8 := hs.2.2
  refine r_start (cc := cX9_whyNot) (maxL := 4) (ret := (some .int)) (by decide) rfl (Nat.le_of_ble_eq_true rfl) ?_
  intro p e s m below meth c ls hC hr hlk hnm hsz hw hl
  have hx := hC.1
  have hb := hC.2.1
  have hl : lv_has ls 4 [(0, .ref (ad 0)), (1, .int 45)] := hl
  refine lv_iload_n hx hb dX9_whyNot_0 rfl (lv_at hl 1 rfl) ?_
  refine lv_bipush (v := 7) hx hb dX9_whyNot_1 (by decide) ?_
  refine lv_icmp_eq (tgt := 12) hx hb dX9_whyNot_3 (by decide) (fun c_ => absurd c_ (by decide)) (fun _ => ?_)
  refine lv_iload_n hx hb dX9_whyNot_6 rfl (lv_at hl 1 rfl) ?_
  refine lv_bipush (v := 8) hx hb dX9_whyNot_7 (by decide) ?_
  refine lv_icmp_ne (tgt := 31) hx hb dX9_whyNot_9 (by decide) (fun _ => ?_) (fun c_ => absurd c_ (by decide))
  refine lv_iload_n hx hb dX9_whyNot_31 rfl (lv_at hl 1 rfl) ?_
  refine lv_bipush (v := 11) hx hb dX9_whyNot_32 (by decide) ?_
  refine lv_icmp_eq (tgt := 43) hx hb dX9_whyNot_34 (by decide) (fun c_ => absurd c_ (by decide)) (fun _ => ?_)
  refine lv_iload_n hx hb dX9_whyNot_37 rfl (lv_at hl 1 rfl) ?_
  refine lv_bipush (v := 12) hx hb dX9_whyNot_38 (by decide) ?_
  refine lv_icmp_ne (tgt := 64) hx hb dX9_whyNot_40 (by decide) (fun _ => ?_) (fun c_ => absurd c_ (by decide))
  refine lv_iload_n hx hb dX9_whyNot_64 rfl (lv_at hl 1 rfl) ?_
  refine lv_bipush (v := 23) hx hb dX9_whyNot_65 (by decide) ?_
  refine lv_icmp_ne (tgt := 91) hx hb dX9_whyNot_67 (by decide) (fun _ => ?_) (fun c_ => absurd c_ (by decide))
  refine lv_iload_n hx hb dX9_whyNot_91 rfl (lv_at hl 1 rfl) ?_
  refine lv_bipush (v := 24) hx hb dX9_whyNot_92 (by decide) ?_
  refine lv_icmp_ne (tgt := 118) hx hb dX9_whyNot_94 (by decide) (fun _ => ?_) (fun c_ => absurd c_ (by decide))
  refine lv_iload_n hx hb dX9_whyNot_118 rfl (lv_at hl 1 rfl) ?_
  refine lv_bipush (v := 29) hx hb dX9_whyNot_119 (by decide) ?_
  refine lv_icmp_ne (tgt := 140) hx hb dX9_whyNot_121 (by decide) (fun _ => ?_) (fun c_ => absurd c_ (by decide))
  refine lv_iload_n hx hb dX9_whyNot_140 rfl (lv_at hl 1 rfl) ?_
  refine lv_bipush (v := 31) hx hb dX9_whyNot_141 (by decide) ?_
  refine lv_icmp_ne (tgt := 197) hx hb dX9_whyNot_143 (by decide) (fun _ => ?_) (fun c_ => absurd c_ (by decide))
  refine lv_iload_n hx hb dX9_whyNot_197 rfl (lv_at hl 1 rfl) ?_
  refine lv_bipush (v := 32) hx hb dX9_whyNot_198 (by decide) ?_
  refine lv_icmp_ne (tgt := 272) hx hb dX9_whyNot_200 (by decide) (fun _ => ?_) (fun c_ => absurd c_ (by decide))
  refine lv_iload_n hx hb dX9_whyNot_272 rfl (lv_at hl 1 rfl) ?_
  refine lv_bipush (v := 33) hx hb dX9_whyNot_273 (by decide) ?_
  refine lv_icmp_ne (tgt := 294) hx hb dX9_whyNot_275 (by decide) (fun _ => ?_) (fun c_ => absurd c_ (by decide))
  refine lv_iload_n hx hb dX9_whyNot_294 rfl (lv_at hl 1 rfl) ?_
  refine lv_bipush (v := 38) hx hb dX9_whyNot_295 (by decide) ?_
  refine lv_icmp_lt (tgt := 306) hx hb dX9_whyNot_297 (by decide) (fun c_ => absurd c_ (by decide)) (fun _ => ?_)
  refine lv_aload_n hx hb dX9_whyNot_300 rfl (lv_at hl 0 rfl) ?_
  refine lv_iload_n hx hb dX9_whyNot_301 rfl (lv_at hl 1 rfl) ?_
  refine r_ki hw (r_runV (rest := []) hC hw 0 (c_X9_whyNotThing_45 l _ hs hW) rk9 (wMl 0 (by decide)) wM0 1 gX9_whyNot_X9_whyNotThing rfl rfl rfl (by decide +kernel) ⟨Nat.le_of_ble_eq_true rfl, Nat.le_of_ble_eq_true rfl⟩ rfl hl.1 rfl (Nat.le_of_ble_eq_true rfl) dX9_whyNot_302 ⟨Nat.le_of_ble_eq_true rfl, Nat.le_of_ble_eq_true rfl⟩) (fun r_2 u_3 H locs h_1 hw => ?_)
  subst h_1
  exact r_iret hC hr hlk hw () rfl rfl (Nat.le_of_ble_eq_true rfl) (Nat.le_of_ble_eq_true rfl) dX9_whyNot_305

set_option maxHeartbeats 4000000 in
set_option maxRecDepth 100000 in
theorem c_X9_whyNot_46 (l : Launch) {D : va_G} {q : Nat → ClassId} {ad : Nat → Nat} {κ : KS} {t : Nat → Int32} (sz : Nat) (hs : okStep 46 (t 0) (t 1) (t 2)) (hW : WFm κ) : Met l yX9_whyNot wsX9_whyNot (rmz 5 110) (va_Pc [.ref (ad 0), .int 46] (rPre D q (wM q ad κ t) sz)) (va_Qi (fun (r : Int32) (u : Unit) => r = why κ 46 (t 0) (t 1) (t 2)) (fun (u : Unit) tt => rPo D (rA (wM q ad κ t) sz) (wM q ad κ t) tt) (rA (wM q ad κ t) sz)) 0 0 (rA (wM q ad κ t) sz) := by
  have hi0 : vp_in (t 0) 4 := hs.1
  have hi1 : vp_in (t 1) 8 := hs.2.1
  have hi2 : vp_in (t 2) 8 := hs.2.2
  refine r_start (cc := cX9_whyNot) (maxL := 4) (ret := (some .int)) (by decide) rfl (Nat.le_of_ble_eq_true rfl) ?_
  intro p e s m below meth c ls hC hr hlk hnm hsz hw hl
  have hx := hC.1
  have hb := hC.2.1
  have hl : lv_has ls 4 [(0, .ref (ad 0)), (1, .int 46)] := hl
  refine lv_iload_n hx hb dX9_whyNot_0 rfl (lv_at hl 1 rfl) ?_
  refine lv_bipush (v := 7) hx hb dX9_whyNot_1 (by decide) ?_
  refine lv_icmp_eq (tgt := 12) hx hb dX9_whyNot_3 (by decide) (fun c_ => absurd c_ (by decide)) (fun _ => ?_)
  refine lv_iload_n hx hb dX9_whyNot_6 rfl (lv_at hl 1 rfl) ?_
  refine lv_bipush (v := 8) hx hb dX9_whyNot_7 (by decide) ?_
  refine lv_icmp_ne (tgt := 31) hx hb dX9_whyNot_9 (by decide) (fun _ => ?_) (fun c_ => absurd c_ (by decide))
  refine lv_iload_n hx hb dX9_whyNot_31 rfl (lv_at hl 1 rfl) ?_
  refine lv_bipush (v := 11) hx hb dX9_whyNot_32 (by decide) ?_
  refine lv_icmp_eq (tgt := 43) hx hb dX9_whyNot_34 (by decide) (fun c_ => absurd c_ (by decide)) (fun _ => ?_)
  refine lv_iload_n hx hb dX9_whyNot_37 rfl (lv_at hl 1 rfl) ?_
  refine lv_bipush (v := 12) hx hb dX9_whyNot_38 (by decide) ?_
  refine lv_icmp_ne (tgt := 64) hx hb dX9_whyNot_40 (by decide) (fun _ => ?_) (fun c_ => absurd c_ (by decide))
  refine lv_iload_n hx hb dX9_whyNot_64 rfl (lv_at hl 1 rfl) ?_
  refine lv_bipush (v := 23) hx hb dX9_whyNot_65 (by decide) ?_
  refine lv_icmp_ne (tgt := 91) hx hb dX9_whyNot_67 (by decide) (fun _ => ?_) (fun c_ => absurd c_ (by decide))
  refine lv_iload_n hx hb dX9_whyNot_91 rfl (lv_at hl 1 rfl) ?_
  refine lv_bipush (v := 24) hx hb dX9_whyNot_92 (by decide) ?_
  refine lv_icmp_ne (tgt := 118) hx hb dX9_whyNot_94 (by decide) (fun _ => ?_) (fun c_ => absurd c_ (by decide))
  refine lv_iload_n hx hb dX9_whyNot_118 rfl (lv_at hl 1 rfl) ?_
  refine lv_bipush (v := 29) hx hb dX9_whyNot_119 (by decide) ?_
  refine lv_icmp_ne (tgt := 140) hx hb dX9_whyNot_121 (by decide) (fun _ => ?_) (fun c_ => absurd c_ (by decide))
  refine lv_iload_n hx hb dX9_whyNot_140 rfl (lv_at hl 1 rfl) ?_
  refine lv_bipush (v := 31) hx hb dX9_whyNot_141 (by decide) ?_
  refine lv_icmp_ne (tgt := 197) hx hb dX9_whyNot_143 (by decide) (fun _ => ?_) (fun c_ => absurd c_ (by decide))
  refine lv_iload_n hx hb dX9_whyNot_197 rfl (lv_at hl 1 rfl) ?_
  refine lv_bipush (v := 32) hx hb dX9_whyNot_198 (by decide) ?_
  refine lv_icmp_ne (tgt := 272) hx hb dX9_whyNot_200 (by decide) (fun _ => ?_) (fun c_ => absurd c_ (by decide))
  refine lv_iload_n hx hb dX9_whyNot_272 rfl (lv_at hl 1 rfl) ?_
  refine lv_bipush (v := 33) hx hb dX9_whyNot_273 (by decide) ?_
  refine lv_icmp_ne (tgt := 294) hx hb dX9_whyNot_275 (by decide) (fun _ => ?_) (fun c_ => absurd c_ (by decide))
  refine lv_iload_n hx hb dX9_whyNot_294 rfl (lv_at hl 1 rfl) ?_
  refine lv_bipush (v := 38) hx hb dX9_whyNot_295 (by decide) ?_
  refine lv_icmp_lt (tgt := 306) hx hb dX9_whyNot_297 (by decide) (fun c_ => absurd c_ (by decide)) (fun _ => ?_)
  refine lv_aload_n hx hb dX9_whyNot_300 rfl (lv_at hl 0 rfl) ?_
  refine lv_iload_n hx hb dX9_whyNot_301 rfl (lv_at hl 1 rfl) ?_
  refine r_ki hw (r_runV (rest := []) hC hw 0 (c_X9_whyNotThing_46 l _ hs hW) rk9 (wMl 0 (by decide)) wM0 1 gX9_whyNot_X9_whyNotThing rfl rfl rfl (by decide +kernel) ⟨Nat.le_of_ble_eq_true rfl, Nat.le_of_ble_eq_true rfl⟩ rfl hl.1 rfl (Nat.le_of_ble_eq_true rfl) dX9_whyNot_302 ⟨Nat.le_of_ble_eq_true rfl, Nat.le_of_ble_eq_true rfl⟩) (fun r_2 u_3 H locs h_1 hw => ?_)
  subst h_1
  exact r_iret hC hr hlk hw () rfl rfl (Nat.le_of_ble_eq_true rfl) (Nat.le_of_ble_eq_true rfl) dX9_whyNot_305

set_option maxHeartbeats 4000000 in
set_option maxRecDepth 100000 in
theorem c_X9_whyNot_47 (l : Launch) {D : va_G} {q : Nat → ClassId} {ad : Nat → Nat} {κ : KS} {t : Nat → Int32} (sz : Nat) (hs : okStep 47 (t 0) (t 1) (t 2)) (hW : WFm κ) : Met l yX9_whyNot wsX9_whyNot (rmz 5 110) (va_Pc [.ref (ad 0), .int 47] (rPre D q (wM q ad κ t) sz)) (va_Qi (fun (r : Int32) (u : Unit) => r = why κ 47 (t 0) (t 1) (t 2)) (fun (u : Unit) tt => rPo D (rA (wM q ad κ t) sz) (wM q ad κ t) tt) (rA (wM q ad κ t) sz)) 0 0 (rA (wM q ad κ t) sz) := by
  have hi0 : vp_in (t 0) 8 := hs.1
  have hi1 : vp_in (t 1) 8 := hs.2.1
  have hi2 : vp_in (t 2) 8 := hs.2.2
  refine r_start (cc := cX9_whyNot) (maxL := 4) (ret := (some .int)) (by decide) rfl (Nat.le_of_ble_eq_true rfl) ?_
  intro p e s m below meth c ls hC hr hlk hnm hsz hw hl
  have hx := hC.1
  have hb := hC.2.1
  have hl : lv_has ls 4 [(0, .ref (ad 0)), (1, .int 47)] := hl
  refine lv_iload_n hx hb dX9_whyNot_0 rfl (lv_at hl 1 rfl) ?_
  refine lv_bipush (v := 7) hx hb dX9_whyNot_1 (by decide) ?_
  refine lv_icmp_eq (tgt := 12) hx hb dX9_whyNot_3 (by decide) (fun c_ => absurd c_ (by decide)) (fun _ => ?_)
  refine lv_iload_n hx hb dX9_whyNot_6 rfl (lv_at hl 1 rfl) ?_
  refine lv_bipush (v := 8) hx hb dX9_whyNot_7 (by decide) ?_
  refine lv_icmp_ne (tgt := 31) hx hb dX9_whyNot_9 (by decide) (fun _ => ?_) (fun c_ => absurd c_ (by decide))
  refine lv_iload_n hx hb dX9_whyNot_31 rfl (lv_at hl 1 rfl) ?_
  refine lv_bipush (v := 11) hx hb dX9_whyNot_32 (by decide) ?_
  refine lv_icmp_eq (tgt := 43) hx hb dX9_whyNot_34 (by decide) (fun c_ => absurd c_ (by decide)) (fun _ => ?_)
  refine lv_iload_n hx hb dX9_whyNot_37 rfl (lv_at hl 1 rfl) ?_
  refine lv_bipush (v := 12) hx hb dX9_whyNot_38 (by decide) ?_
  refine lv_icmp_ne (tgt := 64) hx hb dX9_whyNot_40 (by decide) (fun _ => ?_) (fun c_ => absurd c_ (by decide))
  refine lv_iload_n hx hb dX9_whyNot_64 rfl (lv_at hl 1 rfl) ?_
  refine lv_bipush (v := 23) hx hb dX9_whyNot_65 (by decide) ?_
  refine lv_icmp_ne (tgt := 91) hx hb dX9_whyNot_67 (by decide) (fun _ => ?_) (fun c_ => absurd c_ (by decide))
  refine lv_iload_n hx hb dX9_whyNot_91 rfl (lv_at hl 1 rfl) ?_
  refine lv_bipush (v := 24) hx hb dX9_whyNot_92 (by decide) ?_
  refine lv_icmp_ne (tgt := 118) hx hb dX9_whyNot_94 (by decide) (fun _ => ?_) (fun c_ => absurd c_ (by decide))
  refine lv_iload_n hx hb dX9_whyNot_118 rfl (lv_at hl 1 rfl) ?_
  refine lv_bipush (v := 29) hx hb dX9_whyNot_119 (by decide) ?_
  refine lv_icmp_ne (tgt := 140) hx hb dX9_whyNot_121 (by decide) (fun _ => ?_) (fun c_ => absurd c_ (by decide))
  refine lv_iload_n hx hb dX9_whyNot_140 rfl (lv_at hl 1 rfl) ?_
  refine lv_bipush (v := 31) hx hb dX9_whyNot_141 (by decide) ?_
  refine lv_icmp_ne (tgt := 197) hx hb dX9_whyNot_143 (by decide) (fun _ => ?_) (fun c_ => absurd c_ (by decide))
  refine lv_iload_n hx hb dX9_whyNot_197 rfl (lv_at hl 1 rfl) ?_
  refine lv_bipush (v := 32) hx hb dX9_whyNot_198 (by decide) ?_
  refine lv_icmp_ne (tgt := 272) hx hb dX9_whyNot_200 (by decide) (fun _ => ?_) (fun c_ => absurd c_ (by decide))
  refine lv_iload_n hx hb dX9_whyNot_272 rfl (lv_at hl 1 rfl) ?_
  refine lv_bipush (v := 33) hx hb dX9_whyNot_273 (by decide) ?_
  refine lv_icmp_ne (tgt := 294) hx hb dX9_whyNot_275 (by decide) (fun _ => ?_) (fun c_ => absurd c_ (by decide))
  refine lv_iload_n hx hb dX9_whyNot_294 rfl (lv_at hl 1 rfl) ?_
  refine lv_bipush (v := 38) hx hb dX9_whyNot_295 (by decide) ?_
  refine lv_icmp_lt (tgt := 306) hx hb dX9_whyNot_297 (by decide) (fun c_ => absurd c_ (by decide)) (fun _ => ?_)
  refine lv_aload_n hx hb dX9_whyNot_300 rfl (lv_at hl 0 rfl) ?_
  refine lv_iload_n hx hb dX9_whyNot_301 rfl (lv_at hl 1 rfl) ?_
  refine r_ki hw (r_runV (rest := []) hC hw 0 (c_X9_whyNotThing_47 l _ hs hW) rk9 (wMl 0 (by decide)) wM0 1 gX9_whyNot_X9_whyNotThing rfl rfl rfl (by decide +kernel) ⟨Nat.le_of_ble_eq_true rfl, Nat.le_of_ble_eq_true rfl⟩ rfl hl.1 rfl (Nat.le_of_ble_eq_true rfl) dX9_whyNot_302 ⟨Nat.le_of_ble_eq_true rfl, Nat.le_of_ble_eq_true rfl⟩) (fun r_2 u_3 H locs h_1 hw => ?_)
  subst h_1
  exact r_iret hC hr hlk hw () rfl rfl (Nat.le_of_ble_eq_true rfl) (Nat.le_of_ble_eq_true rfl) dX9_whyNot_305

set_option maxHeartbeats 4000000 in
set_option maxRecDepth 100000 in
theorem c_X9_whyNot_48 (l : Launch) {D : va_G} {q : Nat → ClassId} {ad : Nat → Nat} {κ : KS} {t : Nat → Int32} (sz : Nat) (hs : okStep 48 (t 0) (t 1) (t 2)) (hW : WFm κ) : Met l yX9_whyNot wsX9_whyNot (rmz 5 110) (va_Pc [.ref (ad 0), .int 48] (rPre D q (wM q ad κ t) sz)) (va_Qi (fun (r : Int32) (u : Unit) => r = why κ 48 (t 0) (t 1) (t 2)) (fun (u : Unit) tt => rPo D (rA (wM q ad κ t) sz) (wM q ad κ t) tt) (rA (wM q ad κ t) sz)) 0 0 (rA (wM q ad κ t) sz) := by
  have hi0 : vp_in (t 0) 8 := hs.1
  have hi1 : vp_in (t 1) 8 := hs.2.1
  have hi2 : vp_in (t 2) 8 := hs.2.2
  refine r_start (cc := cX9_whyNot) (maxL := 4) (ret := (some .int)) (by decide) rfl (Nat.le_of_ble_eq_true rfl) ?_
  intro p e s m below meth c ls hC hr hlk hnm hsz hw hl
  have hx := hC.1
  have hb := hC.2.1
  have hl : lv_has ls 4 [(0, .ref (ad 0)), (1, .int 48)] := hl
  refine lv_iload_n hx hb dX9_whyNot_0 rfl (lv_at hl 1 rfl) ?_
  refine lv_bipush (v := 7) hx hb dX9_whyNot_1 (by decide) ?_
  refine lv_icmp_eq (tgt := 12) hx hb dX9_whyNot_3 (by decide) (fun c_ => absurd c_ (by decide)) (fun _ => ?_)
  refine lv_iload_n hx hb dX9_whyNot_6 rfl (lv_at hl 1 rfl) ?_
  refine lv_bipush (v := 8) hx hb dX9_whyNot_7 (by decide) ?_
  refine lv_icmp_ne (tgt := 31) hx hb dX9_whyNot_9 (by decide) (fun _ => ?_) (fun c_ => absurd c_ (by decide))
  refine lv_iload_n hx hb dX9_whyNot_31 rfl (lv_at hl 1 rfl) ?_
  refine lv_bipush (v := 11) hx hb dX9_whyNot_32 (by decide) ?_
  refine lv_icmp_eq (tgt := 43) hx hb dX9_whyNot_34 (by decide) (fun c_ => absurd c_ (by decide)) (fun _ => ?_)
  refine lv_iload_n hx hb dX9_whyNot_37 rfl (lv_at hl 1 rfl) ?_
  refine lv_bipush (v := 12) hx hb dX9_whyNot_38 (by decide) ?_
  refine lv_icmp_ne (tgt := 64) hx hb dX9_whyNot_40 (by decide) (fun _ => ?_) (fun c_ => absurd c_ (by decide))
  refine lv_iload_n hx hb dX9_whyNot_64 rfl (lv_at hl 1 rfl) ?_
  refine lv_bipush (v := 23) hx hb dX9_whyNot_65 (by decide) ?_
  refine lv_icmp_ne (tgt := 91) hx hb dX9_whyNot_67 (by decide) (fun _ => ?_) (fun c_ => absurd c_ (by decide))
  refine lv_iload_n hx hb dX9_whyNot_91 rfl (lv_at hl 1 rfl) ?_
  refine lv_bipush (v := 24) hx hb dX9_whyNot_92 (by decide) ?_
  refine lv_icmp_ne (tgt := 118) hx hb dX9_whyNot_94 (by decide) (fun _ => ?_) (fun c_ => absurd c_ (by decide))
  refine lv_iload_n hx hb dX9_whyNot_118 rfl (lv_at hl 1 rfl) ?_
  refine lv_bipush (v := 29) hx hb dX9_whyNot_119 (by decide) ?_
  refine lv_icmp_ne (tgt := 140) hx hb dX9_whyNot_121 (by decide) (fun _ => ?_) (fun c_ => absurd c_ (by decide))
  refine lv_iload_n hx hb dX9_whyNot_140 rfl (lv_at hl 1 rfl) ?_
  refine lv_bipush (v := 31) hx hb dX9_whyNot_141 (by decide) ?_
  refine lv_icmp_ne (tgt := 197) hx hb dX9_whyNot_143 (by decide) (fun _ => ?_) (fun c_ => absurd c_ (by decide))
  refine lv_iload_n hx hb dX9_whyNot_197 rfl (lv_at hl 1 rfl) ?_
  refine lv_bipush (v := 32) hx hb dX9_whyNot_198 (by decide) ?_
  refine lv_icmp_ne (tgt := 272) hx hb dX9_whyNot_200 (by decide) (fun _ => ?_) (fun c_ => absurd c_ (by decide))
  refine lv_iload_n hx hb dX9_whyNot_272 rfl (lv_at hl 1 rfl) ?_
  refine lv_bipush (v := 33) hx hb dX9_whyNot_273 (by decide) ?_
  refine lv_icmp_ne (tgt := 294) hx hb dX9_whyNot_275 (by decide) (fun _ => ?_) (fun c_ => absurd c_ (by decide))
  refine lv_iload_n hx hb dX9_whyNot_294 rfl (lv_at hl 1 rfl) ?_
  refine lv_bipush (v := 38) hx hb dX9_whyNot_295 (by decide) ?_
  refine lv_icmp_lt (tgt := 306) hx hb dX9_whyNot_297 (by decide) (fun c_ => absurd c_ (by decide)) (fun _ => ?_)
  refine lv_aload_n hx hb dX9_whyNot_300 rfl (lv_at hl 0 rfl) ?_
  refine lv_iload_n hx hb dX9_whyNot_301 rfl (lv_at hl 1 rfl) ?_
  refine r_ki hw (r_runV (rest := []) hC hw 0 (c_X9_whyNotThing_48 l _ hs hW) rk9 (wMl 0 (by decide)) wM0 1 gX9_whyNot_X9_whyNotThing rfl rfl rfl (by decide +kernel) ⟨Nat.le_of_ble_eq_true rfl, Nat.le_of_ble_eq_true rfl⟩ rfl hl.1 rfl (Nat.le_of_ble_eq_true rfl) dX9_whyNot_302 ⟨Nat.le_of_ble_eq_true rfl, Nat.le_of_ble_eq_true rfl⟩) (fun r_2 u_3 H locs h_1 hw => ?_)
  subst h_1
  exact r_iret hC hr hlk hw () rfl rfl (Nat.le_of_ble_eq_true rfl) (Nat.le_of_ble_eq_true rfl) dX9_whyNot_305

set_option maxHeartbeats 4000000 in
set_option maxRecDepth 100000 in
theorem c_X9_whyNot_49 (l : Launch) {D : va_G} {q : Nat → ClassId} {ad : Nat → Nat} {κ : KS} {t : Nat → Int32} (sz : Nat) (hs : okStep 49 (t 0) (t 1) (t 2)) (hW : WFm κ) : Met l yX9_whyNot wsX9_whyNot (rmz 5 110) (va_Pc [.ref (ad 0), .int 49] (rPre D q (wM q ad κ t) sz)) (va_Qi (fun (r : Int32) (u : Unit) => r = why κ 49 (t 0) (t 1) (t 2)) (fun (u : Unit) tt => rPo D (rA (wM q ad κ t) sz) (wM q ad κ t) tt) (rA (wM q ad κ t) sz)) 0 0 (rA (wM q ad κ t) sz) := by
  have hi0 : vp_in (t 0) 8 := hs.1
  have hi1 : vp_in (t 1) 8 := hs.2.1
  have hi2 : vp_in (t 2) 8 := hs.2.2
  refine r_start (cc := cX9_whyNot) (maxL := 4) (ret := (some .int)) (by decide) rfl (Nat.le_of_ble_eq_true rfl) ?_
  intro p e s m below meth c ls hC hr hlk hnm hsz hw hl
  have hx := hC.1
  have hb := hC.2.1
  have hl : lv_has ls 4 [(0, .ref (ad 0)), (1, .int 49)] := hl
  refine lv_iload_n hx hb dX9_whyNot_0 rfl (lv_at hl 1 rfl) ?_
  refine lv_bipush (v := 7) hx hb dX9_whyNot_1 (by decide) ?_
  refine lv_icmp_eq (tgt := 12) hx hb dX9_whyNot_3 (by decide) (fun c_ => absurd c_ (by decide)) (fun _ => ?_)
  refine lv_iload_n hx hb dX9_whyNot_6 rfl (lv_at hl 1 rfl) ?_
  refine lv_bipush (v := 8) hx hb dX9_whyNot_7 (by decide) ?_
  refine lv_icmp_ne (tgt := 31) hx hb dX9_whyNot_9 (by decide) (fun _ => ?_) (fun c_ => absurd c_ (by decide))
  refine lv_iload_n hx hb dX9_whyNot_31 rfl (lv_at hl 1 rfl) ?_
  refine lv_bipush (v := 11) hx hb dX9_whyNot_32 (by decide) ?_
  refine lv_icmp_eq (tgt := 43) hx hb dX9_whyNot_34 (by decide) (fun c_ => absurd c_ (by decide)) (fun _ => ?_)
  refine lv_iload_n hx hb dX9_whyNot_37 rfl (lv_at hl 1 rfl) ?_
  refine lv_bipush (v := 12) hx hb dX9_whyNot_38 (by decide) ?_
  refine lv_icmp_ne (tgt := 64) hx hb dX9_whyNot_40 (by decide) (fun _ => ?_) (fun c_ => absurd c_ (by decide))
  refine lv_iload_n hx hb dX9_whyNot_64 rfl (lv_at hl 1 rfl) ?_
  refine lv_bipush (v := 23) hx hb dX9_whyNot_65 (by decide) ?_
  refine lv_icmp_ne (tgt := 91) hx hb dX9_whyNot_67 (by decide) (fun _ => ?_) (fun c_ => absurd c_ (by decide))
  refine lv_iload_n hx hb dX9_whyNot_91 rfl (lv_at hl 1 rfl) ?_
  refine lv_bipush (v := 24) hx hb dX9_whyNot_92 (by decide) ?_
  refine lv_icmp_ne (tgt := 118) hx hb dX9_whyNot_94 (by decide) (fun _ => ?_) (fun c_ => absurd c_ (by decide))
  refine lv_iload_n hx hb dX9_whyNot_118 rfl (lv_at hl 1 rfl) ?_
  refine lv_bipush (v := 29) hx hb dX9_whyNot_119 (by decide) ?_
  refine lv_icmp_ne (tgt := 140) hx hb dX9_whyNot_121 (by decide) (fun _ => ?_) (fun c_ => absurd c_ (by decide))
  refine lv_iload_n hx hb dX9_whyNot_140 rfl (lv_at hl 1 rfl) ?_
  refine lv_bipush (v := 31) hx hb dX9_whyNot_141 (by decide) ?_
  refine lv_icmp_ne (tgt := 197) hx hb dX9_whyNot_143 (by decide) (fun _ => ?_) (fun c_ => absurd c_ (by decide))
  refine lv_iload_n hx hb dX9_whyNot_197 rfl (lv_at hl 1 rfl) ?_
  refine lv_bipush (v := 32) hx hb dX9_whyNot_198 (by decide) ?_
  refine lv_icmp_ne (tgt := 272) hx hb dX9_whyNot_200 (by decide) (fun _ => ?_) (fun c_ => absurd c_ (by decide))
  refine lv_iload_n hx hb dX9_whyNot_272 rfl (lv_at hl 1 rfl) ?_
  refine lv_bipush (v := 33) hx hb dX9_whyNot_273 (by decide) ?_
  refine lv_icmp_ne (tgt := 294) hx hb dX9_whyNot_275 (by decide) (fun _ => ?_) (fun c_ => absurd c_ (by decide))
  refine lv_iload_n hx hb dX9_whyNot_294 rfl (lv_at hl 1 rfl) ?_
  refine lv_bipush (v := 38) hx hb dX9_whyNot_295 (by decide) ?_
  refine lv_icmp_lt (tgt := 306) hx hb dX9_whyNot_297 (by decide) (fun c_ => absurd c_ (by decide)) (fun _ => ?_)
  refine lv_aload_n hx hb dX9_whyNot_300 rfl (lv_at hl 0 rfl) ?_
  refine lv_iload_n hx hb dX9_whyNot_301 rfl (lv_at hl 1 rfl) ?_
  refine r_ki hw (r_runV (rest := []) hC hw 0 (c_X9_whyNotThing_49 l _ hs hW) rk9 (wMl 0 (by decide)) wM0 1 gX9_whyNot_X9_whyNotThing rfl rfl rfl (by decide +kernel) ⟨Nat.le_of_ble_eq_true rfl, Nat.le_of_ble_eq_true rfl⟩ rfl hl.1 rfl (Nat.le_of_ble_eq_true rfl) dX9_whyNot_302 ⟨Nat.le_of_ble_eq_true rfl, Nat.le_of_ble_eq_true rfl⟩) (fun r_2 u_3 H locs h_1 hw => ?_)
  subst h_1
  exact r_iret hC hr hlk hw () rfl rfl (Nat.le_of_ble_eq_true rfl) (Nat.le_of_ble_eq_true rfl) dX9_whyNot_305

set_option maxHeartbeats 4000000 in
set_option maxRecDepth 100000 in
theorem c_X9_whyNot_50 (l : Launch) {D : va_G} {q : Nat → ClassId} {ad : Nat → Nat} {κ : KS} {t : Nat → Int32} (sz : Nat) (hs : okStep 50 (t 0) (t 1) (t 2)) (hW : WFm κ) : Met l yX9_whyNot wsX9_whyNot (rmz 5 110) (va_Pc [.ref (ad 0), .int 50] (rPre D q (wM q ad κ t) sz)) (va_Qi (fun (r : Int32) (u : Unit) => r = why κ 50 (t 0) (t 1) (t 2)) (fun (u : Unit) tt => rPo D (rA (wM q ad κ t) sz) (wM q ad κ t) tt) (rA (wM q ad κ t) sz)) 0 0 (rA (wM q ad κ t) sz) := by
  have hi0 : vp_in (t 0) 8 := hs.1
  have hi1 : vp_in (t 1) 8 := hs.2.1
  have hi2 : vp_in (t 2) 8 := hs.2.2
  refine r_start (cc := cX9_whyNot) (maxL := 4) (ret := (some .int)) (by decide) rfl (Nat.le_of_ble_eq_true rfl) ?_
  intro p e s m below meth c ls hC hr hlk hnm hsz hw hl
  have hx := hC.1
  have hb := hC.2.1
  have hl : lv_has ls 4 [(0, .ref (ad 0)), (1, .int 50)] := hl
  refine lv_iload_n hx hb dX9_whyNot_0 rfl (lv_at hl 1 rfl) ?_
  refine lv_bipush (v := 7) hx hb dX9_whyNot_1 (by decide) ?_
  refine lv_icmp_eq (tgt := 12) hx hb dX9_whyNot_3 (by decide) (fun c_ => absurd c_ (by decide)) (fun _ => ?_)
  refine lv_iload_n hx hb dX9_whyNot_6 rfl (lv_at hl 1 rfl) ?_
  refine lv_bipush (v := 8) hx hb dX9_whyNot_7 (by decide) ?_
  refine lv_icmp_ne (tgt := 31) hx hb dX9_whyNot_9 (by decide) (fun _ => ?_) (fun c_ => absurd c_ (by decide))
  refine lv_iload_n hx hb dX9_whyNot_31 rfl (lv_at hl 1 rfl) ?_
  refine lv_bipush (v := 11) hx hb dX9_whyNot_32 (by decide) ?_
  refine lv_icmp_eq (tgt := 43) hx hb dX9_whyNot_34 (by decide) (fun c_ => absurd c_ (by decide)) (fun _ => ?_)
  refine lv_iload_n hx hb dX9_whyNot_37 rfl (lv_at hl 1 rfl) ?_
  refine lv_bipush (v := 12) hx hb dX9_whyNot_38 (by decide) ?_
  refine lv_icmp_ne (tgt := 64) hx hb dX9_whyNot_40 (by decide) (fun _ => ?_) (fun c_ => absurd c_ (by decide))
  refine lv_iload_n hx hb dX9_whyNot_64 rfl (lv_at hl 1 rfl) ?_
  refine lv_bipush (v := 23) hx hb dX9_whyNot_65 (by decide) ?_
  refine lv_icmp_ne (tgt := 91) hx hb dX9_whyNot_67 (by decide) (fun _ => ?_) (fun c_ => absurd c_ (by decide))
  refine lv_iload_n hx hb dX9_whyNot_91 rfl (lv_at hl 1 rfl) ?_
  refine lv_bipush (v := 24) hx hb dX9_whyNot_92 (by decide) ?_
  refine lv_icmp_ne (tgt := 118) hx hb dX9_whyNot_94 (by decide) (fun _ => ?_) (fun c_ => absurd c_ (by decide))
  refine lv_iload_n hx hb dX9_whyNot_118 rfl (lv_at hl 1 rfl) ?_
  refine lv_bipush (v := 29) hx hb dX9_whyNot_119 (by decide) ?_
  refine lv_icmp_ne (tgt := 140) hx hb dX9_whyNot_121 (by decide) (fun _ => ?_) (fun c_ => absurd c_ (by decide))
  refine lv_iload_n hx hb dX9_whyNot_140 rfl (lv_at hl 1 rfl) ?_
  refine lv_bipush (v := 31) hx hb dX9_whyNot_141 (by decide) ?_
  refine lv_icmp_ne (tgt := 197) hx hb dX9_whyNot_143 (by decide) (fun _ => ?_) (fun c_ => absurd c_ (by decide))
  refine lv_iload_n hx hb dX9_whyNot_197 rfl (lv_at hl 1 rfl) ?_
  refine lv_bipush (v := 32) hx hb dX9_whyNot_198 (by decide) ?_
  refine lv_icmp_ne (tgt := 272) hx hb dX9_whyNot_200 (by decide) (fun _ => ?_) (fun c_ => absurd c_ (by decide))
  refine lv_iload_n hx hb dX9_whyNot_272 rfl (lv_at hl 1 rfl) ?_
  refine lv_bipush (v := 33) hx hb dX9_whyNot_273 (by decide) ?_
  refine lv_icmp_ne (tgt := 294) hx hb dX9_whyNot_275 (by decide) (fun _ => ?_) (fun c_ => absurd c_ (by decide))
  refine lv_iload_n hx hb dX9_whyNot_294 rfl (lv_at hl 1 rfl) ?_
  refine lv_bipush (v := 38) hx hb dX9_whyNot_295 (by decide) ?_
  refine lv_icmp_lt (tgt := 306) hx hb dX9_whyNot_297 (by decide) (fun c_ => absurd c_ (by decide)) (fun _ => ?_)
  refine lv_aload_n hx hb dX9_whyNot_300 rfl (lv_at hl 0 rfl) ?_
  refine lv_iload_n hx hb dX9_whyNot_301 rfl (lv_at hl 1 rfl) ?_
  refine r_ki hw (r_runV (rest := []) hC hw 0 (c_X9_whyNotThing_50 l _ hs hW) rk9 (wMl 0 (by decide)) wM0 1 gX9_whyNot_X9_whyNotThing rfl rfl rfl (by decide +kernel) ⟨Nat.le_of_ble_eq_true rfl, Nat.le_of_ble_eq_true rfl⟩ rfl hl.1 rfl (Nat.le_of_ble_eq_true rfl) dX9_whyNot_302 ⟨Nat.le_of_ble_eq_true rfl, Nat.le_of_ble_eq_true rfl⟩) (fun r_2 u_3 H locs h_1 hw => ?_)
  subst h_1
  exact r_iret hC hr hlk hw () rfl rfl (Nat.le_of_ble_eq_true rfl) (Nat.le_of_ble_eq_true rfl) dX9_whyNot_305

set_option maxHeartbeats 4000000 in
set_option maxRecDepth 100000 in
theorem c_X9_whyNot_51 (l : Launch) {D : va_G} {q : Nat → ClassId} {ad : Nat → Nat} {κ : KS} {t : Nat → Int32} (sz : Nat) (hs : okStep 51 (t 0) (t 1) (t 2)) (hW : WFm κ) : Met l yX9_whyNot wsX9_whyNot (rmz 5 110) (va_Pc [.ref (ad 0), .int 51] (rPre D q (wM q ad κ t) sz)) (va_Qi (fun (r : Int32) (u : Unit) => r = why κ 51 (t 0) (t 1) (t 2)) (fun (u : Unit) tt => rPo D (rA (wM q ad κ t) sz) (wM q ad κ t) tt) (rA (wM q ad κ t) sz)) 0 0 (rA (wM q ad κ t) sz) := by
  have hi0 : vp_in (t 0) 8 := hs.1
  have hi1 : vp_in (t 1) 8 := hs.2.1
  have hi2 : vp_in (t 2) 8 := hs.2.2
  refine r_start (cc := cX9_whyNot) (maxL := 4) (ret := (some .int)) (by decide) rfl (Nat.le_of_ble_eq_true rfl) ?_
  intro p e s m below meth c ls hC hr hlk hnm hsz hw hl
  have hx := hC.1
  have hb := hC.2.1
  have hl : lv_has ls 4 [(0, .ref (ad 0)), (1, .int 51)] := hl
  refine lv_iload_n hx hb dX9_whyNot_0 rfl (lv_at hl 1 rfl) ?_
  refine lv_bipush (v := 7) hx hb dX9_whyNot_1 (by decide) ?_
  refine lv_icmp_eq (tgt := 12) hx hb dX9_whyNot_3 (by decide) (fun c_ => absurd c_ (by decide)) (fun _ => ?_)
  refine lv_iload_n hx hb dX9_whyNot_6 rfl (lv_at hl 1 rfl) ?_
  refine lv_bipush (v := 8) hx hb dX9_whyNot_7 (by decide) ?_
  refine lv_icmp_ne (tgt := 31) hx hb dX9_whyNot_9 (by decide) (fun _ => ?_) (fun c_ => absurd c_ (by decide))
  refine lv_iload_n hx hb dX9_whyNot_31 rfl (lv_at hl 1 rfl) ?_
  refine lv_bipush (v := 11) hx hb dX9_whyNot_32 (by decide) ?_
  refine lv_icmp_eq (tgt := 43) hx hb dX9_whyNot_34 (by decide) (fun c_ => absurd c_ (by decide)) (fun _ => ?_)
  refine lv_iload_n hx hb dX9_whyNot_37 rfl (lv_at hl 1 rfl) ?_
  refine lv_bipush (v := 12) hx hb dX9_whyNot_38 (by decide) ?_
  refine lv_icmp_ne (tgt := 64) hx hb dX9_whyNot_40 (by decide) (fun _ => ?_) (fun c_ => absurd c_ (by decide))
  refine lv_iload_n hx hb dX9_whyNot_64 rfl (lv_at hl 1 rfl) ?_
  refine lv_bipush (v := 23) hx hb dX9_whyNot_65 (by decide) ?_
  refine lv_icmp_ne (tgt := 91) hx hb dX9_whyNot_67 (by decide) (fun _ => ?_) (fun c_ => absurd c_ (by decide))
  refine lv_iload_n hx hb dX9_whyNot_91 rfl (lv_at hl 1 rfl) ?_
  refine lv_bipush (v := 24) hx hb dX9_whyNot_92 (by decide) ?_
  refine lv_icmp_ne (tgt := 118) hx hb dX9_whyNot_94 (by decide) (fun _ => ?_) (fun c_ => absurd c_ (by decide))
  refine lv_iload_n hx hb dX9_whyNot_118 rfl (lv_at hl 1 rfl) ?_
  refine lv_bipush (v := 29) hx hb dX9_whyNot_119 (by decide) ?_
  refine lv_icmp_ne (tgt := 140) hx hb dX9_whyNot_121 (by decide) (fun _ => ?_) (fun c_ => absurd c_ (by decide))
  refine lv_iload_n hx hb dX9_whyNot_140 rfl (lv_at hl 1 rfl) ?_
  refine lv_bipush (v := 31) hx hb dX9_whyNot_141 (by decide) ?_
  refine lv_icmp_ne (tgt := 197) hx hb dX9_whyNot_143 (by decide) (fun _ => ?_) (fun c_ => absurd c_ (by decide))
  refine lv_iload_n hx hb dX9_whyNot_197 rfl (lv_at hl 1 rfl) ?_
  refine lv_bipush (v := 32) hx hb dX9_whyNot_198 (by decide) ?_
  refine lv_icmp_ne (tgt := 272) hx hb dX9_whyNot_200 (by decide) (fun _ => ?_) (fun c_ => absurd c_ (by decide))
  refine lv_iload_n hx hb dX9_whyNot_272 rfl (lv_at hl 1 rfl) ?_
  refine lv_bipush (v := 33) hx hb dX9_whyNot_273 (by decide) ?_
  refine lv_icmp_ne (tgt := 294) hx hb dX9_whyNot_275 (by decide) (fun _ => ?_) (fun c_ => absurd c_ (by decide))
  refine lv_iload_n hx hb dX9_whyNot_294 rfl (lv_at hl 1 rfl) ?_
  refine lv_bipush (v := 38) hx hb dX9_whyNot_295 (by decide) ?_
  refine lv_icmp_lt (tgt := 306) hx hb dX9_whyNot_297 (by decide) (fun c_ => absurd c_ (by decide)) (fun _ => ?_)
  refine lv_aload_n hx hb dX9_whyNot_300 rfl (lv_at hl 0 rfl) ?_
  refine lv_iload_n hx hb dX9_whyNot_301 rfl (lv_at hl 1 rfl) ?_
  refine r_ki hw (r_runV (rest := []) hC hw 0 (c_X9_whyNotThing_51 l _ hs hW) rk9 (wMl 0 (by decide)) wM0 1 gX9_whyNot_X9_whyNotThing rfl rfl rfl (by decide +kernel) ⟨Nat.le_of_ble_eq_true rfl, Nat.le_of_ble_eq_true rfl⟩ rfl hl.1 rfl (Nat.le_of_ble_eq_true rfl) dX9_whyNot_302 ⟨Nat.le_of_ble_eq_true rfl, Nat.le_of_ble_eq_true rfl⟩) (fun r_2 u_3 H locs h_1 hw => ?_)
  subst h_1
  exact r_iret hC hr hlk hw () rfl rfl (Nat.le_of_ble_eq_true rfl) (Nat.le_of_ble_eq_true rfl) dX9_whyNot_305

set_option maxHeartbeats 4000000 in
set_option maxRecDepth 100000 in
theorem c_X9_whyNot_52 (l : Launch) {D : va_G} {q : Nat → ClassId} {ad : Nat → Nat} {κ : KS} {t : Nat → Int32} (sz : Nat) (hs : okStep 52 (t 0) (t 1) (t 2)) (hW : WFm κ) : Met l yX9_whyNot wsX9_whyNot (rmz 5 110) (va_Pc [.ref (ad 0), .int 52] (rPre D q (wM q ad κ t) sz)) (va_Qi (fun (r : Int32) (u : Unit) => r = why κ 52 (t 0) (t 1) (t 2)) (fun (u : Unit) tt => rPo D (rA (wM q ad κ t) sz) (wM q ad κ t) tt) (rA (wM q ad κ t) sz)) 0 0 (rA (wM q ad κ t) sz) := by
  have hi0 : vp_in (t 0) 8 := hs.1
  have hi1 : vp_in (t 1) 8 := hs.2.1
  have hi2 : vp_in (t 2) 8 := hs.2.2
  refine r_start (cc := cX9_whyNot) (maxL := 4) (ret := (some .int)) (by decide) rfl (Nat.le_of_ble_eq_true rfl) ?_
  intro p e s m below meth c ls hC hr hlk hnm hsz hw hl
  have hx := hC.1
  have hb := hC.2.1
  have hl : lv_has ls 4 [(0, .ref (ad 0)), (1, .int 52)] := hl
  refine lv_iload_n hx hb dX9_whyNot_0 rfl (lv_at hl 1 rfl) ?_
  refine lv_bipush (v := 7) hx hb dX9_whyNot_1 (by decide) ?_
  refine lv_icmp_eq (tgt := 12) hx hb dX9_whyNot_3 (by decide) (fun c_ => absurd c_ (by decide)) (fun _ => ?_)
  refine lv_iload_n hx hb dX9_whyNot_6 rfl (lv_at hl 1 rfl) ?_
  refine lv_bipush (v := 8) hx hb dX9_whyNot_7 (by decide) ?_
  refine lv_icmp_ne (tgt := 31) hx hb dX9_whyNot_9 (by decide) (fun _ => ?_) (fun c_ => absurd c_ (by decide))
  refine lv_iload_n hx hb dX9_whyNot_31 rfl (lv_at hl 1 rfl) ?_
  refine lv_bipush (v := 11) hx hb dX9_whyNot_32 (by decide) ?_
  refine lv_icmp_eq (tgt := 43) hx hb dX9_whyNot_34 (by decide) (fun c_ => absurd c_ (by decide)) (fun _ => ?_)
  refine lv_iload_n hx hb dX9_whyNot_37 rfl (lv_at hl 1 rfl) ?_
  refine lv_bipush (v := 12) hx hb dX9_whyNot_38 (by decide) ?_
  refine lv_icmp_ne (tgt := 64) hx hb dX9_whyNot_40 (by decide) (fun _ => ?_) (fun c_ => absurd c_ (by decide))
  refine lv_iload_n hx hb dX9_whyNot_64 rfl (lv_at hl 1 rfl) ?_
  refine lv_bipush (v := 23) hx hb dX9_whyNot_65 (by decide) ?_
  refine lv_icmp_ne (tgt := 91) hx hb dX9_whyNot_67 (by decide) (fun _ => ?_) (fun c_ => absurd c_ (by decide))
  refine lv_iload_n hx hb dX9_whyNot_91 rfl (lv_at hl 1 rfl) ?_
  refine lv_bipush (v := 24) hx hb dX9_whyNot_92 (by decide) ?_
  refine lv_icmp_ne (tgt := 118) hx hb dX9_whyNot_94 (by decide) (fun _ => ?_) (fun c_ => absurd c_ (by decide))
  refine lv_iload_n hx hb dX9_whyNot_118 rfl (lv_at hl 1 rfl) ?_
  refine lv_bipush (v := 29) hx hb dX9_whyNot_119 (by decide) ?_
  refine lv_icmp_ne (tgt := 140) hx hb dX9_whyNot_121 (by decide) (fun _ => ?_) (fun c_ => absurd c_ (by decide))
  refine lv_iload_n hx hb dX9_whyNot_140 rfl (lv_at hl 1 rfl) ?_
  refine lv_bipush (v := 31) hx hb dX9_whyNot_141 (by decide) ?_
  refine lv_icmp_ne (tgt := 197) hx hb dX9_whyNot_143 (by decide) (fun _ => ?_) (fun c_ => absurd c_ (by decide))
  refine lv_iload_n hx hb dX9_whyNot_197 rfl (lv_at hl 1 rfl) ?_
  refine lv_bipush (v := 32) hx hb dX9_whyNot_198 (by decide) ?_
  refine lv_icmp_ne (tgt := 272) hx hb dX9_whyNot_200 (by decide) (fun _ => ?_) (fun c_ => absurd c_ (by decide))
  refine lv_iload_n hx hb dX9_whyNot_272 rfl (lv_at hl 1 rfl) ?_
  refine lv_bipush (v := 33) hx hb dX9_whyNot_273 (by decide) ?_
  refine lv_icmp_ne (tgt := 294) hx hb dX9_whyNot_275 (by decide) (fun _ => ?_) (fun c_ => absurd c_ (by decide))
  refine lv_iload_n hx hb dX9_whyNot_294 rfl (lv_at hl 1 rfl) ?_
  refine lv_bipush (v := 38) hx hb dX9_whyNot_295 (by decide) ?_
  refine lv_icmp_lt (tgt := 306) hx hb dX9_whyNot_297 (by decide) (fun c_ => absurd c_ (by decide)) (fun _ => ?_)
  refine lv_aload_n hx hb dX9_whyNot_300 rfl (lv_at hl 0 rfl) ?_
  refine lv_iload_n hx hb dX9_whyNot_301 rfl (lv_at hl 1 rfl) ?_
  refine r_ki hw (r_runV (rest := []) hC hw 0 (c_X9_whyNotThing_52 l _ hs hW) rk9 (wMl 0 (by decide)) wM0 1 gX9_whyNot_X9_whyNotThing rfl rfl rfl (by decide +kernel) ⟨Nat.le_of_ble_eq_true rfl, Nat.le_of_ble_eq_true rfl⟩ rfl hl.1 rfl (Nat.le_of_ble_eq_true rfl) dX9_whyNot_302 ⟨Nat.le_of_ble_eq_true rfl, Nat.le_of_ble_eq_true rfl⟩) (fun r_2 u_3 H locs h_1 hw => ?_)
  subst h_1
  exact r_iret hC hr hlk hw () rfl rfl (Nat.le_of_ble_eq_true rfl) (Nat.le_of_ble_eq_true rfl) dX9_whyNot_305

set_option maxHeartbeats 4000000 in
set_option maxRecDepth 100000 in
theorem c_X9_whyNot_53 (l : Launch) {D : va_G} {q : Nat → ClassId} {ad : Nat → Nat} {κ : KS} {t : Nat → Int32} (sz : Nat) (hs : okStep 53 (t 0) (t 1) (t 2)) (hW : WFm κ) : Met l yX9_whyNot wsX9_whyNot (rmz 5 110) (va_Pc [.ref (ad 0), .int 53] (rPre D q (wM q ad κ t) sz)) (va_Qi (fun (r : Int32) (u : Unit) => r = why κ 53 (t 0) (t 1) (t 2)) (fun (u : Unit) tt => rPo D (rA (wM q ad κ t) sz) (wM q ad κ t) tt) (rA (wM q ad κ t) sz)) 0 0 (rA (wM q ad κ t) sz) := by
  have hi0 : vp_in (t 0) 8 := hs.1
  have hi1 : vp_in (t 1) 8 := hs.2.1
  have hi2 : vp_in (t 2) 8 := hs.2.2
  refine r_start (cc := cX9_whyNot) (maxL := 4) (ret := (some .int)) (by decide) rfl (Nat.le_of_ble_eq_true rfl) ?_
  intro p e s m below meth c ls hC hr hlk hnm hsz hw hl
  have hx := hC.1
  have hb := hC.2.1
  have hl : lv_has ls 4 [(0, .ref (ad 0)), (1, .int 53)] := hl
  refine lv_iload_n hx hb dX9_whyNot_0 rfl (lv_at hl 1 rfl) ?_
  refine lv_bipush (v := 7) hx hb dX9_whyNot_1 (by decide) ?_
  refine lv_icmp_eq (tgt := 12) hx hb dX9_whyNot_3 (by decide) (fun c_ => absurd c_ (by decide)) (fun _ => ?_)
  refine lv_iload_n hx hb dX9_whyNot_6 rfl (lv_at hl 1 rfl) ?_
  refine lv_bipush (v := 8) hx hb dX9_whyNot_7 (by decide) ?_
  refine lv_icmp_ne (tgt := 31) hx hb dX9_whyNot_9 (by decide) (fun _ => ?_) (fun c_ => absurd c_ (by decide))
  refine lv_iload_n hx hb dX9_whyNot_31 rfl (lv_at hl 1 rfl) ?_
  refine lv_bipush (v := 11) hx hb dX9_whyNot_32 (by decide) ?_
  refine lv_icmp_eq (tgt := 43) hx hb dX9_whyNot_34 (by decide) (fun c_ => absurd c_ (by decide)) (fun _ => ?_)
  refine lv_iload_n hx hb dX9_whyNot_37 rfl (lv_at hl 1 rfl) ?_
  refine lv_bipush (v := 12) hx hb dX9_whyNot_38 (by decide) ?_
  refine lv_icmp_ne (tgt := 64) hx hb dX9_whyNot_40 (by decide) (fun _ => ?_) (fun c_ => absurd c_ (by decide))
  refine lv_iload_n hx hb dX9_whyNot_64 rfl (lv_at hl 1 rfl) ?_
  refine lv_bipush (v := 23) hx hb dX9_whyNot_65 (by decide) ?_
  refine lv_icmp_ne (tgt := 91) hx hb dX9_whyNot_67 (by decide) (fun _ => ?_) (fun c_ => absurd c_ (by decide))
  refine lv_iload_n hx hb dX9_whyNot_91 rfl (lv_at hl 1 rfl) ?_
  refine lv_bipush (v := 24) hx hb dX9_whyNot_92 (by decide) ?_
  refine lv_icmp_ne (tgt := 118) hx hb dX9_whyNot_94 (by decide) (fun _ => ?_) (fun c_ => absurd c_ (by decide))
  refine lv_iload_n hx hb dX9_whyNot_118 rfl (lv_at hl 1 rfl) ?_
  refine lv_bipush (v := 29) hx hb dX9_whyNot_119 (by decide) ?_
  refine lv_icmp_ne (tgt := 140) hx hb dX9_whyNot_121 (by decide) (fun _ => ?_) (fun c_ => absurd c_ (by decide))
  refine lv_iload_n hx hb dX9_whyNot_140 rfl (lv_at hl 1 rfl) ?_
  refine lv_bipush (v := 31) hx hb dX9_whyNot_141 (by decide) ?_
  refine lv_icmp_ne (tgt := 197) hx hb dX9_whyNot_143 (by decide) (fun _ => ?_) (fun c_ => absurd c_ (by decide))
  refine lv_iload_n hx hb dX9_whyNot_197 rfl (lv_at hl 1 rfl) ?_
  refine lv_bipush (v := 32) hx hb dX9_whyNot_198 (by decide) ?_
  refine lv_icmp_ne (tgt := 272) hx hb dX9_whyNot_200 (by decide) (fun _ => ?_) (fun c_ => absurd c_ (by decide))
  refine lv_iload_n hx hb dX9_whyNot_272 rfl (lv_at hl 1 rfl) ?_
  refine lv_bipush (v := 33) hx hb dX9_whyNot_273 (by decide) ?_
  refine lv_icmp_ne (tgt := 294) hx hb dX9_whyNot_275 (by decide) (fun _ => ?_) (fun c_ => absurd c_ (by decide))
  refine lv_iload_n hx hb dX9_whyNot_294 rfl (lv_at hl 1 rfl) ?_
  refine lv_bipush (v := 38) hx hb dX9_whyNot_295 (by decide) ?_
  refine lv_icmp_lt (tgt := 306) hx hb dX9_whyNot_297 (by decide) (fun c_ => absurd c_ (by decide)) (fun _ => ?_)
  refine lv_aload_n hx hb dX9_whyNot_300 rfl (lv_at hl 0 rfl) ?_
  refine lv_iload_n hx hb dX9_whyNot_301 rfl (lv_at hl 1 rfl) ?_
  refine r_ki hw (r_runV (rest := []) hC hw 0 (c_X9_whyNotThing_53 l _ hs hW) rk9 (wMl 0 (by decide)) wM0 1 gX9_whyNot_X9_whyNotThing rfl rfl rfl (by decide +kernel) ⟨Nat.le_of_ble_eq_true rfl, Nat.le_of_ble_eq_true rfl⟩ rfl hl.1 rfl (Nat.le_of_ble_eq_true rfl) dX9_whyNot_302 ⟨Nat.le_of_ble_eq_true rfl, Nat.le_of_ble_eq_true rfl⟩) (fun r_2 u_3 H locs h_1 hw => ?_)
  subst h_1
  exact r_iret hC hr hlk hw () rfl rfl (Nat.le_of_ble_eq_true rfl) (Nat.le_of_ble_eq_true rfl) dX9_whyNot_305

set_option maxHeartbeats 4000000 in
set_option maxRecDepth 100000 in
theorem c_X9_whyNot_54 (l : Launch) {D : va_G} {q : Nat → ClassId} {ad : Nat → Nat} {κ : KS} {t : Nat → Int32} (sz : Nat) (hs : okStep 54 (t 0) (t 1) (t 2)) (hW : WFm κ) : Met l yX9_whyNot wsX9_whyNot (rmz 5 110) (va_Pc [.ref (ad 0), .int 54] (rPre D q (wM q ad κ t) sz)) (va_Qi (fun (r : Int32) (u : Unit) => r = why κ 54 (t 0) (t 1) (t 2)) (fun (u : Unit) tt => rPo D (rA (wM q ad κ t) sz) (wM q ad κ t) tt) (rA (wM q ad κ t) sz)) 0 0 (rA (wM q ad κ t) sz) := by
  have hi0 : vp_in (t 0) 4 := hs.1
  have hi1 : vp_in (t 1) 8 := hs.2.1
  have hi2 : vp_in (t 2) 8 := hs.2.2
  refine r_start (cc := cX9_whyNot) (maxL := 4) (ret := (some .int)) (by decide) rfl (Nat.le_of_ble_eq_true rfl) ?_
  intro p e s m below meth c ls hC hr hlk hnm hsz hw hl
  have hx := hC.1
  have hb := hC.2.1
  have hl : lv_has ls 4 [(0, .ref (ad 0)), (1, .int 54)] := hl
  refine lv_iload_n hx hb dX9_whyNot_0 rfl (lv_at hl 1 rfl) ?_
  refine lv_bipush (v := 7) hx hb dX9_whyNot_1 (by decide) ?_
  refine lv_icmp_eq (tgt := 12) hx hb dX9_whyNot_3 (by decide) (fun c_ => absurd c_ (by decide)) (fun _ => ?_)
  refine lv_iload_n hx hb dX9_whyNot_6 rfl (lv_at hl 1 rfl) ?_
  refine lv_bipush (v := 8) hx hb dX9_whyNot_7 (by decide) ?_
  refine lv_icmp_ne (tgt := 31) hx hb dX9_whyNot_9 (by decide) (fun _ => ?_) (fun c_ => absurd c_ (by decide))
  refine lv_iload_n hx hb dX9_whyNot_31 rfl (lv_at hl 1 rfl) ?_
  refine lv_bipush (v := 11) hx hb dX9_whyNot_32 (by decide) ?_
  refine lv_icmp_eq (tgt := 43) hx hb dX9_whyNot_34 (by decide) (fun c_ => absurd c_ (by decide)) (fun _ => ?_)
  refine lv_iload_n hx hb dX9_whyNot_37 rfl (lv_at hl 1 rfl) ?_
  refine lv_bipush (v := 12) hx hb dX9_whyNot_38 (by decide) ?_
  refine lv_icmp_ne (tgt := 64) hx hb dX9_whyNot_40 (by decide) (fun _ => ?_) (fun c_ => absurd c_ (by decide))
  refine lv_iload_n hx hb dX9_whyNot_64 rfl (lv_at hl 1 rfl) ?_
  refine lv_bipush (v := 23) hx hb dX9_whyNot_65 (by decide) ?_
  refine lv_icmp_ne (tgt := 91) hx hb dX9_whyNot_67 (by decide) (fun _ => ?_) (fun c_ => absurd c_ (by decide))
  refine lv_iload_n hx hb dX9_whyNot_91 rfl (lv_at hl 1 rfl) ?_
  refine lv_bipush (v := 24) hx hb dX9_whyNot_92 (by decide) ?_
  refine lv_icmp_ne (tgt := 118) hx hb dX9_whyNot_94 (by decide) (fun _ => ?_) (fun c_ => absurd c_ (by decide))
  refine lv_iload_n hx hb dX9_whyNot_118 rfl (lv_at hl 1 rfl) ?_
  refine lv_bipush (v := 29) hx hb dX9_whyNot_119 (by decide) ?_
  refine lv_icmp_ne (tgt := 140) hx hb dX9_whyNot_121 (by decide) (fun _ => ?_) (fun c_ => absurd c_ (by decide))
  refine lv_iload_n hx hb dX9_whyNot_140 rfl (lv_at hl 1 rfl) ?_
  refine lv_bipush (v := 31) hx hb dX9_whyNot_141 (by decide) ?_
  refine lv_icmp_ne (tgt := 197) hx hb dX9_whyNot_143 (by decide) (fun _ => ?_) (fun c_ => absurd c_ (by decide))
  refine lv_iload_n hx hb dX9_whyNot_197 rfl (lv_at hl 1 rfl) ?_
  refine lv_bipush (v := 32) hx hb dX9_whyNot_198 (by decide) ?_
  refine lv_icmp_ne (tgt := 272) hx hb dX9_whyNot_200 (by decide) (fun _ => ?_) (fun c_ => absurd c_ (by decide))
  refine lv_iload_n hx hb dX9_whyNot_272 rfl (lv_at hl 1 rfl) ?_
  refine lv_bipush (v := 33) hx hb dX9_whyNot_273 (by decide) ?_
  refine lv_icmp_ne (tgt := 294) hx hb dX9_whyNot_275 (by decide) (fun _ => ?_) (fun c_ => absurd c_ (by decide))
  refine lv_iload_n hx hb dX9_whyNot_294 rfl (lv_at hl 1 rfl) ?_
  refine lv_bipush (v := 38) hx hb dX9_whyNot_295 (by decide) ?_
  refine lv_icmp_lt (tgt := 306) hx hb dX9_whyNot_297 (by decide) (fun c_ => absurd c_ (by decide)) (fun _ => ?_)
  refine lv_aload_n hx hb dX9_whyNot_300 rfl (lv_at hl 0 rfl) ?_
  refine lv_iload_n hx hb dX9_whyNot_301 rfl (lv_at hl 1 rfl) ?_
  refine r_ki hw (r_runV (rest := []) hC hw 0 (c_X9_whyNotThing_54 l _ hs hW) rk9 (wMl 0 (by decide)) wM0 1 gX9_whyNot_X9_whyNotThing rfl rfl rfl (by decide +kernel) ⟨Nat.le_of_ble_eq_true rfl, Nat.le_of_ble_eq_true rfl⟩ rfl hl.1 rfl (Nat.le_of_ble_eq_true rfl) dX9_whyNot_302 ⟨Nat.le_of_ble_eq_true rfl, Nat.le_of_ble_eq_true rfl⟩) (fun r_2 u_3 H locs h_1 hw => ?_)
  subst h_1
  exact r_iret hC hr hlk hw () rfl rfl (Nat.le_of_ble_eq_true rfl) (Nat.le_of_ble_eq_true rfl) dX9_whyNot_305

set_option maxHeartbeats 4000000 in
set_option maxRecDepth 100000 in
theorem c_X9_whyNot_55 (l : Launch) {D : va_G} {q : Nat → ClassId} {ad : Nat → Nat} {κ : KS} {t : Nat → Int32} (sz : Nat) (hs : okStep 55 (t 0) (t 1) (t 2)) (hW : WFm κ) : Met l yX9_whyNot wsX9_whyNot (rmz 5 110) (va_Pc [.ref (ad 0), .int 55] (rPre D q (wM q ad κ t) sz)) (va_Qi (fun (r : Int32) (u : Unit) => r = why κ 55 (t 0) (t 1) (t 2)) (fun (u : Unit) tt => rPo D (rA (wM q ad κ t) sz) (wM q ad κ t) tt) (rA (wM q ad κ t) sz)) 0 0 (rA (wM q ad κ t) sz) := by
  have hi0 : vp_in (t 0) 4 := hs.1
  have hi1 : vp_in (t 1) 8 := hs.2.1
  have hi2 : vp_in (t 2) 8 := hs.2.2
  refine r_start (cc := cX9_whyNot) (maxL := 4) (ret := (some .int)) (by decide) rfl (Nat.le_of_ble_eq_true rfl) ?_
  intro p e s m below meth c ls hC hr hlk hnm hsz hw hl
  have hx := hC.1
  have hb := hC.2.1
  have hl : lv_has ls 4 [(0, .ref (ad 0)), (1, .int 55)] := hl
  refine lv_iload_n hx hb dX9_whyNot_0 rfl (lv_at hl 1 rfl) ?_
  refine lv_bipush (v := 7) hx hb dX9_whyNot_1 (by decide) ?_
  refine lv_icmp_eq (tgt := 12) hx hb dX9_whyNot_3 (by decide) (fun c_ => absurd c_ (by decide)) (fun _ => ?_)
  refine lv_iload_n hx hb dX9_whyNot_6 rfl (lv_at hl 1 rfl) ?_
  refine lv_bipush (v := 8) hx hb dX9_whyNot_7 (by decide) ?_
  refine lv_icmp_ne (tgt := 31) hx hb dX9_whyNot_9 (by decide) (fun _ => ?_) (fun c_ => absurd c_ (by decide))
  refine lv_iload_n hx hb dX9_whyNot_31 rfl (lv_at hl 1 rfl) ?_
  refine lv_bipush (v := 11) hx hb dX9_whyNot_32 (by decide) ?_
  refine lv_icmp_eq (tgt := 43) hx hb dX9_whyNot_34 (by decide) (fun c_ => absurd c_ (by decide)) (fun _ => ?_)
  refine lv_iload_n hx hb dX9_whyNot_37 rfl (lv_at hl 1 rfl) ?_
  refine lv_bipush (v := 12) hx hb dX9_whyNot_38 (by decide) ?_
  refine lv_icmp_ne (tgt := 64) hx hb dX9_whyNot_40 (by decide) (fun _ => ?_) (fun c_ => absurd c_ (by decide))
  refine lv_iload_n hx hb dX9_whyNot_64 rfl (lv_at hl 1 rfl) ?_
  refine lv_bipush (v := 23) hx hb dX9_whyNot_65 (by decide) ?_
  refine lv_icmp_ne (tgt := 91) hx hb dX9_whyNot_67 (by decide) (fun _ => ?_) (fun c_ => absurd c_ (by decide))
  refine lv_iload_n hx hb dX9_whyNot_91 rfl (lv_at hl 1 rfl) ?_
  refine lv_bipush (v := 24) hx hb dX9_whyNot_92 (by decide) ?_
  refine lv_icmp_ne (tgt := 118) hx hb dX9_whyNot_94 (by decide) (fun _ => ?_) (fun c_ => absurd c_ (by decide))
  refine lv_iload_n hx hb dX9_whyNot_118 rfl (lv_at hl 1 rfl) ?_
  refine lv_bipush (v := 29) hx hb dX9_whyNot_119 (by decide) ?_
  refine lv_icmp_ne (tgt := 140) hx hb dX9_whyNot_121 (by decide) (fun _ => ?_) (fun c_ => absurd c_ (by decide))
  refine lv_iload_n hx hb dX9_whyNot_140 rfl (lv_at hl 1 rfl) ?_
  refine lv_bipush (v := 31) hx hb dX9_whyNot_141 (by decide) ?_
  refine lv_icmp_ne (tgt := 197) hx hb dX9_whyNot_143 (by decide) (fun _ => ?_) (fun c_ => absurd c_ (by decide))
  refine lv_iload_n hx hb dX9_whyNot_197 rfl (lv_at hl 1 rfl) ?_
  refine lv_bipush (v := 32) hx hb dX9_whyNot_198 (by decide) ?_
  refine lv_icmp_ne (tgt := 272) hx hb dX9_whyNot_200 (by decide) (fun _ => ?_) (fun c_ => absurd c_ (by decide))
  refine lv_iload_n hx hb dX9_whyNot_272 rfl (lv_at hl 1 rfl) ?_
  refine lv_bipush (v := 33) hx hb dX9_whyNot_273 (by decide) ?_
  refine lv_icmp_ne (tgt := 294) hx hb dX9_whyNot_275 (by decide) (fun _ => ?_) (fun c_ => absurd c_ (by decide))
  refine lv_iload_n hx hb dX9_whyNot_294 rfl (lv_at hl 1 rfl) ?_
  refine lv_bipush (v := 38) hx hb dX9_whyNot_295 (by decide) ?_
  refine lv_icmp_lt (tgt := 306) hx hb dX9_whyNot_297 (by decide) (fun c_ => absurd c_ (by decide)) (fun _ => ?_)
  refine lv_aload_n hx hb dX9_whyNot_300 rfl (lv_at hl 0 rfl) ?_
  refine lv_iload_n hx hb dX9_whyNot_301 rfl (lv_at hl 1 rfl) ?_
  refine r_ki hw (r_runV (rest := []) hC hw 0 (c_X9_whyNotThing_55 l _ hs hW) rk9 (wMl 0 (by decide)) wM0 1 gX9_whyNot_X9_whyNotThing rfl rfl rfl (by decide +kernel) ⟨Nat.le_of_ble_eq_true rfl, Nat.le_of_ble_eq_true rfl⟩ rfl hl.1 rfl (Nat.le_of_ble_eq_true rfl) dX9_whyNot_302 ⟨Nat.le_of_ble_eq_true rfl, Nat.le_of_ble_eq_true rfl⟩) (fun r_2 u_3 H locs h_1 hw => ?_)
  subst h_1
  exact r_iret hC hr hlk hw () rfl rfl (Nat.le_of_ble_eq_true rfl) (Nat.le_of_ble_eq_true rfl) dX9_whyNot_305

set_option maxHeartbeats 4000000 in
set_option maxRecDepth 100000 in
theorem c_X9_whyNot_56 (l : Launch) {D : va_G} {q : Nat → ClassId} {ad : Nat → Nat} {κ : KS} {t : Nat → Int32} (sz : Nat) (hs : okStep 56 (t 0) (t 1) (t 2)) (hW : WFm κ) : Met l yX9_whyNot wsX9_whyNot (rmz 5 110) (va_Pc [.ref (ad 0), .int 56] (rPre D q (wM q ad κ t) sz)) (va_Qi (fun (r : Int32) (u : Unit) => r = why κ 56 (t 0) (t 1) (t 2)) (fun (u : Unit) tt => rPo D (rA (wM q ad κ t) sz) (wM q ad κ t) tt) (rA (wM q ad κ t) sz)) 0 0 (rA (wM q ad κ t) sz) := by
  have hi0 : vp_in (t 0) 4 := hs.1
  have hi1 : vp_in (t 1) 8 := hs.2.1
  have hi2 : vp_in (t 2) 8 := hs.2.2
  refine r_start (cc := cX9_whyNot) (maxL := 4) (ret := (some .int)) (by decide) rfl (Nat.le_of_ble_eq_true rfl) ?_
  intro p e s m below meth c ls hC hr hlk hnm hsz hw hl
  have hx := hC.1
  have hb := hC.2.1
  have hl : lv_has ls 4 [(0, .ref (ad 0)), (1, .int 56)] := hl
  refine lv_iload_n hx hb dX9_whyNot_0 rfl (lv_at hl 1 rfl) ?_
  refine lv_bipush (v := 7) hx hb dX9_whyNot_1 (by decide) ?_
  refine lv_icmp_eq (tgt := 12) hx hb dX9_whyNot_3 (by decide) (fun c_ => absurd c_ (by decide)) (fun _ => ?_)
  refine lv_iload_n hx hb dX9_whyNot_6 rfl (lv_at hl 1 rfl) ?_
  refine lv_bipush (v := 8) hx hb dX9_whyNot_7 (by decide) ?_
  refine lv_icmp_ne (tgt := 31) hx hb dX9_whyNot_9 (by decide) (fun _ => ?_) (fun c_ => absurd c_ (by decide))
  refine lv_iload_n hx hb dX9_whyNot_31 rfl (lv_at hl 1 rfl) ?_
  refine lv_bipush (v := 11) hx hb dX9_whyNot_32 (by decide) ?_
  refine lv_icmp_eq (tgt := 43) hx hb dX9_whyNot_34 (by decide) (fun c_ => absurd c_ (by decide)) (fun _ => ?_)
  refine lv_iload_n hx hb dX9_whyNot_37 rfl (lv_at hl 1 rfl) ?_
  refine lv_bipush (v := 12) hx hb dX9_whyNot_38 (by decide) ?_
  refine lv_icmp_ne (tgt := 64) hx hb dX9_whyNot_40 (by decide) (fun _ => ?_) (fun c_ => absurd c_ (by decide))
  refine lv_iload_n hx hb dX9_whyNot_64 rfl (lv_at hl 1 rfl) ?_
  refine lv_bipush (v := 23) hx hb dX9_whyNot_65 (by decide) ?_
  refine lv_icmp_ne (tgt := 91) hx hb dX9_whyNot_67 (by decide) (fun _ => ?_) (fun c_ => absurd c_ (by decide))
  refine lv_iload_n hx hb dX9_whyNot_91 rfl (lv_at hl 1 rfl) ?_
  refine lv_bipush (v := 24) hx hb dX9_whyNot_92 (by decide) ?_
  refine lv_icmp_ne (tgt := 118) hx hb dX9_whyNot_94 (by decide) (fun _ => ?_) (fun c_ => absurd c_ (by decide))
  refine lv_iload_n hx hb dX9_whyNot_118 rfl (lv_at hl 1 rfl) ?_
  refine lv_bipush (v := 29) hx hb dX9_whyNot_119 (by decide) ?_
  refine lv_icmp_ne (tgt := 140) hx hb dX9_whyNot_121 (by decide) (fun _ => ?_) (fun c_ => absurd c_ (by decide))
  refine lv_iload_n hx hb dX9_whyNot_140 rfl (lv_at hl 1 rfl) ?_
  refine lv_bipush (v := 31) hx hb dX9_whyNot_141 (by decide) ?_
  refine lv_icmp_ne (tgt := 197) hx hb dX9_whyNot_143 (by decide) (fun _ => ?_) (fun c_ => absurd c_ (by decide))
  refine lv_iload_n hx hb dX9_whyNot_197 rfl (lv_at hl 1 rfl) ?_
  refine lv_bipush (v := 32) hx hb dX9_whyNot_198 (by decide) ?_
  refine lv_icmp_ne (tgt := 272) hx hb dX9_whyNot_200 (by decide) (fun _ => ?_) (fun c_ => absurd c_ (by decide))
  refine lv_iload_n hx hb dX9_whyNot_272 rfl (lv_at hl 1 rfl) ?_
  refine lv_bipush (v := 33) hx hb dX9_whyNot_273 (by decide) ?_
  refine lv_icmp_ne (tgt := 294) hx hb dX9_whyNot_275 (by decide) (fun _ => ?_) (fun c_ => absurd c_ (by decide))
  refine lv_iload_n hx hb dX9_whyNot_294 rfl (lv_at hl 1 rfl) ?_
  refine lv_bipush (v := 38) hx hb dX9_whyNot_295 (by decide) ?_
  refine lv_icmp_lt (tgt := 306) hx hb dX9_whyNot_297 (by decide) (fun c_ => absurd c_ (by decide)) (fun _ => ?_)
  refine lv_aload_n hx hb dX9_whyNot_300 rfl (lv_at hl 0 rfl) ?_
  refine lv_iload_n hx hb dX9_whyNot_301 rfl (lv_at hl 1 rfl) ?_
  refine r_ki hw (r_runV (rest := []) hC hw 0 (c_X9_whyNotThing_56 l _ hs hW) rk9 (wMl 0 (by decide)) wM0 1 gX9_whyNot_X9_whyNotThing rfl rfl rfl (by decide +kernel) ⟨Nat.le_of_ble_eq_true rfl, Nat.le_of_ble_eq_true rfl⟩ rfl hl.1 rfl (Nat.le_of_ble_eq_true rfl) dX9_whyNot_302 ⟨Nat.le_of_ble_eq_true rfl, Nat.le_of_ble_eq_true rfl⟩) (fun r_2 u_3 H locs h_1 hw => ?_)
  subst h_1
  exact r_iret hC hr hlk hw () rfl rfl (Nat.le_of_ble_eq_true rfl) (Nat.le_of_ble_eq_true rfl) dX9_whyNot_305

set_option maxHeartbeats 4000000 in
set_option maxRecDepth 100000 in
theorem c_X9_whyNot_57 (l : Launch) {D : va_G} {q : Nat → ClassId} {ad : Nat → Nat} {κ : KS} {t : Nat → Int32} (sz : Nat) (hs : okStep 57 (t 0) (t 1) (t 2)) (hW : WFm κ) : Met l yX9_whyNot wsX9_whyNot (rmz 5 110) (va_Pc [.ref (ad 0), .int 57] (rPre D q (wM q ad κ t) sz)) (va_Qi (fun (r : Int32) (u : Unit) => r = why κ 57 (t 0) (t 1) (t 2)) (fun (u : Unit) tt => rPo D (rA (wM q ad κ t) sz) (wM q ad κ t) tt) (rA (wM q ad κ t) sz)) 0 0 (rA (wM q ad κ t) sz) := by
  have hi0 : vp_in (t 0) 8 := hs.1
  have hi1 : vp_in (t 1) 8 := hs.2.1
  have hi2 : vp_in (t 2) 8 := hs.2.2
  refine r_start (cc := cX9_whyNot) (maxL := 4) (ret := (some .int)) (by decide) rfl (Nat.le_of_ble_eq_true rfl) ?_
  intro p e s m below meth c ls hC hr hlk hnm hsz hw hl
  have hx := hC.1
  have hb := hC.2.1
  have hl : lv_has ls 4 [(0, .ref (ad 0)), (1, .int 57)] := hl
  refine lv_iload_n hx hb dX9_whyNot_0 rfl (lv_at hl 1 rfl) ?_
  refine lv_bipush (v := 7) hx hb dX9_whyNot_1 (by decide) ?_
  refine lv_icmp_eq (tgt := 12) hx hb dX9_whyNot_3 (by decide) (fun c_ => absurd c_ (by decide)) (fun _ => ?_)
  refine lv_iload_n hx hb dX9_whyNot_6 rfl (lv_at hl 1 rfl) ?_
  refine lv_bipush (v := 8) hx hb dX9_whyNot_7 (by decide) ?_
  refine lv_icmp_ne (tgt := 31) hx hb dX9_whyNot_9 (by decide) (fun _ => ?_) (fun c_ => absurd c_ (by decide))
  refine lv_iload_n hx hb dX9_whyNot_31 rfl (lv_at hl 1 rfl) ?_
  refine lv_bipush (v := 11) hx hb dX9_whyNot_32 (by decide) ?_
  refine lv_icmp_eq (tgt := 43) hx hb dX9_whyNot_34 (by decide) (fun c_ => absurd c_ (by decide)) (fun _ => ?_)
  refine lv_iload_n hx hb dX9_whyNot_37 rfl (lv_at hl 1 rfl) ?_
  refine lv_bipush (v := 12) hx hb dX9_whyNot_38 (by decide) ?_
  refine lv_icmp_ne (tgt := 64) hx hb dX9_whyNot_40 (by decide) (fun _ => ?_) (fun c_ => absurd c_ (by decide))
  refine lv_iload_n hx hb dX9_whyNot_64 rfl (lv_at hl 1 rfl) ?_
  refine lv_bipush (v := 23) hx hb dX9_whyNot_65 (by decide) ?_
  refine lv_icmp_ne (tgt := 91) hx hb dX9_whyNot_67 (by decide) (fun _ => ?_) (fun c_ => absurd c_ (by decide))
  refine lv_iload_n hx hb dX9_whyNot_91 rfl (lv_at hl 1 rfl) ?_
  refine lv_bipush (v := 24) hx hb dX9_whyNot_92 (by decide) ?_
  refine lv_icmp_ne (tgt := 118) hx hb dX9_whyNot_94 (by decide) (fun _ => ?_) (fun c_ => absurd c_ (by decide))
  refine lv_iload_n hx hb dX9_whyNot_118 rfl (lv_at hl 1 rfl) ?_
  refine lv_bipush (v := 29) hx hb dX9_whyNot_119 (by decide) ?_
  refine lv_icmp_ne (tgt := 140) hx hb dX9_whyNot_121 (by decide) (fun _ => ?_) (fun c_ => absurd c_ (by decide))
  refine lv_iload_n hx hb dX9_whyNot_140 rfl (lv_at hl 1 rfl) ?_
  refine lv_bipush (v := 31) hx hb dX9_whyNot_141 (by decide) ?_
  refine lv_icmp_ne (tgt := 197) hx hb dX9_whyNot_143 (by decide) (fun _ => ?_) (fun c_ => absurd c_ (by decide))
  refine lv_iload_n hx hb dX9_whyNot_197 rfl (lv_at hl 1 rfl) ?_
  refine lv_bipush (v := 32) hx hb dX9_whyNot_198 (by decide) ?_
  refine lv_icmp_ne (tgt := 272) hx hb dX9_whyNot_200 (by decide) (fun _ => ?_) (fun c_ => absurd c_ (by decide))
  refine lv_iload_n hx hb dX9_whyNot_272 rfl (lv_at hl 1 rfl) ?_
  refine lv_bipush (v := 33) hx hb dX9_whyNot_273 (by decide) ?_
  refine lv_icmp_ne (tgt := 294) hx hb dX9_whyNot_275 (by decide) (fun _ => ?_) (fun c_ => absurd c_ (by decide))
  refine lv_iload_n hx hb dX9_whyNot_294 rfl (lv_at hl 1 rfl) ?_
  refine lv_bipush (v := 38) hx hb dX9_whyNot_295 (by decide) ?_
  refine lv_icmp_lt (tgt := 306) hx hb dX9_whyNot_297 (by decide) (fun c_ => absurd c_ (by decide)) (fun _ => ?_)
  refine lv_aload_n hx hb dX9_whyNot_300 rfl (lv_at hl 0 rfl) ?_
  refine lv_iload_n hx hb dX9_whyNot_301 rfl (lv_at hl 1 rfl) ?_
  refine r_ki hw (r_runV (rest := []) hC hw 0 (c_X9_whyNotThing_57 l _ hs hW) rk9 (wMl 0 (by decide)) wM0 1 gX9_whyNot_X9_whyNotThing rfl rfl rfl (by decide +kernel) ⟨Nat.le_of_ble_eq_true rfl, Nat.le_of_ble_eq_true rfl⟩ rfl hl.1 rfl (Nat.le_of_ble_eq_true rfl) dX9_whyNot_302 ⟨Nat.le_of_ble_eq_true rfl, Nat.le_of_ble_eq_true rfl⟩) (fun r_2 u_3 H locs h_1 hw => ?_)
  subst h_1
  exact r_iret hC hr hlk hw () rfl rfl (Nat.le_of_ble_eq_true rfl) (Nat.le_of_ble_eq_true rfl) dX9_whyNot_305

set_option maxHeartbeats 4000000 in
set_option maxRecDepth 100000 in
theorem c_X9_whyNot_58 (l : Launch) {D : va_G} {q : Nat → ClassId} {ad : Nat → Nat} {κ : KS} {t : Nat → Int32} (sz : Nat) (hs : okStep 58 (t 0) (t 1) (t 2)) (hW : WFm κ) : Met l yX9_whyNot wsX9_whyNot (rmz 5 110) (va_Pc [.ref (ad 0), .int 58] (rPre D q (wM q ad κ t) sz)) (va_Qi (fun (r : Int32) (u : Unit) => r = why κ 58 (t 0) (t 1) (t 2)) (fun (u : Unit) tt => rPo D (rA (wM q ad κ t) sz) (wM q ad κ t) tt) (rA (wM q ad κ t) sz)) 0 0 (rA (wM q ad κ t) sz) := by
  have hi0 : vp_in (t 0) 8 := hs.1
  have hi1 : vp_in (t 1) 8 := hs.2.1
  have hi2 : vp_in (t 2) 8 := hs.2.2
  refine r_start (cc := cX9_whyNot) (maxL := 4) (ret := (some .int)) (by decide) rfl (Nat.le_of_ble_eq_true rfl) ?_
  intro p e s m below meth c ls hC hr hlk hnm hsz hw hl
  have hx := hC.1
  have hb := hC.2.1
  have hl : lv_has ls 4 [(0, .ref (ad 0)), (1, .int 58)] := hl
  refine lv_iload_n hx hb dX9_whyNot_0 rfl (lv_at hl 1 rfl) ?_
  refine lv_bipush (v := 7) hx hb dX9_whyNot_1 (by decide) ?_
  refine lv_icmp_eq (tgt := 12) hx hb dX9_whyNot_3 (by decide) (fun c_ => absurd c_ (by decide)) (fun _ => ?_)
  refine lv_iload_n hx hb dX9_whyNot_6 rfl (lv_at hl 1 rfl) ?_
  refine lv_bipush (v := 8) hx hb dX9_whyNot_7 (by decide) ?_
  refine lv_icmp_ne (tgt := 31) hx hb dX9_whyNot_9 (by decide) (fun _ => ?_) (fun c_ => absurd c_ (by decide))
  refine lv_iload_n hx hb dX9_whyNot_31 rfl (lv_at hl 1 rfl) ?_
  refine lv_bipush (v := 11) hx hb dX9_whyNot_32 (by decide) ?_
  refine lv_icmp_eq (tgt := 43) hx hb dX9_whyNot_34 (by decide) (fun c_ => absurd c_ (by decide)) (fun _ => ?_)
  refine lv_iload_n hx hb dX9_whyNot_37 rfl (lv_at hl 1 rfl) ?_
  refine lv_bipush (v := 12) hx hb dX9_whyNot_38 (by decide) ?_
  refine lv_icmp_ne (tgt := 64) hx hb dX9_whyNot_40 (by decide) (fun _ => ?_) (fun c_ => absurd c_ (by decide))
  refine lv_iload_n hx hb dX9_whyNot_64 rfl (lv_at hl 1 rfl) ?_
  refine lv_bipush (v := 23) hx hb dX9_whyNot_65 (by decide) ?_
  refine lv_icmp_ne (tgt := 91) hx hb dX9_whyNot_67 (by decide) (fun _ => ?_) (fun c_ => absurd c_ (by decide))
  refine lv_iload_n hx hb dX9_whyNot_91 rfl (lv_at hl 1 rfl) ?_
  refine lv_bipush (v := 24) hx hb dX9_whyNot_92 (by decide) ?_
  refine lv_icmp_ne (tgt := 118) hx hb dX9_whyNot_94 (by decide) (fun _ => ?_) (fun c_ => absurd c_ (by decide))
  refine lv_iload_n hx hb dX9_whyNot_118 rfl (lv_at hl 1 rfl) ?_
  refine lv_bipush (v := 29) hx hb dX9_whyNot_119 (by decide) ?_
  refine lv_icmp_ne (tgt := 140) hx hb dX9_whyNot_121 (by decide) (fun _ => ?_) (fun c_ => absurd c_ (by decide))
  refine lv_iload_n hx hb dX9_whyNot_140 rfl (lv_at hl 1 rfl) ?_
  refine lv_bipush (v := 31) hx hb dX9_whyNot_141 (by decide) ?_
  refine lv_icmp_ne (tgt := 197) hx hb dX9_whyNot_143 (by decide) (fun _ => ?_) (fun c_ => absurd c_ (by decide))
  refine lv_iload_n hx hb dX9_whyNot_197 rfl (lv_at hl 1 rfl) ?_
  refine lv_bipush (v := 32) hx hb dX9_whyNot_198 (by decide) ?_
  refine lv_icmp_ne (tgt := 272) hx hb dX9_whyNot_200 (by decide) (fun _ => ?_) (fun c_ => absurd c_ (by decide))
  refine lv_iload_n hx hb dX9_whyNot_272 rfl (lv_at hl 1 rfl) ?_
  refine lv_bipush (v := 33) hx hb dX9_whyNot_273 (by decide) ?_
  refine lv_icmp_ne (tgt := 294) hx hb dX9_whyNot_275 (by decide) (fun _ => ?_) (fun c_ => absurd c_ (by decide))
  refine lv_iload_n hx hb dX9_whyNot_294 rfl (lv_at hl 1 rfl) ?_
  refine lv_bipush (v := 38) hx hb dX9_whyNot_295 (by decide) ?_
  refine lv_icmp_lt (tgt := 306) hx hb dX9_whyNot_297 (by decide) (fun c_ => absurd c_ (by decide)) (fun _ => ?_)
  refine lv_aload_n hx hb dX9_whyNot_300 rfl (lv_at hl 0 rfl) ?_
  refine lv_iload_n hx hb dX9_whyNot_301 rfl (lv_at hl 1 rfl) ?_
  refine r_ki hw (r_runV (rest := []) hC hw 0 (c_X9_whyNotThing_58 l _ hs hW) rk9 (wMl 0 (by decide)) wM0 1 gX9_whyNot_X9_whyNotThing rfl rfl rfl (by decide +kernel) ⟨Nat.le_of_ble_eq_true rfl, Nat.le_of_ble_eq_true rfl⟩ rfl hl.1 rfl (Nat.le_of_ble_eq_true rfl) dX9_whyNot_302 ⟨Nat.le_of_ble_eq_true rfl, Nat.le_of_ble_eq_true rfl⟩) (fun r_2 u_3 H locs h_1 hw => ?_)
  subst h_1
  exact r_iret hC hr hlk hw () rfl rfl (Nat.le_of_ble_eq_true rfl) (Nat.le_of_ble_eq_true rfl) dX9_whyNot_305

set_option maxHeartbeats 4000000 in
set_option maxRecDepth 100000 in
theorem c_X9_whyNot_59 (l : Launch) {D : va_G} {q : Nat → ClassId} {ad : Nat → Nat} {κ : KS} {t : Nat → Int32} (sz : Nat) (hs : okStep 59 (t 0) (t 1) (t 2)) (hW : WFm κ) : Met l yX9_whyNot wsX9_whyNot (rmz 5 110) (va_Pc [.ref (ad 0), .int 59] (rPre D q (wM q ad κ t) sz)) (va_Qi (fun (r : Int32) (u : Unit) => r = why κ 59 (t 0) (t 1) (t 2)) (fun (u : Unit) tt => rPo D (rA (wM q ad κ t) sz) (wM q ad κ t) tt) (rA (wM q ad κ t) sz)) 0 0 (rA (wM q ad κ t) sz) := by
  have hi0 : vp_in (t 0) 8 := hs.1
  have hi1 : vp_in (t 1) 8 := hs.2.1
  refine r_start (cc := cX9_whyNot) (maxL := 4) (ret := (some .int)) (by decide) rfl (Nat.le_of_ble_eq_true rfl) ?_
  intro p e s m below meth c ls hC hr hlk hnm hsz hw hl
  have hx := hC.1
  have hb := hC.2.1
  have hl : lv_has ls 4 [(0, .ref (ad 0)), (1, .int 59)] := hl
  refine lv_iload_n hx hb dX9_whyNot_0 rfl (lv_at hl 1 rfl) ?_
  refine lv_bipush (v := 7) hx hb dX9_whyNot_1 (by decide) ?_
  refine lv_icmp_eq (tgt := 12) hx hb dX9_whyNot_3 (by decide) (fun c_ => absurd c_ (by decide)) (fun _ => ?_)
  refine lv_iload_n hx hb dX9_whyNot_6 rfl (lv_at hl 1 rfl) ?_
  refine lv_bipush (v := 8) hx hb dX9_whyNot_7 (by decide) ?_
  refine lv_icmp_ne (tgt := 31) hx hb dX9_whyNot_9 (by decide) (fun _ => ?_) (fun c_ => absurd c_ (by decide))
  refine lv_iload_n hx hb dX9_whyNot_31 rfl (lv_at hl 1 rfl) ?_
  refine lv_bipush (v := 11) hx hb dX9_whyNot_32 (by decide) ?_
  refine lv_icmp_eq (tgt := 43) hx hb dX9_whyNot_34 (by decide) (fun c_ => absurd c_ (by decide)) (fun _ => ?_)
  refine lv_iload_n hx hb dX9_whyNot_37 rfl (lv_at hl 1 rfl) ?_
  refine lv_bipush (v := 12) hx hb dX9_whyNot_38 (by decide) ?_
  refine lv_icmp_ne (tgt := 64) hx hb dX9_whyNot_40 (by decide) (fun _ => ?_) (fun c_ => absurd c_ (by decide))
  refine lv_iload_n hx hb dX9_whyNot_64 rfl (lv_at hl 1 rfl) ?_
  refine lv_bipush (v := 23) hx hb dX9_whyNot_65 (by decide) ?_
  refine lv_icmp_ne (tgt := 91) hx hb dX9_whyNot_67 (by decide) (fun _ => ?_) (fun c_ => absurd c_ (by decide))
  refine lv_iload_n hx hb dX9_whyNot_91 rfl (lv_at hl 1 rfl) ?_
  refine lv_bipush (v := 24) hx hb dX9_whyNot_92 (by decide) ?_
  refine lv_icmp_ne (tgt := 118) hx hb dX9_whyNot_94 (by decide) (fun _ => ?_) (fun c_ => absurd c_ (by decide))
  refine lv_iload_n hx hb dX9_whyNot_118 rfl (lv_at hl 1 rfl) ?_
  refine lv_bipush (v := 29) hx hb dX9_whyNot_119 (by decide) ?_
  refine lv_icmp_ne (tgt := 140) hx hb dX9_whyNot_121 (by decide) (fun _ => ?_) (fun c_ => absurd c_ (by decide))
  refine lv_iload_n hx hb dX9_whyNot_140 rfl (lv_at hl 1 rfl) ?_
  refine lv_bipush (v := 31) hx hb dX9_whyNot_141 (by decide) ?_
  refine lv_icmp_ne (tgt := 197) hx hb dX9_whyNot_143 (by decide) (fun _ => ?_) (fun c_ => absurd c_ (by decide))
  refine lv_iload_n hx hb dX9_whyNot_197 rfl (lv_at hl 1 rfl) ?_
  refine lv_bipush (v := 32) hx hb dX9_whyNot_198 (by decide) ?_
  refine lv_icmp_ne (tgt := 272) hx hb dX9_whyNot_200 (by decide) (fun _ => ?_) (fun c_ => absurd c_ (by decide))
  refine lv_iload_n hx hb dX9_whyNot_272 rfl (lv_at hl 1 rfl) ?_
  refine lv_bipush (v := 33) hx hb dX9_whyNot_273 (by decide) ?_
  refine lv_icmp_ne (tgt := 294) hx hb dX9_whyNot_275 (by decide) (fun _ => ?_) (fun c_ => absurd c_ (by decide))
  refine lv_iload_n hx hb dX9_whyNot_294 rfl (lv_at hl 1 rfl) ?_
  refine lv_bipush (v := 38) hx hb dX9_whyNot_295 (by decide) ?_
  refine lv_icmp_lt (tgt := 306) hx hb dX9_whyNot_297 (by decide) (fun c_ => absurd c_ (by decide)) (fun _ => ?_)
  refine lv_aload_n hx hb dX9_whyNot_300 rfl (lv_at hl 0 rfl) ?_
  refine lv_iload_n hx hb dX9_whyNot_301 rfl (lv_at hl 1 rfl) ?_
  refine r_ki hw (r_runV (rest := []) hC hw 0 (c_X9_whyNotThing_59 l _ hs hW) rk9 (wMl 0 (by decide)) wM0 1 gX9_whyNot_X9_whyNotThing rfl rfl rfl (by decide +kernel) ⟨Nat.le_of_ble_eq_true rfl, Nat.le_of_ble_eq_true rfl⟩ rfl hl.1 rfl (Nat.le_of_ble_eq_true rfl) dX9_whyNot_302 ⟨Nat.le_of_ble_eq_true rfl, Nat.le_of_ble_eq_true rfl⟩) (fun r_2 u_3 H locs h_1 hw => ?_)
  subst h_1
  exact r_iret hC hr hlk hw () rfl rfl (Nat.le_of_ble_eq_true rfl) (Nat.le_of_ble_eq_true rfl) dX9_whyNot_305

set_option maxHeartbeats 4000000 in
set_option maxRecDepth 100000 in
theorem c_X9_whyNot_60 (l : Launch) {D : va_G} {q : Nat → ClassId} {ad : Nat → Nat} {κ : KS} {t : Nat → Int32} (sz : Nat) (hs : okStep 60 (t 0) (t 1) (t 2)) (hW : WFm κ) : Met l yX9_whyNot wsX9_whyNot (rmz 5 110) (va_Pc [.ref (ad 0), .int 60] (rPre D q (wM q ad κ t) sz)) (va_Qi (fun (r : Int32) (u : Unit) => r = why κ 60 (t 0) (t 1) (t 2)) (fun (u : Unit) tt => rPo D (rA (wM q ad κ t) sz) (wM q ad κ t) tt) (rA (wM q ad κ t) sz)) 0 0 (rA (wM q ad κ t) sz) := by
  have hi0 : vp_in (t 0) 8 := hs.1
  have hi1 : vp_in (t 1) 8 := hs.2.1
  refine r_start (cc := cX9_whyNot) (maxL := 4) (ret := (some .int)) (by decide) rfl (Nat.le_of_ble_eq_true rfl) ?_
  intro p e s m below meth c ls hC hr hlk hnm hsz hw hl
  have hx := hC.1
  have hb := hC.2.1
  have hl : lv_has ls 4 [(0, .ref (ad 0)), (1, .int 60)] := hl
  refine lv_iload_n hx hb dX9_whyNot_0 rfl (lv_at hl 1 rfl) ?_
  refine lv_bipush (v := 7) hx hb dX9_whyNot_1 (by decide) ?_
  refine lv_icmp_eq (tgt := 12) hx hb dX9_whyNot_3 (by decide) (fun c_ => absurd c_ (by decide)) (fun _ => ?_)
  refine lv_iload_n hx hb dX9_whyNot_6 rfl (lv_at hl 1 rfl) ?_
  refine lv_bipush (v := 8) hx hb dX9_whyNot_7 (by decide) ?_
  refine lv_icmp_ne (tgt := 31) hx hb dX9_whyNot_9 (by decide) (fun _ => ?_) (fun c_ => absurd c_ (by decide))
  refine lv_iload_n hx hb dX9_whyNot_31 rfl (lv_at hl 1 rfl) ?_
  refine lv_bipush (v := 11) hx hb dX9_whyNot_32 (by decide) ?_
  refine lv_icmp_eq (tgt := 43) hx hb dX9_whyNot_34 (by decide) (fun c_ => absurd c_ (by decide)) (fun _ => ?_)
  refine lv_iload_n hx hb dX9_whyNot_37 rfl (lv_at hl 1 rfl) ?_
  refine lv_bipush (v := 12) hx hb dX9_whyNot_38 (by decide) ?_
  refine lv_icmp_ne (tgt := 64) hx hb dX9_whyNot_40 (by decide) (fun _ => ?_) (fun c_ => absurd c_ (by decide))
  refine lv_iload_n hx hb dX9_whyNot_64 rfl (lv_at hl 1 rfl) ?_
  refine lv_bipush (v := 23) hx hb dX9_whyNot_65 (by decide) ?_
  refine lv_icmp_ne (tgt := 91) hx hb dX9_whyNot_67 (by decide) (fun _ => ?_) (fun c_ => absurd c_ (by decide))
  refine lv_iload_n hx hb dX9_whyNot_91 rfl (lv_at hl 1 rfl) ?_
  refine lv_bipush (v := 24) hx hb dX9_whyNot_92 (by decide) ?_
  refine lv_icmp_ne (tgt := 118) hx hb dX9_whyNot_94 (by decide) (fun _ => ?_) (fun c_ => absurd c_ (by decide))
  refine lv_iload_n hx hb dX9_whyNot_118 rfl (lv_at hl 1 rfl) ?_
  refine lv_bipush (v := 29) hx hb dX9_whyNot_119 (by decide) ?_
  refine lv_icmp_ne (tgt := 140) hx hb dX9_whyNot_121 (by decide) (fun _ => ?_) (fun c_ => absurd c_ (by decide))
  refine lv_iload_n hx hb dX9_whyNot_140 rfl (lv_at hl 1 rfl) ?_
  refine lv_bipush (v := 31) hx hb dX9_whyNot_141 (by decide) ?_
  refine lv_icmp_ne (tgt := 197) hx hb dX9_whyNot_143 (by decide) (fun _ => ?_) (fun c_ => absurd c_ (by decide))
  refine lv_iload_n hx hb dX9_whyNot_197 rfl (lv_at hl 1 rfl) ?_
  refine lv_bipush (v := 32) hx hb dX9_whyNot_198 (by decide) ?_
  refine lv_icmp_ne (tgt := 272) hx hb dX9_whyNot_200 (by decide) (fun _ => ?_) (fun c_ => absurd c_ (by decide))
  refine lv_iload_n hx hb dX9_whyNot_272 rfl (lv_at hl 1 rfl) ?_
  refine lv_bipush (v := 33) hx hb dX9_whyNot_273 (by decide) ?_
  refine lv_icmp_ne (tgt := 294) hx hb dX9_whyNot_275 (by decide) (fun _ => ?_) (fun c_ => absurd c_ (by decide))
  refine lv_iload_n hx hb dX9_whyNot_294 rfl (lv_at hl 1 rfl) ?_
  refine lv_bipush (v := 38) hx hb dX9_whyNot_295 (by decide) ?_
  refine lv_icmp_lt (tgt := 306) hx hb dX9_whyNot_297 (by decide) (fun c_ => absurd c_ (by decide)) (fun _ => ?_)
  refine lv_aload_n hx hb dX9_whyNot_300 rfl (lv_at hl 0 rfl) ?_
  refine lv_iload_n hx hb dX9_whyNot_301 rfl (lv_at hl 1 rfl) ?_
  refine r_ki hw (r_runV (rest := []) hC hw 0 (c_X9_whyNotThing_60 l _ hs hW) rk9 (wMl 0 (by decide)) wM0 1 gX9_whyNot_X9_whyNotThing rfl rfl rfl (by decide +kernel) ⟨Nat.le_of_ble_eq_true rfl, Nat.le_of_ble_eq_true rfl⟩ rfl hl.1 rfl (Nat.le_of_ble_eq_true rfl) dX9_whyNot_302 ⟨Nat.le_of_ble_eq_true rfl, Nat.le_of_ble_eq_true rfl⟩) (fun r_2 u_3 H locs h_1 hw => ?_)
  subst h_1
  exact r_iret hC hr hlk hw () rfl rfl (Nat.le_of_ble_eq_true rfl) (Nat.le_of_ble_eq_true rfl) dX9_whyNot_305

set_option maxHeartbeats 4000000 in
set_option maxRecDepth 100000 in
theorem c_X9_whyNot_61 (l : Launch) {D : va_G} {q : Nat → ClassId} {ad : Nat → Nat} {κ : KS} {t : Nat → Int32} (sz : Nat) (hs : okStep 61 (t 0) (t 1) (t 2)) (hW : WFm κ) : Met l yX9_whyNot wsX9_whyNot (rmz 5 110) (va_Pc [.ref (ad 0), .int 61] (rPre D q (wM q ad κ t) sz)) (va_Qi (fun (r : Int32) (u : Unit) => r = why κ 61 (t 0) (t 1) (t 2)) (fun (u : Unit) tt => rPo D (rA (wM q ad κ t) sz) (wM q ad κ t) tt) (rA (wM q ad κ t) sz)) 0 0 (rA (wM q ad κ t) sz) := by
  have hi0 : vp_in (t 0) 4 := hs.1
  have hi1 : vp_in (t 1) 8 := hs.2.1
  refine r_start (cc := cX9_whyNot) (maxL := 4) (ret := (some .int)) (by decide) rfl (Nat.le_of_ble_eq_true rfl) ?_
  intro p e s m below meth c ls hC hr hlk hnm hsz hw hl
  have hx := hC.1
  have hb := hC.2.1
  have hl : lv_has ls 4 [(0, .ref (ad 0)), (1, .int 61)] := hl
  refine lv_iload_n hx hb dX9_whyNot_0 rfl (lv_at hl 1 rfl) ?_
  refine lv_bipush (v := 7) hx hb dX9_whyNot_1 (by decide) ?_
  refine lv_icmp_eq (tgt := 12) hx hb dX9_whyNot_3 (by decide) (fun c_ => absurd c_ (by decide)) (fun _ => ?_)
  refine lv_iload_n hx hb dX9_whyNot_6 rfl (lv_at hl 1 rfl) ?_
  refine lv_bipush (v := 8) hx hb dX9_whyNot_7 (by decide) ?_
  refine lv_icmp_ne (tgt := 31) hx hb dX9_whyNot_9 (by decide) (fun _ => ?_) (fun c_ => absurd c_ (by decide))
  refine lv_iload_n hx hb dX9_whyNot_31 rfl (lv_at hl 1 rfl) ?_
  refine lv_bipush (v := 11) hx hb dX9_whyNot_32 (by decide) ?_
  refine lv_icmp_eq (tgt := 43) hx hb dX9_whyNot_34 (by decide) (fun c_ => absurd c_ (by decide)) (fun _ => ?_)
  refine lv_iload_n hx hb dX9_whyNot_37 rfl (lv_at hl 1 rfl) ?_
  refine lv_bipush (v := 12) hx hb dX9_whyNot_38 (by decide) ?_
  refine lv_icmp_ne (tgt := 64) hx hb dX9_whyNot_40 (by decide) (fun _ => ?_) (fun c_ => absurd c_ (by decide))
  refine lv_iload_n hx hb dX9_whyNot_64 rfl (lv_at hl 1 rfl) ?_
  refine lv_bipush (v := 23) hx hb dX9_whyNot_65 (by decide) ?_
  refine lv_icmp_ne (tgt := 91) hx hb dX9_whyNot_67 (by decide) (fun _ => ?_) (fun c_ => absurd c_ (by decide))
  refine lv_iload_n hx hb dX9_whyNot_91 rfl (lv_at hl 1 rfl) ?_
  refine lv_bipush (v := 24) hx hb dX9_whyNot_92 (by decide) ?_
  refine lv_icmp_ne (tgt := 118) hx hb dX9_whyNot_94 (by decide) (fun _ => ?_) (fun c_ => absurd c_ (by decide))
  refine lv_iload_n hx hb dX9_whyNot_118 rfl (lv_at hl 1 rfl) ?_
  refine lv_bipush (v := 29) hx hb dX9_whyNot_119 (by decide) ?_
  refine lv_icmp_ne (tgt := 140) hx hb dX9_whyNot_121 (by decide) (fun _ => ?_) (fun c_ => absurd c_ (by decide))
  refine lv_iload_n hx hb dX9_whyNot_140 rfl (lv_at hl 1 rfl) ?_
  refine lv_bipush (v := 31) hx hb dX9_whyNot_141 (by decide) ?_
  refine lv_icmp_ne (tgt := 197) hx hb dX9_whyNot_143 (by decide) (fun _ => ?_) (fun c_ => absurd c_ (by decide))
  refine lv_iload_n hx hb dX9_whyNot_197 rfl (lv_at hl 1 rfl) ?_
  refine lv_bipush (v := 32) hx hb dX9_whyNot_198 (by decide) ?_
  refine lv_icmp_ne (tgt := 272) hx hb dX9_whyNot_200 (by decide) (fun _ => ?_) (fun c_ => absurd c_ (by decide))
  refine lv_iload_n hx hb dX9_whyNot_272 rfl (lv_at hl 1 rfl) ?_
  refine lv_bipush (v := 33) hx hb dX9_whyNot_273 (by decide) ?_
  refine lv_icmp_ne (tgt := 294) hx hb dX9_whyNot_275 (by decide) (fun _ => ?_) (fun c_ => absurd c_ (by decide))
  refine lv_iload_n hx hb dX9_whyNot_294 rfl (lv_at hl 1 rfl) ?_
  refine lv_bipush (v := 38) hx hb dX9_whyNot_295 (by decide) ?_
  refine lv_icmp_lt (tgt := 306) hx hb dX9_whyNot_297 (by decide) (fun c_ => absurd c_ (by decide)) (fun _ => ?_)
  refine lv_aload_n hx hb dX9_whyNot_300 rfl (lv_at hl 0 rfl) ?_
  refine lv_iload_n hx hb dX9_whyNot_301 rfl (lv_at hl 1 rfl) ?_
  refine r_ki hw (r_runV (rest := []) hC hw 0 (c_X9_whyNotThing_61 l _ hs hW) rk9 (wMl 0 (by decide)) wM0 1 gX9_whyNot_X9_whyNotThing rfl rfl rfl (by decide +kernel) ⟨Nat.le_of_ble_eq_true rfl, Nat.le_of_ble_eq_true rfl⟩ rfl hl.1 rfl (Nat.le_of_ble_eq_true rfl) dX9_whyNot_302 ⟨Nat.le_of_ble_eq_true rfl, Nat.le_of_ble_eq_true rfl⟩) (fun r_2 u_3 H locs h_1 hw => ?_)
  subst h_1
  exact r_iret hC hr hlk hw () rfl rfl (Nat.le_of_ble_eq_true rfl) (Nat.le_of_ble_eq_true rfl) dX9_whyNot_305

set_option maxHeartbeats 4000000 in
set_option maxRecDepth 100000 in
theorem c_X9_whyNot_62 (l : Launch) {D : va_G} {q : Nat → ClassId} {ad : Nat → Nat} {κ : KS} {t : Nat → Int32} (sz : Nat) (hs : okStep 62 (t 0) (t 1) (t 2)) (hW : WFm κ) : Met l yX9_whyNot wsX9_whyNot (rmz 5 110) (va_Pc [.ref (ad 0), .int 62] (rPre D q (wM q ad κ t) sz)) (va_Qi (fun (r : Int32) (u : Unit) => r = why κ 62 (t 0) (t 1) (t 2)) (fun (u : Unit) tt => rPo D (rA (wM q ad κ t) sz) (wM q ad κ t) tt) (rA (wM q ad κ t) sz)) 0 0 (rA (wM q ad κ t) sz) := by
  have hi0 : vp_in (t 0) 4 := hs.1
  have hi1 : vp_in (t 1) 8 := hs.2.1
  refine r_start (cc := cX9_whyNot) (maxL := 4) (ret := (some .int)) (by decide) rfl (Nat.le_of_ble_eq_true rfl) ?_
  intro p e s m below meth c ls hC hr hlk hnm hsz hw hl
  have hx := hC.1
  have hb := hC.2.1
  have hl : lv_has ls 4 [(0, .ref (ad 0)), (1, .int 62)] := hl
  refine lv_iload_n hx hb dX9_whyNot_0 rfl (lv_at hl 1 rfl) ?_
  refine lv_bipush (v := 7) hx hb dX9_whyNot_1 (by decide) ?_
  refine lv_icmp_eq (tgt := 12) hx hb dX9_whyNot_3 (by decide) (fun c_ => absurd c_ (by decide)) (fun _ => ?_)
  refine lv_iload_n hx hb dX9_whyNot_6 rfl (lv_at hl 1 rfl) ?_
  refine lv_bipush (v := 8) hx hb dX9_whyNot_7 (by decide) ?_
  refine lv_icmp_ne (tgt := 31) hx hb dX9_whyNot_9 (by decide) (fun _ => ?_) (fun c_ => absurd c_ (by decide))
  refine lv_iload_n hx hb dX9_whyNot_31 rfl (lv_at hl 1 rfl) ?_
  refine lv_bipush (v := 11) hx hb dX9_whyNot_32 (by decide) ?_
  refine lv_icmp_eq (tgt := 43) hx hb dX9_whyNot_34 (by decide) (fun c_ => absurd c_ (by decide)) (fun _ => ?_)
  refine lv_iload_n hx hb dX9_whyNot_37 rfl (lv_at hl 1 rfl) ?_
  refine lv_bipush (v := 12) hx hb dX9_whyNot_38 (by decide) ?_
  refine lv_icmp_ne (tgt := 64) hx hb dX9_whyNot_40 (by decide) (fun _ => ?_) (fun c_ => absurd c_ (by decide))
  refine lv_iload_n hx hb dX9_whyNot_64 rfl (lv_at hl 1 rfl) ?_
  refine lv_bipush (v := 23) hx hb dX9_whyNot_65 (by decide) ?_
  refine lv_icmp_ne (tgt := 91) hx hb dX9_whyNot_67 (by decide) (fun _ => ?_) (fun c_ => absurd c_ (by decide))
  refine lv_iload_n hx hb dX9_whyNot_91 rfl (lv_at hl 1 rfl) ?_
  refine lv_bipush (v := 24) hx hb dX9_whyNot_92 (by decide) ?_
  refine lv_icmp_ne (tgt := 118) hx hb dX9_whyNot_94 (by decide) (fun _ => ?_) (fun c_ => absurd c_ (by decide))
  refine lv_iload_n hx hb dX9_whyNot_118 rfl (lv_at hl 1 rfl) ?_
  refine lv_bipush (v := 29) hx hb dX9_whyNot_119 (by decide) ?_
  refine lv_icmp_ne (tgt := 140) hx hb dX9_whyNot_121 (by decide) (fun _ => ?_) (fun c_ => absurd c_ (by decide))
  refine lv_iload_n hx hb dX9_whyNot_140 rfl (lv_at hl 1 rfl) ?_
  refine lv_bipush (v := 31) hx hb dX9_whyNot_141 (by decide) ?_
  refine lv_icmp_ne (tgt := 197) hx hb dX9_whyNot_143 (by decide) (fun _ => ?_) (fun c_ => absurd c_ (by decide))
  refine lv_iload_n hx hb dX9_whyNot_197 rfl (lv_at hl 1 rfl) ?_
  refine lv_bipush (v := 32) hx hb dX9_whyNot_198 (by decide) ?_
  refine lv_icmp_ne (tgt := 272) hx hb dX9_whyNot_200 (by decide) (fun _ => ?_) (fun c_ => absurd c_ (by decide))
  refine lv_iload_n hx hb dX9_whyNot_272 rfl (lv_at hl 1 rfl) ?_
  refine lv_bipush (v := 33) hx hb dX9_whyNot_273 (by decide) ?_
  refine lv_icmp_ne (tgt := 294) hx hb dX9_whyNot_275 (by decide) (fun _ => ?_) (fun c_ => absurd c_ (by decide))
  refine lv_iload_n hx hb dX9_whyNot_294 rfl (lv_at hl 1 rfl) ?_
  refine lv_bipush (v := 38) hx hb dX9_whyNot_295 (by decide) ?_
  refine lv_icmp_lt (tgt := 306) hx hb dX9_whyNot_297 (by decide) (fun c_ => absurd c_ (by decide)) (fun _ => ?_)
  refine lv_aload_n hx hb dX9_whyNot_300 rfl (lv_at hl 0 rfl) ?_
  refine lv_iload_n hx hb dX9_whyNot_301 rfl (lv_at hl 1 rfl) ?_
  refine r_ki hw (r_runV (rest := []) hC hw 0 (c_X9_whyNotThing_62 l _ hs hW) rk9 (wMl 0 (by decide)) wM0 1 gX9_whyNot_X9_whyNotThing rfl rfl rfl (by decide +kernel) ⟨Nat.le_of_ble_eq_true rfl, Nat.le_of_ble_eq_true rfl⟩ rfl hl.1 rfl (Nat.le_of_ble_eq_true rfl) dX9_whyNot_302 ⟨Nat.le_of_ble_eq_true rfl, Nat.le_of_ble_eq_true rfl⟩) (fun r_2 u_3 H locs h_1 hw => ?_)
  subst h_1
  exact r_iret hC hr hlk hw () rfl rfl (Nat.le_of_ble_eq_true rfl) (Nat.le_of_ble_eq_true rfl) dX9_whyNot_305

set_option maxHeartbeats 4000000 in
set_option maxRecDepth 100000 in
theorem c_X9_whyNot_63 (l : Launch) {D : va_G} {q : Nat → ClassId} {ad : Nat → Nat} {κ : KS} {t : Nat → Int32} (sz : Nat) (hs : okStep 63 (t 0) (t 1) (t 2)) (hW : WFm κ) : Met l yX9_whyNot wsX9_whyNot (rmz 5 110) (va_Pc [.ref (ad 0), .int 63] (rPre D q (wM q ad κ t) sz)) (va_Qi (fun (r : Int32) (u : Unit) => r = why κ 63 (t 0) (t 1) (t 2)) (fun (u : Unit) tt => rPo D (rA (wM q ad κ t) sz) (wM q ad κ t) tt) (rA (wM q ad κ t) sz)) 0 0 (rA (wM q ad κ t) sz) := by
  have hi0 : vp_in (t 0) 8 := hs.1
  have hi1 : vp_in (t 1) 8 := hs.2.1
  refine r_start (cc := cX9_whyNot) (maxL := 4) (ret := (some .int)) (by decide) rfl (Nat.le_of_ble_eq_true rfl) ?_
  intro p e s m below meth c ls hC hr hlk hnm hsz hw hl
  have hx := hC.1
  have hb := hC.2.1
  have hl : lv_has ls 4 [(0, .ref (ad 0)), (1, .int 63)] := hl
  refine lv_iload_n hx hb dX9_whyNot_0 rfl (lv_at hl 1 rfl) ?_
  refine lv_bipush (v := 7) hx hb dX9_whyNot_1 (by decide) ?_
  refine lv_icmp_eq (tgt := 12) hx hb dX9_whyNot_3 (by decide) (fun c_ => absurd c_ (by decide)) (fun _ => ?_)
  refine lv_iload_n hx hb dX9_whyNot_6 rfl (lv_at hl 1 rfl) ?_
  refine lv_bipush (v := 8) hx hb dX9_whyNot_7 (by decide) ?_
  refine lv_icmp_ne (tgt := 31) hx hb dX9_whyNot_9 (by decide) (fun _ => ?_) (fun c_ => absurd c_ (by decide))
  refine lv_iload_n hx hb dX9_whyNot_31 rfl (lv_at hl 1 rfl) ?_
  refine lv_bipush (v := 11) hx hb dX9_whyNot_32 (by decide) ?_
  refine lv_icmp_eq (tgt := 43) hx hb dX9_whyNot_34 (by decide) (fun c_ => absurd c_ (by decide)) (fun _ => ?_)
  refine lv_iload_n hx hb dX9_whyNot_37 rfl (lv_at hl 1 rfl) ?_
  refine lv_bipush (v := 12) hx hb dX9_whyNot_38 (by decide) ?_
  refine lv_icmp_ne (tgt := 64) hx hb dX9_whyNot_40 (by decide) (fun _ => ?_) (fun c_ => absurd c_ (by decide))
  refine lv_iload_n hx hb dX9_whyNot_64 rfl (lv_at hl 1 rfl) ?_
  refine lv_bipush (v := 23) hx hb dX9_whyNot_65 (by decide) ?_
  refine lv_icmp_ne (tgt := 91) hx hb dX9_whyNot_67 (by decide) (fun _ => ?_) (fun c_ => absurd c_ (by decide))
  refine lv_iload_n hx hb dX9_whyNot_91 rfl (lv_at hl 1 rfl) ?_
  refine lv_bipush (v := 24) hx hb dX9_whyNot_92 (by decide) ?_
  refine lv_icmp_ne (tgt := 118) hx hb dX9_whyNot_94 (by decide) (fun _ => ?_) (fun c_ => absurd c_ (by decide))
  refine lv_iload_n hx hb dX9_whyNot_118 rfl (lv_at hl 1 rfl) ?_
  refine lv_bipush (v := 29) hx hb dX9_whyNot_119 (by decide) ?_
  refine lv_icmp_ne (tgt := 140) hx hb dX9_whyNot_121 (by decide) (fun _ => ?_) (fun c_ => absurd c_ (by decide))
  refine lv_iload_n hx hb dX9_whyNot_140 rfl (lv_at hl 1 rfl) ?_
  refine lv_bipush (v := 31) hx hb dX9_whyNot_141 (by decide) ?_
  refine lv_icmp_ne (tgt := 197) hx hb dX9_whyNot_143 (by decide) (fun _ => ?_) (fun c_ => absurd c_ (by decide))
  refine lv_iload_n hx hb dX9_whyNot_197 rfl (lv_at hl 1 rfl) ?_
  refine lv_bipush (v := 32) hx hb dX9_whyNot_198 (by decide) ?_
  refine lv_icmp_ne (tgt := 272) hx hb dX9_whyNot_200 (by decide) (fun _ => ?_) (fun c_ => absurd c_ (by decide))
  refine lv_iload_n hx hb dX9_whyNot_272 rfl (lv_at hl 1 rfl) ?_
  refine lv_bipush (v := 33) hx hb dX9_whyNot_273 (by decide) ?_
  refine lv_icmp_ne (tgt := 294) hx hb dX9_whyNot_275 (by decide) (fun _ => ?_) (fun c_ => absurd c_ (by decide))
  refine lv_iload_n hx hb dX9_whyNot_294 rfl (lv_at hl 1 rfl) ?_
  refine lv_bipush (v := 38) hx hb dX9_whyNot_295 (by decide) ?_
  refine lv_icmp_lt (tgt := 306) hx hb dX9_whyNot_297 (by decide) (fun c_ => absurd c_ (by decide)) (fun _ => ?_)
  refine lv_aload_n hx hb dX9_whyNot_300 rfl (lv_at hl 0 rfl) ?_
  refine lv_iload_n hx hb dX9_whyNot_301 rfl (lv_at hl 1 rfl) ?_
  refine r_ki hw (r_runV (rest := []) hC hw 0 (c_X9_whyNotThing_63 l _ hs hW) rk9 (wMl 0 (by decide)) wM0 1 gX9_whyNot_X9_whyNotThing rfl rfl rfl (by decide +kernel) ⟨Nat.le_of_ble_eq_true rfl, Nat.le_of_ble_eq_true rfl⟩ rfl hl.1 rfl (Nat.le_of_ble_eq_true rfl) dX9_whyNot_302 ⟨Nat.le_of_ble_eq_true rfl, Nat.le_of_ble_eq_true rfl⟩) (fun r_2 u_3 H locs h_1 hw => ?_)
  subst h_1
  exact r_iret hC hr hlk hw () rfl rfl (Nat.le_of_ble_eq_true rfl) (Nat.le_of_ble_eq_true rfl) dX9_whyNot_305

set_option maxHeartbeats 4000000 in
set_option maxRecDepth 100000 in
theorem c_X9_whyNot_64 (l : Launch) {D : va_G} {q : Nat → ClassId} {ad : Nat → Nat} {κ : KS} {t : Nat → Int32} (sz : Nat) (hs : okStep 64 (t 0) (t 1) (t 2)) (hW : WFm κ) : Met l yX9_whyNot wsX9_whyNot (rmz 5 110) (va_Pc [.ref (ad 0), .int 64] (rPre D q (wM q ad κ t) sz)) (va_Qi (fun (r : Int32) (u : Unit) => r = why κ 64 (t 0) (t 1) (t 2)) (fun (u : Unit) tt => rPo D (rA (wM q ad κ t) sz) (wM q ad κ t) tt) (rA (wM q ad κ t) sz)) 0 0 (rA (wM q ad κ t) sz) := by
  have hi0 : vp_in (t 0) 8 := hs.1
  have hi1 : vp_in (t 1) 8 := hs.2.1
  refine r_start (cc := cX9_whyNot) (maxL := 4) (ret := (some .int)) (by decide) rfl (Nat.le_of_ble_eq_true rfl) ?_
  intro p e s m below meth c ls hC hr hlk hnm hsz hw hl
  have hx := hC.1
  have hb := hC.2.1
  have hl : lv_has ls 4 [(0, .ref (ad 0)), (1, .int 64)] := hl
  refine lv_iload_n hx hb dX9_whyNot_0 rfl (lv_at hl 1 rfl) ?_
  refine lv_bipush (v := 7) hx hb dX9_whyNot_1 (by decide) ?_
  refine lv_icmp_eq (tgt := 12) hx hb dX9_whyNot_3 (by decide) (fun c_ => absurd c_ (by decide)) (fun _ => ?_)
  refine lv_iload_n hx hb dX9_whyNot_6 rfl (lv_at hl 1 rfl) ?_
  refine lv_bipush (v := 8) hx hb dX9_whyNot_7 (by decide) ?_
  refine lv_icmp_ne (tgt := 31) hx hb dX9_whyNot_9 (by decide) (fun _ => ?_) (fun c_ => absurd c_ (by decide))
  refine lv_iload_n hx hb dX9_whyNot_31 rfl (lv_at hl 1 rfl) ?_
  refine lv_bipush (v := 11) hx hb dX9_whyNot_32 (by decide) ?_
  refine lv_icmp_eq (tgt := 43) hx hb dX9_whyNot_34 (by decide) (fun c_ => absurd c_ (by decide)) (fun _ => ?_)
  refine lv_iload_n hx hb dX9_whyNot_37 rfl (lv_at hl 1 rfl) ?_
  refine lv_bipush (v := 12) hx hb dX9_whyNot_38 (by decide) ?_
  refine lv_icmp_ne (tgt := 64) hx hb dX9_whyNot_40 (by decide) (fun _ => ?_) (fun c_ => absurd c_ (by decide))
  refine lv_iload_n hx hb dX9_whyNot_64 rfl (lv_at hl 1 rfl) ?_
  refine lv_bipush (v := 23) hx hb dX9_whyNot_65 (by decide) ?_
  refine lv_icmp_ne (tgt := 91) hx hb dX9_whyNot_67 (by decide) (fun _ => ?_) (fun c_ => absurd c_ (by decide))
  refine lv_iload_n hx hb dX9_whyNot_91 rfl (lv_at hl 1 rfl) ?_
  refine lv_bipush (v := 24) hx hb dX9_whyNot_92 (by decide) ?_
  refine lv_icmp_ne (tgt := 118) hx hb dX9_whyNot_94 (by decide) (fun _ => ?_) (fun c_ => absurd c_ (by decide))
  refine lv_iload_n hx hb dX9_whyNot_118 rfl (lv_at hl 1 rfl) ?_
  refine lv_bipush (v := 29) hx hb dX9_whyNot_119 (by decide) ?_
  refine lv_icmp_ne (tgt := 140) hx hb dX9_whyNot_121 (by decide) (fun _ => ?_) (fun c_ => absurd c_ (by decide))
  refine lv_iload_n hx hb dX9_whyNot_140 rfl (lv_at hl 1 rfl) ?_
  refine lv_bipush (v := 31) hx hb dX9_whyNot_141 (by decide) ?_
  refine lv_icmp_ne (tgt := 197) hx hb dX9_whyNot_143 (by decide) (fun _ => ?_) (fun c_ => absurd c_ (by decide))
  refine lv_iload_n hx hb dX9_whyNot_197 rfl (lv_at hl 1 rfl) ?_
  refine lv_bipush (v := 32) hx hb dX9_whyNot_198 (by decide) ?_
  refine lv_icmp_ne (tgt := 272) hx hb dX9_whyNot_200 (by decide) (fun _ => ?_) (fun c_ => absurd c_ (by decide))
  refine lv_iload_n hx hb dX9_whyNot_272 rfl (lv_at hl 1 rfl) ?_
  refine lv_bipush (v := 33) hx hb dX9_whyNot_273 (by decide) ?_
  refine lv_icmp_ne (tgt := 294) hx hb dX9_whyNot_275 (by decide) (fun _ => ?_) (fun c_ => absurd c_ (by decide))
  refine lv_iload_n hx hb dX9_whyNot_294 rfl (lv_at hl 1 rfl) ?_
  refine lv_bipush (v := 38) hx hb dX9_whyNot_295 (by decide) ?_
  refine lv_icmp_lt (tgt := 306) hx hb dX9_whyNot_297 (by decide) (fun c_ => absurd c_ (by decide)) (fun _ => ?_)
  refine lv_aload_n hx hb dX9_whyNot_300 rfl (lv_at hl 0 rfl) ?_
  refine lv_iload_n hx hb dX9_whyNot_301 rfl (lv_at hl 1 rfl) ?_
  refine r_ki hw (r_runV (rest := []) hC hw 0 (c_X9_whyNotThing_64 l _ hs hW) rk9 (wMl 0 (by decide)) wM0 1 gX9_whyNot_X9_whyNotThing rfl rfl rfl (by decide +kernel) ⟨Nat.le_of_ble_eq_true rfl, Nat.le_of_ble_eq_true rfl⟩ rfl hl.1 rfl (Nat.le_of_ble_eq_true rfl) dX9_whyNot_302 ⟨Nat.le_of_ble_eq_true rfl, Nat.le_of_ble_eq_true rfl⟩) (fun r_2 u_3 H locs h_1 hw => ?_)
  subst h_1
  exact r_iret hC hr hlk hw () rfl rfl (Nat.le_of_ble_eq_true rfl) (Nat.le_of_ble_eq_true rfl) dX9_whyNot_305

set_option maxHeartbeats 4000000 in
set_option maxRecDepth 100000 in
theorem c_X9_whyNot_65 (l : Launch) {D : va_G} {q : Nat → ClassId} {ad : Nat → Nat} {κ : KS} {t : Nat → Int32} (sz : Nat) (hs : okStep 65 (t 0) (t 1) (t 2)) (hW : WFm κ) : Met l yX9_whyNot wsX9_whyNot (rmz 5 110) (va_Pc [.ref (ad 0), .int 65] (rPre D q (wM q ad κ t) sz)) (va_Qi (fun (r : Int32) (u : Unit) => r = why κ 65 (t 0) (t 1) (t 2)) (fun (u : Unit) tt => rPo D (rA (wM q ad κ t) sz) (wM q ad κ t) tt) (rA (wM q ad κ t) sz)) 0 0 (rA (wM q ad κ t) sz) := by
  have hi0 : vp_in (t 0) 8 := hs.1
  have hi1 : vp_in (t 1) 8 := hs.2.1
  have hi2 : vp_in (t 2) 8 := hs.2.2
  refine r_start (cc := cX9_whyNot) (maxL := 4) (ret := (some .int)) (by decide) rfl (Nat.le_of_ble_eq_true rfl) ?_
  intro p e s m below meth c ls hC hr hlk hnm hsz hw hl
  have hx := hC.1
  have hb := hC.2.1
  have hl : lv_has ls 4 [(0, .ref (ad 0)), (1, .int 65)] := hl
  refine lv_iload_n hx hb dX9_whyNot_0 rfl (lv_at hl 1 rfl) ?_
  refine lv_bipush (v := 7) hx hb dX9_whyNot_1 (by decide) ?_
  refine lv_icmp_eq (tgt := 12) hx hb dX9_whyNot_3 (by decide) (fun c_ => absurd c_ (by decide)) (fun _ => ?_)
  refine lv_iload_n hx hb dX9_whyNot_6 rfl (lv_at hl 1 rfl) ?_
  refine lv_bipush (v := 8) hx hb dX9_whyNot_7 (by decide) ?_
  refine lv_icmp_ne (tgt := 31) hx hb dX9_whyNot_9 (by decide) (fun _ => ?_) (fun c_ => absurd c_ (by decide))
  refine lv_iload_n hx hb dX9_whyNot_31 rfl (lv_at hl 1 rfl) ?_
  refine lv_bipush (v := 11) hx hb dX9_whyNot_32 (by decide) ?_
  refine lv_icmp_eq (tgt := 43) hx hb dX9_whyNot_34 (by decide) (fun c_ => absurd c_ (by decide)) (fun _ => ?_)
  refine lv_iload_n hx hb dX9_whyNot_37 rfl (lv_at hl 1 rfl) ?_
  refine lv_bipush (v := 12) hx hb dX9_whyNot_38 (by decide) ?_
  refine lv_icmp_ne (tgt := 64) hx hb dX9_whyNot_40 (by decide) (fun _ => ?_) (fun c_ => absurd c_ (by decide))
  refine lv_iload_n hx hb dX9_whyNot_64 rfl (lv_at hl 1 rfl) ?_
  refine lv_bipush (v := 23) hx hb dX9_whyNot_65 (by decide) ?_
  refine lv_icmp_ne (tgt := 91) hx hb dX9_whyNot_67 (by decide) (fun _ => ?_) (fun c_ => absurd c_ (by decide))
  refine lv_iload_n hx hb dX9_whyNot_91 rfl (lv_at hl 1 rfl) ?_
  refine lv_bipush (v := 24) hx hb dX9_whyNot_92 (by decide) ?_
  refine lv_icmp_ne (tgt := 118) hx hb dX9_whyNot_94 (by decide) (fun _ => ?_) (fun c_ => absurd c_ (by decide))
  refine lv_iload_n hx hb dX9_whyNot_118 rfl (lv_at hl 1 rfl) ?_
  refine lv_bipush (v := 29) hx hb dX9_whyNot_119 (by decide) ?_
  refine lv_icmp_ne (tgt := 140) hx hb dX9_whyNot_121 (by decide) (fun _ => ?_) (fun c_ => absurd c_ (by decide))
  refine lv_iload_n hx hb dX9_whyNot_140 rfl (lv_at hl 1 rfl) ?_
  refine lv_bipush (v := 31) hx hb dX9_whyNot_141 (by decide) ?_
  refine lv_icmp_ne (tgt := 197) hx hb dX9_whyNot_143 (by decide) (fun _ => ?_) (fun c_ => absurd c_ (by decide))
  refine lv_iload_n hx hb dX9_whyNot_197 rfl (lv_at hl 1 rfl) ?_
  refine lv_bipush (v := 32) hx hb dX9_whyNot_198 (by decide) ?_
  refine lv_icmp_ne (tgt := 272) hx hb dX9_whyNot_200 (by decide) (fun _ => ?_) (fun c_ => absurd c_ (by decide))
  refine lv_iload_n hx hb dX9_whyNot_272 rfl (lv_at hl 1 rfl) ?_
  refine lv_bipush (v := 33) hx hb dX9_whyNot_273 (by decide) ?_
  refine lv_icmp_ne (tgt := 294) hx hb dX9_whyNot_275 (by decide) (fun _ => ?_) (fun c_ => absurd c_ (by decide))
  refine lv_iload_n hx hb dX9_whyNot_294 rfl (lv_at hl 1 rfl) ?_
  refine lv_bipush (v := 38) hx hb dX9_whyNot_295 (by decide) ?_
  refine lv_icmp_lt (tgt := 306) hx hb dX9_whyNot_297 (by decide) (fun c_ => absurd c_ (by decide)) (fun _ => ?_)
  refine lv_aload_n hx hb dX9_whyNot_300 rfl (lv_at hl 0 rfl) ?_
  refine lv_iload_n hx hb dX9_whyNot_301 rfl (lv_at hl 1 rfl) ?_
  refine r_ki hw (r_runV (rest := []) hC hw 0 (c_X9_whyNotThing_65 l _ hs hW) rk9 (wMl 0 (by decide)) wM0 1 gX9_whyNot_X9_whyNotThing rfl rfl rfl (by decide +kernel) ⟨Nat.le_of_ble_eq_true rfl, Nat.le_of_ble_eq_true rfl⟩ rfl hl.1 rfl (Nat.le_of_ble_eq_true rfl) dX9_whyNot_302 ⟨Nat.le_of_ble_eq_true rfl, Nat.le_of_ble_eq_true rfl⟩) (fun r_2 u_3 H locs h_1 hw => ?_)
  subst h_1
  exact r_iret hC hr hlk hw () rfl rfl (Nat.le_of_ble_eq_true rfl) (Nat.le_of_ble_eq_true rfl) dX9_whyNot_305

set_option maxHeartbeats 4000000 in
set_option maxRecDepth 100000 in
theorem c_X9_whyNot_66 (l : Launch) {D : va_G} {q : Nat → ClassId} {ad : Nat → Nat} {κ : KS} {t : Nat → Int32} (sz : Nat) (hs : okStep 66 (t 0) (t 1) (t 2)) (hW : WFm κ) : Met l yX9_whyNot wsX9_whyNot (rmz 5 110) (va_Pc [.ref (ad 0), .int 66] (rPre D q (wM q ad κ t) sz)) (va_Qi (fun (r : Int32) (u : Unit) => r = why κ 66 (t 0) (t 1) (t 2)) (fun (u : Unit) tt => rPo D (rA (wM q ad κ t) sz) (wM q ad κ t) tt) (rA (wM q ad κ t) sz)) 0 0 (rA (wM q ad κ t) sz) := by
  have hi0 : vp_in (t 0) 8 := hs.1
  have hi1 : vp_in (t 1) 8 := hs.2.1
  have hi2 : vp_in (t 2) 8 := hs.2.2
  refine r_start (cc := cX9_whyNot) (maxL := 4) (ret := (some .int)) (by decide) rfl (Nat.le_of_ble_eq_true rfl) ?_
  intro p e s m below meth c ls hC hr hlk hnm hsz hw hl
  have hx := hC.1
  have hb := hC.2.1
  have hl : lv_has ls 4 [(0, .ref (ad 0)), (1, .int 66)] := hl
  refine lv_iload_n hx hb dX9_whyNot_0 rfl (lv_at hl 1 rfl) ?_
  refine lv_bipush (v := 7) hx hb dX9_whyNot_1 (by decide) ?_
  refine lv_icmp_eq (tgt := 12) hx hb dX9_whyNot_3 (by decide) (fun c_ => absurd c_ (by decide)) (fun _ => ?_)
  refine lv_iload_n hx hb dX9_whyNot_6 rfl (lv_at hl 1 rfl) ?_
  refine lv_bipush (v := 8) hx hb dX9_whyNot_7 (by decide) ?_
  refine lv_icmp_ne (tgt := 31) hx hb dX9_whyNot_9 (by decide) (fun _ => ?_) (fun c_ => absurd c_ (by decide))
  refine lv_iload_n hx hb dX9_whyNot_31 rfl (lv_at hl 1 rfl) ?_
  refine lv_bipush (v := 11) hx hb dX9_whyNot_32 (by decide) ?_
  refine lv_icmp_eq (tgt := 43) hx hb dX9_whyNot_34 (by decide) (fun c_ => absurd c_ (by decide)) (fun _ => ?_)
  refine lv_iload_n hx hb dX9_whyNot_37 rfl (lv_at hl 1 rfl) ?_
  refine lv_bipush (v := 12) hx hb dX9_whyNot_38 (by decide) ?_
  refine lv_icmp_ne (tgt := 64) hx hb dX9_whyNot_40 (by decide) (fun _ => ?_) (fun c_ => absurd c_ (by decide))
  refine lv_iload_n hx hb dX9_whyNot_64 rfl (lv_at hl 1 rfl) ?_
  refine lv_bipush (v := 23) hx hb dX9_whyNot_65 (by decide) ?_
  refine lv_icmp_ne (tgt := 91) hx hb dX9_whyNot_67 (by decide) (fun _ => ?_) (fun c_ => absurd c_ (by decide))
  refine lv_iload_n hx hb dX9_whyNot_91 rfl (lv_at hl 1 rfl) ?_
  refine lv_bipush (v := 24) hx hb dX9_whyNot_92 (by decide) ?_
  refine lv_icmp_ne (tgt := 118) hx hb dX9_whyNot_94 (by decide) (fun _ => ?_) (fun c_ => absurd c_ (by decide))
  refine lv_iload_n hx hb dX9_whyNot_118 rfl (lv_at hl 1 rfl) ?_
  refine lv_bipush (v := 29) hx hb dX9_whyNot_119 (by decide) ?_
  refine lv_icmp_ne (tgt := 140) hx hb dX9_whyNot_121 (by decide) (fun _ => ?_) (fun c_ => absurd c_ (by decide))
  refine lv_iload_n hx hb dX9_whyNot_140 rfl (lv_at hl 1 rfl) ?_
  refine lv_bipush (v := 31) hx hb dX9_whyNot_141 (by decide) ?_
  refine lv_icmp_ne (tgt := 197) hx hb dX9_whyNot_143 (by decide) (fun _ => ?_) (fun c_ => absurd c_ (by decide))
  refine lv_iload_n hx hb dX9_whyNot_197 rfl (lv_at hl 1 rfl) ?_
  refine lv_bipush (v := 32) hx hb dX9_whyNot_198 (by decide) ?_
  refine lv_icmp_ne (tgt := 272) hx hb dX9_whyNot_200 (by decide) (fun _ => ?_) (fun c_ => absurd c_ (by decide))
  refine lv_iload_n hx hb dX9_whyNot_272 rfl (lv_at hl 1 rfl) ?_
  refine lv_bipush (v := 33) hx hb dX9_whyNot_273 (by decide) ?_
  refine lv_icmp_ne (tgt := 294) hx hb dX9_whyNot_275 (by decide) (fun _ => ?_) (fun c_ => absurd c_ (by decide))
  refine lv_iload_n hx hb dX9_whyNot_294 rfl (lv_at hl 1 rfl) ?_
  refine lv_bipush (v := 38) hx hb dX9_whyNot_295 (by decide) ?_
  refine lv_icmp_lt (tgt := 306) hx hb dX9_whyNot_297 (by decide) (fun c_ => absurd c_ (by decide)) (fun _ => ?_)
  refine lv_aload_n hx hb dX9_whyNot_300 rfl (lv_at hl 0 rfl) ?_
  refine lv_iload_n hx hb dX9_whyNot_301 rfl (lv_at hl 1 rfl) ?_
  refine r_ki hw (r_runV (rest := []) hC hw 0 (c_X9_whyNotThing_66 l _ hs hW) rk9 (wMl 0 (by decide)) wM0 1 gX9_whyNot_X9_whyNotThing rfl rfl rfl (by decide +kernel) ⟨Nat.le_of_ble_eq_true rfl, Nat.le_of_ble_eq_true rfl⟩ rfl hl.1 rfl (Nat.le_of_ble_eq_true rfl) dX9_whyNot_302 ⟨Nat.le_of_ble_eq_true rfl, Nat.le_of_ble_eq_true rfl⟩) (fun r_2 u_3 H locs h_1 hw => ?_)
  subst h_1
  exact r_iret hC hr hlk hw () rfl rfl (Nat.le_of_ble_eq_true rfl) (Nat.le_of_ble_eq_true rfl) dX9_whyNot_305

set_option maxHeartbeats 4000000 in
set_option maxRecDepth 100000 in
theorem c_X9_whyNot_67 (l : Launch) {D : va_G} {q : Nat → ClassId} {ad : Nat → Nat} {κ : KS} {t : Nat → Int32} (sz : Nat) (hs : okStep 67 (t 0) (t 1) (t 2)) (hW : WFm κ) : Met l yX9_whyNot wsX9_whyNot (rmz 5 110) (va_Pc [.ref (ad 0), .int 67] (rPre D q (wM q ad κ t) sz)) (va_Qi (fun (r : Int32) (u : Unit) => r = why κ 67 (t 0) (t 1) (t 2)) (fun (u : Unit) tt => rPo D (rA (wM q ad κ t) sz) (wM q ad κ t) tt) (rA (wM q ad κ t) sz)) 0 0 (rA (wM q ad κ t) sz) := by
  have hi0 : vp_in (t 0) 8 := hs.1
  have hi1 : vp_in (t 1) 8 := hs.2.1
  have hi2 : vp_in (t 2) 8 := hs.2.2
  refine r_start (cc := cX9_whyNot) (maxL := 4) (ret := (some .int)) (by decide) rfl (Nat.le_of_ble_eq_true rfl) ?_
  intro p e s m below meth c ls hC hr hlk hnm hsz hw hl
  have hx := hC.1
  have hb := hC.2.1
  have hl : lv_has ls 4 [(0, .ref (ad 0)), (1, .int 67)] := hl
  refine lv_iload_n hx hb dX9_whyNot_0 rfl (lv_at hl 1 rfl) ?_
  refine lv_bipush (v := 7) hx hb dX9_whyNot_1 (by decide) ?_
  refine lv_icmp_eq (tgt := 12) hx hb dX9_whyNot_3 (by decide) (fun c_ => absurd c_ (by decide)) (fun _ => ?_)
  refine lv_iload_n hx hb dX9_whyNot_6 rfl (lv_at hl 1 rfl) ?_
  refine lv_bipush (v := 8) hx hb dX9_whyNot_7 (by decide) ?_
  refine lv_icmp_ne (tgt := 31) hx hb dX9_whyNot_9 (by decide) (fun _ => ?_) (fun c_ => absurd c_ (by decide))
  refine lv_iload_n hx hb dX9_whyNot_31 rfl (lv_at hl 1 rfl) ?_
  refine lv_bipush (v := 11) hx hb dX9_whyNot_32 (by decide) ?_
  refine lv_icmp_eq (tgt := 43) hx hb dX9_whyNot_34 (by decide) (fun c_ => absurd c_ (by decide)) (fun _ => ?_)
  refine lv_iload_n hx hb dX9_whyNot_37 rfl (lv_at hl 1 rfl) ?_
  refine lv_bipush (v := 12) hx hb dX9_whyNot_38 (by decide) ?_
  refine lv_icmp_ne (tgt := 64) hx hb dX9_whyNot_40 (by decide) (fun _ => ?_) (fun c_ => absurd c_ (by decide))
  refine lv_iload_n hx hb dX9_whyNot_64 rfl (lv_at hl 1 rfl) ?_
  refine lv_bipush (v := 23) hx hb dX9_whyNot_65 (by decide) ?_
  refine lv_icmp_ne (tgt := 91) hx hb dX9_whyNot_67 (by decide) (fun _ => ?_) (fun c_ => absurd c_ (by decide))
  refine lv_iload_n hx hb dX9_whyNot_91 rfl (lv_at hl 1 rfl) ?_
  refine lv_bipush (v := 24) hx hb dX9_whyNot_92 (by decide) ?_
  refine lv_icmp_ne (tgt := 118) hx hb dX9_whyNot_94 (by decide) (fun _ => ?_) (fun c_ => absurd c_ (by decide))
  refine lv_iload_n hx hb dX9_whyNot_118 rfl (lv_at hl 1 rfl) ?_
  refine lv_bipush (v := 29) hx hb dX9_whyNot_119 (by decide) ?_
  refine lv_icmp_ne (tgt := 140) hx hb dX9_whyNot_121 (by decide) (fun _ => ?_) (fun c_ => absurd c_ (by decide))
  refine lv_iload_n hx hb dX9_whyNot_140 rfl (lv_at hl 1 rfl) ?_
  refine lv_bipush (v := 31) hx hb dX9_whyNot_141 (by decide) ?_
  refine lv_icmp_ne (tgt := 197) hx hb dX9_whyNot_143 (by decide) (fun _ => ?_) (fun c_ => absurd c_ (by decide))
  refine lv_iload_n hx hb dX9_whyNot_197 rfl (lv_at hl 1 rfl) ?_
  refine lv_bipush (v := 32) hx hb dX9_whyNot_198 (by decide) ?_
  refine lv_icmp_ne (tgt := 272) hx hb dX9_whyNot_200 (by decide) (fun _ => ?_) (fun c_ => absurd c_ (by decide))
  refine lv_iload_n hx hb dX9_whyNot_272 rfl (lv_at hl 1 rfl) ?_
  refine lv_bipush (v := 33) hx hb dX9_whyNot_273 (by decide) ?_
  refine lv_icmp_ne (tgt := 294) hx hb dX9_whyNot_275 (by decide) (fun _ => ?_) (fun c_ => absurd c_ (by decide))
  refine lv_iload_n hx hb dX9_whyNot_294 rfl (lv_at hl 1 rfl) ?_
  refine lv_bipush (v := 38) hx hb dX9_whyNot_295 (by decide) ?_
  refine lv_icmp_lt (tgt := 306) hx hb dX9_whyNot_297 (by decide) (fun c_ => absurd c_ (by decide)) (fun _ => ?_)
  refine lv_aload_n hx hb dX9_whyNot_300 rfl (lv_at hl 0 rfl) ?_
  refine lv_iload_n hx hb dX9_whyNot_301 rfl (lv_at hl 1 rfl) ?_
  refine r_ki hw (r_runV (rest := []) hC hw 0 (c_X9_whyNotThing_67 l _ hs hW) rk9 (wMl 0 (by decide)) wM0 1 gX9_whyNot_X9_whyNotThing rfl rfl rfl (by decide +kernel) ⟨Nat.le_of_ble_eq_true rfl, Nat.le_of_ble_eq_true rfl⟩ rfl hl.1 rfl (Nat.le_of_ble_eq_true rfl) dX9_whyNot_302 ⟨Nat.le_of_ble_eq_true rfl, Nat.le_of_ble_eq_true rfl⟩) (fun r_2 u_3 H locs h_1 hw => ?_)
  subst h_1
  exact r_iret hC hr hlk hw () rfl rfl (Nat.le_of_ble_eq_true rfl) (Nat.le_of_ble_eq_true rfl) dX9_whyNot_305

set_option maxHeartbeats 4000000 in
set_option maxRecDepth 100000 in
theorem c_X9_whyNot_68 (l : Launch) {D : va_G} {q : Nat → ClassId} {ad : Nat → Nat} {κ : KS} {t : Nat → Int32} (sz : Nat) (hs : okStep 68 (t 0) (t 1) (t 2)) (hW : WFm κ) : Met l yX9_whyNot wsX9_whyNot (rmz 5 110) (va_Pc [.ref (ad 0), .int 68] (rPre D q (wM q ad κ t) sz)) (va_Qi (fun (r : Int32) (u : Unit) => r = why κ 68 (t 0) (t 1) (t 2)) (fun (u : Unit) tt => rPo D (rA (wM q ad κ t) sz) (wM q ad κ t) tt) (rA (wM q ad κ t) sz)) 0 0 (rA (wM q ad κ t) sz) := by
  have hi0 : vp_in (t 0) 8 := hs.1
  refine r_start (cc := cX9_whyNot) (maxL := 4) (ret := (some .int)) (by decide) rfl (Nat.le_of_ble_eq_true rfl) ?_
  intro p e s m below meth c ls hC hr hlk hnm hsz hw hl
  have hx := hC.1
  have hb := hC.2.1
  have hl : lv_has ls 4 [(0, .ref (ad 0)), (1, .int 68)] := hl
  refine lv_iload_n hx hb dX9_whyNot_0 rfl (lv_at hl 1 rfl) ?_
  refine lv_bipush (v := 7) hx hb dX9_whyNot_1 (by decide) ?_
  refine lv_icmp_eq (tgt := 12) hx hb dX9_whyNot_3 (by decide) (fun c_ => absurd c_ (by decide)) (fun _ => ?_)
  refine lv_iload_n hx hb dX9_whyNot_6 rfl (lv_at hl 1 rfl) ?_
  refine lv_bipush (v := 8) hx hb dX9_whyNot_7 (by decide) ?_
  refine lv_icmp_ne (tgt := 31) hx hb dX9_whyNot_9 (by decide) (fun _ => ?_) (fun c_ => absurd c_ (by decide))
  refine lv_iload_n hx hb dX9_whyNot_31 rfl (lv_at hl 1 rfl) ?_
  refine lv_bipush (v := 11) hx hb dX9_whyNot_32 (by decide) ?_
  refine lv_icmp_eq (tgt := 43) hx hb dX9_whyNot_34 (by decide) (fun c_ => absurd c_ (by decide)) (fun _ => ?_)
  refine lv_iload_n hx hb dX9_whyNot_37 rfl (lv_at hl 1 rfl) ?_
  refine lv_bipush (v := 12) hx hb dX9_whyNot_38 (by decide) ?_
  refine lv_icmp_ne (tgt := 64) hx hb dX9_whyNot_40 (by decide) (fun _ => ?_) (fun c_ => absurd c_ (by decide))
  refine lv_iload_n hx hb dX9_whyNot_64 rfl (lv_at hl 1 rfl) ?_
  refine lv_bipush (v := 23) hx hb dX9_whyNot_65 (by decide) ?_
  refine lv_icmp_ne (tgt := 91) hx hb dX9_whyNot_67 (by decide) (fun _ => ?_) (fun c_ => absurd c_ (by decide))
  refine lv_iload_n hx hb dX9_whyNot_91 rfl (lv_at hl 1 rfl) ?_
  refine lv_bipush (v := 24) hx hb dX9_whyNot_92 (by decide) ?_
  refine lv_icmp_ne (tgt := 118) hx hb dX9_whyNot_94 (by decide) (fun _ => ?_) (fun c_ => absurd c_ (by decide))
  refine lv_iload_n hx hb dX9_whyNot_118 rfl (lv_at hl 1 rfl) ?_
  refine lv_bipush (v := 29) hx hb dX9_whyNot_119 (by decide) ?_
  refine lv_icmp_ne (tgt := 140) hx hb dX9_whyNot_121 (by decide) (fun _ => ?_) (fun c_ => absurd c_ (by decide))
  refine lv_iload_n hx hb dX9_whyNot_140 rfl (lv_at hl 1 rfl) ?_
  refine lv_bipush (v := 31) hx hb dX9_whyNot_141 (by decide) ?_
  refine lv_icmp_ne (tgt := 197) hx hb dX9_whyNot_143 (by decide) (fun _ => ?_) (fun c_ => absurd c_ (by decide))
  refine lv_iload_n hx hb dX9_whyNot_197 rfl (lv_at hl 1 rfl) ?_
  refine lv_bipush (v := 32) hx hb dX9_whyNot_198 (by decide) ?_
  refine lv_icmp_ne (tgt := 272) hx hb dX9_whyNot_200 (by decide) (fun _ => ?_) (fun c_ => absurd c_ (by decide))
  refine lv_iload_n hx hb dX9_whyNot_272 rfl (lv_at hl 1 rfl) ?_
  refine lv_bipush (v := 33) hx hb dX9_whyNot_273 (by decide) ?_
  refine lv_icmp_ne (tgt := 294) hx hb dX9_whyNot_275 (by decide) (fun _ => ?_) (fun c_ => absurd c_ (by decide))
  refine lv_iload_n hx hb dX9_whyNot_294 rfl (lv_at hl 1 rfl) ?_
  refine lv_bipush (v := 38) hx hb dX9_whyNot_295 (by decide) ?_
  refine lv_icmp_lt (tgt := 306) hx hb dX9_whyNot_297 (by decide) (fun c_ => absurd c_ (by decide)) (fun _ => ?_)
  refine lv_aload_n hx hb dX9_whyNot_300 rfl (lv_at hl 0 rfl) ?_
  refine lv_iload_n hx hb dX9_whyNot_301 rfl (lv_at hl 1 rfl) ?_
  refine r_ki hw (r_runV (rest := []) hC hw 0 (c_X9_whyNotThing_68 l _ hs hW) rk9 (wMl 0 (by decide)) wM0 1 gX9_whyNot_X9_whyNotThing rfl rfl rfl (by decide +kernel) ⟨Nat.le_of_ble_eq_true rfl, Nat.le_of_ble_eq_true rfl⟩ rfl hl.1 rfl (Nat.le_of_ble_eq_true rfl) dX9_whyNot_302 ⟨Nat.le_of_ble_eq_true rfl, Nat.le_of_ble_eq_true rfl⟩) (fun r_2 u_3 H locs h_1 hw => ?_)
  subst h_1
  exact r_iret hC hr hlk hw () rfl rfl (Nat.le_of_ble_eq_true rfl) (Nat.le_of_ble_eq_true rfl) dX9_whyNot_305

set_option maxHeartbeats 4000000 in
set_option maxRecDepth 100000 in
theorem c_X9_whyNot_69 (l : Launch) {D : va_G} {q : Nat → ClassId} {ad : Nat → Nat} {κ : KS} {t : Nat → Int32} (sz : Nat) (hs : okStep 69 (t 0) (t 1) (t 2)) (hW : WFm κ) : Met l yX9_whyNot wsX9_whyNot (rmz 5 110) (va_Pc [.ref (ad 0), .int 69] (rPre D q (wM q ad κ t) sz)) (va_Qi (fun (r : Int32) (u : Unit) => r = why κ 69 (t 0) (t 1) (t 2)) (fun (u : Unit) tt => rPo D (rA (wM q ad κ t) sz) (wM q ad κ t) tt) (rA (wM q ad κ t) sz)) 0 0 (rA (wM q ad κ t) sz) := by
  have hi0 : vp_in (t 0) 8 := hs.1
  refine r_start (cc := cX9_whyNot) (maxL := 4) (ret := (some .int)) (by decide) rfl (Nat.le_of_ble_eq_true rfl) ?_
  intro p e s m below meth c ls hC hr hlk hnm hsz hw hl
  have hx := hC.1
  have hb := hC.2.1
  have hl : lv_has ls 4 [(0, .ref (ad 0)), (1, .int 69)] := hl
  refine lv_iload_n hx hb dX9_whyNot_0 rfl (lv_at hl 1 rfl) ?_
  refine lv_bipush (v := 7) hx hb dX9_whyNot_1 (by decide) ?_
  refine lv_icmp_eq (tgt := 12) hx hb dX9_whyNot_3 (by decide) (fun c_ => absurd c_ (by decide)) (fun _ => ?_)
  refine lv_iload_n hx hb dX9_whyNot_6 rfl (lv_at hl 1 rfl) ?_
  refine lv_bipush (v := 8) hx hb dX9_whyNot_7 (by decide) ?_
  refine lv_icmp_ne (tgt := 31) hx hb dX9_whyNot_9 (by decide) (fun _ => ?_) (fun c_ => absurd c_ (by decide))
  refine lv_iload_n hx hb dX9_whyNot_31 rfl (lv_at hl 1 rfl) ?_
  refine lv_bipush (v := 11) hx hb dX9_whyNot_32 (by decide) ?_
  refine lv_icmp_eq (tgt := 43) hx hb dX9_whyNot_34 (by decide) (fun c_ => absurd c_ (by decide)) (fun _ => ?_)
  refine lv_iload_n hx hb dX9_whyNot_37 rfl (lv_at hl 1 rfl) ?_
  refine lv_bipush (v := 12) hx hb dX9_whyNot_38 (by decide) ?_
  refine lv_icmp_ne (tgt := 64) hx hb dX9_whyNot_40 (by decide) (fun _ => ?_) (fun c_ => absurd c_ (by decide))
  refine lv_iload_n hx hb dX9_whyNot_64 rfl (lv_at hl 1 rfl) ?_
  refine lv_bipush (v := 23) hx hb dX9_whyNot_65 (by decide) ?_
  refine lv_icmp_ne (tgt := 91) hx hb dX9_whyNot_67 (by decide) (fun _ => ?_) (fun c_ => absurd c_ (by decide))
  refine lv_iload_n hx hb dX9_whyNot_91 rfl (lv_at hl 1 rfl) ?_
  refine lv_bipush (v := 24) hx hb dX9_whyNot_92 (by decide) ?_
  refine lv_icmp_ne (tgt := 118) hx hb dX9_whyNot_94 (by decide) (fun _ => ?_) (fun c_ => absurd c_ (by decide))
  refine lv_iload_n hx hb dX9_whyNot_118 rfl (lv_at hl 1 rfl) ?_
  refine lv_bipush (v := 29) hx hb dX9_whyNot_119 (by decide) ?_
  refine lv_icmp_ne (tgt := 140) hx hb dX9_whyNot_121 (by decide) (fun _ => ?_) (fun c_ => absurd c_ (by decide))
  refine lv_iload_n hx hb dX9_whyNot_140 rfl (lv_at hl 1 rfl) ?_
  refine lv_bipush (v := 31) hx hb dX9_whyNot_141 (by decide) ?_
  refine lv_icmp_ne (tgt := 197) hx hb dX9_whyNot_143 (by decide) (fun _ => ?_) (fun c_ => absurd c_ (by decide))
  refine lv_iload_n hx hb dX9_whyNot_197 rfl (lv_at hl 1 rfl) ?_
  refine lv_bipush (v := 32) hx hb dX9_whyNot_198 (by decide) ?_
  refine lv_icmp_ne (tgt := 272) hx hb dX9_whyNot_200 (by decide) (fun _ => ?_) (fun c_ => absurd c_ (by decide))
  refine lv_iload_n hx hb dX9_whyNot_272 rfl (lv_at hl 1 rfl) ?_
  refine lv_bipush (v := 33) hx hb dX9_whyNot_273 (by decide) ?_
  refine lv_icmp_ne (tgt := 294) hx hb dX9_whyNot_275 (by decide) (fun _ => ?_) (fun c_ => absurd c_ (by decide))
  refine lv_iload_n hx hb dX9_whyNot_294 rfl (lv_at hl 1 rfl) ?_
  refine lv_bipush (v := 38) hx hb dX9_whyNot_295 (by decide) ?_
  refine lv_icmp_lt (tgt := 306) hx hb dX9_whyNot_297 (by decide) (fun c_ => absurd c_ (by decide)) (fun _ => ?_)
  refine lv_aload_n hx hb dX9_whyNot_300 rfl (lv_at hl 0 rfl) ?_
  refine lv_iload_n hx hb dX9_whyNot_301 rfl (lv_at hl 1 rfl) ?_
  refine r_ki hw (r_runV (rest := []) hC hw 0 (c_X9_whyNotThing_69 l _ hs hW) rk9 (wMl 0 (by decide)) wM0 1 gX9_whyNot_X9_whyNotThing rfl rfl rfl (by decide +kernel) ⟨Nat.le_of_ble_eq_true rfl, Nat.le_of_ble_eq_true rfl⟩ rfl hl.1 rfl (Nat.le_of_ble_eq_true rfl) dX9_whyNot_302 ⟨Nat.le_of_ble_eq_true rfl, Nat.le_of_ble_eq_true rfl⟩) (fun r_2 u_3 H locs h_1 hw => ?_)
  subst h_1
  exact r_iret hC hr hlk hw () rfl rfl (Nat.le_of_ble_eq_true rfl) (Nat.le_of_ble_eq_true rfl) dX9_whyNot_305

set_option maxHeartbeats 4000000 in
set_option maxRecDepth 100000 in
theorem c_X9_whyNot_70 (l : Launch) {D : va_G} {q : Nat → ClassId} {ad : Nat → Nat} {κ : KS} {t : Nat → Int32} (sz : Nat) (hs : okStep 70 (t 0) (t 1) (t 2)) (hW : WFm κ) : Met l yX9_whyNot wsX9_whyNot (rmz 5 110) (va_Pc [.ref (ad 0), .int 70] (rPre D q (wM q ad κ t) sz)) (va_Qi (fun (r : Int32) (u : Unit) => r = why κ 70 (t 0) (t 1) (t 2)) (fun (u : Unit) tt => rPo D (rA (wM q ad κ t) sz) (wM q ad κ t) tt) (rA (wM q ad κ t) sz)) 0 0 (rA (wM q ad κ t) sz) := by
  have hi0 : vp_in (t 0) 8 := hs.1
  have hi1 : vp_in (t 1) 8 := hs.2.1
  refine r_start (cc := cX9_whyNot) (maxL := 4) (ret := (some .int)) (by decide) rfl (Nat.le_of_ble_eq_true rfl) ?_
  intro p e s m below meth c ls hC hr hlk hnm hsz hw hl
  have hx := hC.1
  have hb := hC.2.1
  have hl : lv_has ls 4 [(0, .ref (ad 0)), (1, .int 70)] := hl
  refine lv_iload_n hx hb dX9_whyNot_0 rfl (lv_at hl 1 rfl) ?_
  refine lv_bipush (v := 7) hx hb dX9_whyNot_1 (by decide) ?_
  refine lv_icmp_eq (tgt := 12) hx hb dX9_whyNot_3 (by decide) (fun c_ => absurd c_ (by decide)) (fun _ => ?_)
  refine lv_iload_n hx hb dX9_whyNot_6 rfl (lv_at hl 1 rfl) ?_
  refine lv_bipush (v := 8) hx hb dX9_whyNot_7 (by decide) ?_
  refine lv_icmp_ne (tgt := 31) hx hb dX9_whyNot_9 (by decide) (fun _ => ?_) (fun c_ => absurd c_ (by decide))
  refine lv_iload_n hx hb dX9_whyNot_31 rfl (lv_at hl 1 rfl) ?_
  refine lv_bipush (v := 11) hx hb dX9_whyNot_32 (by decide) ?_
  refine lv_icmp_eq (tgt := 43) hx hb dX9_whyNot_34 (by decide) (fun c_ => absurd c_ (by decide)) (fun _ => ?_)
  refine lv_iload_n hx hb dX9_whyNot_37 rfl (lv_at hl 1 rfl) ?_
  refine lv_bipush (v := 12) hx hb dX9_whyNot_38 (by decide) ?_
  refine lv_icmp_ne (tgt := 64) hx hb dX9_whyNot_40 (by decide) (fun _ => ?_) (fun c_ => absurd c_ (by decide))
  refine lv_iload_n hx hb dX9_whyNot_64 rfl (lv_at hl 1 rfl) ?_
  refine lv_bipush (v := 23) hx hb dX9_whyNot_65 (by decide) ?_
  refine lv_icmp_ne (tgt := 91) hx hb dX9_whyNot_67 (by decide) (fun _ => ?_) (fun c_ => absurd c_ (by decide))
  refine lv_iload_n hx hb dX9_whyNot_91 rfl (lv_at hl 1 rfl) ?_
  refine lv_bipush (v := 24) hx hb dX9_whyNot_92 (by decide) ?_
  refine lv_icmp_ne (tgt := 118) hx hb dX9_whyNot_94 (by decide) (fun _ => ?_) (fun c_ => absurd c_ (by decide))
  refine lv_iload_n hx hb dX9_whyNot_118 rfl (lv_at hl 1 rfl) ?_
  refine lv_bipush (v := 29) hx hb dX9_whyNot_119 (by decide) ?_
  refine lv_icmp_ne (tgt := 140) hx hb dX9_whyNot_121 (by decide) (fun _ => ?_) (fun c_ => absurd c_ (by decide))
  refine lv_iload_n hx hb dX9_whyNot_140 rfl (lv_at hl 1 rfl) ?_
  refine lv_bipush (v := 31) hx hb dX9_whyNot_141 (by decide) ?_
  refine lv_icmp_ne (tgt := 197) hx hb dX9_whyNot_143 (by decide) (fun _ => ?_) (fun c_ => absurd c_ (by decide))
  refine lv_iload_n hx hb dX9_whyNot_197 rfl (lv_at hl 1 rfl) ?_
  refine lv_bipush (v := 32) hx hb dX9_whyNot_198 (by decide) ?_
  refine lv_icmp_ne (tgt := 272) hx hb dX9_whyNot_200 (by decide) (fun _ => ?_) (fun c_ => absurd c_ (by decide))
  refine lv_iload_n hx hb dX9_whyNot_272 rfl (lv_at hl 1 rfl) ?_
  refine lv_bipush (v := 33) hx hb dX9_whyNot_273 (by decide) ?_
  refine lv_icmp_ne (tgt := 294) hx hb dX9_whyNot_275 (by decide) (fun _ => ?_) (fun c_ => absurd c_ (by decide))
  refine lv_iload_n hx hb dX9_whyNot_294 rfl (lv_at hl 1 rfl) ?_
  refine lv_bipush (v := 38) hx hb dX9_whyNot_295 (by decide) ?_
  refine lv_icmp_lt (tgt := 306) hx hb dX9_whyNot_297 (by decide) (fun c_ => absurd c_ (by decide)) (fun _ => ?_)
  refine lv_aload_n hx hb dX9_whyNot_300 rfl (lv_at hl 0 rfl) ?_
  refine lv_iload_n hx hb dX9_whyNot_301 rfl (lv_at hl 1 rfl) ?_
  refine r_ki hw (r_runV (rest := []) hC hw 0 (c_X9_whyNotThing_70 l _ hs hW) rk9 (wMl 0 (by decide)) wM0 1 gX9_whyNot_X9_whyNotThing rfl rfl rfl (by decide +kernel) ⟨Nat.le_of_ble_eq_true rfl, Nat.le_of_ble_eq_true rfl⟩ rfl hl.1 rfl (Nat.le_of_ble_eq_true rfl) dX9_whyNot_302 ⟨Nat.le_of_ble_eq_true rfl, Nat.le_of_ble_eq_true rfl⟩) (fun r_2 u_3 H locs h_1 hw => ?_)
  subst h_1
  exact r_iret hC hr hlk hw () rfl rfl (Nat.le_of_ble_eq_true rfl) (Nat.le_of_ble_eq_true rfl) dX9_whyNot_305

set_option maxHeartbeats 4000000 in
set_option maxRecDepth 100000 in
theorem c_X9_whyNot_71 (l : Launch) {D : va_G} {q : Nat → ClassId} {ad : Nat → Nat} {κ : KS} {t : Nat → Int32} (sz : Nat) (hs : okStep 71 (t 0) (t 1) (t 2)) (hW : WFm κ) : Met l yX9_whyNot wsX9_whyNot (rmz 5 110) (va_Pc [.ref (ad 0), .int 71] (rPre D q (wM q ad κ t) sz)) (va_Qi (fun (r : Int32) (u : Unit) => r = why κ 71 (t 0) (t 1) (t 2)) (fun (u : Unit) tt => rPo D (rA (wM q ad κ t) sz) (wM q ad κ t) tt) (rA (wM q ad κ t) sz)) 0 0 (rA (wM q ad κ t) sz) := by
  have hi0 : vp_in (t 0) 8 := hs.1
  have hi1 : vp_in (t 1) 8 := hs.2.1
  refine r_start (cc := cX9_whyNot) (maxL := 4) (ret := (some .int)) (by decide) rfl (Nat.le_of_ble_eq_true rfl) ?_
  intro p e s m below meth c ls hC hr hlk hnm hsz hw hl
  have hx := hC.1
  have hb := hC.2.1
  have hl : lv_has ls 4 [(0, .ref (ad 0)), (1, .int 71)] := hl
  refine lv_iload_n hx hb dX9_whyNot_0 rfl (lv_at hl 1 rfl) ?_
  refine lv_bipush (v := 7) hx hb dX9_whyNot_1 (by decide) ?_
  refine lv_icmp_eq (tgt := 12) hx hb dX9_whyNot_3 (by decide) (fun c_ => absurd c_ (by decide)) (fun _ => ?_)
  refine lv_iload_n hx hb dX9_whyNot_6 rfl (lv_at hl 1 rfl) ?_
  refine lv_bipush (v := 8) hx hb dX9_whyNot_7 (by decide) ?_
  refine lv_icmp_ne (tgt := 31) hx hb dX9_whyNot_9 (by decide) (fun _ => ?_) (fun c_ => absurd c_ (by decide))
  refine lv_iload_n hx hb dX9_whyNot_31 rfl (lv_at hl 1 rfl) ?_
  refine lv_bipush (v := 11) hx hb dX9_whyNot_32 (by decide) ?_
  refine lv_icmp_eq (tgt := 43) hx hb dX9_whyNot_34 (by decide) (fun c_ => absurd c_ (by decide)) (fun _ => ?_)
  refine lv_iload_n hx hb dX9_whyNot_37 rfl (lv_at hl 1 rfl) ?_
  refine lv_bipush (v := 12) hx hb dX9_whyNot_38 (by decide) ?_
  refine lv_icmp_ne (tgt := 64) hx hb dX9_whyNot_40 (by decide) (fun _ => ?_) (fun c_ => absurd c_ (by decide))
  refine lv_iload_n hx hb dX9_whyNot_64 rfl (lv_at hl 1 rfl) ?_
  refine lv_bipush (v := 23) hx hb dX9_whyNot_65 (by decide) ?_
  refine lv_icmp_ne (tgt := 91) hx hb dX9_whyNot_67 (by decide) (fun _ => ?_) (fun c_ => absurd c_ (by decide))
  refine lv_iload_n hx hb dX9_whyNot_91 rfl (lv_at hl 1 rfl) ?_
  refine lv_bipush (v := 24) hx hb dX9_whyNot_92 (by decide) ?_
  refine lv_icmp_ne (tgt := 118) hx hb dX9_whyNot_94 (by decide) (fun _ => ?_) (fun c_ => absurd c_ (by decide))
  refine lv_iload_n hx hb dX9_whyNot_118 rfl (lv_at hl 1 rfl) ?_
  refine lv_bipush (v := 29) hx hb dX9_whyNot_119 (by decide) ?_
  refine lv_icmp_ne (tgt := 140) hx hb dX9_whyNot_121 (by decide) (fun _ => ?_) (fun c_ => absurd c_ (by decide))
  refine lv_iload_n hx hb dX9_whyNot_140 rfl (lv_at hl 1 rfl) ?_
  refine lv_bipush (v := 31) hx hb dX9_whyNot_141 (by decide) ?_
  refine lv_icmp_ne (tgt := 197) hx hb dX9_whyNot_143 (by decide) (fun _ => ?_) (fun c_ => absurd c_ (by decide))
  refine lv_iload_n hx hb dX9_whyNot_197 rfl (lv_at hl 1 rfl) ?_
  refine lv_bipush (v := 32) hx hb dX9_whyNot_198 (by decide) ?_
  refine lv_icmp_ne (tgt := 272) hx hb dX9_whyNot_200 (by decide) (fun _ => ?_) (fun c_ => absurd c_ (by decide))
  refine lv_iload_n hx hb dX9_whyNot_272 rfl (lv_at hl 1 rfl) ?_
  refine lv_bipush (v := 33) hx hb dX9_whyNot_273 (by decide) ?_
  refine lv_icmp_ne (tgt := 294) hx hb dX9_whyNot_275 (by decide) (fun _ => ?_) (fun c_ => absurd c_ (by decide))
  refine lv_iload_n hx hb dX9_whyNot_294 rfl (lv_at hl 1 rfl) ?_
  refine lv_bipush (v := 38) hx hb dX9_whyNot_295 (by decide) ?_
  refine lv_icmp_lt (tgt := 306) hx hb dX9_whyNot_297 (by decide) (fun c_ => absurd c_ (by decide)) (fun _ => ?_)
  refine lv_aload_n hx hb dX9_whyNot_300 rfl (lv_at hl 0 rfl) ?_
  refine lv_iload_n hx hb dX9_whyNot_301 rfl (lv_at hl 1 rfl) ?_
  refine r_ki hw (r_runV (rest := []) hC hw 0 (c_X9_whyNotThing_71 l _ hs hW) rk9 (wMl 0 (by decide)) wM0 1 gX9_whyNot_X9_whyNotThing rfl rfl rfl (by decide +kernel) ⟨Nat.le_of_ble_eq_true rfl, Nat.le_of_ble_eq_true rfl⟩ rfl hl.1 rfl (Nat.le_of_ble_eq_true rfl) dX9_whyNot_302 ⟨Nat.le_of_ble_eq_true rfl, Nat.le_of_ble_eq_true rfl⟩) (fun r_2 u_3 H locs h_1 hw => ?_)
  subst h_1
  exact r_iret hC hr hlk hw () rfl rfl (Nat.le_of_ble_eq_true rfl) (Nat.le_of_ble_eq_true rfl) dX9_whyNot_305

set_option maxHeartbeats 4000000 in
set_option maxRecDepth 100000 in
theorem c_X9_whyNot_72 (l : Launch) {D : va_G} {q : Nat → ClassId} {ad : Nat → Nat} {κ : KS} {t : Nat → Int32} (sz : Nat) (hs : okStep 72 (t 0) (t 1) (t 2)) (hW : WFm κ) : Met l yX9_whyNot wsX9_whyNot (rmz 5 110) (va_Pc [.ref (ad 0), .int 72] (rPre D q (wM q ad κ t) sz)) (va_Qi (fun (r : Int32) (u : Unit) => r = why κ 72 (t 0) (t 1) (t 2)) (fun (u : Unit) tt => rPo D (rA (wM q ad κ t) sz) (wM q ad κ t) tt) (rA (wM q ad κ t) sz)) 0 0 (rA (wM q ad κ t) sz) := by
  have hi0 : vp_in (t 0) 8 := hs.1
  refine r_start (cc := cX9_whyNot) (maxL := 4) (ret := (some .int)) (by decide) rfl (Nat.le_of_ble_eq_true rfl) ?_
  intro p e s m below meth c ls hC hr hlk hnm hsz hw hl
  have hx := hC.1
  have hb := hC.2.1
  have hl : lv_has ls 4 [(0, .ref (ad 0)), (1, .int 72)] := hl
  refine lv_iload_n hx hb dX9_whyNot_0 rfl (lv_at hl 1 rfl) ?_
  refine lv_bipush (v := 7) hx hb dX9_whyNot_1 (by decide) ?_
  refine lv_icmp_eq (tgt := 12) hx hb dX9_whyNot_3 (by decide) (fun c_ => absurd c_ (by decide)) (fun _ => ?_)
  refine lv_iload_n hx hb dX9_whyNot_6 rfl (lv_at hl 1 rfl) ?_
  refine lv_bipush (v := 8) hx hb dX9_whyNot_7 (by decide) ?_
  refine lv_icmp_ne (tgt := 31) hx hb dX9_whyNot_9 (by decide) (fun _ => ?_) (fun c_ => absurd c_ (by decide))
  refine lv_iload_n hx hb dX9_whyNot_31 rfl (lv_at hl 1 rfl) ?_
  refine lv_bipush (v := 11) hx hb dX9_whyNot_32 (by decide) ?_
  refine lv_icmp_eq (tgt := 43) hx hb dX9_whyNot_34 (by decide) (fun c_ => absurd c_ (by decide)) (fun _ => ?_)
  refine lv_iload_n hx hb dX9_whyNot_37 rfl (lv_at hl 1 rfl) ?_
  refine lv_bipush (v := 12) hx hb dX9_whyNot_38 (by decide) ?_
  refine lv_icmp_ne (tgt := 64) hx hb dX9_whyNot_40 (by decide) (fun _ => ?_) (fun c_ => absurd c_ (by decide))
  refine lv_iload_n hx hb dX9_whyNot_64 rfl (lv_at hl 1 rfl) ?_
  refine lv_bipush (v := 23) hx hb dX9_whyNot_65 (by decide) ?_
  refine lv_icmp_ne (tgt := 91) hx hb dX9_whyNot_67 (by decide) (fun _ => ?_) (fun c_ => absurd c_ (by decide))
  refine lv_iload_n hx hb dX9_whyNot_91 rfl (lv_at hl 1 rfl) ?_
  refine lv_bipush (v := 24) hx hb dX9_whyNot_92 (by decide) ?_
  refine lv_icmp_ne (tgt := 118) hx hb dX9_whyNot_94 (by decide) (fun _ => ?_) (fun c_ => absurd c_ (by decide))
  refine lv_iload_n hx hb dX9_whyNot_118 rfl (lv_at hl 1 rfl) ?_
  refine lv_bipush (v := 29) hx hb dX9_whyNot_119 (by decide) ?_
  refine lv_icmp_ne (tgt := 140) hx hb dX9_whyNot_121 (by decide) (fun _ => ?_) (fun c_ => absurd c_ (by decide))
  refine lv_iload_n hx hb dX9_whyNot_140 rfl (lv_at hl 1 rfl) ?_
  refine lv_bipush (v := 31) hx hb dX9_whyNot_141 (by decide) ?_
  refine lv_icmp_ne (tgt := 197) hx hb dX9_whyNot_143 (by decide) (fun _ => ?_) (fun c_ => absurd c_ (by decide))
  refine lv_iload_n hx hb dX9_whyNot_197 rfl (lv_at hl 1 rfl) ?_
  refine lv_bipush (v := 32) hx hb dX9_whyNot_198 (by decide) ?_
  refine lv_icmp_ne (tgt := 272) hx hb dX9_whyNot_200 (by decide) (fun _ => ?_) (fun c_ => absurd c_ (by decide))
  refine lv_iload_n hx hb dX9_whyNot_272 rfl (lv_at hl 1 rfl) ?_
  refine lv_bipush (v := 33) hx hb dX9_whyNot_273 (by decide) ?_
  refine lv_icmp_ne (tgt := 294) hx hb dX9_whyNot_275 (by decide) (fun _ => ?_) (fun c_ => absurd c_ (by decide))
  refine lv_iload_n hx hb dX9_whyNot_294 rfl (lv_at hl 1 rfl) ?_
  refine lv_bipush (v := 38) hx hb dX9_whyNot_295 (by decide) ?_
  refine lv_icmp_lt (tgt := 306) hx hb dX9_whyNot_297 (by decide) (fun c_ => absurd c_ (by decide)) (fun _ => ?_)
  refine lv_aload_n hx hb dX9_whyNot_300 rfl (lv_at hl 0 rfl) ?_
  refine lv_iload_n hx hb dX9_whyNot_301 rfl (lv_at hl 1 rfl) ?_
  refine r_ki hw (r_runV (rest := []) hC hw 0 (c_X9_whyNotThing_72 l _ hs hW) rk9 (wMl 0 (by decide)) wM0 1 gX9_whyNot_X9_whyNotThing rfl rfl rfl (by decide +kernel) ⟨Nat.le_of_ble_eq_true rfl, Nat.le_of_ble_eq_true rfl⟩ rfl hl.1 rfl (Nat.le_of_ble_eq_true rfl) dX9_whyNot_302 ⟨Nat.le_of_ble_eq_true rfl, Nat.le_of_ble_eq_true rfl⟩) (fun r_2 u_3 H locs h_1 hw => ?_)
  subst h_1
  exact r_iret hC hr hlk hw () rfl rfl (Nat.le_of_ble_eq_true rfl) (Nat.le_of_ble_eq_true rfl) dX9_whyNot_305

set_option maxHeartbeats 4000000 in
set_option maxRecDepth 100000 in
theorem c_X9_whyNot_73 (l : Launch) {D : va_G} {q : Nat → ClassId} {ad : Nat → Nat} {κ : KS} {t : Nat → Int32} (sz : Nat) (hs : okStep 73 (t 0) (t 1) (t 2)) (hW : WFm κ) : Met l yX9_whyNot wsX9_whyNot (rmz 5 110) (va_Pc [.ref (ad 0), .int 73] (rPre D q (wM q ad κ t) sz)) (va_Qi (fun (r : Int32) (u : Unit) => r = why κ 73 (t 0) (t 1) (t 2)) (fun (u : Unit) tt => rPo D (rA (wM q ad κ t) sz) (wM q ad κ t) tt) (rA (wM q ad κ t) sz)) 0 0 (rA (wM q ad κ t) sz) := by
  have hi0 : vp_in (t 0) 8 := hs.1
  refine r_start (cc := cX9_whyNot) (maxL := 4) (ret := (some .int)) (by decide) rfl (Nat.le_of_ble_eq_true rfl) ?_
  intro p e s m below meth c ls hC hr hlk hnm hsz hw hl
  have hx := hC.1
  have hb := hC.2.1
  have hl : lv_has ls 4 [(0, .ref (ad 0)), (1, .int 73)] := hl
  refine lv_iload_n hx hb dX9_whyNot_0 rfl (lv_at hl 1 rfl) ?_
  refine lv_bipush (v := 7) hx hb dX9_whyNot_1 (by decide) ?_
  refine lv_icmp_eq (tgt := 12) hx hb dX9_whyNot_3 (by decide) (fun c_ => absurd c_ (by decide)) (fun _ => ?_)
  refine lv_iload_n hx hb dX9_whyNot_6 rfl (lv_at hl 1 rfl) ?_
  refine lv_bipush (v := 8) hx hb dX9_whyNot_7 (by decide) ?_
  refine lv_icmp_ne (tgt := 31) hx hb dX9_whyNot_9 (by decide) (fun _ => ?_) (fun c_ => absurd c_ (by decide))
  refine lv_iload_n hx hb dX9_whyNot_31 rfl (lv_at hl 1 rfl) ?_
  refine lv_bipush (v := 11) hx hb dX9_whyNot_32 (by decide) ?_
  refine lv_icmp_eq (tgt := 43) hx hb dX9_whyNot_34 (by decide) (fun c_ => absurd c_ (by decide)) (fun _ => ?_)
  refine lv_iload_n hx hb dX9_whyNot_37 rfl (lv_at hl 1 rfl) ?_
  refine lv_bipush (v := 12) hx hb dX9_whyNot_38 (by decide) ?_
  refine lv_icmp_ne (tgt := 64) hx hb dX9_whyNot_40 (by decide) (fun _ => ?_) (fun c_ => absurd c_ (by decide))
  refine lv_iload_n hx hb dX9_whyNot_64 rfl (lv_at hl 1 rfl) ?_
  refine lv_bipush (v := 23) hx hb dX9_whyNot_65 (by decide) ?_
  refine lv_icmp_ne (tgt := 91) hx hb dX9_whyNot_67 (by decide) (fun _ => ?_) (fun c_ => absurd c_ (by decide))
  refine lv_iload_n hx hb dX9_whyNot_91 rfl (lv_at hl 1 rfl) ?_
  refine lv_bipush (v := 24) hx hb dX9_whyNot_92 (by decide) ?_
  refine lv_icmp_ne (tgt := 118) hx hb dX9_whyNot_94 (by decide) (fun _ => ?_) (fun c_ => absurd c_ (by decide))
  refine lv_iload_n hx hb dX9_whyNot_118 rfl (lv_at hl 1 rfl) ?_
  refine lv_bipush (v := 29) hx hb dX9_whyNot_119 (by decide) ?_
  refine lv_icmp_ne (tgt := 140) hx hb dX9_whyNot_121 (by decide) (fun _ => ?_) (fun c_ => absurd c_ (by decide))
  refine lv_iload_n hx hb dX9_whyNot_140 rfl (lv_at hl 1 rfl) ?_
  refine lv_bipush (v := 31) hx hb dX9_whyNot_141 (by decide) ?_
  refine lv_icmp_ne (tgt := 197) hx hb dX9_whyNot_143 (by decide) (fun _ => ?_) (fun c_ => absurd c_ (by decide))
  refine lv_iload_n hx hb dX9_whyNot_197 rfl (lv_at hl 1 rfl) ?_
  refine lv_bipush (v := 32) hx hb dX9_whyNot_198 (by decide) ?_
  refine lv_icmp_ne (tgt := 272) hx hb dX9_whyNot_200 (by decide) (fun _ => ?_) (fun c_ => absurd c_ (by decide))
  refine lv_iload_n hx hb dX9_whyNot_272 rfl (lv_at hl 1 rfl) ?_
  refine lv_bipush (v := 33) hx hb dX9_whyNot_273 (by decide) ?_
  refine lv_icmp_ne (tgt := 294) hx hb dX9_whyNot_275 (by decide) (fun _ => ?_) (fun c_ => absurd c_ (by decide))
  refine lv_iload_n hx hb dX9_whyNot_294 rfl (lv_at hl 1 rfl) ?_
  refine lv_bipush (v := 38) hx hb dX9_whyNot_295 (by decide) ?_
  refine lv_icmp_lt (tgt := 306) hx hb dX9_whyNot_297 (by decide) (fun c_ => absurd c_ (by decide)) (fun _ => ?_)
  refine lv_aload_n hx hb dX9_whyNot_300 rfl (lv_at hl 0 rfl) ?_
  refine lv_iload_n hx hb dX9_whyNot_301 rfl (lv_at hl 1 rfl) ?_
  refine r_ki hw (r_runV (rest := []) hC hw 0 (c_X9_whyNotThing_73 l _ hs hW) rk9 (wMl 0 (by decide)) wM0 1 gX9_whyNot_X9_whyNotThing rfl rfl rfl (by decide +kernel) ⟨Nat.le_of_ble_eq_true rfl, Nat.le_of_ble_eq_true rfl⟩ rfl hl.1 rfl (Nat.le_of_ble_eq_true rfl) dX9_whyNot_302 ⟨Nat.le_of_ble_eq_true rfl, Nat.le_of_ble_eq_true rfl⟩) (fun r_2 u_3 H locs h_1 hw => ?_)
  subst h_1
  exact r_iret hC hr hlk hw () rfl rfl (Nat.le_of_ble_eq_true rfl) (Nat.le_of_ble_eq_true rfl) dX9_whyNot_305

