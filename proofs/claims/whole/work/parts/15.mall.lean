set_option maxHeartbeats 4000000 in
set_option maxRecDepth 100000 in
theorem c_X9_does_0 (l : Launch) {D : va_G} {q : Nat → ClassId} {ad : Nat → Nat} {κ : KS} {t : Nat → Int32} (sz : Nat) (hs : okStep 0 (t 0) (t 1) (t 2)) (hW : WFm κ) (hy : why κ 0 (t 0) (t 1) (t 2) = 0) (hN : nnOp κ 0 (t 0) (t 1) (t 2)) (hc : vp_in (sI κ 6) 13) (hm : vp_in (sI κ 2) 61) (hT : ¬ sI κ 7 < 0) : Met l yX9_does wsX9_does (rmz 3 67) (va_Pc [.ref (ad 0), .int 0] (rPre D q (wM q ad κ t) sz)) (va_Qv (fun (u : KS × (Nat → Int32)) => u = (act κ (t 4) (t 5) 0 (t 0) (t 1) (t 2), va_up t 3 (nxt κ 0 (t 0) (t 1) (t 3)))) (fun (u : KS × (Nat → Int32)) tt => rPo D (rA (wM q ad κ t) sz) (wM q ad u.1 u.2) tt) (rA (wM q ad κ t) sz)) 0 0 (rA (wM q ad κ t) sz) := by
  refine r_start (cc := cX9_does) (maxL := 2) (ret := none) (by decide) rfl (Nat.le_of_ble_eq_true rfl) ?_
  intro p e s m below meth c ls hC hr hlk hnm hsz hw hl
  have hx := hC.1
  have hb := hC.2.1
  have hl : lv_has ls 2 [(0, .ref (ad 0)), (1, .int 0)] := hl
  refine lv_iload_n hx hb dX9_does_0 rfl (lv_at hl 1 rfl) ?_
  refine lv_bipush (v := 14) hx hb dX9_does_1 (by decide) ?_
  refine lv_icmp_le (tgt := 12) hx hb dX9_does_3 (by decide) (fun _ => ?_) (fun c_ => absurd (by decide) c_)
  refine lv_aload_n hx hb dX9_does_12 rfl (lv_at hl 0 rfl) ?_
  refine lv_iload_n hx hb dX9_does_13 rfl (lv_at hl 1 rfl) ?_
  refine r_kv hw (r_runV (rest := []) hC hw 0 (c_X9_doesWhole_0 (ad := ad) l _ hs hW hy hN hc hm hT) rk9 (wMl 0 (by decide)) wM0 1 gX9_does_X9_doesWhole rfl rfl rfl (by decide +kernel) ⟨Nat.le_of_ble_eq_true rfl, Nat.le_of_ble_eq_true rfl⟩ rfl hl.1 rfl (Nat.le_of_ble_eq_true rfl) dX9_does_14 ⟨Nat.le_of_ble_eq_true rfl, Nat.le_of_ble_eq_true rfl⟩) (fun u_3 H locs h_1 hw => ?_)
  subst h_1
  dsimp only at hw
  refine lv_goto (tgt := 115) hx hb dX9_does_17 (by decide) ?_
  exact r_vret hC hr hlk hw (act κ (t 4) (t 5) 0 (t 0) (t 1) (t 2), t) rfl (congrArg (Prod.mk _) (upt t 3).symm) (Nat.le_of_ble_eq_true rfl) (Nat.le_of_ble_eq_true rfl) dX9_does_115

set_option maxHeartbeats 4000000 in
set_option maxRecDepth 100000 in
theorem c_X9_does_1 (l : Launch) {D : va_G} {q : Nat → ClassId} {ad : Nat → Nat} {κ : KS} {t : Nat → Int32} (sz : Nat) (hs : okStep 1 (t 0) (t 1) (t 2)) (hW : WFm κ) (hy : why κ 1 (t 0) (t 1) (t 2) = 0) (hN : nnOp κ 1 (t 0) (t 1) (t 2)) (hc : vp_in (sI κ 6) 13) (hm : vp_in (sI κ 2) 61) (hT : ¬ sI κ 7 < 0) : Met l yX9_does wsX9_does (rmz 3 67) (va_Pc [.ref (ad 0), .int 1] (rPre D q (wM q ad κ t) sz)) (va_Qv (fun (u : KS × (Nat → Int32)) => u = (act κ (t 4) (t 5) 1 (t 0) (t 1) (t 2), va_up t 3 (nxt κ 1 (t 0) (t 1) (t 3)))) (fun (u : KS × (Nat → Int32)) tt => rPo D (rA (wM q ad κ t) sz) (wM q ad u.1 u.2) tt) (rA (wM q ad κ t) sz)) 0 0 (rA (wM q ad κ t) sz) := by
  refine r_start (cc := cX9_does) (maxL := 2) (ret := none) (by decide) rfl (Nat.le_of_ble_eq_true rfl) ?_
  intro p e s m below meth c ls hC hr hlk hnm hsz hw hl
  have hx := hC.1
  have hb := hC.2.1
  have hl : lv_has ls 2 [(0, .ref (ad 0)), (1, .int 1)] := hl
  refine lv_iload_n hx hb dX9_does_0 rfl (lv_at hl 1 rfl) ?_
  refine lv_bipush (v := 14) hx hb dX9_does_1 (by decide) ?_
  refine lv_icmp_le (tgt := 12) hx hb dX9_does_3 (by decide) (fun _ => ?_) (fun c_ => absurd (by decide) c_)
  refine lv_aload_n hx hb dX9_does_12 rfl (lv_at hl 0 rfl) ?_
  refine lv_iload_n hx hb dX9_does_13 rfl (lv_at hl 1 rfl) ?_
  refine r_kv hw (r_runV (rest := []) hC hw 0 (c_X9_doesWhole_1 (ad := ad) l _ hs hW hy hN hc hm hT) rk9 (wMl 0 (by decide)) wM0 1 gX9_does_X9_doesWhole rfl rfl rfl (by decide +kernel) ⟨Nat.le_of_ble_eq_true rfl, Nat.le_of_ble_eq_true rfl⟩ rfl hl.1 rfl (Nat.le_of_ble_eq_true rfl) dX9_does_14 ⟨Nat.le_of_ble_eq_true rfl, Nat.le_of_ble_eq_true rfl⟩) (fun u_3 H locs h_1 hw => ?_)
  subst h_1
  dsimp only at hw
  refine lv_goto (tgt := 115) hx hb dX9_does_17 (by decide) ?_
  exact r_vret hC hr hlk hw (act κ (t 4) (t 5) 1 (t 0) (t 1) (t 2), t) rfl (congrArg (Prod.mk _) (upt t 3).symm) (Nat.le_of_ble_eq_true rfl) (Nat.le_of_ble_eq_true rfl) dX9_does_115

set_option maxHeartbeats 4000000 in
set_option maxRecDepth 100000 in
theorem c_X9_does_2 (l : Launch) {D : va_G} {q : Nat → ClassId} {ad : Nat → Nat} {κ : KS} {t : Nat → Int32} (sz : Nat) (hs : okStep 2 (t 0) (t 1) (t 2)) (hW : WFm κ) (hy : why κ 2 (t 0) (t 1) (t 2) = 0) (hN : nnOp κ 2 (t 0) (t 1) (t 2)) (hc : vp_in (sI κ 6) 13) (hm : vp_in (sI κ 2) 61) (hT : ¬ sI κ 7 < 0) : Met l yX9_does wsX9_does (rmz 3 67) (va_Pc [.ref (ad 0), .int 2] (rPre D q (wM q ad κ t) sz)) (va_Qv (fun (u : KS × (Nat → Int32)) => u = (act κ (t 4) (t 5) 2 (t 0) (t 1) (t 2), va_up t 3 (nxt κ 2 (t 0) (t 1) (t 3)))) (fun (u : KS × (Nat → Int32)) tt => rPo D (rA (wM q ad κ t) sz) (wM q ad u.1 u.2) tt) (rA (wM q ad κ t) sz)) 0 0 (rA (wM q ad κ t) sz) := by
  refine r_start (cc := cX9_does) (maxL := 2) (ret := none) (by decide) rfl (Nat.le_of_ble_eq_true rfl) ?_
  intro p e s m below meth c ls hC hr hlk hnm hsz hw hl
  have hx := hC.1
  have hb := hC.2.1
  have hl : lv_has ls 2 [(0, .ref (ad 0)), (1, .int 2)] := hl
  refine lv_iload_n hx hb dX9_does_0 rfl (lv_at hl 1 rfl) ?_
  refine lv_bipush (v := 14) hx hb dX9_does_1 (by decide) ?_
  refine lv_icmp_le (tgt := 12) hx hb dX9_does_3 (by decide) (fun _ => ?_) (fun c_ => absurd (by decide) c_)
  refine lv_aload_n hx hb dX9_does_12 rfl (lv_at hl 0 rfl) ?_
  refine lv_iload_n hx hb dX9_does_13 rfl (lv_at hl 1 rfl) ?_
  refine r_kv hw (r_runV (rest := []) hC hw 0 (c_X9_doesWhole_2 (ad := ad) l _ hs hW hy hN hc hm hT) rk9 (wMl 0 (by decide)) wM0 1 gX9_does_X9_doesWhole rfl rfl rfl (by decide +kernel) ⟨Nat.le_of_ble_eq_true rfl, Nat.le_of_ble_eq_true rfl⟩ rfl hl.1 rfl (Nat.le_of_ble_eq_true rfl) dX9_does_14 ⟨Nat.le_of_ble_eq_true rfl, Nat.le_of_ble_eq_true rfl⟩) (fun u_3 H locs h_1 hw => ?_)
  subst h_1
  dsimp only at hw
  refine lv_goto (tgt := 115) hx hb dX9_does_17 (by decide) ?_
  exact r_vret hC hr hlk hw (act κ (t 4) (t 5) 2 (t 0) (t 1) (t 2), t) rfl (congrArg (Prod.mk _) (upt t 3).symm) (Nat.le_of_ble_eq_true rfl) (Nat.le_of_ble_eq_true rfl) dX9_does_115

set_option maxHeartbeats 4000000 in
set_option maxRecDepth 100000 in
theorem c_X9_does_3 (l : Launch) {D : va_G} {q : Nat → ClassId} {ad : Nat → Nat} {κ : KS} {t : Nat → Int32} (sz : Nat) (hs : okStep 3 (t 0) (t 1) (t 2)) (hW : WFm κ) (hy : why κ 3 (t 0) (t 1) (t 2) = 0) (hN : nnOp κ 3 (t 0) (t 1) (t 2)) (hc : vp_in (sI κ 6) 13) (hm : vp_in (sI κ 2) 61) (hT : ¬ sI κ 7 < 0) : Met l yX9_does wsX9_does (rmz 3 67) (va_Pc [.ref (ad 0), .int 3] (rPre D q (wM q ad κ t) sz)) (va_Qv (fun (u : KS × (Nat → Int32)) => u = (act κ (t 4) (t 5) 3 (t 0) (t 1) (t 2), va_up t 3 (nxt κ 3 (t 0) (t 1) (t 3)))) (fun (u : KS × (Nat → Int32)) tt => rPo D (rA (wM q ad κ t) sz) (wM q ad u.1 u.2) tt) (rA (wM q ad κ t) sz)) 0 0 (rA (wM q ad κ t) sz) := by
  refine r_start (cc := cX9_does) (maxL := 2) (ret := none) (by decide) rfl (Nat.le_of_ble_eq_true rfl) ?_
  intro p e s m below meth c ls hC hr hlk hnm hsz hw hl
  have hx := hC.1
  have hb := hC.2.1
  have hl : lv_has ls 2 [(0, .ref (ad 0)), (1, .int 3)] := hl
  refine lv_iload_n hx hb dX9_does_0 rfl (lv_at hl 1 rfl) ?_
  refine lv_bipush (v := 14) hx hb dX9_does_1 (by decide) ?_
  refine lv_icmp_le (tgt := 12) hx hb dX9_does_3 (by decide) (fun _ => ?_) (fun c_ => absurd (by decide) c_)
  refine lv_aload_n hx hb dX9_does_12 rfl (lv_at hl 0 rfl) ?_
  refine lv_iload_n hx hb dX9_does_13 rfl (lv_at hl 1 rfl) ?_
  refine r_kv hw (r_runV (rest := []) hC hw 0 (c_X9_doesWhole_3 (ad := ad) l _ hs hW hy hN hc hm hT) rk9 (wMl 0 (by decide)) wM0 1 gX9_does_X9_doesWhole rfl rfl rfl (by decide +kernel) ⟨Nat.le_of_ble_eq_true rfl, Nat.le_of_ble_eq_true rfl⟩ rfl hl.1 rfl (Nat.le_of_ble_eq_true rfl) dX9_does_14 ⟨Nat.le_of_ble_eq_true rfl, Nat.le_of_ble_eq_true rfl⟩) (fun u_3 H locs h_1 hw => ?_)
  subst h_1
  dsimp only at hw
  refine lv_goto (tgt := 115) hx hb dX9_does_17 (by decide) ?_
  exact r_vret hC hr hlk hw (act κ (t 4) (t 5) 3 (t 0) (t 1) (t 2), t) rfl (congrArg (Prod.mk _) (upt t 3).symm) (Nat.le_of_ble_eq_true rfl) (Nat.le_of_ble_eq_true rfl) dX9_does_115

set_option maxHeartbeats 4000000 in
set_option maxRecDepth 100000 in
theorem c_X9_does_4 (l : Launch) {D : va_G} {q : Nat → ClassId} {ad : Nat → Nat} {κ : KS} {t : Nat → Int32} (sz : Nat) (hs : okStep 4 (t 0) (t 1) (t 2)) (hW : WFm κ) (hy : why κ 4 (t 0) (t 1) (t 2) = 0) (hN : nnOp κ 4 (t 0) (t 1) (t 2)) (hc : vp_in (sI κ 6) 13) (hm : vp_in (sI κ 2) 61) (hT : ¬ sI κ 7 < 0) : Met l yX9_does wsX9_does (rmz 3 67) (va_Pc [.ref (ad 0), .int 4] (rPre D q (wM q ad κ t) sz)) (va_Qv (fun (u : KS × (Nat → Int32)) => u = (act κ (t 4) (t 5) 4 (t 0) (t 1) (t 2), va_up t 3 (nxt κ 4 (t 0) (t 1) (t 3)))) (fun (u : KS × (Nat → Int32)) tt => rPo D (rA (wM q ad κ t) sz) (wM q ad u.1 u.2) tt) (rA (wM q ad κ t) sz)) 0 0 (rA (wM q ad κ t) sz) := by
  refine r_start (cc := cX9_does) (maxL := 2) (ret := none) (by decide) rfl (Nat.le_of_ble_eq_true rfl) ?_
  intro p e s m below meth c ls hC hr hlk hnm hsz hw hl
  have hx := hC.1
  have hb := hC.2.1
  have hl : lv_has ls 2 [(0, .ref (ad 0)), (1, .int 4)] := hl
  refine lv_iload_n hx hb dX9_does_0 rfl (lv_at hl 1 rfl) ?_
  refine lv_bipush (v := 14) hx hb dX9_does_1 (by decide) ?_
  refine lv_icmp_le (tgt := 12) hx hb dX9_does_3 (by decide) (fun _ => ?_) (fun c_ => absurd (by decide) c_)
  refine lv_aload_n hx hb dX9_does_12 rfl (lv_at hl 0 rfl) ?_
  refine lv_iload_n hx hb dX9_does_13 rfl (lv_at hl 1 rfl) ?_
  refine r_kv hw (r_runV (rest := []) hC hw 0 (c_X9_doesWhole_4 (ad := ad) l _ hs hW hy hN hc hm hT) rk9 (wMl 0 (by decide)) wM0 1 gX9_does_X9_doesWhole rfl rfl rfl (by decide +kernel) ⟨Nat.le_of_ble_eq_true rfl, Nat.le_of_ble_eq_true rfl⟩ rfl hl.1 rfl (Nat.le_of_ble_eq_true rfl) dX9_does_14 ⟨Nat.le_of_ble_eq_true rfl, Nat.le_of_ble_eq_true rfl⟩) (fun u_3 H locs h_1 hw => ?_)
  subst h_1
  dsimp only at hw
  refine lv_goto (tgt := 115) hx hb dX9_does_17 (by decide) ?_
  exact r_vret hC hr hlk hw (act κ (t 4) (t 5) 4 (t 0) (t 1) (t 2), t) rfl (congrArg (Prod.mk _) (upt t 3).symm) (Nat.le_of_ble_eq_true rfl) (Nat.le_of_ble_eq_true rfl) dX9_does_115

set_option maxHeartbeats 4000000 in
set_option maxRecDepth 100000 in
theorem c_X9_does_5 (l : Launch) {D : va_G} {q : Nat → ClassId} {ad : Nat → Nat} {κ : KS} {t : Nat → Int32} (sz : Nat) (hs : okStep 5 (t 0) (t 1) (t 2)) (hW : WFm κ) (hy : why κ 5 (t 0) (t 1) (t 2) = 0) (hN : nnOp κ 5 (t 0) (t 1) (t 2)) (hc : vp_in (sI κ 6) 13) (hm : vp_in (sI κ 2) 61) (hT : ¬ sI κ 7 < 0) : Met l yX9_does wsX9_does (rmz 3 67) (va_Pc [.ref (ad 0), .int 5] (rPre D q (wM q ad κ t) sz)) (va_Qv (fun (u : KS × (Nat → Int32)) => u = (act κ (t 4) (t 5) 5 (t 0) (t 1) (t 2), va_up t 3 (nxt κ 5 (t 0) (t 1) (t 3)))) (fun (u : KS × (Nat → Int32)) tt => rPo D (rA (wM q ad κ t) sz) (wM q ad u.1 u.2) tt) (rA (wM q ad κ t) sz)) 0 0 (rA (wM q ad κ t) sz) := by
  refine r_start (cc := cX9_does) (maxL := 2) (ret := none) (by decide) rfl (Nat.le_of_ble_eq_true rfl) ?_
  intro p e s m below meth c ls hC hr hlk hnm hsz hw hl
  have hx := hC.1
  have hb := hC.2.1
  have hl : lv_has ls 2 [(0, .ref (ad 0)), (1, .int 5)] := hl
  refine lv_iload_n hx hb dX9_does_0 rfl (lv_at hl 1 rfl) ?_
  refine lv_bipush (v := 14) hx hb dX9_does_1 (by decide) ?_
  refine lv_icmp_le (tgt := 12) hx hb dX9_does_3 (by decide) (fun _ => ?_) (fun c_ => absurd (by decide) c_)
  refine lv_aload_n hx hb dX9_does_12 rfl (lv_at hl 0 rfl) ?_
  refine lv_iload_n hx hb dX9_does_13 rfl (lv_at hl 1 rfl) ?_
  refine r_kv hw (r_runV (rest := []) hC hw 0 (c_X9_doesWhole_5 (ad := ad) l _ hs hW hy hN hc hm hT) rk9 (wMl 0 (by decide)) wM0 1 gX9_does_X9_doesWhole rfl rfl rfl (by decide +kernel) ⟨Nat.le_of_ble_eq_true rfl, Nat.le_of_ble_eq_true rfl⟩ rfl hl.1 rfl (Nat.le_of_ble_eq_true rfl) dX9_does_14 ⟨Nat.le_of_ble_eq_true rfl, Nat.le_of_ble_eq_true rfl⟩) (fun u_3 H locs h_1 hw => ?_)
  subst h_1
  dsimp only at hw
  refine lv_goto (tgt := 115) hx hb dX9_does_17 (by decide) ?_
  exact r_vret hC hr hlk hw (act κ (t 4) (t 5) 5 (t 0) (t 1) (t 2), t) rfl (congrArg (Prod.mk _) (upt t 3).symm) (Nat.le_of_ble_eq_true rfl) (Nat.le_of_ble_eq_true rfl) dX9_does_115

set_option maxHeartbeats 4000000 in
set_option maxRecDepth 100000 in
theorem c_X9_does_6 (l : Launch) {D : va_G} {q : Nat → ClassId} {ad : Nat → Nat} {κ : KS} {t : Nat → Int32} (sz : Nat) (hs : okStep 6 (t 0) (t 1) (t 2)) (hW : WFm κ) (hy : why κ 6 (t 0) (t 1) (t 2) = 0) (hN : nnOp κ 6 (t 0) (t 1) (t 2)) (hc : vp_in (sI κ 6) 13) (hm : vp_in (sI κ 2) 61) (hT : ¬ sI κ 7 < 0) : Met l yX9_does wsX9_does (rmz 3 67) (va_Pc [.ref (ad 0), .int 6] (rPre D q (wM q ad κ t) sz)) (va_Qv (fun (u : KS × (Nat → Int32)) => u = (act κ (t 4) (t 5) 6 (t 0) (t 1) (t 2), va_up t 3 (nxt κ 6 (t 0) (t 1) (t 3)))) (fun (u : KS × (Nat → Int32)) tt => rPo D (rA (wM q ad κ t) sz) (wM q ad u.1 u.2) tt) (rA (wM q ad κ t) sz)) 0 0 (rA (wM q ad κ t) sz) := by
  refine r_start (cc := cX9_does) (maxL := 2) (ret := none) (by decide) rfl (Nat.le_of_ble_eq_true rfl) ?_
  intro p e s m below meth c ls hC hr hlk hnm hsz hw hl
  have hx := hC.1
  have hb := hC.2.1
  have hl : lv_has ls 2 [(0, .ref (ad 0)), (1, .int 6)] := hl
  refine lv_iload_n hx hb dX9_does_0 rfl (lv_at hl 1 rfl) ?_
  refine lv_bipush (v := 14) hx hb dX9_does_1 (by decide) ?_
  refine lv_icmp_le (tgt := 12) hx hb dX9_does_3 (by decide) (fun _ => ?_) (fun c_ => absurd (by decide) c_)
  refine lv_aload_n hx hb dX9_does_12 rfl (lv_at hl 0 rfl) ?_
  refine lv_iload_n hx hb dX9_does_13 rfl (lv_at hl 1 rfl) ?_
  refine r_kv hw (r_runV (rest := []) hC hw 0 (c_X9_doesWhole_6 (ad := ad) l _ hs hW hy hN hc hm hT) rk9 (wMl 0 (by decide)) wM0 1 gX9_does_X9_doesWhole rfl rfl rfl (by decide +kernel) ⟨Nat.le_of_ble_eq_true rfl, Nat.le_of_ble_eq_true rfl⟩ rfl hl.1 rfl (Nat.le_of_ble_eq_true rfl) dX9_does_14 ⟨Nat.le_of_ble_eq_true rfl, Nat.le_of_ble_eq_true rfl⟩) (fun u_3 H locs h_1 hw => ?_)
  subst h_1
  dsimp only at hw
  refine lv_goto (tgt := 115) hx hb dX9_does_17 (by decide) ?_
  exact r_vret hC hr hlk hw (act κ (t 4) (t 5) 6 (t 0) (t 1) (t 2), t) rfl (congrArg (Prod.mk _) (upt t 3).symm) (Nat.le_of_ble_eq_true rfl) (Nat.le_of_ble_eq_true rfl) dX9_does_115

set_option maxHeartbeats 4000000 in
set_option maxRecDepth 100000 in
theorem c_X9_does_7 (l : Launch) {D : va_G} {q : Nat → ClassId} {ad : Nat → Nat} {κ : KS} {t : Nat → Int32} (sz : Nat) (hs : okStep 7 (t 0) (t 1) (t 2)) (hW : WFm κ) (hy : why κ 7 (t 0) (t 1) (t 2) = 0) (hN : nnOp κ 7 (t 0) (t 1) (t 2)) (hc : vp_in (sI κ 6) 13) (hm : vp_in (sI κ 2) 61) (hT : ¬ sI κ 7 < 0) : Met l yX9_does wsX9_does (rmz 3 67) (va_Pc [.ref (ad 0), .int 7] (rPre D q (wM q ad κ t) sz)) (va_Qv (fun (u : KS × (Nat → Int32)) => u = (act κ (t 4) (t 5) 7 (t 0) (t 1) (t 2), va_up t 3 (nxt κ 7 (t 0) (t 1) (t 3)))) (fun (u : KS × (Nat → Int32)) tt => rPo D (rA (wM q ad κ t) sz) (wM q ad u.1 u.2) tt) (rA (wM q ad κ t) sz)) 0 0 (rA (wM q ad κ t) sz) := by
  refine r_start (cc := cX9_does) (maxL := 2) (ret := none) (by decide) rfl (Nat.le_of_ble_eq_true rfl) ?_
  intro p e s m below meth c ls hC hr hlk hnm hsz hw hl
  have hx := hC.1
  have hb := hC.2.1
  have hl : lv_has ls 2 [(0, .ref (ad 0)), (1, .int 7)] := hl
  refine lv_iload_n hx hb dX9_does_0 rfl (lv_at hl 1 rfl) ?_
  refine lv_bipush (v := 14) hx hb dX9_does_1 (by decide) ?_
  refine lv_icmp_le (tgt := 12) hx hb dX9_does_3 (by decide) (fun _ => ?_) (fun c_ => absurd (by decide) c_)
  refine lv_aload_n hx hb dX9_does_12 rfl (lv_at hl 0 rfl) ?_
  refine lv_iload_n hx hb dX9_does_13 rfl (lv_at hl 1 rfl) ?_
  refine r_kv hw (r_runV (rest := []) hC hw 0 (c_X9_doesWhole_7 (ad := ad) l _ hs hW hy hN hc hm hT) rk9 (wMl 0 (by decide)) wM0 1 gX9_does_X9_doesWhole rfl rfl rfl (by decide +kernel) ⟨Nat.le_of_ble_eq_true rfl, Nat.le_of_ble_eq_true rfl⟩ rfl hl.1 rfl (Nat.le_of_ble_eq_true rfl) dX9_does_14 ⟨Nat.le_of_ble_eq_true rfl, Nat.le_of_ble_eq_true rfl⟩) (fun u_3 H locs h_1 hw => ?_)
  subst h_1
  dsimp only at hw
  refine lv_goto (tgt := 115) hx hb dX9_does_17 (by decide) ?_
  exact r_vret hC hr hlk hw (act κ (t 4) (t 5) 7 (t 0) (t 1) (t 2), t) rfl (congrArg (Prod.mk _) (upt t 3).symm) (Nat.le_of_ble_eq_true rfl) (Nat.le_of_ble_eq_true rfl) dX9_does_115

set_option maxHeartbeats 4000000 in
set_option maxRecDepth 100000 in
theorem c_X9_does_8 (l : Launch) {D : va_G} {q : Nat → ClassId} {ad : Nat → Nat} {κ : KS} {t : Nat → Int32} (sz : Nat) (hs : okStep 8 (t 0) (t 1) (t 2)) (hW : WFm κ) (hy : why κ 8 (t 0) (t 1) (t 2) = 0) (hN : nnOp κ 8 (t 0) (t 1) (t 2)) (hc : vp_in (sI κ 6) 13) (hm : vp_in (sI κ 2) 61) (hT : ¬ sI κ 7 < 0) : Met l yX9_does wsX9_does (rmz 3 67) (va_Pc [.ref (ad 0), .int 8] (rPre D q (wM q ad κ t) sz)) (va_Qv (fun (u : KS × (Nat → Int32)) => u = (act κ (t 4) (t 5) 8 (t 0) (t 1) (t 2), va_up t 3 (nxt κ 8 (t 0) (t 1) (t 3)))) (fun (u : KS × (Nat → Int32)) tt => rPo D (rA (wM q ad κ t) sz) (wM q ad u.1 u.2) tt) (rA (wM q ad κ t) sz)) 0 0 (rA (wM q ad κ t) sz) := by
  refine r_start (cc := cX9_does) (maxL := 2) (ret := none) (by decide) rfl (Nat.le_of_ble_eq_true rfl) ?_
  intro p e s m below meth c ls hC hr hlk hnm hsz hw hl
  have hx := hC.1
  have hb := hC.2.1
  have hl : lv_has ls 2 [(0, .ref (ad 0)), (1, .int 8)] := hl
  refine lv_iload_n hx hb dX9_does_0 rfl (lv_at hl 1 rfl) ?_
  refine lv_bipush (v := 14) hx hb dX9_does_1 (by decide) ?_
  refine lv_icmp_le (tgt := 12) hx hb dX9_does_3 (by decide) (fun _ => ?_) (fun c_ => absurd (by decide) c_)
  refine lv_aload_n hx hb dX9_does_12 rfl (lv_at hl 0 rfl) ?_
  refine lv_iload_n hx hb dX9_does_13 rfl (lv_at hl 1 rfl) ?_
  refine r_kv hw (r_runV (rest := []) hC hw 0 (c_X9_doesWhole_8 (ad := ad) l _ hs hW hy hN hc hm hT) rk9 (wMl 0 (by decide)) wM0 1 gX9_does_X9_doesWhole rfl rfl rfl (by decide +kernel) ⟨Nat.le_of_ble_eq_true rfl, Nat.le_of_ble_eq_true rfl⟩ rfl hl.1 rfl (Nat.le_of_ble_eq_true rfl) dX9_does_14 ⟨Nat.le_of_ble_eq_true rfl, Nat.le_of_ble_eq_true rfl⟩) (fun u_3 H locs h_1 hw => ?_)
  subst h_1
  dsimp only at hw
  refine lv_goto (tgt := 115) hx hb dX9_does_17 (by decide) ?_
  exact r_vret hC hr hlk hw (act κ (t 4) (t 5) 8 (t 0) (t 1) (t 2), t) rfl (congrArg (Prod.mk _) (upt t 3).symm) (Nat.le_of_ble_eq_true rfl) (Nat.le_of_ble_eq_true rfl) dX9_does_115

set_option maxHeartbeats 4000000 in
set_option maxRecDepth 100000 in
theorem c_X9_does_9 (l : Launch) {D : va_G} {q : Nat → ClassId} {ad : Nat → Nat} {κ : KS} {t : Nat → Int32} (sz : Nat) (hs : okStep 9 (t 0) (t 1) (t 2)) (hW : WFm κ) (hy : why κ 9 (t 0) (t 1) (t 2) = 0) (hN : nnOp κ 9 (t 0) (t 1) (t 2)) (hc : vp_in (sI κ 6) 13) (hm : vp_in (sI κ 2) 61) (hT : ¬ sI κ 7 < 0) : Met l yX9_does wsX9_does (rmz 3 67) (va_Pc [.ref (ad 0), .int 9] (rPre D q (wM q ad κ t) sz)) (va_Qv (fun (u : KS × (Nat → Int32)) => u = (act κ (t 4) (t 5) 9 (t 0) (t 1) (t 2), va_up t 3 (nxt κ 9 (t 0) (t 1) (t 3)))) (fun (u : KS × (Nat → Int32)) tt => rPo D (rA (wM q ad κ t) sz) (wM q ad u.1 u.2) tt) (rA (wM q ad κ t) sz)) 0 0 (rA (wM q ad κ t) sz) := by
  refine r_start (cc := cX9_does) (maxL := 2) (ret := none) (by decide) rfl (Nat.le_of_ble_eq_true rfl) ?_
  intro p e s m below meth c ls hC hr hlk hnm hsz hw hl
  have hx := hC.1
  have hb := hC.2.1
  have hl : lv_has ls 2 [(0, .ref (ad 0)), (1, .int 9)] := hl
  refine lv_iload_n hx hb dX9_does_0 rfl (lv_at hl 1 rfl) ?_
  refine lv_bipush (v := 14) hx hb dX9_does_1 (by decide) ?_
  refine lv_icmp_le (tgt := 12) hx hb dX9_does_3 (by decide) (fun _ => ?_) (fun c_ => absurd (by decide) c_)
  refine lv_aload_n hx hb dX9_does_12 rfl (lv_at hl 0 rfl) ?_
  refine lv_iload_n hx hb dX9_does_13 rfl (lv_at hl 1 rfl) ?_
  refine r_kv hw (r_runV (rest := []) hC hw 0 (c_X9_doesWhole_9 (ad := ad) l _ hs hW hy hN hc hm hT) rk9 (wMl 0 (by decide)) wM0 1 gX9_does_X9_doesWhole rfl rfl rfl (by decide +kernel) ⟨Nat.le_of_ble_eq_true rfl, Nat.le_of_ble_eq_true rfl⟩ rfl hl.1 rfl (Nat.le_of_ble_eq_true rfl) dX9_does_14 ⟨Nat.le_of_ble_eq_true rfl, Nat.le_of_ble_eq_true rfl⟩) (fun u_3 H locs h_1 hw => ?_)
  subst h_1
  dsimp only at hw
  refine lv_goto (tgt := 115) hx hb dX9_does_17 (by decide) ?_
  exact r_vret hC hr hlk hw (act κ (t 4) (t 5) 9 (t 0) (t 1) (t 2), t) rfl (congrArg (Prod.mk _) (upt t 3).symm) (Nat.le_of_ble_eq_true rfl) (Nat.le_of_ble_eq_true rfl) dX9_does_115

set_option maxHeartbeats 4000000 in
set_option maxRecDepth 100000 in
theorem c_X9_does_10 (l : Launch) {D : va_G} {q : Nat → ClassId} {ad : Nat → Nat} {κ : KS} {t : Nat → Int32} (sz : Nat) (hs : okStep 10 (t 0) (t 1) (t 2)) (hW : WFm κ) (hy : why κ 10 (t 0) (t 1) (t 2) = 0) (hN : nnOp κ 10 (t 0) (t 1) (t 2)) (hc : vp_in (sI κ 6) 13) (hm : vp_in (sI κ 2) 61) (hT : ¬ sI κ 7 < 0) : Met l yX9_does wsX9_does (rmz 3 67) (va_Pc [.ref (ad 0), .int 10] (rPre D q (wM q ad κ t) sz)) (va_Qv (fun (u : KS × (Nat → Int32)) => u = (act κ (t 4) (t 5) 10 (t 0) (t 1) (t 2), va_up t 3 (nxt κ 10 (t 0) (t 1) (t 3)))) (fun (u : KS × (Nat → Int32)) tt => rPo D (rA (wM q ad κ t) sz) (wM q ad u.1 u.2) tt) (rA (wM q ad κ t) sz)) 0 0 (rA (wM q ad κ t) sz) := by
  refine r_start (cc := cX9_does) (maxL := 2) (ret := none) (by decide) rfl (Nat.le_of_ble_eq_true rfl) ?_
  intro p e s m below meth c ls hC hr hlk hnm hsz hw hl
  have hx := hC.1
  have hb := hC.2.1
  have hl : lv_has ls 2 [(0, .ref (ad 0)), (1, .int 10)] := hl
  refine lv_iload_n hx hb dX9_does_0 rfl (lv_at hl 1 rfl) ?_
  refine lv_bipush (v := 14) hx hb dX9_does_1 (by decide) ?_
  refine lv_icmp_le (tgt := 12) hx hb dX9_does_3 (by decide) (fun _ => ?_) (fun c_ => absurd (by decide) c_)
  refine lv_aload_n hx hb dX9_does_12 rfl (lv_at hl 0 rfl) ?_
  refine lv_iload_n hx hb dX9_does_13 rfl (lv_at hl 1 rfl) ?_
  refine r_kv hw (r_runV (rest := []) hC hw 0 (c_X9_doesWhole_10 (ad := ad) l _ hs hW hy hN hc hm hT) rk9 (wMl 0 (by decide)) wM0 1 gX9_does_X9_doesWhole rfl rfl rfl (by decide +kernel) ⟨Nat.le_of_ble_eq_true rfl, Nat.le_of_ble_eq_true rfl⟩ rfl hl.1 rfl (Nat.le_of_ble_eq_true rfl) dX9_does_14 ⟨Nat.le_of_ble_eq_true rfl, Nat.le_of_ble_eq_true rfl⟩) (fun u_3 H locs h_1 hw => ?_)
  subst h_1
  dsimp only at hw
  refine lv_goto (tgt := 115) hx hb dX9_does_17 (by decide) ?_
  exact r_vret hC hr hlk hw (act κ (t 4) (t 5) 10 (t 0) (t 1) (t 2), t) rfl (congrArg (Prod.mk _) (upt t 3).symm) (Nat.le_of_ble_eq_true rfl) (Nat.le_of_ble_eq_true rfl) dX9_does_115

set_option maxHeartbeats 4000000 in
set_option maxRecDepth 100000 in
theorem c_X9_does_11 (l : Launch) {D : va_G} {q : Nat → ClassId} {ad : Nat → Nat} {κ : KS} {t : Nat → Int32} (sz : Nat) (hs : okStep 11 (t 0) (t 1) (t 2)) (hW : WFm κ) (hy : why κ 11 (t 0) (t 1) (t 2) = 0) (hN : nnOp κ 11 (t 0) (t 1) (t 2)) (hc : vp_in (sI κ 6) 13) (hm : vp_in (sI κ 2) 61) (hT : ¬ sI κ 7 < 0) : Met l yX9_does wsX9_does (rmz 3 67) (va_Pc [.ref (ad 0), .int 11] (rPre D q (wM q ad κ t) sz)) (va_Qv (fun (u : KS × (Nat → Int32)) => u = (act κ (t 4) (t 5) 11 (t 0) (t 1) (t 2), va_up t 3 (nxt κ 11 (t 0) (t 1) (t 3)))) (fun (u : KS × (Nat → Int32)) tt => rPo D (rA (wM q ad κ t) sz) (wM q ad u.1 u.2) tt) (rA (wM q ad κ t) sz)) 0 0 (rA (wM q ad κ t) sz) := by
  refine r_start (cc := cX9_does) (maxL := 2) (ret := none) (by decide) rfl (Nat.le_of_ble_eq_true rfl) ?_
  intro p e s m below meth c ls hC hr hlk hnm hsz hw hl
  have hx := hC.1
  have hb := hC.2.1
  have hl : lv_has ls 2 [(0, .ref (ad 0)), (1, .int 11)] := hl
  refine lv_iload_n hx hb dX9_does_0 rfl (lv_at hl 1 rfl) ?_
  refine lv_bipush (v := 14) hx hb dX9_does_1 (by decide) ?_
  refine lv_icmp_le (tgt := 12) hx hb dX9_does_3 (by decide) (fun _ => ?_) (fun c_ => absurd (by decide) c_)
  refine lv_aload_n hx hb dX9_does_12 rfl (lv_at hl 0 rfl) ?_
  refine lv_iload_n hx hb dX9_does_13 rfl (lv_at hl 1 rfl) ?_
  refine r_kv hw (r_runV (rest := []) hC hw 0 (c_X9_doesWhole_11 (ad := ad) l _ hs hW hy hN hc hm hT) rk9 (wMl 0 (by decide)) wM0 1 gX9_does_X9_doesWhole rfl rfl rfl (by decide +kernel) ⟨Nat.le_of_ble_eq_true rfl, Nat.le_of_ble_eq_true rfl⟩ rfl hl.1 rfl (Nat.le_of_ble_eq_true rfl) dX9_does_14 ⟨Nat.le_of_ble_eq_true rfl, Nat.le_of_ble_eq_true rfl⟩) (fun u_3 H locs h_1 hw => ?_)
  subst h_1
  dsimp only at hw
  refine lv_goto (tgt := 115) hx hb dX9_does_17 (by decide) ?_
  exact r_vret hC hr hlk hw (act κ (t 4) (t 5) 11 (t 0) (t 1) (t 2), t) rfl (congrArg (Prod.mk _) (upt t 3).symm) (Nat.le_of_ble_eq_true rfl) (Nat.le_of_ble_eq_true rfl) dX9_does_115

set_option maxHeartbeats 4000000 in
set_option maxRecDepth 100000 in
theorem c_X9_does_12 (l : Launch) {D : va_G} {q : Nat → ClassId} {ad : Nat → Nat} {κ : KS} {t : Nat → Int32} (sz : Nat) (hs : okStep 12 (t 0) (t 1) (t 2)) (hW : WFm κ) (hy : why κ 12 (t 0) (t 1) (t 2) = 0) (hN : nnOp κ 12 (t 0) (t 1) (t 2)) (hc : vp_in (sI κ 6) 13) (hm : vp_in (sI κ 2) 61) (hT : ¬ sI κ 7 < 0) : Met l yX9_does wsX9_does (rmz 3 67) (va_Pc [.ref (ad 0), .int 12] (rPre D q (wM q ad κ t) sz)) (va_Qv (fun (u : KS × (Nat → Int32)) => u = (act κ (t 4) (t 5) 12 (t 0) (t 1) (t 2), va_up t 3 (nxt κ 12 (t 0) (t 1) (t 3)))) (fun (u : KS × (Nat → Int32)) tt => rPo D (rA (wM q ad κ t) sz) (wM q ad u.1 u.2) tt) (rA (wM q ad κ t) sz)) 0 0 (rA (wM q ad κ t) sz) := by
  refine r_start (cc := cX9_does) (maxL := 2) (ret := none) (by decide) rfl (Nat.le_of_ble_eq_true rfl) ?_
  intro p e s m below meth c ls hC hr hlk hnm hsz hw hl
  have hx := hC.1
  have hb := hC.2.1
  have hl : lv_has ls 2 [(0, .ref (ad 0)), (1, .int 12)] := hl
  refine lv_iload_n hx hb dX9_does_0 rfl (lv_at hl 1 rfl) ?_
  refine lv_bipush (v := 14) hx hb dX9_does_1 (by decide) ?_
  refine lv_icmp_le (tgt := 12) hx hb dX9_does_3 (by decide) (fun _ => ?_) (fun c_ => absurd (by decide) c_)
  refine lv_aload_n hx hb dX9_does_12 rfl (lv_at hl 0 rfl) ?_
  refine lv_iload_n hx hb dX9_does_13 rfl (lv_at hl 1 rfl) ?_
  refine r_kv hw (r_runV (rest := []) hC hw 0 (c_X9_doesWhole_12 (ad := ad) l _ hs hW hy hN hc hm hT) rk9 (wMl 0 (by decide)) wM0 1 gX9_does_X9_doesWhole rfl rfl rfl (by decide +kernel) ⟨Nat.le_of_ble_eq_true rfl, Nat.le_of_ble_eq_true rfl⟩ rfl hl.1 rfl (Nat.le_of_ble_eq_true rfl) dX9_does_14 ⟨Nat.le_of_ble_eq_true rfl, Nat.le_of_ble_eq_true rfl⟩) (fun u_3 H locs h_1 hw => ?_)
  subst h_1
  dsimp only at hw
  refine lv_goto (tgt := 115) hx hb dX9_does_17 (by decide) ?_
  exact r_vret hC hr hlk hw (act κ (t 4) (t 5) 12 (t 0) (t 1) (t 2), t) rfl (congrArg (Prod.mk _) (upt t 3).symm) (Nat.le_of_ble_eq_true rfl) (Nat.le_of_ble_eq_true rfl) dX9_does_115

set_option maxHeartbeats 4000000 in
set_option maxRecDepth 100000 in
theorem c_X9_does_13 (l : Launch) {D : va_G} {q : Nat → ClassId} {ad : Nat → Nat} {κ : KS} {t : Nat → Int32} (sz : Nat) (hs : okStep 13 (t 0) (t 1) (t 2)) (hW : WFm κ) (hy : why κ 13 (t 0) (t 1) (t 2) = 0) (hN : nnOp κ 13 (t 0) (t 1) (t 2)) (hc : vp_in (sI κ 6) 13) (hm : vp_in (sI κ 2) 61) (hT : ¬ sI κ 7 < 0) : Met l yX9_does wsX9_does (rmz 3 67) (va_Pc [.ref (ad 0), .int 13] (rPre D q (wM q ad κ t) sz)) (va_Qv (fun (u : KS × (Nat → Int32)) => u = (act κ (t 4) (t 5) 13 (t 0) (t 1) (t 2), va_up t 3 (nxt κ 13 (t 0) (t 1) (t 3)))) (fun (u : KS × (Nat → Int32)) tt => rPo D (rA (wM q ad κ t) sz) (wM q ad u.1 u.2) tt) (rA (wM q ad κ t) sz)) 0 0 (rA (wM q ad κ t) sz) := by
  refine r_start (cc := cX9_does) (maxL := 2) (ret := none) (by decide) rfl (Nat.le_of_ble_eq_true rfl) ?_
  intro p e s m below meth c ls hC hr hlk hnm hsz hw hl
  have hx := hC.1
  have hb := hC.2.1
  have hl : lv_has ls 2 [(0, .ref (ad 0)), (1, .int 13)] := hl
  refine lv_iload_n hx hb dX9_does_0 rfl (lv_at hl 1 rfl) ?_
  refine lv_bipush (v := 14) hx hb dX9_does_1 (by decide) ?_
  refine lv_icmp_le (tgt := 12) hx hb dX9_does_3 (by decide) (fun _ => ?_) (fun c_ => absurd (by decide) c_)
  refine lv_aload_n hx hb dX9_does_12 rfl (lv_at hl 0 rfl) ?_
  refine lv_iload_n hx hb dX9_does_13 rfl (lv_at hl 1 rfl) ?_
  refine r_kv hw (r_runV (rest := []) hC hw 0 (c_X9_doesWhole_13 (ad := ad) l _ hs hW hy hN hc hm hT) rk9 (wMl 0 (by decide)) wM0 1 gX9_does_X9_doesWhole rfl rfl rfl (by decide +kernel) ⟨Nat.le_of_ble_eq_true rfl, Nat.le_of_ble_eq_true rfl⟩ rfl hl.1 rfl (Nat.le_of_ble_eq_true rfl) dX9_does_14 ⟨Nat.le_of_ble_eq_true rfl, Nat.le_of_ble_eq_true rfl⟩) (fun u_3 H locs h_1 hw => ?_)
  subst h_1
  dsimp only at hw
  refine lv_goto (tgt := 115) hx hb dX9_does_17 (by decide) ?_
  exact r_vret hC hr hlk hw (act κ (t 4) (t 5) 13 (t 0) (t 1) (t 2), t) rfl (congrArg (Prod.mk _) (upt t 3).symm) (Nat.le_of_ble_eq_true rfl) (Nat.le_of_ble_eq_true rfl) dX9_does_115

set_option maxHeartbeats 4000000 in
set_option maxRecDepth 100000 in
theorem c_X9_does_14 (l : Launch) {D : va_G} {q : Nat → ClassId} {ad : Nat → Nat} {κ : KS} {t : Nat → Int32} (sz : Nat) (hs : okStep 14 (t 0) (t 1) (t 2)) (hW : WFm κ) (hy : why κ 14 (t 0) (t 1) (t 2) = 0) (hN : nnOp κ 14 (t 0) (t 1) (t 2)) (hc : vp_in (sI κ 6) 13) (hm : vp_in (sI κ 2) 61) (hT : ¬ sI κ 7 < 0) : Met l yX9_does wsX9_does (rmz 3 67) (va_Pc [.ref (ad 0), .int 14] (rPre D q (wM q ad κ t) sz)) (va_Qv (fun (u : KS × (Nat → Int32)) => u = (act κ (t 4) (t 5) 14 (t 0) (t 1) (t 2), va_up t 3 (nxt κ 14 (t 0) (t 1) (t 3)))) (fun (u : KS × (Nat → Int32)) tt => rPo D (rA (wM q ad κ t) sz) (wM q ad u.1 u.2) tt) (rA (wM q ad κ t) sz)) 0 0 (rA (wM q ad κ t) sz) := by
  refine r_start (cc := cX9_does) (maxL := 2) (ret := none) (by decide) rfl (Nat.le_of_ble_eq_true rfl) ?_
  intro p e s m below meth c ls hC hr hlk hnm hsz hw hl
  have hx := hC.1
  have hb := hC.2.1
  have hl : lv_has ls 2 [(0, .ref (ad 0)), (1, .int 14)] := hl
  refine lv_iload_n hx hb dX9_does_0 rfl (lv_at hl 1 rfl) ?_
  refine lv_bipush (v := 14) hx hb dX9_does_1 (by decide) ?_
  refine lv_icmp_le (tgt := 12) hx hb dX9_does_3 (by decide) (fun _ => ?_) (fun c_ => absurd (by decide) c_)
  refine lv_aload_n hx hb dX9_does_12 rfl (lv_at hl 0 rfl) ?_
  refine lv_iload_n hx hb dX9_does_13 rfl (lv_at hl 1 rfl) ?_
  refine r_kv hw (r_runV (rest := []) hC hw 0 (c_X9_doesWhole_14 (ad := ad) l _ hs hW hy hN hc hm hT) rk9 (wMl 0 (by decide)) wM0 1 gX9_does_X9_doesWhole rfl rfl rfl (by decide +kernel) ⟨Nat.le_of_ble_eq_true rfl, Nat.le_of_ble_eq_true rfl⟩ rfl hl.1 rfl (Nat.le_of_ble_eq_true rfl) dX9_does_14 ⟨Nat.le_of_ble_eq_true rfl, Nat.le_of_ble_eq_true rfl⟩) (fun u_3 H locs h_1 hw => ?_)
  subst h_1
  dsimp only at hw
  refine lv_goto (tgt := 115) hx hb dX9_does_17 (by decide) ?_
  exact r_vret hC hr hlk hw (act κ (t 4) (t 5) 14 (t 0) (t 1) (t 2), t) rfl (congrArg (Prod.mk _) (upt t 3).symm) (Nat.le_of_ble_eq_true rfl) (Nat.le_of_ble_eq_true rfl) dX9_does_115

set_option maxHeartbeats 4000000 in
set_option maxRecDepth 100000 in
theorem c_X9_does_15 (l : Launch) {D : va_G} {q : Nat → ClassId} {ad : Nat → Nat} {κ : KS} {t : Nat → Int32} (sz : Nat) (hs : okStep 15 (t 0) (t 1) (t 2)) (hW : WFm κ) (hy : why κ 15 (t 0) (t 1) (t 2) = 0) (hN : nnOp κ 15 (t 0) (t 1) (t 2)) (hc : vp_in (sI κ 6) 13) (hm : vp_in (sI κ 2) 61) (hT : ¬ sI κ 7 < 0) : Met l yX9_does wsX9_does (rmz 3 67) (va_Pc [.ref (ad 0), .int 15] (rPre D q (wM q ad κ t) sz)) (va_Qv (fun (u : KS × (Nat → Int32)) => u = (act κ (t 4) (t 5) 15 (t 0) (t 1) (t 2), va_up t 3 (nxt κ 15 (t 0) (t 1) (t 3)))) (fun (u : KS × (Nat → Int32)) tt => rPo D (rA (wM q ad κ t) sz) (wM q ad u.1 u.2) tt) (rA (wM q ad κ t) sz)) 0 0 (rA (wM q ad κ t) sz) := by
  refine r_start (cc := cX9_does) (maxL := 2) (ret := none) (by decide) rfl (Nat.le_of_ble_eq_true rfl) ?_
  intro p e s m below meth c ls hC hr hlk hnm hsz hw hl
  have hx := hC.1
  have hb := hC.2.1
  have hl : lv_has ls 2 [(0, .ref (ad 0)), (1, .int 15)] := hl
  refine lv_iload_n hx hb dX9_does_0 rfl (lv_at hl 1 rfl) ?_
  refine lv_bipush (v := 14) hx hb dX9_does_1 (by decide) ?_
  refine lv_icmp_le (tgt := 12) hx hb dX9_does_3 (by decide) (fun c_ => absurd c_ (by decide)) (fun _ => ?_)
  refine lv_iload_n hx hb dX9_does_6 rfl (lv_at hl 1 rfl) ?_
  refine lv_bipush (v := 25) hx hb dX9_does_7 (by decide) ?_
  refine lv_icmp_ne (tgt := 20) hx hb dX9_does_9 (by decide) (fun _ => ?_) (fun c_ => absurd c_ (by decide))
  refine lv_iload_n hx hb dX9_does_20 rfl (lv_at hl 1 rfl) ?_
  refine lv_bipush (v := 26) hx hb dX9_does_21 (by decide) ?_
  refine lv_icmp_gt (tgt := 34) hx hb dX9_does_23 (by decide) (fun c_ => absurd c_ (by decide)) (fun _ => ?_)
  refine lv_aload_n hx hb dX9_does_26 rfl (lv_at hl 0 rfl) ?_
  refine lv_iload_n hx hb dX9_does_27 rfl (lv_at hl 1 rfl) ?_
  refine r_kv hw (r_runV (rest := []) hC hw 0 (c_X9_doesPoint_15 (ad := ad) l _ hs hW hy hN hc hm hT) rk9 (wMl 0 (by decide)) wM0 1 gX9_does_X9_doesPoint rfl rfl rfl (by decide +kernel) ⟨Nat.le_of_ble_eq_true rfl, Nat.le_of_ble_eq_true rfl⟩ rfl hl.1 rfl (Nat.le_of_ble_eq_true rfl) dX9_does_28 ⟨Nat.le_of_ble_eq_true rfl, Nat.le_of_ble_eq_true rfl⟩) (fun u_3 H locs h_1 hw => ?_)
  subst h_1
  dsimp only at hw
  refine lv_goto (tgt := 115) hx hb dX9_does_31 (by decide) ?_
  exact r_vret hC hr hlk hw (act κ (t 4) (t 5) 15 (t 0) (t 1) (t 2), t) rfl (congrArg (Prod.mk _) (upt t 3).symm) (Nat.le_of_ble_eq_true rfl) (Nat.le_of_ble_eq_true rfl) dX9_does_115

set_option maxHeartbeats 4000000 in
set_option maxRecDepth 100000 in
theorem c_X9_does_16 (l : Launch) {D : va_G} {q : Nat → ClassId} {ad : Nat → Nat} {κ : KS} {t : Nat → Int32} (sz : Nat) (hs : okStep 16 (t 0) (t 1) (t 2)) (hW : WFm κ) (hy : why κ 16 (t 0) (t 1) (t 2) = 0) (hN : nnOp κ 16 (t 0) (t 1) (t 2)) (hc : vp_in (sI κ 6) 13) (hm : vp_in (sI κ 2) 61) (hT : ¬ sI κ 7 < 0) : Met l yX9_does wsX9_does (rmz 3 67) (va_Pc [.ref (ad 0), .int 16] (rPre D q (wM q ad κ t) sz)) (va_Qv (fun (u : KS × (Nat → Int32)) => u = (act κ (t 4) (t 5) 16 (t 0) (t 1) (t 2), va_up t 3 (nxt κ 16 (t 0) (t 1) (t 3)))) (fun (u : KS × (Nat → Int32)) tt => rPo D (rA (wM q ad κ t) sz) (wM q ad u.1 u.2) tt) (rA (wM q ad κ t) sz)) 0 0 (rA (wM q ad κ t) sz) := by
  refine r_start (cc := cX9_does) (maxL := 2) (ret := none) (by decide) rfl (Nat.le_of_ble_eq_true rfl) ?_
  intro p e s m below meth c ls hC hr hlk hnm hsz hw hl
  have hx := hC.1
  have hb := hC.2.1
  have hl : lv_has ls 2 [(0, .ref (ad 0)), (1, .int 16)] := hl
  refine lv_iload_n hx hb dX9_does_0 rfl (lv_at hl 1 rfl) ?_
  refine lv_bipush (v := 14) hx hb dX9_does_1 (by decide) ?_
  refine lv_icmp_le (tgt := 12) hx hb dX9_does_3 (by decide) (fun c_ => absurd c_ (by decide)) (fun _ => ?_)
  refine lv_iload_n hx hb dX9_does_6 rfl (lv_at hl 1 rfl) ?_
  refine lv_bipush (v := 25) hx hb dX9_does_7 (by decide) ?_
  refine lv_icmp_ne (tgt := 20) hx hb dX9_does_9 (by decide) (fun _ => ?_) (fun c_ => absurd c_ (by decide))
  refine lv_iload_n hx hb dX9_does_20 rfl (lv_at hl 1 rfl) ?_
  refine lv_bipush (v := 26) hx hb dX9_does_21 (by decide) ?_
  refine lv_icmp_gt (tgt := 34) hx hb dX9_does_23 (by decide) (fun c_ => absurd c_ (by decide)) (fun _ => ?_)
  refine lv_aload_n hx hb dX9_does_26 rfl (lv_at hl 0 rfl) ?_
  refine lv_iload_n hx hb dX9_does_27 rfl (lv_at hl 1 rfl) ?_
  refine r_kv hw (r_runV (rest := []) hC hw 0 (c_X9_doesPoint_16 (ad := ad) l _ hs hW hy hN hc hm hT) rk9 (wMl 0 (by decide)) wM0 1 gX9_does_X9_doesPoint rfl rfl rfl (by decide +kernel) ⟨Nat.le_of_ble_eq_true rfl, Nat.le_of_ble_eq_true rfl⟩ rfl hl.1 rfl (Nat.le_of_ble_eq_true rfl) dX9_does_28 ⟨Nat.le_of_ble_eq_true rfl, Nat.le_of_ble_eq_true rfl⟩) (fun u_3 H locs h_1 hw => ?_)
  subst h_1
  dsimp only at hw
  refine lv_goto (tgt := 115) hx hb dX9_does_31 (by decide) ?_
  exact r_vret hC hr hlk hw (act κ (t 4) (t 5) 16 (t 0) (t 1) (t 2), t) rfl (congrArg (Prod.mk _) (upt t 3).symm) (Nat.le_of_ble_eq_true rfl) (Nat.le_of_ble_eq_true rfl) dX9_does_115

set_option maxHeartbeats 4000000 in
set_option maxRecDepth 100000 in
theorem c_X9_does_17 (l : Launch) {D : va_G} {q : Nat → ClassId} {ad : Nat → Nat} {κ : KS} {t : Nat → Int32} (sz : Nat) (hs : okStep 17 (t 0) (t 1) (t 2)) (hW : WFm κ) (hy : why κ 17 (t 0) (t 1) (t 2) = 0) (hN : nnOp κ 17 (t 0) (t 1) (t 2)) (hc : vp_in (sI κ 6) 13) (hm : vp_in (sI κ 2) 61) (hT : ¬ sI κ 7 < 0) : Met l yX9_does wsX9_does (rmz 3 67) (va_Pc [.ref (ad 0), .int 17] (rPre D q (wM q ad κ t) sz)) (va_Qv (fun (u : KS × (Nat → Int32)) => u = (act κ (t 4) (t 5) 17 (t 0) (t 1) (t 2), va_up t 3 (nxt κ 17 (t 0) (t 1) (t 3)))) (fun (u : KS × (Nat → Int32)) tt => rPo D (rA (wM q ad κ t) sz) (wM q ad u.1 u.2) tt) (rA (wM q ad κ t) sz)) 0 0 (rA (wM q ad κ t) sz) := by
  refine r_start (cc := cX9_does) (maxL := 2) (ret := none) (by decide) rfl (Nat.le_of_ble_eq_true rfl) ?_
  intro p e s m below meth c ls hC hr hlk hnm hsz hw hl
  have hx := hC.1
  have hb := hC.2.1
  have hl : lv_has ls 2 [(0, .ref (ad 0)), (1, .int 17)] := hl
  refine lv_iload_n hx hb dX9_does_0 rfl (lv_at hl 1 rfl) ?_
  refine lv_bipush (v := 14) hx hb dX9_does_1 (by decide) ?_
  refine lv_icmp_le (tgt := 12) hx hb dX9_does_3 (by decide) (fun c_ => absurd c_ (by decide)) (fun _ => ?_)
  refine lv_iload_n hx hb dX9_does_6 rfl (lv_at hl 1 rfl) ?_
  refine lv_bipush (v := 25) hx hb dX9_does_7 (by decide) ?_
  refine lv_icmp_ne (tgt := 20) hx hb dX9_does_9 (by decide) (fun _ => ?_) (fun c_ => absurd c_ (by decide))
  refine lv_iload_n hx hb dX9_does_20 rfl (lv_at hl 1 rfl) ?_
  refine lv_bipush (v := 26) hx hb dX9_does_21 (by decide) ?_
  refine lv_icmp_gt (tgt := 34) hx hb dX9_does_23 (by decide) (fun c_ => absurd c_ (by decide)) (fun _ => ?_)
  refine lv_aload_n hx hb dX9_does_26 rfl (lv_at hl 0 rfl) ?_
  refine lv_iload_n hx hb dX9_does_27 rfl (lv_at hl 1 rfl) ?_
  refine r_kv hw (r_runV (rest := []) hC hw 0 (c_X9_doesPoint_17 (ad := ad) l _ hs hW hy hN hc hm hT) rk9 (wMl 0 (by decide)) wM0 1 gX9_does_X9_doesPoint rfl rfl rfl (by decide +kernel) ⟨Nat.le_of_ble_eq_true rfl, Nat.le_of_ble_eq_true rfl⟩ rfl hl.1 rfl (Nat.le_of_ble_eq_true rfl) dX9_does_28 ⟨Nat.le_of_ble_eq_true rfl, Nat.le_of_ble_eq_true rfl⟩) (fun u_3 H locs h_1 hw => ?_)
  subst h_1
  dsimp only at hw
  refine lv_goto (tgt := 115) hx hb dX9_does_31 (by decide) ?_
  exact r_vret hC hr hlk hw (act κ (t 4) (t 5) 17 (t 0) (t 1) (t 2), t) rfl (congrArg (Prod.mk _) (upt t 3).symm) (Nat.le_of_ble_eq_true rfl) (Nat.le_of_ble_eq_true rfl) dX9_does_115

set_option maxHeartbeats 4000000 in
set_option maxRecDepth 100000 in
theorem c_X9_does_18 (l : Launch) {D : va_G} {q : Nat → ClassId} {ad : Nat → Nat} {κ : KS} {t : Nat → Int32} (sz : Nat) (hs : okStep 18 (t 0) (t 1) (t 2)) (hW : WFm κ) (hy : why κ 18 (t 0) (t 1) (t 2) = 0) (hN : nnOp κ 18 (t 0) (t 1) (t 2)) (hc : vp_in (sI κ 6) 13) (hm : vp_in (sI κ 2) 61) (hT : ¬ sI κ 7 < 0) : Met l yX9_does wsX9_does (rmz 3 67) (va_Pc [.ref (ad 0), .int 18] (rPre D q (wM q ad κ t) sz)) (va_Qv (fun (u : KS × (Nat → Int32)) => u = (act κ (t 4) (t 5) 18 (t 0) (t 1) (t 2), va_up t 3 (nxt κ 18 (t 0) (t 1) (t 3)))) (fun (u : KS × (Nat → Int32)) tt => rPo D (rA (wM q ad κ t) sz) (wM q ad u.1 u.2) tt) (rA (wM q ad κ t) sz)) 0 0 (rA (wM q ad κ t) sz) := by
  refine r_start (cc := cX9_does) (maxL := 2) (ret := none) (by decide) rfl (Nat.le_of_ble_eq_true rfl) ?_
  intro p e s m below meth c ls hC hr hlk hnm hsz hw hl
  have hx := hC.1
  have hb := hC.2.1
  have hl : lv_has ls 2 [(0, .ref (ad 0)), (1, .int 18)] := hl
  refine lv_iload_n hx hb dX9_does_0 rfl (lv_at hl 1 rfl) ?_
  refine lv_bipush (v := 14) hx hb dX9_does_1 (by decide) ?_
  refine lv_icmp_le (tgt := 12) hx hb dX9_does_3 (by decide) (fun c_ => absurd c_ (by decide)) (fun _ => ?_)
  refine lv_iload_n hx hb dX9_does_6 rfl (lv_at hl 1 rfl) ?_
  refine lv_bipush (v := 25) hx hb dX9_does_7 (by decide) ?_
  refine lv_icmp_ne (tgt := 20) hx hb dX9_does_9 (by decide) (fun _ => ?_) (fun c_ => absurd c_ (by decide))
  refine lv_iload_n hx hb dX9_does_20 rfl (lv_at hl 1 rfl) ?_
  refine lv_bipush (v := 26) hx hb dX9_does_21 (by decide) ?_
  refine lv_icmp_gt (tgt := 34) hx hb dX9_does_23 (by decide) (fun c_ => absurd c_ (by decide)) (fun _ => ?_)
  refine lv_aload_n hx hb dX9_does_26 rfl (lv_at hl 0 rfl) ?_
  refine lv_iload_n hx hb dX9_does_27 rfl (lv_at hl 1 rfl) ?_
  refine r_kv hw (r_runV (rest := []) hC hw 0 (c_X9_doesPoint_18 (ad := ad) l _ hs hW hy hN hc hm hT) rk9 (wMl 0 (by decide)) wM0 1 gX9_does_X9_doesPoint rfl rfl rfl (by decide +kernel) ⟨Nat.le_of_ble_eq_true rfl, Nat.le_of_ble_eq_true rfl⟩ rfl hl.1 rfl (Nat.le_of_ble_eq_true rfl) dX9_does_28 ⟨Nat.le_of_ble_eq_true rfl, Nat.le_of_ble_eq_true rfl⟩) (fun u_3 H locs h_1 hw => ?_)
  subst h_1
  dsimp only at hw
  refine lv_goto (tgt := 115) hx hb dX9_does_31 (by decide) ?_
  exact r_vret hC hr hlk hw (act κ (t 4) (t 5) 18 (t 0) (t 1) (t 2), t) rfl (congrArg (Prod.mk _) (upt t 3).symm) (Nat.le_of_ble_eq_true rfl) (Nat.le_of_ble_eq_true rfl) dX9_does_115

set_option maxHeartbeats 4000000 in
set_option maxRecDepth 100000 in
theorem c_X9_does_19 (l : Launch) {D : va_G} {q : Nat → ClassId} {ad : Nat → Nat} {κ : KS} {t : Nat → Int32} (sz : Nat) (hs : okStep 19 (t 0) (t 1) (t 2)) (hW : WFm κ) (hy : why κ 19 (t 0) (t 1) (t 2) = 0) (hN : nnOp κ 19 (t 0) (t 1) (t 2)) (hc : vp_in (sI κ 6) 13) (hm : vp_in (sI κ 2) 61) (hT : ¬ sI κ 7 < 0) : Met l yX9_does wsX9_does (rmz 3 67) (va_Pc [.ref (ad 0), .int 19] (rPre D q (wM q ad κ t) sz)) (va_Qv (fun (u : KS × (Nat → Int32)) => u = (act κ (t 4) (t 5) 19 (t 0) (t 1) (t 2), va_up t 3 (nxt κ 19 (t 0) (t 1) (t 3)))) (fun (u : KS × (Nat → Int32)) tt => rPo D (rA (wM q ad κ t) sz) (wM q ad u.1 u.2) tt) (rA (wM q ad κ t) sz)) 0 0 (rA (wM q ad κ t) sz) := by
  refine r_start (cc := cX9_does) (maxL := 2) (ret := none) (by decide) rfl (Nat.le_of_ble_eq_true rfl) ?_
  intro p e s m below meth c ls hC hr hlk hnm hsz hw hl
  have hx := hC.1
  have hb := hC.2.1
  have hl : lv_has ls 2 [(0, .ref (ad 0)), (1, .int 19)] := hl
  refine lv_iload_n hx hb dX9_does_0 rfl (lv_at hl 1 rfl) ?_
  refine lv_bipush (v := 14) hx hb dX9_does_1 (by decide) ?_
  refine lv_icmp_le (tgt := 12) hx hb dX9_does_3 (by decide) (fun c_ => absurd c_ (by decide)) (fun _ => ?_)
  refine lv_iload_n hx hb dX9_does_6 rfl (lv_at hl 1 rfl) ?_
  refine lv_bipush (v := 25) hx hb dX9_does_7 (by decide) ?_
  refine lv_icmp_ne (tgt := 20) hx hb dX9_does_9 (by decide) (fun _ => ?_) (fun c_ => absurd c_ (by decide))
  refine lv_iload_n hx hb dX9_does_20 rfl (lv_at hl 1 rfl) ?_
  refine lv_bipush (v := 26) hx hb dX9_does_21 (by decide) ?_
  refine lv_icmp_gt (tgt := 34) hx hb dX9_does_23 (by decide) (fun c_ => absurd c_ (by decide)) (fun _ => ?_)
  refine lv_aload_n hx hb dX9_does_26 rfl (lv_at hl 0 rfl) ?_
  refine lv_iload_n hx hb dX9_does_27 rfl (lv_at hl 1 rfl) ?_
  refine r_kv hw (r_runV (rest := []) hC hw 0 (c_X9_doesPoint_19 (ad := ad) l _ hs hW hy hN hc hm hT) rk9 (wMl 0 (by decide)) wM0 1 gX9_does_X9_doesPoint rfl rfl rfl (by decide +kernel) ⟨Nat.le_of_ble_eq_true rfl, Nat.le_of_ble_eq_true rfl⟩ rfl hl.1 rfl (Nat.le_of_ble_eq_true rfl) dX9_does_28 ⟨Nat.le_of_ble_eq_true rfl, Nat.le_of_ble_eq_true rfl⟩) (fun u_3 H locs h_1 hw => ?_)
  subst h_1
  dsimp only at hw
  refine lv_goto (tgt := 115) hx hb dX9_does_31 (by decide) ?_
  exact r_vret hC hr hlk hw (act κ (t 4) (t 5) 19 (t 0) (t 1) (t 2), t) rfl (congrArg (Prod.mk _) (upt t 3).symm) (Nat.le_of_ble_eq_true rfl) (Nat.le_of_ble_eq_true rfl) dX9_does_115

set_option maxHeartbeats 4000000 in
set_option maxRecDepth 100000 in
theorem c_X9_does_20 (l : Launch) {D : va_G} {q : Nat → ClassId} {ad : Nat → Nat} {κ : KS} {t : Nat → Int32} (sz : Nat) (hs : okStep 20 (t 0) (t 1) (t 2)) (hW : WFm κ) (hy : why κ 20 (t 0) (t 1) (t 2) = 0) (hN : nnOp κ 20 (t 0) (t 1) (t 2)) (hc : vp_in (sI κ 6) 13) (hm : vp_in (sI κ 2) 61) (hT : ¬ sI κ 7 < 0) : Met l yX9_does wsX9_does (rmz 3 67) (va_Pc [.ref (ad 0), .int 20] (rPre D q (wM q ad κ t) sz)) (va_Qv (fun (u : KS × (Nat → Int32)) => u = (act κ (t 4) (t 5) 20 (t 0) (t 1) (t 2), va_up t 3 (nxt κ 20 (t 0) (t 1) (t 3)))) (fun (u : KS × (Nat → Int32)) tt => rPo D (rA (wM q ad κ t) sz) (wM q ad u.1 u.2) tt) (rA (wM q ad κ t) sz)) 0 0 (rA (wM q ad κ t) sz) := by
  refine r_start (cc := cX9_does) (maxL := 2) (ret := none) (by decide) rfl (Nat.le_of_ble_eq_true rfl) ?_
  intro p e s m below meth c ls hC hr hlk hnm hsz hw hl
  have hx := hC.1
  have hb := hC.2.1
  have hl : lv_has ls 2 [(0, .ref (ad 0)), (1, .int 20)] := hl
  refine lv_iload_n hx hb dX9_does_0 rfl (lv_at hl 1 rfl) ?_
  refine lv_bipush (v := 14) hx hb dX9_does_1 (by decide) ?_
  refine lv_icmp_le (tgt := 12) hx hb dX9_does_3 (by decide) (fun c_ => absurd c_ (by decide)) (fun _ => ?_)
  refine lv_iload_n hx hb dX9_does_6 rfl (lv_at hl 1 rfl) ?_
  refine lv_bipush (v := 25) hx hb dX9_does_7 (by decide) ?_
  refine lv_icmp_ne (tgt := 20) hx hb dX9_does_9 (by decide) (fun _ => ?_) (fun c_ => absurd c_ (by decide))
  refine lv_iload_n hx hb dX9_does_20 rfl (lv_at hl 1 rfl) ?_
  refine lv_bipush (v := 26) hx hb dX9_does_21 (by decide) ?_
  refine lv_icmp_gt (tgt := 34) hx hb dX9_does_23 (by decide) (fun c_ => absurd c_ (by decide)) (fun _ => ?_)
  refine lv_aload_n hx hb dX9_does_26 rfl (lv_at hl 0 rfl) ?_
  refine lv_iload_n hx hb dX9_does_27 rfl (lv_at hl 1 rfl) ?_
  refine r_kv hw (r_runV (rest := []) hC hw 0 (c_X9_doesPoint_20 (ad := ad) l _ hs hW hy hN hc hm hT) rk9 (wMl 0 (by decide)) wM0 1 gX9_does_X9_doesPoint rfl rfl rfl (by decide +kernel) ⟨Nat.le_of_ble_eq_true rfl, Nat.le_of_ble_eq_true rfl⟩ rfl hl.1 rfl (Nat.le_of_ble_eq_true rfl) dX9_does_28 ⟨Nat.le_of_ble_eq_true rfl, Nat.le_of_ble_eq_true rfl⟩) (fun u_3 H locs h_1 hw => ?_)
  subst h_1
  dsimp only at hw
  refine lv_goto (tgt := 115) hx hb dX9_does_31 (by decide) ?_
  exact r_vret hC hr hlk hw (act κ (t 4) (t 5) 20 (t 0) (t 1) (t 2), t) rfl (congrArg (Prod.mk _) (upt t 3).symm) (Nat.le_of_ble_eq_true rfl) (Nat.le_of_ble_eq_true rfl) dX9_does_115

set_option maxHeartbeats 4000000 in
set_option maxRecDepth 100000 in
theorem c_X9_does_21 (l : Launch) {D : va_G} {q : Nat → ClassId} {ad : Nat → Nat} {κ : KS} {t : Nat → Int32} (sz : Nat) (hs : okStep 21 (t 0) (t 1) (t 2)) (hW : WFm κ) (hy : why κ 21 (t 0) (t 1) (t 2) = 0) (hN : nnOp κ 21 (t 0) (t 1) (t 2)) (hc : vp_in (sI κ 6) 13) (hm : vp_in (sI κ 2) 61) (hT : ¬ sI κ 7 < 0) : Met l yX9_does wsX9_does (rmz 3 67) (va_Pc [.ref (ad 0), .int 21] (rPre D q (wM q ad κ t) sz)) (va_Qv (fun (u : KS × (Nat → Int32)) => u = (act κ (t 4) (t 5) 21 (t 0) (t 1) (t 2), va_up t 3 (nxt κ 21 (t 0) (t 1) (t 3)))) (fun (u : KS × (Nat → Int32)) tt => rPo D (rA (wM q ad κ t) sz) (wM q ad u.1 u.2) tt) (rA (wM q ad κ t) sz)) 0 0 (rA (wM q ad κ t) sz) := by
  refine r_start (cc := cX9_does) (maxL := 2) (ret := none) (by decide) rfl (Nat.le_of_ble_eq_true rfl) ?_
  intro p e s m below meth c ls hC hr hlk hnm hsz hw hl
  have hx := hC.1
  have hb := hC.2.1
  have hl : lv_has ls 2 [(0, .ref (ad 0)), (1, .int 21)] := hl
  refine lv_iload_n hx hb dX9_does_0 rfl (lv_at hl 1 rfl) ?_
  refine lv_bipush (v := 14) hx hb dX9_does_1 (by decide) ?_
  refine lv_icmp_le (tgt := 12) hx hb dX9_does_3 (by decide) (fun c_ => absurd c_ (by decide)) (fun _ => ?_)
  refine lv_iload_n hx hb dX9_does_6 rfl (lv_at hl 1 rfl) ?_
  refine lv_bipush (v := 25) hx hb dX9_does_7 (by decide) ?_
  refine lv_icmp_ne (tgt := 20) hx hb dX9_does_9 (by decide) (fun _ => ?_) (fun c_ => absurd c_ (by decide))
  refine lv_iload_n hx hb dX9_does_20 rfl (lv_at hl 1 rfl) ?_
  refine lv_bipush (v := 26) hx hb dX9_does_21 (by decide) ?_
  refine lv_icmp_gt (tgt := 34) hx hb dX9_does_23 (by decide) (fun c_ => absurd c_ (by decide)) (fun _ => ?_)
  refine lv_aload_n hx hb dX9_does_26 rfl (lv_at hl 0 rfl) ?_
  refine lv_iload_n hx hb dX9_does_27 rfl (lv_at hl 1 rfl) ?_
  refine r_kv hw (r_runV (rest := []) hC hw 0 (c_X9_doesPoint_21 (ad := ad) l _ hs hW hy hN hc hm hT) rk9 (wMl 0 (by decide)) wM0 1 gX9_does_X9_doesPoint rfl rfl rfl (by decide +kernel) ⟨Nat.le_of_ble_eq_true rfl, Nat.le_of_ble_eq_true rfl⟩ rfl hl.1 rfl (Nat.le_of_ble_eq_true rfl) dX9_does_28 ⟨Nat.le_of_ble_eq_true rfl, Nat.le_of_ble_eq_true rfl⟩) (fun u_3 H locs h_1 hw => ?_)
  subst h_1
  dsimp only at hw
  refine lv_goto (tgt := 115) hx hb dX9_does_31 (by decide) ?_
  exact r_vret hC hr hlk hw (act κ (t 4) (t 5) 21 (t 0) (t 1) (t 2), t) rfl (congrArg (Prod.mk _) (upt t 3).symm) (Nat.le_of_ble_eq_true rfl) (Nat.le_of_ble_eq_true rfl) dX9_does_115

set_option maxHeartbeats 4000000 in
set_option maxRecDepth 100000 in
theorem c_X9_does_22 (l : Launch) {D : va_G} {q : Nat → ClassId} {ad : Nat → Nat} {κ : KS} {t : Nat → Int32} (sz : Nat) (hs : okStep 22 (t 0) (t 1) (t 2)) (hW : WFm κ) (hy : why κ 22 (t 0) (t 1) (t 2) = 0) (hN : nnOp κ 22 (t 0) (t 1) (t 2)) (hc : vp_in (sI κ 6) 13) (hm : vp_in (sI κ 2) 61) (hT : ¬ sI κ 7 < 0) : Met l yX9_does wsX9_does (rmz 3 67) (va_Pc [.ref (ad 0), .int 22] (rPre D q (wM q ad κ t) sz)) (va_Qv (fun (u : KS × (Nat → Int32)) => u = (act κ (t 4) (t 5) 22 (t 0) (t 1) (t 2), va_up t 3 (nxt κ 22 (t 0) (t 1) (t 3)))) (fun (u : KS × (Nat → Int32)) tt => rPo D (rA (wM q ad κ t) sz) (wM q ad u.1 u.2) tt) (rA (wM q ad κ t) sz)) 0 0 (rA (wM q ad κ t) sz) := by
  refine r_start (cc := cX9_does) (maxL := 2) (ret := none) (by decide) rfl (Nat.le_of_ble_eq_true rfl) ?_
  intro p e s m below meth c ls hC hr hlk hnm hsz hw hl
  have hx := hC.1
  have hb := hC.2.1
  have hl : lv_has ls 2 [(0, .ref (ad 0)), (1, .int 22)] := hl
  refine lv_iload_n hx hb dX9_does_0 rfl (lv_at hl 1 rfl) ?_
  refine lv_bipush (v := 14) hx hb dX9_does_1 (by decide) ?_
  refine lv_icmp_le (tgt := 12) hx hb dX9_does_3 (by decide) (fun c_ => absurd c_ (by decide)) (fun _ => ?_)
  refine lv_iload_n hx hb dX9_does_6 rfl (lv_at hl 1 rfl) ?_
  refine lv_bipush (v := 25) hx hb dX9_does_7 (by decide) ?_
  refine lv_icmp_ne (tgt := 20) hx hb dX9_does_9 (by decide) (fun _ => ?_) (fun c_ => absurd c_ (by decide))
  refine lv_iload_n hx hb dX9_does_20 rfl (lv_at hl 1 rfl) ?_
  refine lv_bipush (v := 26) hx hb dX9_does_21 (by decide) ?_
  refine lv_icmp_gt (tgt := 34) hx hb dX9_does_23 (by decide) (fun c_ => absurd c_ (by decide)) (fun _ => ?_)
  refine lv_aload_n hx hb dX9_does_26 rfl (lv_at hl 0 rfl) ?_
  refine lv_iload_n hx hb dX9_does_27 rfl (lv_at hl 1 rfl) ?_
  refine r_kv hw (r_runV (rest := []) hC hw 0 (c_X9_doesPoint_22 (ad := ad) l _ hs hW hy hN hc hm hT) rk9 (wMl 0 (by decide)) wM0 1 gX9_does_X9_doesPoint rfl rfl rfl (by decide +kernel) ⟨Nat.le_of_ble_eq_true rfl, Nat.le_of_ble_eq_true rfl⟩ rfl hl.1 rfl (Nat.le_of_ble_eq_true rfl) dX9_does_28 ⟨Nat.le_of_ble_eq_true rfl, Nat.le_of_ble_eq_true rfl⟩) (fun u_3 H locs h_1 hw => ?_)
  subst h_1
  dsimp only at hw
  refine lv_goto (tgt := 115) hx hb dX9_does_31 (by decide) ?_
  exact r_vret hC hr hlk hw (act κ (t 4) (t 5) 22 (t 0) (t 1) (t 2), t) rfl (congrArg (Prod.mk _) (upt t 3).symm) (Nat.le_of_ble_eq_true rfl) (Nat.le_of_ble_eq_true rfl) dX9_does_115

set_option maxHeartbeats 4000000 in
set_option maxRecDepth 100000 in
theorem c_X9_does_23 (l : Launch) {D : va_G} {q : Nat → ClassId} {ad : Nat → Nat} {κ : KS} {t : Nat → Int32} (sz : Nat) (hs : okStep 23 (t 0) (t 1) (t 2)) (hW : WFm κ) (hy : why κ 23 (t 0) (t 1) (t 2) = 0) (hN : nnOp κ 23 (t 0) (t 1) (t 2)) (hc : vp_in (sI κ 6) 13) (hm : vp_in (sI κ 2) 61) (hT : ¬ sI κ 7 < 0) : Met l yX9_does wsX9_does (rmz 3 67) (va_Pc [.ref (ad 0), .int 23] (rPre D q (wM q ad κ t) sz)) (va_Qv (fun (u : KS × (Nat → Int32)) => u = (act κ (t 4) (t 5) 23 (t 0) (t 1) (t 2), va_up t 3 (nxt κ 23 (t 0) (t 1) (t 3)))) (fun (u : KS × (Nat → Int32)) tt => rPo D (rA (wM q ad κ t) sz) (wM q ad u.1 u.2) tt) (rA (wM q ad κ t) sz)) 0 0 (rA (wM q ad κ t) sz) := by
  refine r_start (cc := cX9_does) (maxL := 2) (ret := none) (by decide) rfl (Nat.le_of_ble_eq_true rfl) ?_
  intro p e s m below meth c ls hC hr hlk hnm hsz hw hl
  have hx := hC.1
  have hb := hC.2.1
  have hl : lv_has ls 2 [(0, .ref (ad 0)), (1, .int 23)] := hl
  refine lv_iload_n hx hb dX9_does_0 rfl (lv_at hl 1 rfl) ?_
  refine lv_bipush (v := 14) hx hb dX9_does_1 (by decide) ?_
  refine lv_icmp_le (tgt := 12) hx hb dX9_does_3 (by decide) (fun c_ => absurd c_ (by decide)) (fun _ => ?_)
  refine lv_iload_n hx hb dX9_does_6 rfl (lv_at hl 1 rfl) ?_
  refine lv_bipush (v := 25) hx hb dX9_does_7 (by decide) ?_
  refine lv_icmp_ne (tgt := 20) hx hb dX9_does_9 (by decide) (fun _ => ?_) (fun c_ => absurd c_ (by decide))
  refine lv_iload_n hx hb dX9_does_20 rfl (lv_at hl 1 rfl) ?_
  refine lv_bipush (v := 26) hx hb dX9_does_21 (by decide) ?_
  refine lv_icmp_gt (tgt := 34) hx hb dX9_does_23 (by decide) (fun c_ => absurd c_ (by decide)) (fun _ => ?_)
  refine lv_aload_n hx hb dX9_does_26 rfl (lv_at hl 0 rfl) ?_
  refine lv_iload_n hx hb dX9_does_27 rfl (lv_at hl 1 rfl) ?_
  refine r_kv hw (r_runV (rest := []) hC hw 0 (c_X9_doesPoint_23 (ad := ad) l _ hs hW hy hN hc hm hT) rk9 (wMl 0 (by decide)) wM0 1 gX9_does_X9_doesPoint rfl rfl rfl (by decide +kernel) ⟨Nat.le_of_ble_eq_true rfl, Nat.le_of_ble_eq_true rfl⟩ rfl hl.1 rfl (Nat.le_of_ble_eq_true rfl) dX9_does_28 ⟨Nat.le_of_ble_eq_true rfl, Nat.le_of_ble_eq_true rfl⟩) (fun u_3 H locs h_1 hw => ?_)
  subst h_1
  dsimp only at hw
  refine lv_goto (tgt := 115) hx hb dX9_does_31 (by decide) ?_
  exact r_vret hC hr hlk hw (act κ (t 4) (t 5) 23 (t 0) (t 1) (t 2), t) rfl (congrArg (Prod.mk _) (upt t 3).symm) (Nat.le_of_ble_eq_true rfl) (Nat.le_of_ble_eq_true rfl) dX9_does_115

set_option maxHeartbeats 4000000 in
set_option maxRecDepth 100000 in
theorem c_X9_does_24 (l : Launch) {D : va_G} {q : Nat → ClassId} {ad : Nat → Nat} {κ : KS} {t : Nat → Int32} (sz : Nat) (hs : okStep 24 (t 0) (t 1) (t 2)) (hW : WFm κ) (hy : why κ 24 (t 0) (t 1) (t 2) = 0) (hN : nnOp κ 24 (t 0) (t 1) (t 2)) (hc : vp_in (sI κ 6) 13) (hm : vp_in (sI κ 2) 61) (hT : ¬ sI κ 7 < 0) : Met l yX9_does wsX9_does (rmz 3 67) (va_Pc [.ref (ad 0), .int 24] (rPre D q (wM q ad κ t) sz)) (va_Qv (fun (u : KS × (Nat → Int32)) => u = (act κ (t 4) (t 5) 24 (t 0) (t 1) (t 2), va_up t 3 (nxt κ 24 (t 0) (t 1) (t 3)))) (fun (u : KS × (Nat → Int32)) tt => rPo D (rA (wM q ad κ t) sz) (wM q ad u.1 u.2) tt) (rA (wM q ad κ t) sz)) 0 0 (rA (wM q ad κ t) sz) := by
  refine r_start (cc := cX9_does) (maxL := 2) (ret := none) (by decide) rfl (Nat.le_of_ble_eq_true rfl) ?_
  intro p e s m below meth c ls hC hr hlk hnm hsz hw hl
  have hx := hC.1
  have hb := hC.2.1
  have hl : lv_has ls 2 [(0, .ref (ad 0)), (1, .int 24)] := hl
  refine lv_iload_n hx hb dX9_does_0 rfl (lv_at hl 1 rfl) ?_
  refine lv_bipush (v := 14) hx hb dX9_does_1 (by decide) ?_
  refine lv_icmp_le (tgt := 12) hx hb dX9_does_3 (by decide) (fun c_ => absurd c_ (by decide)) (fun _ => ?_)
  refine lv_iload_n hx hb dX9_does_6 rfl (lv_at hl 1 rfl) ?_
  refine lv_bipush (v := 25) hx hb dX9_does_7 (by decide) ?_
  refine lv_icmp_ne (tgt := 20) hx hb dX9_does_9 (by decide) (fun _ => ?_) (fun c_ => absurd c_ (by decide))
  refine lv_iload_n hx hb dX9_does_20 rfl (lv_at hl 1 rfl) ?_
  refine lv_bipush (v := 26) hx hb dX9_does_21 (by decide) ?_
  refine lv_icmp_gt (tgt := 34) hx hb dX9_does_23 (by decide) (fun c_ => absurd c_ (by decide)) (fun _ => ?_)
  refine lv_aload_n hx hb dX9_does_26 rfl (lv_at hl 0 rfl) ?_
  refine lv_iload_n hx hb dX9_does_27 rfl (lv_at hl 1 rfl) ?_
  refine r_kv hw (r_runV (rest := []) hC hw 0 (c_X9_doesPoint_24 (ad := ad) l _ hs hW hy hN hc hm hT) rk9 (wMl 0 (by decide)) wM0 1 gX9_does_X9_doesPoint rfl rfl rfl (by decide +kernel) ⟨Nat.le_of_ble_eq_true rfl, Nat.le_of_ble_eq_true rfl⟩ rfl hl.1 rfl (Nat.le_of_ble_eq_true rfl) dX9_does_28 ⟨Nat.le_of_ble_eq_true rfl, Nat.le_of_ble_eq_true rfl⟩) (fun u_3 H locs h_1 hw => ?_)
  subst h_1
  dsimp only at hw
  refine lv_goto (tgt := 115) hx hb dX9_does_31 (by decide) ?_
  exact r_vret hC hr hlk hw (act κ (t 4) (t 5) 24 (t 0) (t 1) (t 2), t) rfl (congrArg (Prod.mk _) (upt t 3).symm) (Nat.le_of_ble_eq_true rfl) (Nat.le_of_ble_eq_true rfl) dX9_does_115

set_option maxHeartbeats 4000000 in
set_option maxRecDepth 100000 in
theorem c_X9_does_25 (l : Launch) {D : va_G} {q : Nat → ClassId} {ad : Nat → Nat} {κ : KS} {t : Nat → Int32} (sz : Nat) (hs : okStep 25 (t 0) (t 1) (t 2)) (hW : WFm κ) (hy : why κ 25 (t 0) (t 1) (t 2) = 0) (hN : nnOp κ 25 (t 0) (t 1) (t 2)) (hc : vp_in (sI κ 6) 13) (hm : vp_in (sI κ 2) 61) (hT : ¬ sI κ 7 < 0) : Met l yX9_does wsX9_does (rmz 3 67) (va_Pc [.ref (ad 0), .int 25] (rPre D q (wM q ad κ t) sz)) (va_Qv (fun (u : KS × (Nat → Int32)) => u = (act κ (t 4) (t 5) 25 (t 0) (t 1) (t 2), va_up t 3 (nxt κ 25 (t 0) (t 1) (t 3)))) (fun (u : KS × (Nat → Int32)) tt => rPo D (rA (wM q ad κ t) sz) (wM q ad u.1 u.2) tt) (rA (wM q ad κ t) sz)) 0 0 (rA (wM q ad κ t) sz) := by
  refine r_start (cc := cX9_does) (maxL := 2) (ret := none) (by decide) rfl (Nat.le_of_ble_eq_true rfl) ?_
  intro p e s m below meth c ls hC hr hlk hnm hsz hw hl
  have hx := hC.1
  have hb := hC.2.1
  have hl : lv_has ls 2 [(0, .ref (ad 0)), (1, .int 25)] := hl
  refine lv_iload_n hx hb dX9_does_0 rfl (lv_at hl 1 rfl) ?_
  refine lv_bipush (v := 14) hx hb dX9_does_1 (by decide) ?_
  refine lv_icmp_le (tgt := 12) hx hb dX9_does_3 (by decide) (fun c_ => absurd c_ (by decide)) (fun _ => ?_)
  refine lv_iload_n hx hb dX9_does_6 rfl (lv_at hl 1 rfl) ?_
  refine lv_bipush (v := 25) hx hb dX9_does_7 (by decide) ?_
  refine lv_icmp_ne (tgt := 20) hx hb dX9_does_9 (by decide) (fun c_ => absurd (by decide) c_) (fun _ => ?_)
  refine lv_aload_n hx hb dX9_does_12 rfl (lv_at hl 0 rfl) ?_
  refine lv_iload_n hx hb dX9_does_13 rfl (lv_at hl 1 rfl) ?_
  refine r_kv hw (r_runV (rest := []) hC hw 0 (c_X9_doesWhole_25 (ad := ad) l _ hs hW hy hN hc hm hT) rk9 (wMl 0 (by decide)) wM0 1 gX9_does_X9_doesWhole rfl rfl rfl (by decide +kernel) ⟨Nat.le_of_ble_eq_true rfl, Nat.le_of_ble_eq_true rfl⟩ rfl hl.1 rfl (Nat.le_of_ble_eq_true rfl) dX9_does_14 ⟨Nat.le_of_ble_eq_true rfl, Nat.le_of_ble_eq_true rfl⟩) (fun u_3 H locs h_1 hw => ?_)
  subst h_1
  dsimp only at hw
  refine lv_goto (tgt := 115) hx hb dX9_does_17 (by decide) ?_
  exact r_vret hC hr hlk hw (act κ (t 4) (t 5) 25 (t 0) (t 1) (t 2), t) rfl (congrArg (Prod.mk _) (upt t 3).symm) (Nat.le_of_ble_eq_true rfl) (Nat.le_of_ble_eq_true rfl) dX9_does_115

set_option maxHeartbeats 4000000 in
set_option maxRecDepth 100000 in
theorem c_X9_does_26 (l : Launch) {D : va_G} {q : Nat → ClassId} {ad : Nat → Nat} {κ : KS} {t : Nat → Int32} (sz : Nat) (hs : okStep 26 (t 0) (t 1) (t 2)) (hW : WFm κ) (hy : why κ 26 (t 0) (t 1) (t 2) = 0) (hN : nnOp κ 26 (t 0) (t 1) (t 2)) (hc : vp_in (sI κ 6) 13) (hm : vp_in (sI κ 2) 61) (hT : ¬ sI κ 7 < 0) : Met l yX9_does wsX9_does (rmz 3 67) (va_Pc [.ref (ad 0), .int 26] (rPre D q (wM q ad κ t) sz)) (va_Qv (fun (u : KS × (Nat → Int32)) => u = (act κ (t 4) (t 5) 26 (t 0) (t 1) (t 2), va_up t 3 (nxt κ 26 (t 0) (t 1) (t 3)))) (fun (u : KS × (Nat → Int32)) tt => rPo D (rA (wM q ad κ t) sz) (wM q ad u.1 u.2) tt) (rA (wM q ad κ t) sz)) 0 0 (rA (wM q ad κ t) sz) := by
  refine r_start (cc := cX9_does) (maxL := 2) (ret := none) (by decide) rfl (Nat.le_of_ble_eq_true rfl) ?_
  intro p e s m below meth c ls hC hr hlk hnm hsz hw hl
  have hx := hC.1
  have hb := hC.2.1
  have hl : lv_has ls 2 [(0, .ref (ad 0)), (1, .int 26)] := hl
  refine lv_iload_n hx hb dX9_does_0 rfl (lv_at hl 1 rfl) ?_
  refine lv_bipush (v := 14) hx hb dX9_does_1 (by decide) ?_
  refine lv_icmp_le (tgt := 12) hx hb dX9_does_3 (by decide) (fun c_ => absurd c_ (by decide)) (fun _ => ?_)
  refine lv_iload_n hx hb dX9_does_6 rfl (lv_at hl 1 rfl) ?_
  refine lv_bipush (v := 25) hx hb dX9_does_7 (by decide) ?_
  refine lv_icmp_ne (tgt := 20) hx hb dX9_does_9 (by decide) (fun _ => ?_) (fun c_ => absurd c_ (by decide))
  refine lv_iload_n hx hb dX9_does_20 rfl (lv_at hl 1 rfl) ?_
  refine lv_bipush (v := 26) hx hb dX9_does_21 (by decide) ?_
  refine lv_icmp_gt (tgt := 34) hx hb dX9_does_23 (by decide) (fun c_ => absurd c_ (by decide)) (fun _ => ?_)
  refine lv_aload_n hx hb dX9_does_26 rfl (lv_at hl 0 rfl) ?_
  refine lv_iload_n hx hb dX9_does_27 rfl (lv_at hl 1 rfl) ?_
  refine r_kv hw (r_runV (rest := []) hC hw 0 (c_X9_doesPoint_26 (ad := ad) l _ hs hW hy hN hc hm hT) rk9 (wMl 0 (by decide)) wM0 1 gX9_does_X9_doesPoint rfl rfl rfl (by decide +kernel) ⟨Nat.le_of_ble_eq_true rfl, Nat.le_of_ble_eq_true rfl⟩ rfl hl.1 rfl (Nat.le_of_ble_eq_true rfl) dX9_does_28 ⟨Nat.le_of_ble_eq_true rfl, Nat.le_of_ble_eq_true rfl⟩) (fun u_3 H locs h_1 hw => ?_)
  subst h_1
  dsimp only at hw
  refine lv_goto (tgt := 115) hx hb dX9_does_31 (by decide) ?_
  exact r_vret hC hr hlk hw (act κ (t 4) (t 5) 26 (t 0) (t 1) (t 2), t) rfl (congrArg (Prod.mk _) (upt t 3).symm) (Nat.le_of_ble_eq_true rfl) (Nat.le_of_ble_eq_true rfl) dX9_does_115

set_option maxHeartbeats 4000000 in
set_option maxRecDepth 100000 in
theorem c_X9_does_27 (l : Launch) {D : va_G} {q : Nat → ClassId} {ad : Nat → Nat} {κ : KS} {t : Nat → Int32} (sz : Nat) (hs : okStep 27 (t 0) (t 1) (t 2)) (hW : WFm κ) (hy : why κ 27 (t 0) (t 1) (t 2) = 0) (hN : nnOp κ 27 (t 0) (t 1) (t 2)) (hc : vp_in (sI κ 6) 13) (hm : vp_in (sI κ 2) 61) (hT : ¬ sI κ 7 < 0) : Met l yX9_does wsX9_does (rmz 3 67) (va_Pc [.ref (ad 0), .int 27] (rPre D q (wM q ad κ t) sz)) (va_Qv (fun (u : KS × (Nat → Int32)) => u = (act κ (t 4) (t 5) 27 (t 0) (t 1) (t 2), va_up t 3 (nxt κ 27 (t 0) (t 1) (t 3)))) (fun (u : KS × (Nat → Int32)) tt => rPo D (rA (wM q ad κ t) sz) (wM q ad u.1 u.2) tt) (rA (wM q ad κ t) sz)) 0 0 (rA (wM q ad κ t) sz) := by
  refine r_start (cc := cX9_does) (maxL := 2) (ret := none) (by decide) rfl (Nat.le_of_ble_eq_true rfl) ?_
  intro p e s m below meth c ls hC hr hlk hnm hsz hw hl
  have hx := hC.1
  have hb := hC.2.1
  have hl : lv_has ls 2 [(0, .ref (ad 0)), (1, .int 27)] := hl
  refine lv_iload_n hx hb dX9_does_0 rfl (lv_at hl 1 rfl) ?_
  refine lv_bipush (v := 14) hx hb dX9_does_1 (by decide) ?_
  refine lv_icmp_le (tgt := 12) hx hb dX9_does_3 (by decide) (fun c_ => absurd c_ (by decide)) (fun _ => ?_)
  refine lv_iload_n hx hb dX9_does_6 rfl (lv_at hl 1 rfl) ?_
  refine lv_bipush (v := 25) hx hb dX9_does_7 (by decide) ?_
  refine lv_icmp_ne (tgt := 20) hx hb dX9_does_9 (by decide) (fun _ => ?_) (fun c_ => absurd c_ (by decide))
  refine lv_iload_n hx hb dX9_does_20 rfl (lv_at hl 1 rfl) ?_
  refine lv_bipush (v := 26) hx hb dX9_does_21 (by decide) ?_
  refine lv_icmp_gt (tgt := 34) hx hb dX9_does_23 (by decide) (fun _ => ?_) (fun c_ => absurd (by decide) c_)
  refine lv_iload_n hx hb dX9_does_34 rfl (lv_at hl 1 rfl) ?_
  refine lv_bipush (v := 30) hx hb dX9_does_35 (by decide) ?_
  refine lv_icmp_gt (tgt := 48) hx hb dX9_does_37 (by decide) (fun c_ => absurd c_ (by decide)) (fun _ => ?_)
  refine lv_aload_n hx hb dX9_does_40 rfl (lv_at hl 0 rfl) ?_
  refine lv_iload_n hx hb dX9_does_41 rfl (lv_at hl 1 rfl) ?_
  refine r_kv hw (r_runV (rest := []) hC hw 0 (c_X9_doesWay_27 (ad := ad) l _ hs hW hy hN hc hm hT) rk9 (wMl 0 (by decide)) wM0 1 gX9_does_X9_doesWay rfl rfl rfl (by decide +kernel) ⟨Nat.le_of_ble_eq_true rfl, Nat.le_of_ble_eq_true rfl⟩ rfl hl.1 rfl (Nat.le_of_ble_eq_true rfl) dX9_does_42 ⟨Nat.le_of_ble_eq_true rfl, Nat.le_of_ble_eq_true rfl⟩) (fun u_3 H locs h_1 hw => ?_)
  subst h_1
  dsimp only at hw
  refine lv_goto (tgt := 115) hx hb dX9_does_45 (by decide) ?_
  exact r_vret hC hr hlk hw (act κ (t 4) (t 5) 27 (t 0) (t 1) (t 2), va_up t 3 (nxt κ 27 (t 0) (t 1) (t 3))) rfl rfl (Nat.le_of_ble_eq_true rfl) (Nat.le_of_ble_eq_true rfl) dX9_does_115

set_option maxHeartbeats 4000000 in
set_option maxRecDepth 100000 in
theorem c_X9_does_28 (l : Launch) {D : va_G} {q : Nat → ClassId} {ad : Nat → Nat} {κ : KS} {t : Nat → Int32} (sz : Nat) (hs : okStep 28 (t 0) (t 1) (t 2)) (hW : WFm κ) (hy : why κ 28 (t 0) (t 1) (t 2) = 0) (hN : nnOp κ 28 (t 0) (t 1) (t 2)) (hc : vp_in (sI κ 6) 13) (hm : vp_in (sI κ 2) 61) (hT : ¬ sI κ 7 < 0) : Met l yX9_does wsX9_does (rmz 3 67) (va_Pc [.ref (ad 0), .int 28] (rPre D q (wM q ad κ t) sz)) (va_Qv (fun (u : KS × (Nat → Int32)) => u = (act κ (t 4) (t 5) 28 (t 0) (t 1) (t 2), va_up t 3 (nxt κ 28 (t 0) (t 1) (t 3)))) (fun (u : KS × (Nat → Int32)) tt => rPo D (rA (wM q ad κ t) sz) (wM q ad u.1 u.2) tt) (rA (wM q ad κ t) sz)) 0 0 (rA (wM q ad κ t) sz) := by
  refine r_start (cc := cX9_does) (maxL := 2) (ret := none) (by decide) rfl (Nat.le_of_ble_eq_true rfl) ?_
  intro p e s m below meth c ls hC hr hlk hnm hsz hw hl
  have hx := hC.1
  have hb := hC.2.1
  have hl : lv_has ls 2 [(0, .ref (ad 0)), (1, .int 28)] := hl
  refine lv_iload_n hx hb dX9_does_0 rfl (lv_at hl 1 rfl) ?_
  refine lv_bipush (v := 14) hx hb dX9_does_1 (by decide) ?_
  refine lv_icmp_le (tgt := 12) hx hb dX9_does_3 (by decide) (fun c_ => absurd c_ (by decide)) (fun _ => ?_)
  refine lv_iload_n hx hb dX9_does_6 rfl (lv_at hl 1 rfl) ?_
  refine lv_bipush (v := 25) hx hb dX9_does_7 (by decide) ?_
  refine lv_icmp_ne (tgt := 20) hx hb dX9_does_9 (by decide) (fun _ => ?_) (fun c_ => absurd c_ (by decide))
  refine lv_iload_n hx hb dX9_does_20 rfl (lv_at hl 1 rfl) ?_
  refine lv_bipush (v := 26) hx hb dX9_does_21 (by decide) ?_
  refine lv_icmp_gt (tgt := 34) hx hb dX9_does_23 (by decide) (fun _ => ?_) (fun c_ => absurd (by decide) c_)
  refine lv_iload_n hx hb dX9_does_34 rfl (lv_at hl 1 rfl) ?_
  refine lv_bipush (v := 30) hx hb dX9_does_35 (by decide) ?_
  refine lv_icmp_gt (tgt := 48) hx hb dX9_does_37 (by decide) (fun c_ => absurd c_ (by decide)) (fun _ => ?_)
  refine lv_aload_n hx hb dX9_does_40 rfl (lv_at hl 0 rfl) ?_
  refine lv_iload_n hx hb dX9_does_41 rfl (lv_at hl 1 rfl) ?_
  refine r_kv hw (r_runV (rest := []) hC hw 0 (c_X9_doesWay_28 (ad := ad) l _ hs hW hy hN hc hm hT) rk9 (wMl 0 (by decide)) wM0 1 gX9_does_X9_doesWay rfl rfl rfl (by decide +kernel) ⟨Nat.le_of_ble_eq_true rfl, Nat.le_of_ble_eq_true rfl⟩ rfl hl.1 rfl (Nat.le_of_ble_eq_true rfl) dX9_does_42 ⟨Nat.le_of_ble_eq_true rfl, Nat.le_of_ble_eq_true rfl⟩) (fun u_3 H locs h_1 hw => ?_)
  subst h_1
  dsimp only at hw
  refine lv_goto (tgt := 115) hx hb dX9_does_45 (by decide) ?_
  exact r_vret hC hr hlk hw (act κ (t 4) (t 5) 28 (t 0) (t 1) (t 2), va_up t 3 (nxt κ 28 (t 0) (t 1) (t 3))) rfl rfl (Nat.le_of_ble_eq_true rfl) (Nat.le_of_ble_eq_true rfl) dX9_does_115

set_option maxHeartbeats 4000000 in
set_option maxRecDepth 100000 in
theorem c_X9_does_29 (l : Launch) {D : va_G} {q : Nat → ClassId} {ad : Nat → Nat} {κ : KS} {t : Nat → Int32} (sz : Nat) (hs : okStep 29 (t 0) (t 1) (t 2)) (hW : WFm κ) (hy : why κ 29 (t 0) (t 1) (t 2) = 0) (hN : nnOp κ 29 (t 0) (t 1) (t 2)) (hc : vp_in (sI κ 6) 13) (hm : vp_in (sI κ 2) 61) (hT : ¬ sI κ 7 < 0) : Met l yX9_does wsX9_does (rmz 3 67) (va_Pc [.ref (ad 0), .int 29] (rPre D q (wM q ad κ t) sz)) (va_Qv (fun (u : KS × (Nat → Int32)) => u = (act κ (t 4) (t 5) 29 (t 0) (t 1) (t 2), va_up t 3 (nxt κ 29 (t 0) (t 1) (t 3)))) (fun (u : KS × (Nat → Int32)) tt => rPo D (rA (wM q ad κ t) sz) (wM q ad u.1 u.2) tt) (rA (wM q ad κ t) sz)) 0 0 (rA (wM q ad κ t) sz) := by
  refine r_start (cc := cX9_does) (maxL := 2) (ret := none) (by decide) rfl (Nat.le_of_ble_eq_true rfl) ?_
  intro p e s m below meth c ls hC hr hlk hnm hsz hw hl
  have hx := hC.1
  have hb := hC.2.1
  have hl : lv_has ls 2 [(0, .ref (ad 0)), (1, .int 29)] := hl
  refine lv_iload_n hx hb dX9_does_0 rfl (lv_at hl 1 rfl) ?_
  refine lv_bipush (v := 14) hx hb dX9_does_1 (by decide) ?_
  refine lv_icmp_le (tgt := 12) hx hb dX9_does_3 (by decide) (fun c_ => absurd c_ (by decide)) (fun _ => ?_)
  refine lv_iload_n hx hb dX9_does_6 rfl (lv_at hl 1 rfl) ?_
  refine lv_bipush (v := 25) hx hb dX9_does_7 (by decide) ?_
  refine lv_icmp_ne (tgt := 20) hx hb dX9_does_9 (by decide) (fun _ => ?_) (fun c_ => absurd c_ (by decide))
  refine lv_iload_n hx hb dX9_does_20 rfl (lv_at hl 1 rfl) ?_
  refine lv_bipush (v := 26) hx hb dX9_does_21 (by decide) ?_
  refine lv_icmp_gt (tgt := 34) hx hb dX9_does_23 (by decide) (fun _ => ?_) (fun c_ => absurd (by decide) c_)
  refine lv_iload_n hx hb dX9_does_34 rfl (lv_at hl 1 rfl) ?_
  refine lv_bipush (v := 30) hx hb dX9_does_35 (by decide) ?_
  refine lv_icmp_gt (tgt := 48) hx hb dX9_does_37 (by decide) (fun c_ => absurd c_ (by decide)) (fun _ => ?_)
  refine lv_aload_n hx hb dX9_does_40 rfl (lv_at hl 0 rfl) ?_
  refine lv_iload_n hx hb dX9_does_41 rfl (lv_at hl 1 rfl) ?_
  refine r_kv hw (r_runV (rest := []) hC hw 0 (c_X9_doesWay_29 (ad := ad) l _ hs hW hy hN hc hm hT) rk9 (wMl 0 (by decide)) wM0 1 gX9_does_X9_doesWay rfl rfl rfl (by decide +kernel) ⟨Nat.le_of_ble_eq_true rfl, Nat.le_of_ble_eq_true rfl⟩ rfl hl.1 rfl (Nat.le_of_ble_eq_true rfl) dX9_does_42 ⟨Nat.le_of_ble_eq_true rfl, Nat.le_of_ble_eq_true rfl⟩) (fun u_3 H locs h_1 hw => ?_)
  subst h_1
  dsimp only at hw
  refine lv_goto (tgt := 115) hx hb dX9_does_45 (by decide) ?_
  exact r_vret hC hr hlk hw (act κ (t 4) (t 5) 29 (t 0) (t 1) (t 2), va_up t 3 (nxt κ 29 (t 0) (t 1) (t 3))) rfl rfl (Nat.le_of_ble_eq_true rfl) (Nat.le_of_ble_eq_true rfl) dX9_does_115

set_option maxHeartbeats 4000000 in
set_option maxRecDepth 100000 in
theorem c_X9_does_30 (l : Launch) {D : va_G} {q : Nat → ClassId} {ad : Nat → Nat} {κ : KS} {t : Nat → Int32} (sz : Nat) (hs : okStep 30 (t 0) (t 1) (t 2)) (hW : WFm κ) (hy : why κ 30 (t 0) (t 1) (t 2) = 0) (hN : nnOp κ 30 (t 0) (t 1) (t 2)) (hc : vp_in (sI κ 6) 13) (hm : vp_in (sI κ 2) 61) (hT : ¬ sI κ 7 < 0) : Met l yX9_does wsX9_does (rmz 3 67) (va_Pc [.ref (ad 0), .int 30] (rPre D q (wM q ad κ t) sz)) (va_Qv (fun (u : KS × (Nat → Int32)) => u = (act κ (t 4) (t 5) 30 (t 0) (t 1) (t 2), va_up t 3 (nxt κ 30 (t 0) (t 1) (t 3)))) (fun (u : KS × (Nat → Int32)) tt => rPo D (rA (wM q ad κ t) sz) (wM q ad u.1 u.2) tt) (rA (wM q ad κ t) sz)) 0 0 (rA (wM q ad κ t) sz) := by
  refine r_start (cc := cX9_does) (maxL := 2) (ret := none) (by decide) rfl (Nat.le_of_ble_eq_true rfl) ?_
  intro p e s m below meth c ls hC hr hlk hnm hsz hw hl
  have hx := hC.1
  have hb := hC.2.1
  have hl : lv_has ls 2 [(0, .ref (ad 0)), (1, .int 30)] := hl
  refine lv_iload_n hx hb dX9_does_0 rfl (lv_at hl 1 rfl) ?_
  refine lv_bipush (v := 14) hx hb dX9_does_1 (by decide) ?_
  refine lv_icmp_le (tgt := 12) hx hb dX9_does_3 (by decide) (fun c_ => absurd c_ (by decide)) (fun _ => ?_)
  refine lv_iload_n hx hb dX9_does_6 rfl (lv_at hl 1 rfl) ?_
  refine lv_bipush (v := 25) hx hb dX9_does_7 (by decide) ?_
  refine lv_icmp_ne (tgt := 20) hx hb dX9_does_9 (by decide) (fun _ => ?_) (fun c_ => absurd c_ (by decide))
  refine lv_iload_n hx hb dX9_does_20 rfl (lv_at hl 1 rfl) ?_
  refine lv_bipush (v := 26) hx hb dX9_does_21 (by decide) ?_
  refine lv_icmp_gt (tgt := 34) hx hb dX9_does_23 (by decide) (fun _ => ?_) (fun c_ => absurd (by decide) c_)
  refine lv_iload_n hx hb dX9_does_34 rfl (lv_at hl 1 rfl) ?_
  refine lv_bipush (v := 30) hx hb dX9_does_35 (by decide) ?_
  refine lv_icmp_gt (tgt := 48) hx hb dX9_does_37 (by decide) (fun c_ => absurd c_ (by decide)) (fun _ => ?_)
  refine lv_aload_n hx hb dX9_does_40 rfl (lv_at hl 0 rfl) ?_
  refine lv_iload_n hx hb dX9_does_41 rfl (lv_at hl 1 rfl) ?_
  refine r_kv hw (r_runV (rest := []) hC hw 0 (c_X9_doesWay_30 (ad := ad) l _ hs hW hy hN hc hm hT) rk9 (wMl 0 (by decide)) wM0 1 gX9_does_X9_doesWay rfl rfl rfl (by decide +kernel) ⟨Nat.le_of_ble_eq_true rfl, Nat.le_of_ble_eq_true rfl⟩ rfl hl.1 rfl (Nat.le_of_ble_eq_true rfl) dX9_does_42 ⟨Nat.le_of_ble_eq_true rfl, Nat.le_of_ble_eq_true rfl⟩) (fun u_3 H locs h_1 hw => ?_)
  subst h_1
  dsimp only at hw
  refine lv_goto (tgt := 115) hx hb dX9_does_45 (by decide) ?_
  exact r_vret hC hr hlk hw (act κ (t 4) (t 5) 30 (t 0) (t 1) (t 2), if sI κ 6 = 0 then t else va_up t 3 (nxt κ 30 (t 0) (t 1) (t 3))) rfl (by by_cases h : sI κ 6 = 0 <;> simp [nxt, h, upt]) (Nat.le_of_ble_eq_true rfl) (Nat.le_of_ble_eq_true rfl) dX9_does_115

set_option maxHeartbeats 4000000 in
set_option maxRecDepth 100000 in
theorem c_X9_does_31 (l : Launch) {D : va_G} {q : Nat → ClassId} {ad : Nat → Nat} {κ : KS} {t : Nat → Int32} (sz : Nat) (hs : okStep 31 (t 0) (t 1) (t 2)) (hW : WFm κ) (hy : why κ 31 (t 0) (t 1) (t 2) = 0) (hN : nnOp κ 31 (t 0) (t 1) (t 2)) (hc : vp_in (sI κ 6) 13) (hm : vp_in (sI κ 2) 61) (hT : ¬ sI κ 7 < 0) : Met l yX9_does wsX9_does (rmz 3 67) (va_Pc [.ref (ad 0), .int 31] (rPre D q (wM q ad κ t) sz)) (va_Qv (fun (u : KS × (Nat → Int32)) => u = (act κ (t 4) (t 5) 31 (t 0) (t 1) (t 2), va_up t 3 (nxt κ 31 (t 0) (t 1) (t 3)))) (fun (u : KS × (Nat → Int32)) tt => rPo D (rA (wM q ad κ t) sz) (wM q ad u.1 u.2) tt) (rA (wM q ad κ t) sz)) 0 0 (rA (wM q ad κ t) sz) := by
  refine r_start (cc := cX9_does) (maxL := 2) (ret := none) (by decide) rfl (Nat.le_of_ble_eq_true rfl) ?_
  intro p e s m below meth c ls hC hr hlk hnm hsz hw hl
  have hx := hC.1
  have hb := hC.2.1
  have hl : lv_has ls 2 [(0, .ref (ad 0)), (1, .int 31)] := hl
  refine lv_iload_n hx hb dX9_does_0 rfl (lv_at hl 1 rfl) ?_
  refine lv_bipush (v := 14) hx hb dX9_does_1 (by decide) ?_
  refine lv_icmp_le (tgt := 12) hx hb dX9_does_3 (by decide) (fun c_ => absurd c_ (by decide)) (fun _ => ?_)
  refine lv_iload_n hx hb dX9_does_6 rfl (lv_at hl 1 rfl) ?_
  refine lv_bipush (v := 25) hx hb dX9_does_7 (by decide) ?_
  refine lv_icmp_ne (tgt := 20) hx hb dX9_does_9 (by decide) (fun _ => ?_) (fun c_ => absurd c_ (by decide))
  refine lv_iload_n hx hb dX9_does_20 rfl (lv_at hl 1 rfl) ?_
  refine lv_bipush (v := 26) hx hb dX9_does_21 (by decide) ?_
  refine lv_icmp_gt (tgt := 34) hx hb dX9_does_23 (by decide) (fun _ => ?_) (fun c_ => absurd (by decide) c_)
  refine lv_iload_n hx hb dX9_does_34 rfl (lv_at hl 1 rfl) ?_
  refine lv_bipush (v := 30) hx hb dX9_does_35 (by decide) ?_
  refine lv_icmp_gt (tgt := 48) hx hb dX9_does_37 (by decide) (fun _ => ?_) (fun c_ => absurd (by decide) c_)
  refine lv_iload_n hx hb dX9_does_48 rfl (lv_at hl 1 rfl) ?_
  refine lv_bipush (v := 38) hx hb dX9_does_49 (by decide) ?_
  refine lv_icmp_gt (tgt := 62) hx hb dX9_does_51 (by decide) (fun c_ => absurd c_ (by decide)) (fun _ => ?_)
  refine lv_aload_n hx hb dX9_does_54 rfl (lv_at hl 0 rfl) ?_
  refine lv_iload_n hx hb dX9_does_55 rfl (lv_at hl 1 rfl) ?_
  refine r_kv hw (r_runV (rest := []) hC hw 0 (c_X9_doesThing_31 (ad := ad) l _ hs hW hy hN hc hm hT) rk9 (wMl 0 (by decide)) wM0 1 gX9_does_X9_doesThing rfl rfl rfl (by decide +kernel) ⟨Nat.le_of_ble_eq_true rfl, Nat.le_of_ble_eq_true rfl⟩ rfl hl.1 rfl (Nat.le_of_ble_eq_true rfl) dX9_does_56 ⟨Nat.le_of_ble_eq_true rfl, Nat.le_of_ble_eq_true rfl⟩) (fun u_3 H locs h_1 hw => ?_)
  subst h_1
  dsimp only at hw
  refine lv_goto (tgt := 115) hx hb dX9_does_59 (by decide) ?_
  exact r_vret hC hr hlk hw (act κ (t 4) (t 5) 31 (t 0) (t 1) (t 2), t) rfl (congrArg (Prod.mk _) (upt t 3).symm) (Nat.le_of_ble_eq_true rfl) (Nat.le_of_ble_eq_true rfl) dX9_does_115

set_option maxHeartbeats 4000000 in
set_option maxRecDepth 100000 in
theorem c_X9_does_32 (l : Launch) {D : va_G} {q : Nat → ClassId} {ad : Nat → Nat} {κ : KS} {t : Nat → Int32} (sz : Nat) (hs : okStep 32 (t 0) (t 1) (t 2)) (hW : WFm κ) (hy : why κ 32 (t 0) (t 1) (t 2) = 0) (hN : nnOp κ 32 (t 0) (t 1) (t 2)) (hc : vp_in (sI κ 6) 13) (hm : vp_in (sI κ 2) 61) (hT : ¬ sI κ 7 < 0) : Met l yX9_does wsX9_does (rmz 3 67) (va_Pc [.ref (ad 0), .int 32] (rPre D q (wM q ad κ t) sz)) (va_Qv (fun (u : KS × (Nat → Int32)) => u = (act κ (t 4) (t 5) 32 (t 0) (t 1) (t 2), va_up t 3 (nxt κ 32 (t 0) (t 1) (t 3)))) (fun (u : KS × (Nat → Int32)) tt => rPo D (rA (wM q ad κ t) sz) (wM q ad u.1 u.2) tt) (rA (wM q ad κ t) sz)) 0 0 (rA (wM q ad κ t) sz) := by
  refine r_start (cc := cX9_does) (maxL := 2) (ret := none) (by decide) rfl (Nat.le_of_ble_eq_true rfl) ?_
  intro p e s m below meth c ls hC hr hlk hnm hsz hw hl
  have hx := hC.1
  have hb := hC.2.1
  have hl : lv_has ls 2 [(0, .ref (ad 0)), (1, .int 32)] := hl
  refine lv_iload_n hx hb dX9_does_0 rfl (lv_at hl 1 rfl) ?_
  refine lv_bipush (v := 14) hx hb dX9_does_1 (by decide) ?_
  refine lv_icmp_le (tgt := 12) hx hb dX9_does_3 (by decide) (fun c_ => absurd c_ (by decide)) (fun _ => ?_)
  refine lv_iload_n hx hb dX9_does_6 rfl (lv_at hl 1 rfl) ?_
  refine lv_bipush (v := 25) hx hb dX9_does_7 (by decide) ?_
  refine lv_icmp_ne (tgt := 20) hx hb dX9_does_9 (by decide) (fun _ => ?_) (fun c_ => absurd c_ (by decide))
  refine lv_iload_n hx hb dX9_does_20 rfl (lv_at hl 1 rfl) ?_
  refine lv_bipush (v := 26) hx hb dX9_does_21 (by decide) ?_
  refine lv_icmp_gt (tgt := 34) hx hb dX9_does_23 (by decide) (fun _ => ?_) (fun c_ => absurd (by decide) c_)
  refine lv_iload_n hx hb dX9_does_34 rfl (lv_at hl 1 rfl) ?_
  refine lv_bipush (v := 30) hx hb dX9_does_35 (by decide) ?_
  refine lv_icmp_gt (tgt := 48) hx hb dX9_does_37 (by decide) (fun _ => ?_) (fun c_ => absurd (by decide) c_)
  refine lv_iload_n hx hb dX9_does_48 rfl (lv_at hl 1 rfl) ?_
  refine lv_bipush (v := 38) hx hb dX9_does_49 (by decide) ?_
  refine lv_icmp_gt (tgt := 62) hx hb dX9_does_51 (by decide) (fun c_ => absurd c_ (by decide)) (fun _ => ?_)
  refine lv_aload_n hx hb dX9_does_54 rfl (lv_at hl 0 rfl) ?_
  refine lv_iload_n hx hb dX9_does_55 rfl (lv_at hl 1 rfl) ?_
  refine r_kv hw (r_runV (rest := []) hC hw 0 (c_X9_doesThing_32 (ad := ad) l _ hs hW hy hN hc hm hT) rk9 (wMl 0 (by decide)) wM0 1 gX9_does_X9_doesThing rfl rfl rfl (by decide +kernel) ⟨Nat.le_of_ble_eq_true rfl, Nat.le_of_ble_eq_true rfl⟩ rfl hl.1 rfl (Nat.le_of_ble_eq_true rfl) dX9_does_56 ⟨Nat.le_of_ble_eq_true rfl, Nat.le_of_ble_eq_true rfl⟩) (fun u_3 H locs h_1 hw => ?_)
  subst h_1
  dsimp only at hw
  refine lv_goto (tgt := 115) hx hb dX9_does_59 (by decide) ?_
  exact r_vret hC hr hlk hw (act κ (t 4) (t 5) 32 (t 0) (t 1) (t 2), t) rfl (congrArg (Prod.mk _) (upt t 3).symm) (Nat.le_of_ble_eq_true rfl) (Nat.le_of_ble_eq_true rfl) dX9_does_115

set_option maxHeartbeats 4000000 in
set_option maxRecDepth 100000 in
theorem c_X9_does_33 (l : Launch) {D : va_G} {q : Nat → ClassId} {ad : Nat → Nat} {κ : KS} {t : Nat → Int32} (sz : Nat) (hs : okStep 33 (t 0) (t 1) (t 2)) (hW : WFm κ) (hy : why κ 33 (t 0) (t 1) (t 2) = 0) (hN : nnOp κ 33 (t 0) (t 1) (t 2)) (hc : vp_in (sI κ 6) 13) (hm : vp_in (sI κ 2) 61) (hT : ¬ sI κ 7 < 0) : Met l yX9_does wsX9_does (rmz 3 67) (va_Pc [.ref (ad 0), .int 33] (rPre D q (wM q ad κ t) sz)) (va_Qv (fun (u : KS × (Nat → Int32)) => u = (act κ (t 4) (t 5) 33 (t 0) (t 1) (t 2), va_up t 3 (nxt κ 33 (t 0) (t 1) (t 3)))) (fun (u : KS × (Nat → Int32)) tt => rPo D (rA (wM q ad κ t) sz) (wM q ad u.1 u.2) tt) (rA (wM q ad κ t) sz)) 0 0 (rA (wM q ad κ t) sz) := by
  refine r_start (cc := cX9_does) (maxL := 2) (ret := none) (by decide) rfl (Nat.le_of_ble_eq_true rfl) ?_
  intro p e s m below meth c ls hC hr hlk hnm hsz hw hl
  have hx := hC.1
  have hb := hC.2.1
  have hl : lv_has ls 2 [(0, .ref (ad 0)), (1, .int 33)] := hl
  refine lv_iload_n hx hb dX9_does_0 rfl (lv_at hl 1 rfl) ?_
  refine lv_bipush (v := 14) hx hb dX9_does_1 (by decide) ?_
  refine lv_icmp_le (tgt := 12) hx hb dX9_does_3 (by decide) (fun c_ => absurd c_ (by decide)) (fun _ => ?_)
  refine lv_iload_n hx hb dX9_does_6 rfl (lv_at hl 1 rfl) ?_
  refine lv_bipush (v := 25) hx hb dX9_does_7 (by decide) ?_
  refine lv_icmp_ne (tgt := 20) hx hb dX9_does_9 (by decide) (fun _ => ?_) (fun c_ => absurd c_ (by decide))
  refine lv_iload_n hx hb dX9_does_20 rfl (lv_at hl 1 rfl) ?_
  refine lv_bipush (v := 26) hx hb dX9_does_21 (by decide) ?_
  refine lv_icmp_gt (tgt := 34) hx hb dX9_does_23 (by decide) (fun _ => ?_) (fun c_ => absurd (by decide) c_)
  refine lv_iload_n hx hb dX9_does_34 rfl (lv_at hl 1 rfl) ?_
  refine lv_bipush (v := 30) hx hb dX9_does_35 (by decide) ?_
  refine lv_icmp_gt (tgt := 48) hx hb dX9_does_37 (by decide) (fun _ => ?_) (fun c_ => absurd (by decide) c_)
  refine lv_iload_n hx hb dX9_does_48 rfl (lv_at hl 1 rfl) ?_
  refine lv_bipush (v := 38) hx hb dX9_does_49 (by decide) ?_
  refine lv_icmp_gt (tgt := 62) hx hb dX9_does_51 (by decide) (fun c_ => absurd c_ (by decide)) (fun _ => ?_)
  refine lv_aload_n hx hb dX9_does_54 rfl (lv_at hl 0 rfl) ?_
  refine lv_iload_n hx hb dX9_does_55 rfl (lv_at hl 1 rfl) ?_
  refine r_kv hw (r_runV (rest := []) hC hw 0 (c_X9_doesThing_33 (ad := ad) l _ hs hW hy hN hc hm hT) rk9 (wMl 0 (by decide)) wM0 1 gX9_does_X9_doesThing rfl rfl rfl (by decide +kernel) ⟨Nat.le_of_ble_eq_true rfl, Nat.le_of_ble_eq_true rfl⟩ rfl hl.1 rfl (Nat.le_of_ble_eq_true rfl) dX9_does_56 ⟨Nat.le_of_ble_eq_true rfl, Nat.le_of_ble_eq_true rfl⟩) (fun u_3 H locs h_1 hw => ?_)
  subst h_1
  dsimp only at hw
  refine lv_goto (tgt := 115) hx hb dX9_does_59 (by decide) ?_
  exact r_vret hC hr hlk hw (act κ (t 4) (t 5) 33 (t 0) (t 1) (t 2), t) rfl (congrArg (Prod.mk _) (upt t 3).symm) (Nat.le_of_ble_eq_true rfl) (Nat.le_of_ble_eq_true rfl) dX9_does_115

set_option maxHeartbeats 4000000 in
set_option maxRecDepth 100000 in
theorem c_X9_does_34 (l : Launch) {D : va_G} {q : Nat → ClassId} {ad : Nat → Nat} {κ : KS} {t : Nat → Int32} (sz : Nat) (hs : okStep 34 (t 0) (t 1) (t 2)) (hW : WFm κ) (hy : why κ 34 (t 0) (t 1) (t 2) = 0) (hN : nnOp κ 34 (t 0) (t 1) (t 2)) (hc : vp_in (sI κ 6) 13) (hm : vp_in (sI κ 2) 61) (hT : ¬ sI κ 7 < 0) : Met l yX9_does wsX9_does (rmz 3 67) (va_Pc [.ref (ad 0), .int 34] (rPre D q (wM q ad κ t) sz)) (va_Qv (fun (u : KS × (Nat → Int32)) => u = (act κ (t 4) (t 5) 34 (t 0) (t 1) (t 2), va_up t 3 (nxt κ 34 (t 0) (t 1) (t 3)))) (fun (u : KS × (Nat → Int32)) tt => rPo D (rA (wM q ad κ t) sz) (wM q ad u.1 u.2) tt) (rA (wM q ad κ t) sz)) 0 0 (rA (wM q ad κ t) sz) := by
  refine r_start (cc := cX9_does) (maxL := 2) (ret := none) (by decide) rfl (Nat.le_of_ble_eq_true rfl) ?_
  intro p e s m below meth c ls hC hr hlk hnm hsz hw hl
  have hx := hC.1
  have hb := hC.2.1
  have hl : lv_has ls 2 [(0, .ref (ad 0)), (1, .int 34)] := hl
  refine lv_iload_n hx hb dX9_does_0 rfl (lv_at hl 1 rfl) ?_
  refine lv_bipush (v := 14) hx hb dX9_does_1 (by decide) ?_
  refine lv_icmp_le (tgt := 12) hx hb dX9_does_3 (by decide) (fun c_ => absurd c_ (by decide)) (fun _ => ?_)
  refine lv_iload_n hx hb dX9_does_6 rfl (lv_at hl 1 rfl) ?_
  refine lv_bipush (v := 25) hx hb dX9_does_7 (by decide) ?_
  refine lv_icmp_ne (tgt := 20) hx hb dX9_does_9 (by decide) (fun _ => ?_) (fun c_ => absurd c_ (by decide))
  refine lv_iload_n hx hb dX9_does_20 rfl (lv_at hl 1 rfl) ?_
  refine lv_bipush (v := 26) hx hb dX9_does_21 (by decide) ?_
  refine lv_icmp_gt (tgt := 34) hx hb dX9_does_23 (by decide) (fun _ => ?_) (fun c_ => absurd (by decide) c_)
  refine lv_iload_n hx hb dX9_does_34 rfl (lv_at hl 1 rfl) ?_
  refine lv_bipush (v := 30) hx hb dX9_does_35 (by decide) ?_
  refine lv_icmp_gt (tgt := 48) hx hb dX9_does_37 (by decide) (fun _ => ?_) (fun c_ => absurd (by decide) c_)
  refine lv_iload_n hx hb dX9_does_48 rfl (lv_at hl 1 rfl) ?_
  refine lv_bipush (v := 38) hx hb dX9_does_49 (by decide) ?_
  refine lv_icmp_gt (tgt := 62) hx hb dX9_does_51 (by decide) (fun c_ => absurd c_ (by decide)) (fun _ => ?_)
  refine lv_aload_n hx hb dX9_does_54 rfl (lv_at hl 0 rfl) ?_
  refine lv_iload_n hx hb dX9_does_55 rfl (lv_at hl 1 rfl) ?_
  refine r_kv hw (r_runV (rest := []) hC hw 0 (c_X9_doesThing_34 (ad := ad) l _ hs hW hy hN hc hm hT) rk9 (wMl 0 (by decide)) wM0 1 gX9_does_X9_doesThing rfl rfl rfl (by decide +kernel) ⟨Nat.le_of_ble_eq_true rfl, Nat.le_of_ble_eq_true rfl⟩ rfl hl.1 rfl (Nat.le_of_ble_eq_true rfl) dX9_does_56 ⟨Nat.le_of_ble_eq_true rfl, Nat.le_of_ble_eq_true rfl⟩) (fun u_3 H locs h_1 hw => ?_)
  subst h_1
  dsimp only at hw
  refine lv_goto (tgt := 115) hx hb dX9_does_59 (by decide) ?_
  exact r_vret hC hr hlk hw (act κ (t 4) (t 5) 34 (t 0) (t 1) (t 2), t) rfl (congrArg (Prod.mk _) (upt t 3).symm) (Nat.le_of_ble_eq_true rfl) (Nat.le_of_ble_eq_true rfl) dX9_does_115

set_option maxHeartbeats 4000000 in
set_option maxRecDepth 100000 in
theorem c_X9_does_35 (l : Launch) {D : va_G} {q : Nat → ClassId} {ad : Nat → Nat} {κ : KS} {t : Nat → Int32} (sz : Nat) (hs : okStep 35 (t 0) (t 1) (t 2)) (hW : WFm κ) (hy : why κ 35 (t 0) (t 1) (t 2) = 0) (hN : nnOp κ 35 (t 0) (t 1) (t 2)) (hc : vp_in (sI κ 6) 13) (hm : vp_in (sI κ 2) 61) (hT : ¬ sI κ 7 < 0) : Met l yX9_does wsX9_does (rmz 3 67) (va_Pc [.ref (ad 0), .int 35] (rPre D q (wM q ad κ t) sz)) (va_Qv (fun (u : KS × (Nat → Int32)) => u = (act κ (t 4) (t 5) 35 (t 0) (t 1) (t 2), va_up t 3 (nxt κ 35 (t 0) (t 1) (t 3)))) (fun (u : KS × (Nat → Int32)) tt => rPo D (rA (wM q ad κ t) sz) (wM q ad u.1 u.2) tt) (rA (wM q ad κ t) sz)) 0 0 (rA (wM q ad κ t) sz) := by
  refine r_start (cc := cX9_does) (maxL := 2) (ret := none) (by decide) rfl (Nat.le_of_ble_eq_true rfl) ?_
  intro p e s m below meth c ls hC hr hlk hnm hsz hw hl
  have hx := hC.1
  have hb := hC.2.1
  have hl : lv_has ls 2 [(0, .ref (ad 0)), (1, .int 35)] := hl
  refine lv_iload_n hx hb dX9_does_0 rfl (lv_at hl 1 rfl) ?_
  refine lv_bipush (v := 14) hx hb dX9_does_1 (by decide) ?_
  refine lv_icmp_le (tgt := 12) hx hb dX9_does_3 (by decide) (fun c_ => absurd c_ (by decide)) (fun _ => ?_)
  refine lv_iload_n hx hb dX9_does_6 rfl (lv_at hl 1 rfl) ?_
  refine lv_bipush (v := 25) hx hb dX9_does_7 (by decide) ?_
  refine lv_icmp_ne (tgt := 20) hx hb dX9_does_9 (by decide) (fun _ => ?_) (fun c_ => absurd c_ (by decide))
  refine lv_iload_n hx hb dX9_does_20 rfl (lv_at hl 1 rfl) ?_
  refine lv_bipush (v := 26) hx hb dX9_does_21 (by decide) ?_
  refine lv_icmp_gt (tgt := 34) hx hb dX9_does_23 (by decide) (fun _ => ?_) (fun c_ => absurd (by decide) c_)
  refine lv_iload_n hx hb dX9_does_34 rfl (lv_at hl 1 rfl) ?_
  refine lv_bipush (v := 30) hx hb dX9_does_35 (by decide) ?_
  refine lv_icmp_gt (tgt := 48) hx hb dX9_does_37 (by decide) (fun _ => ?_) (fun c_ => absurd (by decide) c_)
  refine lv_iload_n hx hb dX9_does_48 rfl (lv_at hl 1 rfl) ?_
  refine lv_bipush (v := 38) hx hb dX9_does_49 (by decide) ?_
  refine lv_icmp_gt (tgt := 62) hx hb dX9_does_51 (by decide) (fun c_ => absurd c_ (by decide)) (fun _ => ?_)
  refine lv_aload_n hx hb dX9_does_54 rfl (lv_at hl 0 rfl) ?_
  refine lv_iload_n hx hb dX9_does_55 rfl (lv_at hl 1 rfl) ?_
  refine r_kv hw (r_runV (rest := []) hC hw 0 (c_X9_doesThing_35 (ad := ad) l _ hs hW hy hN hc hm hT) rk9 (wMl 0 (by decide)) wM0 1 gX9_does_X9_doesThing rfl rfl rfl (by decide +kernel) ⟨Nat.le_of_ble_eq_true rfl, Nat.le_of_ble_eq_true rfl⟩ rfl hl.1 rfl (Nat.le_of_ble_eq_true rfl) dX9_does_56 ⟨Nat.le_of_ble_eq_true rfl, Nat.le_of_ble_eq_true rfl⟩) (fun u_3 H locs h_1 hw => ?_)
  subst h_1
  dsimp only at hw
  refine lv_goto (tgt := 115) hx hb dX9_does_59 (by decide) ?_
  exact r_vret hC hr hlk hw (act κ (t 4) (t 5) 35 (t 0) (t 1) (t 2), t) rfl (congrArg (Prod.mk _) (upt t 3).symm) (Nat.le_of_ble_eq_true rfl) (Nat.le_of_ble_eq_true rfl) dX9_does_115

set_option maxHeartbeats 4000000 in
set_option maxRecDepth 100000 in
theorem c_X9_does_36 (l : Launch) {D : va_G} {q : Nat → ClassId} {ad : Nat → Nat} {κ : KS} {t : Nat → Int32} (sz : Nat) (hs : okStep 36 (t 0) (t 1) (t 2)) (hW : WFm κ) (hy : why κ 36 (t 0) (t 1) (t 2) = 0) (hN : nnOp κ 36 (t 0) (t 1) (t 2)) (hc : vp_in (sI κ 6) 13) (hm : vp_in (sI κ 2) 61) (hT : ¬ sI κ 7 < 0) : Met l yX9_does wsX9_does (rmz 3 67) (va_Pc [.ref (ad 0), .int 36] (rPre D q (wM q ad κ t) sz)) (va_Qv (fun (u : KS × (Nat → Int32)) => u = (act κ (t 4) (t 5) 36 (t 0) (t 1) (t 2), va_up t 3 (nxt κ 36 (t 0) (t 1) (t 3)))) (fun (u : KS × (Nat → Int32)) tt => rPo D (rA (wM q ad κ t) sz) (wM q ad u.1 u.2) tt) (rA (wM q ad κ t) sz)) 0 0 (rA (wM q ad κ t) sz) := by
  refine r_start (cc := cX9_does) (maxL := 2) (ret := none) (by decide) rfl (Nat.le_of_ble_eq_true rfl) ?_
  intro p e s m below meth c ls hC hr hlk hnm hsz hw hl
  have hx := hC.1
  have hb := hC.2.1
  have hl : lv_has ls 2 [(0, .ref (ad 0)), (1, .int 36)] := hl
  refine lv_iload_n hx hb dX9_does_0 rfl (lv_at hl 1 rfl) ?_
  refine lv_bipush (v := 14) hx hb dX9_does_1 (by decide) ?_
  refine lv_icmp_le (tgt := 12) hx hb dX9_does_3 (by decide) (fun c_ => absurd c_ (by decide)) (fun _ => ?_)
  refine lv_iload_n hx hb dX9_does_6 rfl (lv_at hl 1 rfl) ?_
  refine lv_bipush (v := 25) hx hb dX9_does_7 (by decide) ?_
  refine lv_icmp_ne (tgt := 20) hx hb dX9_does_9 (by decide) (fun _ => ?_) (fun c_ => absurd c_ (by decide))
  refine lv_iload_n hx hb dX9_does_20 rfl (lv_at hl 1 rfl) ?_
  refine lv_bipush (v := 26) hx hb dX9_does_21 (by decide) ?_
  refine lv_icmp_gt (tgt := 34) hx hb dX9_does_23 (by decide) (fun _ => ?_) (fun c_ => absurd (by decide) c_)
  refine lv_iload_n hx hb dX9_does_34 rfl (lv_at hl 1 rfl) ?_
  refine lv_bipush (v := 30) hx hb dX9_does_35 (by decide) ?_
  refine lv_icmp_gt (tgt := 48) hx hb dX9_does_37 (by decide) (fun _ => ?_) (fun c_ => absurd (by decide) c_)
  refine lv_iload_n hx hb dX9_does_48 rfl (lv_at hl 1 rfl) ?_
  refine lv_bipush (v := 38) hx hb dX9_does_49 (by decide) ?_
  refine lv_icmp_gt (tgt := 62) hx hb dX9_does_51 (by decide) (fun c_ => absurd c_ (by decide)) (fun _ => ?_)
  refine lv_aload_n hx hb dX9_does_54 rfl (lv_at hl 0 rfl) ?_
  refine lv_iload_n hx hb dX9_does_55 rfl (lv_at hl 1 rfl) ?_
  refine r_kv hw (r_runV (rest := []) hC hw 0 (c_X9_doesThing_36 (ad := ad) l _ hs hW hy hN hc hm hT) rk9 (wMl 0 (by decide)) wM0 1 gX9_does_X9_doesThing rfl rfl rfl (by decide +kernel) ⟨Nat.le_of_ble_eq_true rfl, Nat.le_of_ble_eq_true rfl⟩ rfl hl.1 rfl (Nat.le_of_ble_eq_true rfl) dX9_does_56 ⟨Nat.le_of_ble_eq_true rfl, Nat.le_of_ble_eq_true rfl⟩) (fun u_3 H locs h_1 hw => ?_)
  subst h_1
  dsimp only at hw
  refine lv_goto (tgt := 115) hx hb dX9_does_59 (by decide) ?_
  exact r_vret hC hr hlk hw (act κ (t 4) (t 5) 36 (t 0) (t 1) (t 2), t) rfl (congrArg (Prod.mk _) (upt t 3).symm) (Nat.le_of_ble_eq_true rfl) (Nat.le_of_ble_eq_true rfl) dX9_does_115

set_option maxHeartbeats 4000000 in
set_option maxRecDepth 100000 in
theorem c_X9_does_37 (l : Launch) {D : va_G} {q : Nat → ClassId} {ad : Nat → Nat} {κ : KS} {t : Nat → Int32} (sz : Nat) (hs : okStep 37 (t 0) (t 1) (t 2)) (hW : WFm κ) (hy : why κ 37 (t 0) (t 1) (t 2) = 0) (hN : nnOp κ 37 (t 0) (t 1) (t 2)) (hc : vp_in (sI κ 6) 13) (hm : vp_in (sI κ 2) 61) (hT : ¬ sI κ 7 < 0) : Met l yX9_does wsX9_does (rmz 3 67) (va_Pc [.ref (ad 0), .int 37] (rPre D q (wM q ad κ t) sz)) (va_Qv (fun (u : KS × (Nat → Int32)) => u = (act κ (t 4) (t 5) 37 (t 0) (t 1) (t 2), va_up t 3 (nxt κ 37 (t 0) (t 1) (t 3)))) (fun (u : KS × (Nat → Int32)) tt => rPo D (rA (wM q ad κ t) sz) (wM q ad u.1 u.2) tt) (rA (wM q ad κ t) sz)) 0 0 (rA (wM q ad κ t) sz) := by
  refine r_start (cc := cX9_does) (maxL := 2) (ret := none) (by decide) rfl (Nat.le_of_ble_eq_true rfl) ?_
  intro p e s m below meth c ls hC hr hlk hnm hsz hw hl
  have hx := hC.1
  have hb := hC.2.1
  have hl : lv_has ls 2 [(0, .ref (ad 0)), (1, .int 37)] := hl
  refine lv_iload_n hx hb dX9_does_0 rfl (lv_at hl 1 rfl) ?_
  refine lv_bipush (v := 14) hx hb dX9_does_1 (by decide) ?_
  refine lv_icmp_le (tgt := 12) hx hb dX9_does_3 (by decide) (fun c_ => absurd c_ (by decide)) (fun _ => ?_)
  refine lv_iload_n hx hb dX9_does_6 rfl (lv_at hl 1 rfl) ?_
  refine lv_bipush (v := 25) hx hb dX9_does_7 (by decide) ?_
  refine lv_icmp_ne (tgt := 20) hx hb dX9_does_9 (by decide) (fun _ => ?_) (fun c_ => absurd c_ (by decide))
  refine lv_iload_n hx hb dX9_does_20 rfl (lv_at hl 1 rfl) ?_
  refine lv_bipush (v := 26) hx hb dX9_does_21 (by decide) ?_
  refine lv_icmp_gt (tgt := 34) hx hb dX9_does_23 (by decide) (fun _ => ?_) (fun c_ => absurd (by decide) c_)
  refine lv_iload_n hx hb dX9_does_34 rfl (lv_at hl 1 rfl) ?_
  refine lv_bipush (v := 30) hx hb dX9_does_35 (by decide) ?_
  refine lv_icmp_gt (tgt := 48) hx hb dX9_does_37 (by decide) (fun _ => ?_) (fun c_ => absurd (by decide) c_)
  refine lv_iload_n hx hb dX9_does_48 rfl (lv_at hl 1 rfl) ?_
  refine lv_bipush (v := 38) hx hb dX9_does_49 (by decide) ?_
  refine lv_icmp_gt (tgt := 62) hx hb dX9_does_51 (by decide) (fun c_ => absurd c_ (by decide)) (fun _ => ?_)
  refine lv_aload_n hx hb dX9_does_54 rfl (lv_at hl 0 rfl) ?_
  refine lv_iload_n hx hb dX9_does_55 rfl (lv_at hl 1 rfl) ?_
  refine r_kv hw (r_runV (rest := []) hC hw 0 (c_X9_doesThing_37 (ad := ad) l _ hs hW hy hN hc hm hT) rk9 (wMl 0 (by decide)) wM0 1 gX9_does_X9_doesThing rfl rfl rfl (by decide +kernel) ⟨Nat.le_of_ble_eq_true rfl, Nat.le_of_ble_eq_true rfl⟩ rfl hl.1 rfl (Nat.le_of_ble_eq_true rfl) dX9_does_56 ⟨Nat.le_of_ble_eq_true rfl, Nat.le_of_ble_eq_true rfl⟩) (fun u_3 H locs h_1 hw => ?_)
  subst h_1
  dsimp only at hw
  refine lv_goto (tgt := 115) hx hb dX9_does_59 (by decide) ?_
  exact r_vret hC hr hlk hw (act κ (t 4) (t 5) 37 (t 0) (t 1) (t 2), t) rfl (congrArg (Prod.mk _) (upt t 3).symm) (Nat.le_of_ble_eq_true rfl) (Nat.le_of_ble_eq_true rfl) dX9_does_115

set_option maxHeartbeats 4000000 in
set_option maxRecDepth 100000 in
theorem c_X9_does_38 (l : Launch) {D : va_G} {q : Nat → ClassId} {ad : Nat → Nat} {κ : KS} {t : Nat → Int32} (sz : Nat) (hs : okStep 38 (t 0) (t 1) (t 2)) (hW : WFm κ) (hy : why κ 38 (t 0) (t 1) (t 2) = 0) (hN : nnOp κ 38 (t 0) (t 1) (t 2)) (hc : vp_in (sI κ 6) 13) (hm : vp_in (sI κ 2) 61) (hT : ¬ sI κ 7 < 0) : Met l yX9_does wsX9_does (rmz 3 67) (va_Pc [.ref (ad 0), .int 38] (rPre D q (wM q ad κ t) sz)) (va_Qv (fun (u : KS × (Nat → Int32)) => u = (act κ (t 4) (t 5) 38 (t 0) (t 1) (t 2), va_up t 3 (nxt κ 38 (t 0) (t 1) (t 3)))) (fun (u : KS × (Nat → Int32)) tt => rPo D (rA (wM q ad κ t) sz) (wM q ad u.1 u.2) tt) (rA (wM q ad κ t) sz)) 0 0 (rA (wM q ad κ t) sz) := by
  refine r_start (cc := cX9_does) (maxL := 2) (ret := none) (by decide) rfl (Nat.le_of_ble_eq_true rfl) ?_
  intro p e s m below meth c ls hC hr hlk hnm hsz hw hl
  have hx := hC.1
  have hb := hC.2.1
  have hl : lv_has ls 2 [(0, .ref (ad 0)), (1, .int 38)] := hl
  refine lv_iload_n hx hb dX9_does_0 rfl (lv_at hl 1 rfl) ?_
  refine lv_bipush (v := 14) hx hb dX9_does_1 (by decide) ?_
  refine lv_icmp_le (tgt := 12) hx hb dX9_does_3 (by decide) (fun c_ => absurd c_ (by decide)) (fun _ => ?_)
  refine lv_iload_n hx hb dX9_does_6 rfl (lv_at hl 1 rfl) ?_
  refine lv_bipush (v := 25) hx hb dX9_does_7 (by decide) ?_
  refine lv_icmp_ne (tgt := 20) hx hb dX9_does_9 (by decide) (fun _ => ?_) (fun c_ => absurd c_ (by decide))
  refine lv_iload_n hx hb dX9_does_20 rfl (lv_at hl 1 rfl) ?_
  refine lv_bipush (v := 26) hx hb dX9_does_21 (by decide) ?_
  refine lv_icmp_gt (tgt := 34) hx hb dX9_does_23 (by decide) (fun _ => ?_) (fun c_ => absurd (by decide) c_)
  refine lv_iload_n hx hb dX9_does_34 rfl (lv_at hl 1 rfl) ?_
  refine lv_bipush (v := 30) hx hb dX9_does_35 (by decide) ?_
  refine lv_icmp_gt (tgt := 48) hx hb dX9_does_37 (by decide) (fun _ => ?_) (fun c_ => absurd (by decide) c_)
  refine lv_iload_n hx hb dX9_does_48 rfl (lv_at hl 1 rfl) ?_
  refine lv_bipush (v := 38) hx hb dX9_does_49 (by decide) ?_
  refine lv_icmp_gt (tgt := 62) hx hb dX9_does_51 (by decide) (fun c_ => absurd c_ (by decide)) (fun _ => ?_)
  refine lv_aload_n hx hb dX9_does_54 rfl (lv_at hl 0 rfl) ?_
  refine lv_iload_n hx hb dX9_does_55 rfl (lv_at hl 1 rfl) ?_
  refine r_kv hw (r_runV (rest := []) hC hw 0 (c_X9_doesThing_38 (ad := ad) l _ hs hW hy hN hc hm hT) rk9 (wMl 0 (by decide)) wM0 1 gX9_does_X9_doesThing rfl rfl rfl (by decide +kernel) ⟨Nat.le_of_ble_eq_true rfl, Nat.le_of_ble_eq_true rfl⟩ rfl hl.1 rfl (Nat.le_of_ble_eq_true rfl) dX9_does_56 ⟨Nat.le_of_ble_eq_true rfl, Nat.le_of_ble_eq_true rfl⟩) (fun u_3 H locs h_1 hw => ?_)
  subst h_1
  dsimp only at hw
  refine lv_goto (tgt := 115) hx hb dX9_does_59 (by decide) ?_
  exact r_vret hC hr hlk hw (act κ (t 4) (t 5) 38 (t 0) (t 1) (t 2), t) rfl (congrArg (Prod.mk _) (upt t 3).symm) (Nat.le_of_ble_eq_true rfl) (Nat.le_of_ble_eq_true rfl) dX9_does_115

set_option maxHeartbeats 4000000 in
set_option maxRecDepth 100000 in
theorem c_X9_does_39 (l : Launch) {D : va_G} {q : Nat → ClassId} {ad : Nat → Nat} {κ : KS} {t : Nat → Int32} (sz : Nat) (hs : okStep 39 (t 0) (t 1) (t 2)) (hW : WFm κ) (hy : why κ 39 (t 0) (t 1) (t 2) = 0) (hN : nnOp κ 39 (t 0) (t 1) (t 2)) (hc : vp_in (sI κ 6) 13) (hm : vp_in (sI κ 2) 61) (hT : ¬ sI κ 7 < 0) : Met l yX9_does wsX9_does (rmz 3 67) (va_Pc [.ref (ad 0), .int 39] (rPre D q (wM q ad κ t) sz)) (va_Qv (fun (u : KS × (Nat → Int32)) => u = (act κ (t 4) (t 5) 39 (t 0) (t 1) (t 2), va_up t 3 (nxt κ 39 (t 0) (t 1) (t 3)))) (fun (u : KS × (Nat → Int32)) tt => rPo D (rA (wM q ad κ t) sz) (wM q ad u.1 u.2) tt) (rA (wM q ad κ t) sz)) 0 0 (rA (wM q ad κ t) sz) := by
  refine r_start (cc := cX9_does) (maxL := 2) (ret := none) (by decide) rfl (Nat.le_of_ble_eq_true rfl) ?_
  intro p e s m below meth c ls hC hr hlk hnm hsz hw hl
  have hx := hC.1
  have hb := hC.2.1
  have hl : lv_has ls 2 [(0, .ref (ad 0)), (1, .int 39)] := hl
  refine lv_iload_n hx hb dX9_does_0 rfl (lv_at hl 1 rfl) ?_
  refine lv_bipush (v := 14) hx hb dX9_does_1 (by decide) ?_
  refine lv_icmp_le (tgt := 12) hx hb dX9_does_3 (by decide) (fun c_ => absurd c_ (by decide)) (fun _ => ?_)
  refine lv_iload_n hx hb dX9_does_6 rfl (lv_at hl 1 rfl) ?_
  refine lv_bipush (v := 25) hx hb dX9_does_7 (by decide) ?_
  refine lv_icmp_ne (tgt := 20) hx hb dX9_does_9 (by decide) (fun _ => ?_) (fun c_ => absurd c_ (by decide))
  refine lv_iload_n hx hb dX9_does_20 rfl (lv_at hl 1 rfl) ?_
  refine lv_bipush (v := 26) hx hb dX9_does_21 (by decide) ?_
  refine lv_icmp_gt (tgt := 34) hx hb dX9_does_23 (by decide) (fun _ => ?_) (fun c_ => absurd (by decide) c_)
  refine lv_iload_n hx hb dX9_does_34 rfl (lv_at hl 1 rfl) ?_
  refine lv_bipush (v := 30) hx hb dX9_does_35 (by decide) ?_
  refine lv_icmp_gt (tgt := 48) hx hb dX9_does_37 (by decide) (fun _ => ?_) (fun c_ => absurd (by decide) c_)
  refine lv_iload_n hx hb dX9_does_48 rfl (lv_at hl 1 rfl) ?_
  refine lv_bipush (v := 38) hx hb dX9_does_49 (by decide) ?_
  refine lv_icmp_gt (tgt := 62) hx hb dX9_does_51 (by decide) (fun _ => ?_) (fun c_ => absurd (by decide) c_)
  refine lv_iload_n hx hb dX9_does_62 rfl (lv_at hl 1 rfl) ?_
  refine lv_bipush (v := 48) hx hb dX9_does_63 (by decide) ?_
  refine lv_icmp_gt (tgt := 79) hx hb dX9_does_65 (by decide) (fun c_ => absurd c_ (by decide)) (fun _ => ?_)
  refine lv_aload_n hx hb dX9_does_68 rfl (lv_at hl 0 rfl) ?_
  refine lv_iload_n hx hb dX9_does_69 rfl (lv_at hl 1 rfl) ?_
  refine lv_bipush (v := 39) hx hb dX9_does_70 (by decide) ?_
  refine lv_isub hx hb dX9_does_72 ?_
  refine r_topi (x := 39 - 39) (y := 0) (by decide) ?_
  refine r_kv hw (r_runV (rest := []) hC hw 0 (c_X9_gets_0 (ad := ad) l _ hs hW hy hN hc hm hT) rk9 (wMl 0 (by decide)) wM0 1 gX9_does_X9_gets rfl rfl rfl (by decide +kernel) ⟨Nat.le_of_ble_eq_true rfl, Nat.le_of_ble_eq_true rfl⟩ rfl hl.1 rfl (Nat.le_of_ble_eq_true rfl) dX9_does_73 ⟨Nat.le_of_ble_eq_true rfl, Nat.le_of_ble_eq_true rfl⟩) (fun u_3 H locs h_1 hw => ?_)
  subst h_1
  dsimp only at hw
  refine lv_goto (tgt := 115) hx hb dX9_does_76 (by decide) ?_
  exact r_vret hC hr hlk hw (act κ (t 4) (t 5) 39 (t 0) (t 1) (t 2), t) rfl (congrArg (Prod.mk _) (upt t 3).symm) (Nat.le_of_ble_eq_true rfl) (Nat.le_of_ble_eq_true rfl) dX9_does_115

set_option maxHeartbeats 4000000 in
set_option maxRecDepth 100000 in
theorem c_X9_does_40 (l : Launch) {D : va_G} {q : Nat → ClassId} {ad : Nat → Nat} {κ : KS} {t : Nat → Int32} (sz : Nat) (hs : okStep 40 (t 0) (t 1) (t 2)) (hW : WFm κ) (hy : why κ 40 (t 0) (t 1) (t 2) = 0) (hN : nnOp κ 40 (t 0) (t 1) (t 2)) (hc : vp_in (sI κ 6) 13) (hm : vp_in (sI κ 2) 61) (hT : ¬ sI κ 7 < 0) : Met l yX9_does wsX9_does (rmz 3 67) (va_Pc [.ref (ad 0), .int 40] (rPre D q (wM q ad κ t) sz)) (va_Qv (fun (u : KS × (Nat → Int32)) => u = (act κ (t 4) (t 5) 40 (t 0) (t 1) (t 2), va_up t 3 (nxt κ 40 (t 0) (t 1) (t 3)))) (fun (u : KS × (Nat → Int32)) tt => rPo D (rA (wM q ad κ t) sz) (wM q ad u.1 u.2) tt) (rA (wM q ad κ t) sz)) 0 0 (rA (wM q ad κ t) sz) := by
  refine r_start (cc := cX9_does) (maxL := 2) (ret := none) (by decide) rfl (Nat.le_of_ble_eq_true rfl) ?_
  intro p e s m below meth c ls hC hr hlk hnm hsz hw hl
  have hx := hC.1
  have hb := hC.2.1
  have hl : lv_has ls 2 [(0, .ref (ad 0)), (1, .int 40)] := hl
  refine lv_iload_n hx hb dX9_does_0 rfl (lv_at hl 1 rfl) ?_
  refine lv_bipush (v := 14) hx hb dX9_does_1 (by decide) ?_
  refine lv_icmp_le (tgt := 12) hx hb dX9_does_3 (by decide) (fun c_ => absurd c_ (by decide)) (fun _ => ?_)
  refine lv_iload_n hx hb dX9_does_6 rfl (lv_at hl 1 rfl) ?_
  refine lv_bipush (v := 25) hx hb dX9_does_7 (by decide) ?_
  refine lv_icmp_ne (tgt := 20) hx hb dX9_does_9 (by decide) (fun _ => ?_) (fun c_ => absurd c_ (by decide))
  refine lv_iload_n hx hb dX9_does_20 rfl (lv_at hl 1 rfl) ?_
  refine lv_bipush (v := 26) hx hb dX9_does_21 (by decide) ?_
  refine lv_icmp_gt (tgt := 34) hx hb dX9_does_23 (by decide) (fun _ => ?_) (fun c_ => absurd (by decide) c_)
  refine lv_iload_n hx hb dX9_does_34 rfl (lv_at hl 1 rfl) ?_
  refine lv_bipush (v := 30) hx hb dX9_does_35 (by decide) ?_
  refine lv_icmp_gt (tgt := 48) hx hb dX9_does_37 (by decide) (fun _ => ?_) (fun c_ => absurd (by decide) c_)
  refine lv_iload_n hx hb dX9_does_48 rfl (lv_at hl 1 rfl) ?_
  refine lv_bipush (v := 38) hx hb dX9_does_49 (by decide) ?_
  refine lv_icmp_gt (tgt := 62) hx hb dX9_does_51 (by decide) (fun _ => ?_) (fun c_ => absurd (by decide) c_)
  refine lv_iload_n hx hb dX9_does_62 rfl (lv_at hl 1 rfl) ?_
  refine lv_bipush (v := 48) hx hb dX9_does_63 (by decide) ?_
  refine lv_icmp_gt (tgt := 79) hx hb dX9_does_65 (by decide) (fun c_ => absurd c_ (by decide)) (fun _ => ?_)
  refine lv_aload_n hx hb dX9_does_68 rfl (lv_at hl 0 rfl) ?_
  refine lv_iload_n hx hb dX9_does_69 rfl (lv_at hl 1 rfl) ?_
  refine lv_bipush (v := 39) hx hb dX9_does_70 (by decide) ?_
  refine lv_isub hx hb dX9_does_72 ?_
  refine r_topi (x := 40 - 39) (y := 1) (by decide) ?_
  refine r_kv hw (r_runV (rest := []) hC hw 0 (c_X9_gets_1 (ad := ad) l _ hs hW hy hN hc hm hT) rk9 (wMl 0 (by decide)) wM0 1 gX9_does_X9_gets rfl rfl rfl (by decide +kernel) ⟨Nat.le_of_ble_eq_true rfl, Nat.le_of_ble_eq_true rfl⟩ rfl hl.1 rfl (Nat.le_of_ble_eq_true rfl) dX9_does_73 ⟨Nat.le_of_ble_eq_true rfl, Nat.le_of_ble_eq_true rfl⟩) (fun u_3 H locs h_1 hw => ?_)
  subst h_1
  dsimp only at hw
  refine lv_goto (tgt := 115) hx hb dX9_does_76 (by decide) ?_
  exact r_vret hC hr hlk hw (act κ (t 4) (t 5) 40 (t 0) (t 1) (t 2), t) rfl (congrArg (Prod.mk _) (upt t 3).symm) (Nat.le_of_ble_eq_true rfl) (Nat.le_of_ble_eq_true rfl) dX9_does_115

set_option maxHeartbeats 4000000 in
set_option maxRecDepth 100000 in
theorem c_X9_does_41 (l : Launch) {D : va_G} {q : Nat → ClassId} {ad : Nat → Nat} {κ : KS} {t : Nat → Int32} (sz : Nat) (hs : okStep 41 (t 0) (t 1) (t 2)) (hW : WFm κ) (hy : why κ 41 (t 0) (t 1) (t 2) = 0) (hN : nnOp κ 41 (t 0) (t 1) (t 2)) (hc : vp_in (sI κ 6) 13) (hm : vp_in (sI κ 2) 61) (hT : ¬ sI κ 7 < 0) : Met l yX9_does wsX9_does (rmz 3 67) (va_Pc [.ref (ad 0), .int 41] (rPre D q (wM q ad κ t) sz)) (va_Qv (fun (u : KS × (Nat → Int32)) => u = (act κ (t 4) (t 5) 41 (t 0) (t 1) (t 2), va_up t 3 (nxt κ 41 (t 0) (t 1) (t 3)))) (fun (u : KS × (Nat → Int32)) tt => rPo D (rA (wM q ad κ t) sz) (wM q ad u.1 u.2) tt) (rA (wM q ad κ t) sz)) 0 0 (rA (wM q ad κ t) sz) := by
  refine r_start (cc := cX9_does) (maxL := 2) (ret := none) (by decide) rfl (Nat.le_of_ble_eq_true rfl) ?_
  intro p e s m below meth c ls hC hr hlk hnm hsz hw hl
  have hx := hC.1
  have hb := hC.2.1
  have hl : lv_has ls 2 [(0, .ref (ad 0)), (1, .int 41)] := hl
  refine lv_iload_n hx hb dX9_does_0 rfl (lv_at hl 1 rfl) ?_
  refine lv_bipush (v := 14) hx hb dX9_does_1 (by decide) ?_
  refine lv_icmp_le (tgt := 12) hx hb dX9_does_3 (by decide) (fun c_ => absurd c_ (by decide)) (fun _ => ?_)
  refine lv_iload_n hx hb dX9_does_6 rfl (lv_at hl 1 rfl) ?_
  refine lv_bipush (v := 25) hx hb dX9_does_7 (by decide) ?_
  refine lv_icmp_ne (tgt := 20) hx hb dX9_does_9 (by decide) (fun _ => ?_) (fun c_ => absurd c_ (by decide))
  refine lv_iload_n hx hb dX9_does_20 rfl (lv_at hl 1 rfl) ?_
  refine lv_bipush (v := 26) hx hb dX9_does_21 (by decide) ?_
  refine lv_icmp_gt (tgt := 34) hx hb dX9_does_23 (by decide) (fun _ => ?_) (fun c_ => absurd (by decide) c_)
  refine lv_iload_n hx hb dX9_does_34 rfl (lv_at hl 1 rfl) ?_
  refine lv_bipush (v := 30) hx hb dX9_does_35 (by decide) ?_
  refine lv_icmp_gt (tgt := 48) hx hb dX9_does_37 (by decide) (fun _ => ?_) (fun c_ => absurd (by decide) c_)
  refine lv_iload_n hx hb dX9_does_48 rfl (lv_at hl 1 rfl) ?_
  refine lv_bipush (v := 38) hx hb dX9_does_49 (by decide) ?_
  refine lv_icmp_gt (tgt := 62) hx hb dX9_does_51 (by decide) (fun _ => ?_) (fun c_ => absurd (by decide) c_)
  refine lv_iload_n hx hb dX9_does_62 rfl (lv_at hl 1 rfl) ?_
  refine lv_bipush (v := 48) hx hb dX9_does_63 (by decide) ?_
  refine lv_icmp_gt (tgt := 79) hx hb dX9_does_65 (by decide) (fun c_ => absurd c_ (by decide)) (fun _ => ?_)
  refine lv_aload_n hx hb dX9_does_68 rfl (lv_at hl 0 rfl) ?_
  refine lv_iload_n hx hb dX9_does_69 rfl (lv_at hl 1 rfl) ?_
  refine lv_bipush (v := 39) hx hb dX9_does_70 (by decide) ?_
  refine lv_isub hx hb dX9_does_72 ?_
  refine r_topi (x := 41 - 39) (y := 2) (by decide) ?_
  refine r_kv hw (r_runV (rest := []) hC hw 0 (c_X9_gets_2 (ad := ad) l _ hs hW hy hN hc hm hT) rk9 (wMl 0 (by decide)) wM0 1 gX9_does_X9_gets rfl rfl rfl (by decide +kernel) ⟨Nat.le_of_ble_eq_true rfl, Nat.le_of_ble_eq_true rfl⟩ rfl hl.1 rfl (Nat.le_of_ble_eq_true rfl) dX9_does_73 ⟨Nat.le_of_ble_eq_true rfl, Nat.le_of_ble_eq_true rfl⟩) (fun u_3 H locs h_1 hw => ?_)
  subst h_1
  dsimp only at hw
  refine lv_goto (tgt := 115) hx hb dX9_does_76 (by decide) ?_
  exact r_vret hC hr hlk hw (act κ (t 4) (t 5) 41 (t 0) (t 1) (t 2), t) rfl (congrArg (Prod.mk _) (upt t 3).symm) (Nat.le_of_ble_eq_true rfl) (Nat.le_of_ble_eq_true rfl) dX9_does_115

set_option maxHeartbeats 4000000 in
set_option maxRecDepth 100000 in
theorem c_X9_does_42 (l : Launch) {D : va_G} {q : Nat → ClassId} {ad : Nat → Nat} {κ : KS} {t : Nat → Int32} (sz : Nat) (hs : okStep 42 (t 0) (t 1) (t 2)) (hW : WFm κ) (hy : why κ 42 (t 0) (t 1) (t 2) = 0) (hN : nnOp κ 42 (t 0) (t 1) (t 2)) (hc : vp_in (sI κ 6) 13) (hm : vp_in (sI κ 2) 61) (hT : ¬ sI κ 7 < 0) : Met l yX9_does wsX9_does (rmz 3 67) (va_Pc [.ref (ad 0), .int 42] (rPre D q (wM q ad κ t) sz)) (va_Qv (fun (u : KS × (Nat → Int32)) => u = (act κ (t 4) (t 5) 42 (t 0) (t 1) (t 2), va_up t 3 (nxt κ 42 (t 0) (t 1) (t 3)))) (fun (u : KS × (Nat → Int32)) tt => rPo D (rA (wM q ad κ t) sz) (wM q ad u.1 u.2) tt) (rA (wM q ad κ t) sz)) 0 0 (rA (wM q ad κ t) sz) := by
  refine r_start (cc := cX9_does) (maxL := 2) (ret := none) (by decide) rfl (Nat.le_of_ble_eq_true rfl) ?_
  intro p e s m below meth c ls hC hr hlk hnm hsz hw hl
  have hx := hC.1
  have hb := hC.2.1
  have hl : lv_has ls 2 [(0, .ref (ad 0)), (1, .int 42)] := hl
  refine lv_iload_n hx hb dX9_does_0 rfl (lv_at hl 1 rfl) ?_
  refine lv_bipush (v := 14) hx hb dX9_does_1 (by decide) ?_
  refine lv_icmp_le (tgt := 12) hx hb dX9_does_3 (by decide) (fun c_ => absurd c_ (by decide)) (fun _ => ?_)
  refine lv_iload_n hx hb dX9_does_6 rfl (lv_at hl 1 rfl) ?_
  refine lv_bipush (v := 25) hx hb dX9_does_7 (by decide) ?_
  refine lv_icmp_ne (tgt := 20) hx hb dX9_does_9 (by decide) (fun _ => ?_) (fun c_ => absurd c_ (by decide))
  refine lv_iload_n hx hb dX9_does_20 rfl (lv_at hl 1 rfl) ?_
  refine lv_bipush (v := 26) hx hb dX9_does_21 (by decide) ?_
  refine lv_icmp_gt (tgt := 34) hx hb dX9_does_23 (by decide) (fun _ => ?_) (fun c_ => absurd (by decide) c_)
  refine lv_iload_n hx hb dX9_does_34 rfl (lv_at hl 1 rfl) ?_
  refine lv_bipush (v := 30) hx hb dX9_does_35 (by decide) ?_
  refine lv_icmp_gt (tgt := 48) hx hb dX9_does_37 (by decide) (fun _ => ?_) (fun c_ => absurd (by decide) c_)
  refine lv_iload_n hx hb dX9_does_48 rfl (lv_at hl 1 rfl) ?_
  refine lv_bipush (v := 38) hx hb dX9_does_49 (by decide) ?_
  refine lv_icmp_gt (tgt := 62) hx hb dX9_does_51 (by decide) (fun _ => ?_) (fun c_ => absurd (by decide) c_)
  refine lv_iload_n hx hb dX9_does_62 rfl (lv_at hl 1 rfl) ?_
  refine lv_bipush (v := 48) hx hb dX9_does_63 (by decide) ?_
  refine lv_icmp_gt (tgt := 79) hx hb dX9_does_65 (by decide) (fun c_ => absurd c_ (by decide)) (fun _ => ?_)
  refine lv_aload_n hx hb dX9_does_68 rfl (lv_at hl 0 rfl) ?_
  refine lv_iload_n hx hb dX9_does_69 rfl (lv_at hl 1 rfl) ?_
  refine lv_bipush (v := 39) hx hb dX9_does_70 (by decide) ?_
  refine lv_isub hx hb dX9_does_72 ?_
  refine r_topi (x := 42 - 39) (y := 3) (by decide) ?_
  refine r_kv hw (r_runV (rest := []) hC hw 0 (c_X9_gets_3 (ad := ad) l _ hs hW hy hN hc hm hT) rk9 (wMl 0 (by decide)) wM0 1 gX9_does_X9_gets rfl rfl rfl (by decide +kernel) ⟨Nat.le_of_ble_eq_true rfl, Nat.le_of_ble_eq_true rfl⟩ rfl hl.1 rfl (Nat.le_of_ble_eq_true rfl) dX9_does_73 ⟨Nat.le_of_ble_eq_true rfl, Nat.le_of_ble_eq_true rfl⟩) (fun u_3 H locs h_1 hw => ?_)
  subst h_1
  dsimp only at hw
  refine lv_goto (tgt := 115) hx hb dX9_does_76 (by decide) ?_
  exact r_vret hC hr hlk hw (act κ (t 4) (t 5) 42 (t 0) (t 1) (t 2), t) rfl (congrArg (Prod.mk _) (upt t 3).symm) (Nat.le_of_ble_eq_true rfl) (Nat.le_of_ble_eq_true rfl) dX9_does_115

set_option maxHeartbeats 4000000 in
set_option maxRecDepth 100000 in
theorem c_X9_does_43 (l : Launch) {D : va_G} {q : Nat → ClassId} {ad : Nat → Nat} {κ : KS} {t : Nat → Int32} (sz : Nat) (hs : okStep 43 (t 0) (t 1) (t 2)) (hW : WFm κ) (hy : why κ 43 (t 0) (t 1) (t 2) = 0) (hN : nnOp κ 43 (t 0) (t 1) (t 2)) (hc : vp_in (sI κ 6) 13) (hm : vp_in (sI κ 2) 61) (hT : ¬ sI κ 7 < 0) : Met l yX9_does wsX9_does (rmz 3 67) (va_Pc [.ref (ad 0), .int 43] (rPre D q (wM q ad κ t) sz)) (va_Qv (fun (u : KS × (Nat → Int32)) => u = (act κ (t 4) (t 5) 43 (t 0) (t 1) (t 2), va_up t 3 (nxt κ 43 (t 0) (t 1) (t 3)))) (fun (u : KS × (Nat → Int32)) tt => rPo D (rA (wM q ad κ t) sz) (wM q ad u.1 u.2) tt) (rA (wM q ad κ t) sz)) 0 0 (rA (wM q ad κ t) sz) := by
  refine r_start (cc := cX9_does) (maxL := 2) (ret := none) (by decide) rfl (Nat.le_of_ble_eq_true rfl) ?_
  intro p e s m below meth c ls hC hr hlk hnm hsz hw hl
  have hx := hC.1
  have hb := hC.2.1
  have hl : lv_has ls 2 [(0, .ref (ad 0)), (1, .int 43)] := hl
  refine lv_iload_n hx hb dX9_does_0 rfl (lv_at hl 1 rfl) ?_
  refine lv_bipush (v := 14) hx hb dX9_does_1 (by decide) ?_
  refine lv_icmp_le (tgt := 12) hx hb dX9_does_3 (by decide) (fun c_ => absurd c_ (by decide)) (fun _ => ?_)
  refine lv_iload_n hx hb dX9_does_6 rfl (lv_at hl 1 rfl) ?_
  refine lv_bipush (v := 25) hx hb dX9_does_7 (by decide) ?_
  refine lv_icmp_ne (tgt := 20) hx hb dX9_does_9 (by decide) (fun _ => ?_) (fun c_ => absurd c_ (by decide))
  refine lv_iload_n hx hb dX9_does_20 rfl (lv_at hl 1 rfl) ?_
  refine lv_bipush (v := 26) hx hb dX9_does_21 (by decide) ?_
  refine lv_icmp_gt (tgt := 34) hx hb dX9_does_23 (by decide) (fun _ => ?_) (fun c_ => absurd (by decide) c_)
  refine lv_iload_n hx hb dX9_does_34 rfl (lv_at hl 1 rfl) ?_
  refine lv_bipush (v := 30) hx hb dX9_does_35 (by decide) ?_
  refine lv_icmp_gt (tgt := 48) hx hb dX9_does_37 (by decide) (fun _ => ?_) (fun c_ => absurd (by decide) c_)
  refine lv_iload_n hx hb dX9_does_48 rfl (lv_at hl 1 rfl) ?_
  refine lv_bipush (v := 38) hx hb dX9_does_49 (by decide) ?_
  refine lv_icmp_gt (tgt := 62) hx hb dX9_does_51 (by decide) (fun _ => ?_) (fun c_ => absurd (by decide) c_)
  refine lv_iload_n hx hb dX9_does_62 rfl (lv_at hl 1 rfl) ?_
  refine lv_bipush (v := 48) hx hb dX9_does_63 (by decide) ?_
  refine lv_icmp_gt (tgt := 79) hx hb dX9_does_65 (by decide) (fun c_ => absurd c_ (by decide)) (fun _ => ?_)
  refine lv_aload_n hx hb dX9_does_68 rfl (lv_at hl 0 rfl) ?_
  refine lv_iload_n hx hb dX9_does_69 rfl (lv_at hl 1 rfl) ?_
  refine lv_bipush (v := 39) hx hb dX9_does_70 (by decide) ?_
  refine lv_isub hx hb dX9_does_72 ?_
  refine r_topi (x := 43 - 39) (y := 4) (by decide) ?_
  refine r_kv hw (r_runV (rest := []) hC hw 0 (c_X9_gets_4 (ad := ad) l _ hs hW hy hN hc hm hT) rk9 (wMl 0 (by decide)) wM0 1 gX9_does_X9_gets rfl rfl rfl (by decide +kernel) ⟨Nat.le_of_ble_eq_true rfl, Nat.le_of_ble_eq_true rfl⟩ rfl hl.1 rfl (Nat.le_of_ble_eq_true rfl) dX9_does_73 ⟨Nat.le_of_ble_eq_true rfl, Nat.le_of_ble_eq_true rfl⟩) (fun u_3 H locs h_1 hw => ?_)
  subst h_1
  dsimp only at hw
  refine lv_goto (tgt := 115) hx hb dX9_does_76 (by decide) ?_
  exact r_vret hC hr hlk hw (act κ (t 4) (t 5) 43 (t 0) (t 1) (t 2), t) rfl (congrArg (Prod.mk _) (upt t 3).symm) (Nat.le_of_ble_eq_true rfl) (Nat.le_of_ble_eq_true rfl) dX9_does_115

set_option maxHeartbeats 4000000 in
set_option maxRecDepth 100000 in
theorem c_X9_does_44 (l : Launch) {D : va_G} {q : Nat → ClassId} {ad : Nat → Nat} {κ : KS} {t : Nat → Int32} (sz : Nat) (hs : okStep 44 (t 0) (t 1) (t 2)) (hW : WFm κ) (hy : why κ 44 (t 0) (t 1) (t 2) = 0) (hN : nnOp κ 44 (t 0) (t 1) (t 2)) (hc : vp_in (sI κ 6) 13) (hm : vp_in (sI κ 2) 61) (hT : ¬ sI κ 7 < 0) : Met l yX9_does wsX9_does (rmz 3 67) (va_Pc [.ref (ad 0), .int 44] (rPre D q (wM q ad κ t) sz)) (va_Qv (fun (u : KS × (Nat → Int32)) => u = (act κ (t 4) (t 5) 44 (t 0) (t 1) (t 2), va_up t 3 (nxt κ 44 (t 0) (t 1) (t 3)))) (fun (u : KS × (Nat → Int32)) tt => rPo D (rA (wM q ad κ t) sz) (wM q ad u.1 u.2) tt) (rA (wM q ad κ t) sz)) 0 0 (rA (wM q ad κ t) sz) := by
  refine r_start (cc := cX9_does) (maxL := 2) (ret := none) (by decide) rfl (Nat.le_of_ble_eq_true rfl) ?_
  intro p e s m below meth c ls hC hr hlk hnm hsz hw hl
  have hx := hC.1
  have hb := hC.2.1
  have hl : lv_has ls 2 [(0, .ref (ad 0)), (1, .int 44)] := hl
  refine lv_iload_n hx hb dX9_does_0 rfl (lv_at hl 1 rfl) ?_
  refine lv_bipush (v := 14) hx hb dX9_does_1 (by decide) ?_
  refine lv_icmp_le (tgt := 12) hx hb dX9_does_3 (by decide) (fun c_ => absurd c_ (by decide)) (fun _ => ?_)
  refine lv_iload_n hx hb dX9_does_6 rfl (lv_at hl 1 rfl) ?_
  refine lv_bipush (v := 25) hx hb dX9_does_7 (by decide) ?_
  refine lv_icmp_ne (tgt := 20) hx hb dX9_does_9 (by decide) (fun _ => ?_) (fun c_ => absurd c_ (by decide))
  refine lv_iload_n hx hb dX9_does_20 rfl (lv_at hl 1 rfl) ?_
  refine lv_bipush (v := 26) hx hb dX9_does_21 (by decide) ?_
  refine lv_icmp_gt (tgt := 34) hx hb dX9_does_23 (by decide) (fun _ => ?_) (fun c_ => absurd (by decide) c_)
  refine lv_iload_n hx hb dX9_does_34 rfl (lv_at hl 1 rfl) ?_
  refine lv_bipush (v := 30) hx hb dX9_does_35 (by decide) ?_
  refine lv_icmp_gt (tgt := 48) hx hb dX9_does_37 (by decide) (fun _ => ?_) (fun c_ => absurd (by decide) c_)
  refine lv_iload_n hx hb dX9_does_48 rfl (lv_at hl 1 rfl) ?_
  refine lv_bipush (v := 38) hx hb dX9_does_49 (by decide) ?_
  refine lv_icmp_gt (tgt := 62) hx hb dX9_does_51 (by decide) (fun _ => ?_) (fun c_ => absurd (by decide) c_)
  refine lv_iload_n hx hb dX9_does_62 rfl (lv_at hl 1 rfl) ?_
  refine lv_bipush (v := 48) hx hb dX9_does_63 (by decide) ?_
  refine lv_icmp_gt (tgt := 79) hx hb dX9_does_65 (by decide) (fun c_ => absurd c_ (by decide)) (fun _ => ?_)
  refine lv_aload_n hx hb dX9_does_68 rfl (lv_at hl 0 rfl) ?_
  refine lv_iload_n hx hb dX9_does_69 rfl (lv_at hl 1 rfl) ?_
  refine lv_bipush (v := 39) hx hb dX9_does_70 (by decide) ?_
  refine lv_isub hx hb dX9_does_72 ?_
  refine r_topi (x := 44 - 39) (y := 5) (by decide) ?_
  refine r_kv hw (r_runV (rest := []) hC hw 0 (c_X9_gets_5 (ad := ad) l _ hs hW hy hN hc hm hT) rk9 (wMl 0 (by decide)) wM0 1 gX9_does_X9_gets rfl rfl rfl (by decide +kernel) ⟨Nat.le_of_ble_eq_true rfl, Nat.le_of_ble_eq_true rfl⟩ rfl hl.1 rfl (Nat.le_of_ble_eq_true rfl) dX9_does_73 ⟨Nat.le_of_ble_eq_true rfl, Nat.le_of_ble_eq_true rfl⟩) (fun u_3 H locs h_1 hw => ?_)
  subst h_1
  dsimp only at hw
  refine lv_goto (tgt := 115) hx hb dX9_does_76 (by decide) ?_
  exact r_vret hC hr hlk hw (act κ (t 4) (t 5) 44 (t 0) (t 1) (t 2), t) rfl (congrArg (Prod.mk _) (upt t 3).symm) (Nat.le_of_ble_eq_true rfl) (Nat.le_of_ble_eq_true rfl) dX9_does_115

set_option maxHeartbeats 4000000 in
set_option maxRecDepth 100000 in
theorem c_X9_does_45 (l : Launch) {D : va_G} {q : Nat → ClassId} {ad : Nat → Nat} {κ : KS} {t : Nat → Int32} (sz : Nat) (hs : okStep 45 (t 0) (t 1) (t 2)) (hW : WFm κ) (hy : why κ 45 (t 0) (t 1) (t 2) = 0) (hN : nnOp κ 45 (t 0) (t 1) (t 2)) (hc : vp_in (sI κ 6) 13) (hm : vp_in (sI κ 2) 61) (hT : ¬ sI κ 7 < 0) : Met l yX9_does wsX9_does (rmz 3 67) (va_Pc [.ref (ad 0), .int 45] (rPre D q (wM q ad κ t) sz)) (va_Qv (fun (u : KS × (Nat → Int32)) => u = (act κ (t 4) (t 5) 45 (t 0) (t 1) (t 2), va_up t 3 (nxt κ 45 (t 0) (t 1) (t 3)))) (fun (u : KS × (Nat → Int32)) tt => rPo D (rA (wM q ad κ t) sz) (wM q ad u.1 u.2) tt) (rA (wM q ad κ t) sz)) 0 0 (rA (wM q ad κ t) sz) := by
  refine r_start (cc := cX9_does) (maxL := 2) (ret := none) (by decide) rfl (Nat.le_of_ble_eq_true rfl) ?_
  intro p e s m below meth c ls hC hr hlk hnm hsz hw hl
  have hx := hC.1
  have hb := hC.2.1
  have hl : lv_has ls 2 [(0, .ref (ad 0)), (1, .int 45)] := hl
  refine lv_iload_n hx hb dX9_does_0 rfl (lv_at hl 1 rfl) ?_
  refine lv_bipush (v := 14) hx hb dX9_does_1 (by decide) ?_
  refine lv_icmp_le (tgt := 12) hx hb dX9_does_3 (by decide) (fun c_ => absurd c_ (by decide)) (fun _ => ?_)
  refine lv_iload_n hx hb dX9_does_6 rfl (lv_at hl 1 rfl) ?_
  refine lv_bipush (v := 25) hx hb dX9_does_7 (by decide) ?_
  refine lv_icmp_ne (tgt := 20) hx hb dX9_does_9 (by decide) (fun _ => ?_) (fun c_ => absurd c_ (by decide))
  refine lv_iload_n hx hb dX9_does_20 rfl (lv_at hl 1 rfl) ?_
  refine lv_bipush (v := 26) hx hb dX9_does_21 (by decide) ?_
  refine lv_icmp_gt (tgt := 34) hx hb dX9_does_23 (by decide) (fun _ => ?_) (fun c_ => absurd (by decide) c_)
  refine lv_iload_n hx hb dX9_does_34 rfl (lv_at hl 1 rfl) ?_
  refine lv_bipush (v := 30) hx hb dX9_does_35 (by decide) ?_
  refine lv_icmp_gt (tgt := 48) hx hb dX9_does_37 (by decide) (fun _ => ?_) (fun c_ => absurd (by decide) c_)
  refine lv_iload_n hx hb dX9_does_48 rfl (lv_at hl 1 rfl) ?_
  refine lv_bipush (v := 38) hx hb dX9_does_49 (by decide) ?_
  refine lv_icmp_gt (tgt := 62) hx hb dX9_does_51 (by decide) (fun _ => ?_) (fun c_ => absurd (by decide) c_)
  refine lv_iload_n hx hb dX9_does_62 rfl (lv_at hl 1 rfl) ?_
  refine lv_bipush (v := 48) hx hb dX9_does_63 (by decide) ?_
  refine lv_icmp_gt (tgt := 79) hx hb dX9_does_65 (by decide) (fun c_ => absurd c_ (by decide)) (fun _ => ?_)
  refine lv_aload_n hx hb dX9_does_68 rfl (lv_at hl 0 rfl) ?_
  refine lv_iload_n hx hb dX9_does_69 rfl (lv_at hl 1 rfl) ?_
  refine lv_bipush (v := 39) hx hb dX9_does_70 (by decide) ?_
  refine lv_isub hx hb dX9_does_72 ?_
  refine r_topi (x := 45 - 39) (y := 6) (by decide) ?_
  refine r_kv hw (r_runV (rest := []) hC hw 0 (c_X9_gets_6 (ad := ad) l _ hs hW hy hN hc hm hT) rk9 (wMl 0 (by decide)) wM0 1 gX9_does_X9_gets rfl rfl rfl (by decide +kernel) ⟨Nat.le_of_ble_eq_true rfl, Nat.le_of_ble_eq_true rfl⟩ rfl hl.1 rfl (Nat.le_of_ble_eq_true rfl) dX9_does_73 ⟨Nat.le_of_ble_eq_true rfl, Nat.le_of_ble_eq_true rfl⟩) (fun u_3 H locs h_1 hw => ?_)
  subst h_1
  dsimp only at hw
  refine lv_goto (tgt := 115) hx hb dX9_does_76 (by decide) ?_
  exact r_vret hC hr hlk hw (act κ (t 4) (t 5) 45 (t 0) (t 1) (t 2), t) rfl (congrArg (Prod.mk _) (upt t 3).symm) (Nat.le_of_ble_eq_true rfl) (Nat.le_of_ble_eq_true rfl) dX9_does_115

set_option maxHeartbeats 4000000 in
set_option maxRecDepth 100000 in
theorem c_X9_does_46 (l : Launch) {D : va_G} {q : Nat → ClassId} {ad : Nat → Nat} {κ : KS} {t : Nat → Int32} (sz : Nat) (hs : okStep 46 (t 0) (t 1) (t 2)) (hW : WFm κ) (hy : why κ 46 (t 0) (t 1) (t 2) = 0) (hN : nnOp κ 46 (t 0) (t 1) (t 2)) (hc : vp_in (sI κ 6) 13) (hm : vp_in (sI κ 2) 61) (hT : ¬ sI κ 7 < 0) : Met l yX9_does wsX9_does (rmz 3 67) (va_Pc [.ref (ad 0), .int 46] (rPre D q (wM q ad κ t) sz)) (va_Qv (fun (u : KS × (Nat → Int32)) => u = (act κ (t 4) (t 5) 46 (t 0) (t 1) (t 2), va_up t 3 (nxt κ 46 (t 0) (t 1) (t 3)))) (fun (u : KS × (Nat → Int32)) tt => rPo D (rA (wM q ad κ t) sz) (wM q ad u.1 u.2) tt) (rA (wM q ad κ t) sz)) 0 0 (rA (wM q ad κ t) sz) := by
  refine r_start (cc := cX9_does) (maxL := 2) (ret := none) (by decide) rfl (Nat.le_of_ble_eq_true rfl) ?_
  intro p e s m below meth c ls hC hr hlk hnm hsz hw hl
  have hx := hC.1
  have hb := hC.2.1
  have hl : lv_has ls 2 [(0, .ref (ad 0)), (1, .int 46)] := hl
  refine lv_iload_n hx hb dX9_does_0 rfl (lv_at hl 1 rfl) ?_
  refine lv_bipush (v := 14) hx hb dX9_does_1 (by decide) ?_
  refine lv_icmp_le (tgt := 12) hx hb dX9_does_3 (by decide) (fun c_ => absurd c_ (by decide)) (fun _ => ?_)
  refine lv_iload_n hx hb dX9_does_6 rfl (lv_at hl 1 rfl) ?_
  refine lv_bipush (v := 25) hx hb dX9_does_7 (by decide) ?_
  refine lv_icmp_ne (tgt := 20) hx hb dX9_does_9 (by decide) (fun _ => ?_) (fun c_ => absurd c_ (by decide))
  refine lv_iload_n hx hb dX9_does_20 rfl (lv_at hl 1 rfl) ?_
  refine lv_bipush (v := 26) hx hb dX9_does_21 (by decide) ?_
  refine lv_icmp_gt (tgt := 34) hx hb dX9_does_23 (by decide) (fun _ => ?_) (fun c_ => absurd (by decide) c_)
  refine lv_iload_n hx hb dX9_does_34 rfl (lv_at hl 1 rfl) ?_
  refine lv_bipush (v := 30) hx hb dX9_does_35 (by decide) ?_
  refine lv_icmp_gt (tgt := 48) hx hb dX9_does_37 (by decide) (fun _ => ?_) (fun c_ => absurd (by decide) c_)
  refine lv_iload_n hx hb dX9_does_48 rfl (lv_at hl 1 rfl) ?_
  refine lv_bipush (v := 38) hx hb dX9_does_49 (by decide) ?_
  refine lv_icmp_gt (tgt := 62) hx hb dX9_does_51 (by decide) (fun _ => ?_) (fun c_ => absurd (by decide) c_)
  refine lv_iload_n hx hb dX9_does_62 rfl (lv_at hl 1 rfl) ?_
  refine lv_bipush (v := 48) hx hb dX9_does_63 (by decide) ?_
  refine lv_icmp_gt (tgt := 79) hx hb dX9_does_65 (by decide) (fun c_ => absurd c_ (by decide)) (fun _ => ?_)
  refine lv_aload_n hx hb dX9_does_68 rfl (lv_at hl 0 rfl) ?_
  refine lv_iload_n hx hb dX9_does_69 rfl (lv_at hl 1 rfl) ?_
  refine lv_bipush (v := 39) hx hb dX9_does_70 (by decide) ?_
  refine lv_isub hx hb dX9_does_72 ?_
  refine r_topi (x := 46 - 39) (y := 7) (by decide) ?_
  refine r_kv hw (r_runV (rest := []) hC hw 0 (c_X9_gets_7 (ad := ad) l _ hs hW hy hN hc hm hT) rk9 (wMl 0 (by decide)) wM0 1 gX9_does_X9_gets rfl rfl rfl (by decide +kernel) ⟨Nat.le_of_ble_eq_true rfl, Nat.le_of_ble_eq_true rfl⟩ rfl hl.1 rfl (Nat.le_of_ble_eq_true rfl) dX9_does_73 ⟨Nat.le_of_ble_eq_true rfl, Nat.le_of_ble_eq_true rfl⟩) (fun u_3 H locs h_1 hw => ?_)
  subst h_1
  dsimp only at hw
  refine lv_goto (tgt := 115) hx hb dX9_does_76 (by decide) ?_
  exact r_vret hC hr hlk hw (act κ (t 4) (t 5) 46 (t 0) (t 1) (t 2), t) rfl (congrArg (Prod.mk _) (upt t 3).symm) (Nat.le_of_ble_eq_true rfl) (Nat.le_of_ble_eq_true rfl) dX9_does_115

set_option maxHeartbeats 4000000 in
set_option maxRecDepth 100000 in
theorem c_X9_does_47 (l : Launch) {D : va_G} {q : Nat → ClassId} {ad : Nat → Nat} {κ : KS} {t : Nat → Int32} (sz : Nat) (hs : okStep 47 (t 0) (t 1) (t 2)) (hW : WFm κ) (hy : why κ 47 (t 0) (t 1) (t 2) = 0) (hN : nnOp κ 47 (t 0) (t 1) (t 2)) (hc : vp_in (sI κ 6) 13) (hm : vp_in (sI κ 2) 61) (hT : ¬ sI κ 7 < 0) : Met l yX9_does wsX9_does (rmz 3 67) (va_Pc [.ref (ad 0), .int 47] (rPre D q (wM q ad κ t) sz)) (va_Qv (fun (u : KS × (Nat → Int32)) => u = (act κ (t 4) (t 5) 47 (t 0) (t 1) (t 2), va_up t 3 (nxt κ 47 (t 0) (t 1) (t 3)))) (fun (u : KS × (Nat → Int32)) tt => rPo D (rA (wM q ad κ t) sz) (wM q ad u.1 u.2) tt) (rA (wM q ad κ t) sz)) 0 0 (rA (wM q ad κ t) sz) := by
  refine r_start (cc := cX9_does) (maxL := 2) (ret := none) (by decide) rfl (Nat.le_of_ble_eq_true rfl) ?_
  intro p e s m below meth c ls hC hr hlk hnm hsz hw hl
  have hx := hC.1
  have hb := hC.2.1
  have hl : lv_has ls 2 [(0, .ref (ad 0)), (1, .int 47)] := hl
  refine lv_iload_n hx hb dX9_does_0 rfl (lv_at hl 1 rfl) ?_
  refine lv_bipush (v := 14) hx hb dX9_does_1 (by decide) ?_
  refine lv_icmp_le (tgt := 12) hx hb dX9_does_3 (by decide) (fun c_ => absurd c_ (by decide)) (fun _ => ?_)
  refine lv_iload_n hx hb dX9_does_6 rfl (lv_at hl 1 rfl) ?_
  refine lv_bipush (v := 25) hx hb dX9_does_7 (by decide) ?_
  refine lv_icmp_ne (tgt := 20) hx hb dX9_does_9 (by decide) (fun _ => ?_) (fun c_ => absurd c_ (by decide))
  refine lv_iload_n hx hb dX9_does_20 rfl (lv_at hl 1 rfl) ?_
  refine lv_bipush (v := 26) hx hb dX9_does_21 (by decide) ?_
  refine lv_icmp_gt (tgt := 34) hx hb dX9_does_23 (by decide) (fun _ => ?_) (fun c_ => absurd (by decide) c_)
  refine lv_iload_n hx hb dX9_does_34 rfl (lv_at hl 1 rfl) ?_
  refine lv_bipush (v := 30) hx hb dX9_does_35 (by decide) ?_
  refine lv_icmp_gt (tgt := 48) hx hb dX9_does_37 (by decide) (fun _ => ?_) (fun c_ => absurd (by decide) c_)
  refine lv_iload_n hx hb dX9_does_48 rfl (lv_at hl 1 rfl) ?_
  refine lv_bipush (v := 38) hx hb dX9_does_49 (by decide) ?_
  refine lv_icmp_gt (tgt := 62) hx hb dX9_does_51 (by decide) (fun _ => ?_) (fun c_ => absurd (by decide) c_)
  refine lv_iload_n hx hb dX9_does_62 rfl (lv_at hl 1 rfl) ?_
  refine lv_bipush (v := 48) hx hb dX9_does_63 (by decide) ?_
  refine lv_icmp_gt (tgt := 79) hx hb dX9_does_65 (by decide) (fun c_ => absurd c_ (by decide)) (fun _ => ?_)
  refine lv_aload_n hx hb dX9_does_68 rfl (lv_at hl 0 rfl) ?_
  refine lv_iload_n hx hb dX9_does_69 rfl (lv_at hl 1 rfl) ?_
  refine lv_bipush (v := 39) hx hb dX9_does_70 (by decide) ?_
  refine lv_isub hx hb dX9_does_72 ?_
  refine r_topi (x := 47 - 39) (y := 8) (by decide) ?_
  refine r_kv hw (r_runV (rest := []) hC hw 0 (c_X9_gets_8 (ad := ad) l _ hs hW hy hN hc hm hT) rk9 (wMl 0 (by decide)) wM0 1 gX9_does_X9_gets rfl rfl rfl (by decide +kernel) ⟨Nat.le_of_ble_eq_true rfl, Nat.le_of_ble_eq_true rfl⟩ rfl hl.1 rfl (Nat.le_of_ble_eq_true rfl) dX9_does_73 ⟨Nat.le_of_ble_eq_true rfl, Nat.le_of_ble_eq_true rfl⟩) (fun u_3 H locs h_1 hw => ?_)
  subst h_1
  dsimp only at hw
  refine lv_goto (tgt := 115) hx hb dX9_does_76 (by decide) ?_
  exact r_vret hC hr hlk hw (act κ (t 4) (t 5) 47 (t 0) (t 1) (t 2), t) rfl (congrArg (Prod.mk _) (upt t 3).symm) (Nat.le_of_ble_eq_true rfl) (Nat.le_of_ble_eq_true rfl) dX9_does_115

set_option maxHeartbeats 4000000 in
set_option maxRecDepth 100000 in
theorem c_X9_does_48 (l : Launch) {D : va_G} {q : Nat → ClassId} {ad : Nat → Nat} {κ : KS} {t : Nat → Int32} (sz : Nat) (hs : okStep 48 (t 0) (t 1) (t 2)) (hW : WFm κ) (hy : why κ 48 (t 0) (t 1) (t 2) = 0) (hN : nnOp κ 48 (t 0) (t 1) (t 2)) (hc : vp_in (sI κ 6) 13) (hm : vp_in (sI κ 2) 61) (hT : ¬ sI κ 7 < 0) : Met l yX9_does wsX9_does (rmz 3 67) (va_Pc [.ref (ad 0), .int 48] (rPre D q (wM q ad κ t) sz)) (va_Qv (fun (u : KS × (Nat → Int32)) => u = (act κ (t 4) (t 5) 48 (t 0) (t 1) (t 2), va_up t 3 (nxt κ 48 (t 0) (t 1) (t 3)))) (fun (u : KS × (Nat → Int32)) tt => rPo D (rA (wM q ad κ t) sz) (wM q ad u.1 u.2) tt) (rA (wM q ad κ t) sz)) 0 0 (rA (wM q ad κ t) sz) := by
  refine r_start (cc := cX9_does) (maxL := 2) (ret := none) (by decide) rfl (Nat.le_of_ble_eq_true rfl) ?_
  intro p e s m below meth c ls hC hr hlk hnm hsz hw hl
  have hx := hC.1
  have hb := hC.2.1
  have hl : lv_has ls 2 [(0, .ref (ad 0)), (1, .int 48)] := hl
  refine lv_iload_n hx hb dX9_does_0 rfl (lv_at hl 1 rfl) ?_
  refine lv_bipush (v := 14) hx hb dX9_does_1 (by decide) ?_
  refine lv_icmp_le (tgt := 12) hx hb dX9_does_3 (by decide) (fun c_ => absurd c_ (by decide)) (fun _ => ?_)
  refine lv_iload_n hx hb dX9_does_6 rfl (lv_at hl 1 rfl) ?_
  refine lv_bipush (v := 25) hx hb dX9_does_7 (by decide) ?_
  refine lv_icmp_ne (tgt := 20) hx hb dX9_does_9 (by decide) (fun _ => ?_) (fun c_ => absurd c_ (by decide))
  refine lv_iload_n hx hb dX9_does_20 rfl (lv_at hl 1 rfl) ?_
  refine lv_bipush (v := 26) hx hb dX9_does_21 (by decide) ?_
  refine lv_icmp_gt (tgt := 34) hx hb dX9_does_23 (by decide) (fun _ => ?_) (fun c_ => absurd (by decide) c_)
  refine lv_iload_n hx hb dX9_does_34 rfl (lv_at hl 1 rfl) ?_
  refine lv_bipush (v := 30) hx hb dX9_does_35 (by decide) ?_
  refine lv_icmp_gt (tgt := 48) hx hb dX9_does_37 (by decide) (fun _ => ?_) (fun c_ => absurd (by decide) c_)
  refine lv_iload_n hx hb dX9_does_48 rfl (lv_at hl 1 rfl) ?_
  refine lv_bipush (v := 38) hx hb dX9_does_49 (by decide) ?_
  refine lv_icmp_gt (tgt := 62) hx hb dX9_does_51 (by decide) (fun _ => ?_) (fun c_ => absurd (by decide) c_)
  refine lv_iload_n hx hb dX9_does_62 rfl (lv_at hl 1 rfl) ?_
  refine lv_bipush (v := 48) hx hb dX9_does_63 (by decide) ?_
  refine lv_icmp_gt (tgt := 79) hx hb dX9_does_65 (by decide) (fun c_ => absurd c_ (by decide)) (fun _ => ?_)
  refine lv_aload_n hx hb dX9_does_68 rfl (lv_at hl 0 rfl) ?_
  refine lv_iload_n hx hb dX9_does_69 rfl (lv_at hl 1 rfl) ?_
  refine lv_bipush (v := 39) hx hb dX9_does_70 (by decide) ?_
  refine lv_isub hx hb dX9_does_72 ?_
  refine r_topi (x := 48 - 39) (y := 9) (by decide) ?_
  refine r_kv hw (r_runV (rest := []) hC hw 0 (c_X9_gets_9 (ad := ad) l _ hs hW hy hN hc hm hT) rk9 (wMl 0 (by decide)) wM0 1 gX9_does_X9_gets rfl rfl rfl (by decide +kernel) ⟨Nat.le_of_ble_eq_true rfl, Nat.le_of_ble_eq_true rfl⟩ rfl hl.1 rfl (Nat.le_of_ble_eq_true rfl) dX9_does_73 ⟨Nat.le_of_ble_eq_true rfl, Nat.le_of_ble_eq_true rfl⟩) (fun u_3 H locs h_1 hw => ?_)
  subst h_1
  dsimp only at hw
  refine lv_goto (tgt := 115) hx hb dX9_does_76 (by decide) ?_
  exact r_vret hC hr hlk hw (act κ (t 4) (t 5) 48 (t 0) (t 1) (t 2), t) rfl (congrArg (Prod.mk _) (upt t 3).symm) (Nat.le_of_ble_eq_true rfl) (Nat.le_of_ble_eq_true rfl) dX9_does_115

set_option maxHeartbeats 4000000 in
set_option maxRecDepth 100000 in
theorem c_X9_does_49 (l : Launch) {D : va_G} {q : Nat → ClassId} {ad : Nat → Nat} {κ : KS} {t : Nat → Int32} (sz : Nat) (hs : okStep 49 (t 0) (t 1) (t 2)) (hW : WFm κ) (hy : why κ 49 (t 0) (t 1) (t 2) = 0) (hN : nnOp κ 49 (t 0) (t 1) (t 2)) (hc : vp_in (sI κ 6) 13) (hm : vp_in (sI κ 2) 61) (hT : ¬ sI κ 7 < 0) : Met l yX9_does wsX9_does (rmz 3 67) (va_Pc [.ref (ad 0), .int 49] (rPre D q (wM q ad κ t) sz)) (va_Qv (fun (u : KS × (Nat → Int32)) => u = (act κ (t 4) (t 5) 49 (t 0) (t 1) (t 2), va_up t 3 (nxt κ 49 (t 0) (t 1) (t 3)))) (fun (u : KS × (Nat → Int32)) tt => rPo D (rA (wM q ad κ t) sz) (wM q ad u.1 u.2) tt) (rA (wM q ad κ t) sz)) 0 0 (rA (wM q ad κ t) sz) := by
  refine r_start (cc := cX9_does) (maxL := 2) (ret := none) (by decide) rfl (Nat.le_of_ble_eq_true rfl) ?_
  intro p e s m below meth c ls hC hr hlk hnm hsz hw hl
  have hx := hC.1
  have hb := hC.2.1
  have hl : lv_has ls 2 [(0, .ref (ad 0)), (1, .int 49)] := hl
  refine lv_iload_n hx hb dX9_does_0 rfl (lv_at hl 1 rfl) ?_
  refine lv_bipush (v := 14) hx hb dX9_does_1 (by decide) ?_
  refine lv_icmp_le (tgt := 12) hx hb dX9_does_3 (by decide) (fun c_ => absurd c_ (by decide)) (fun _ => ?_)
  refine lv_iload_n hx hb dX9_does_6 rfl (lv_at hl 1 rfl) ?_
  refine lv_bipush (v := 25) hx hb dX9_does_7 (by decide) ?_
  refine lv_icmp_ne (tgt := 20) hx hb dX9_does_9 (by decide) (fun _ => ?_) (fun c_ => absurd c_ (by decide))
  refine lv_iload_n hx hb dX9_does_20 rfl (lv_at hl 1 rfl) ?_
  refine lv_bipush (v := 26) hx hb dX9_does_21 (by decide) ?_
  refine lv_icmp_gt (tgt := 34) hx hb dX9_does_23 (by decide) (fun _ => ?_) (fun c_ => absurd (by decide) c_)
  refine lv_iload_n hx hb dX9_does_34 rfl (lv_at hl 1 rfl) ?_
  refine lv_bipush (v := 30) hx hb dX9_does_35 (by decide) ?_
  refine lv_icmp_gt (tgt := 48) hx hb dX9_does_37 (by decide) (fun _ => ?_) (fun c_ => absurd (by decide) c_)
  refine lv_iload_n hx hb dX9_does_48 rfl (lv_at hl 1 rfl) ?_
  refine lv_bipush (v := 38) hx hb dX9_does_49 (by decide) ?_
  refine lv_icmp_gt (tgt := 62) hx hb dX9_does_51 (by decide) (fun _ => ?_) (fun c_ => absurd (by decide) c_)
  refine lv_iload_n hx hb dX9_does_62 rfl (lv_at hl 1 rfl) ?_
  refine lv_bipush (v := 48) hx hb dX9_does_63 (by decide) ?_
  refine lv_icmp_gt (tgt := 79) hx hb dX9_does_65 (by decide) (fun _ => ?_) (fun c_ => absurd (by decide) c_)
  refine lv_iload_n hx hb dX9_does_79 rfl (lv_at hl 1 rfl) ?_
  refine lv_bipush (v := 58) hx hb dX9_does_80 (by decide) ?_
  refine lv_icmp_gt (tgt := 96) hx hb dX9_does_82 (by decide) (fun c_ => absurd c_ (by decide)) (fun _ => ?_)
  refine lv_aload_n hx hb dX9_does_85 rfl (lv_at hl 0 rfl) ?_
  refine lv_iload_n hx hb dX9_does_86 rfl (lv_at hl 1 rfl) ?_
  refine lv_bipush (v := 49) hx hb dX9_does_87 (by decide) ?_
  refine lv_isub hx hb dX9_does_89 ?_
  refine r_topi (x := 49 - 49) (y := 0) (by decide) ?_
  refine r_kv hw (r_runV (rest := []) hC hw 0 (c_X9_puts_0 (ad := ad) l _ hs hW hy hN hc hm hT) rk9 (wMl 0 (by decide)) wM0 1 gX9_does_X9_puts rfl rfl rfl (by decide +kernel) ⟨Nat.le_of_ble_eq_true rfl, Nat.le_of_ble_eq_true rfl⟩ rfl hl.1 rfl (Nat.le_of_ble_eq_true rfl) dX9_does_90 ⟨Nat.le_of_ble_eq_true rfl, Nat.le_of_ble_eq_true rfl⟩) (fun u_3 H locs h_1 hw => ?_)
  subst h_1
  dsimp only at hw
  refine lv_goto (tgt := 115) hx hb dX9_does_93 (by decide) ?_
  exact r_vret hC hr hlk hw (act κ (t 4) (t 5) 49 (t 0) (t 1) (t 2), t) rfl (congrArg (Prod.mk _) (upt t 3).symm) (Nat.le_of_ble_eq_true rfl) (Nat.le_of_ble_eq_true rfl) dX9_does_115

set_option maxHeartbeats 4000000 in
set_option maxRecDepth 100000 in
theorem c_X9_does_50 (l : Launch) {D : va_G} {q : Nat → ClassId} {ad : Nat → Nat} {κ : KS} {t : Nat → Int32} (sz : Nat) (hs : okStep 50 (t 0) (t 1) (t 2)) (hW : WFm κ) (hy : why κ 50 (t 0) (t 1) (t 2) = 0) (hN : nnOp κ 50 (t 0) (t 1) (t 2)) (hc : vp_in (sI κ 6) 13) (hm : vp_in (sI κ 2) 61) (hT : ¬ sI κ 7 < 0) : Met l yX9_does wsX9_does (rmz 3 67) (va_Pc [.ref (ad 0), .int 50] (rPre D q (wM q ad κ t) sz)) (va_Qv (fun (u : KS × (Nat → Int32)) => u = (act κ (t 4) (t 5) 50 (t 0) (t 1) (t 2), va_up t 3 (nxt κ 50 (t 0) (t 1) (t 3)))) (fun (u : KS × (Nat → Int32)) tt => rPo D (rA (wM q ad κ t) sz) (wM q ad u.1 u.2) tt) (rA (wM q ad κ t) sz)) 0 0 (rA (wM q ad κ t) sz) := by
  refine r_start (cc := cX9_does) (maxL := 2) (ret := none) (by decide) rfl (Nat.le_of_ble_eq_true rfl) ?_
  intro p e s m below meth c ls hC hr hlk hnm hsz hw hl
  have hx := hC.1
  have hb := hC.2.1
  have hl : lv_has ls 2 [(0, .ref (ad 0)), (1, .int 50)] := hl
  refine lv_iload_n hx hb dX9_does_0 rfl (lv_at hl 1 rfl) ?_
  refine lv_bipush (v := 14) hx hb dX9_does_1 (by decide) ?_
  refine lv_icmp_le (tgt := 12) hx hb dX9_does_3 (by decide) (fun c_ => absurd c_ (by decide)) (fun _ => ?_)
  refine lv_iload_n hx hb dX9_does_6 rfl (lv_at hl 1 rfl) ?_
  refine lv_bipush (v := 25) hx hb dX9_does_7 (by decide) ?_
  refine lv_icmp_ne (tgt := 20) hx hb dX9_does_9 (by decide) (fun _ => ?_) (fun c_ => absurd c_ (by decide))
  refine lv_iload_n hx hb dX9_does_20 rfl (lv_at hl 1 rfl) ?_
  refine lv_bipush (v := 26) hx hb dX9_does_21 (by decide) ?_
  refine lv_icmp_gt (tgt := 34) hx hb dX9_does_23 (by decide) (fun _ => ?_) (fun c_ => absurd (by decide) c_)
  refine lv_iload_n hx hb dX9_does_34 rfl (lv_at hl 1 rfl) ?_
  refine lv_bipush (v := 30) hx hb dX9_does_35 (by decide) ?_
  refine lv_icmp_gt (tgt := 48) hx hb dX9_does_37 (by decide) (fun _ => ?_) (fun c_ => absurd (by decide) c_)
  refine lv_iload_n hx hb dX9_does_48 rfl (lv_at hl 1 rfl) ?_
  refine lv_bipush (v := 38) hx hb dX9_does_49 (by decide) ?_
  refine lv_icmp_gt (tgt := 62) hx hb dX9_does_51 (by decide) (fun _ => ?_) (fun c_ => absurd (by decide) c_)
  refine lv_iload_n hx hb dX9_does_62 rfl (lv_at hl 1 rfl) ?_
  refine lv_bipush (v := 48) hx hb dX9_does_63 (by decide) ?_
  refine lv_icmp_gt (tgt := 79) hx hb dX9_does_65 (by decide) (fun _ => ?_) (fun c_ => absurd (by decide) c_)
  refine lv_iload_n hx hb dX9_does_79 rfl (lv_at hl 1 rfl) ?_
  refine lv_bipush (v := 58) hx hb dX9_does_80 (by decide) ?_
  refine lv_icmp_gt (tgt := 96) hx hb dX9_does_82 (by decide) (fun c_ => absurd c_ (by decide)) (fun _ => ?_)
  refine lv_aload_n hx hb dX9_does_85 rfl (lv_at hl 0 rfl) ?_
  refine lv_iload_n hx hb dX9_does_86 rfl (lv_at hl 1 rfl) ?_
  refine lv_bipush (v := 49) hx hb dX9_does_87 (by decide) ?_
  refine lv_isub hx hb dX9_does_89 ?_
  refine r_topi (x := 50 - 49) (y := 1) (by decide) ?_
  refine r_kv hw (r_runV (rest := []) hC hw 0 (c_X9_puts_1 (ad := ad) l _ hs hW hy hN hc hm hT) rk9 (wMl 0 (by decide)) wM0 1 gX9_does_X9_puts rfl rfl rfl (by decide +kernel) ⟨Nat.le_of_ble_eq_true rfl, Nat.le_of_ble_eq_true rfl⟩ rfl hl.1 rfl (Nat.le_of_ble_eq_true rfl) dX9_does_90 ⟨Nat.le_of_ble_eq_true rfl, Nat.le_of_ble_eq_true rfl⟩) (fun u_3 H locs h_1 hw => ?_)
  subst h_1
  dsimp only at hw
  refine lv_goto (tgt := 115) hx hb dX9_does_93 (by decide) ?_
  exact r_vret hC hr hlk hw (act κ (t 4) (t 5) 50 (t 0) (t 1) (t 2), t) rfl (congrArg (Prod.mk _) (upt t 3).symm) (Nat.le_of_ble_eq_true rfl) (Nat.le_of_ble_eq_true rfl) dX9_does_115

set_option maxHeartbeats 4000000 in
set_option maxRecDepth 100000 in
theorem c_X9_does_51 (l : Launch) {D : va_G} {q : Nat → ClassId} {ad : Nat → Nat} {κ : KS} {t : Nat → Int32} (sz : Nat) (hs : okStep 51 (t 0) (t 1) (t 2)) (hW : WFm κ) (hy : why κ 51 (t 0) (t 1) (t 2) = 0) (hN : nnOp κ 51 (t 0) (t 1) (t 2)) (hc : vp_in (sI κ 6) 13) (hm : vp_in (sI κ 2) 61) (hT : ¬ sI κ 7 < 0) : Met l yX9_does wsX9_does (rmz 3 67) (va_Pc [.ref (ad 0), .int 51] (rPre D q (wM q ad κ t) sz)) (va_Qv (fun (u : KS × (Nat → Int32)) => u = (act κ (t 4) (t 5) 51 (t 0) (t 1) (t 2), va_up t 3 (nxt κ 51 (t 0) (t 1) (t 3)))) (fun (u : KS × (Nat → Int32)) tt => rPo D (rA (wM q ad κ t) sz) (wM q ad u.1 u.2) tt) (rA (wM q ad κ t) sz)) 0 0 (rA (wM q ad κ t) sz) := by
  refine r_start (cc := cX9_does) (maxL := 2) (ret := none) (by decide) rfl (Nat.le_of_ble_eq_true rfl) ?_
  intro p e s m below meth c ls hC hr hlk hnm hsz hw hl
  have hx := hC.1
  have hb := hC.2.1
  have hl : lv_has ls 2 [(0, .ref (ad 0)), (1, .int 51)] := hl
  refine lv_iload_n hx hb dX9_does_0 rfl (lv_at hl 1 rfl) ?_
  refine lv_bipush (v := 14) hx hb dX9_does_1 (by decide) ?_
  refine lv_icmp_le (tgt := 12) hx hb dX9_does_3 (by decide) (fun c_ => absurd c_ (by decide)) (fun _ => ?_)
  refine lv_iload_n hx hb dX9_does_6 rfl (lv_at hl 1 rfl) ?_
  refine lv_bipush (v := 25) hx hb dX9_does_7 (by decide) ?_
  refine lv_icmp_ne (tgt := 20) hx hb dX9_does_9 (by decide) (fun _ => ?_) (fun c_ => absurd c_ (by decide))
  refine lv_iload_n hx hb dX9_does_20 rfl (lv_at hl 1 rfl) ?_
  refine lv_bipush (v := 26) hx hb dX9_does_21 (by decide) ?_
  refine lv_icmp_gt (tgt := 34) hx hb dX9_does_23 (by decide) (fun _ => ?_) (fun c_ => absurd (by decide) c_)
  refine lv_iload_n hx hb dX9_does_34 rfl (lv_at hl 1 rfl) ?_
  refine lv_bipush (v := 30) hx hb dX9_does_35 (by decide) ?_
  refine lv_icmp_gt (tgt := 48) hx hb dX9_does_37 (by decide) (fun _ => ?_) (fun c_ => absurd (by decide) c_)
  refine lv_iload_n hx hb dX9_does_48 rfl (lv_at hl 1 rfl) ?_
  refine lv_bipush (v := 38) hx hb dX9_does_49 (by decide) ?_
  refine lv_icmp_gt (tgt := 62) hx hb dX9_does_51 (by decide) (fun _ => ?_) (fun c_ => absurd (by decide) c_)
  refine lv_iload_n hx hb dX9_does_62 rfl (lv_at hl 1 rfl) ?_
  refine lv_bipush (v := 48) hx hb dX9_does_63 (by decide) ?_
  refine lv_icmp_gt (tgt := 79) hx hb dX9_does_65 (by decide) (fun _ => ?_) (fun c_ => absurd (by decide) c_)
  refine lv_iload_n hx hb dX9_does_79 rfl (lv_at hl 1 rfl) ?_
  refine lv_bipush (v := 58) hx hb dX9_does_80 (by decide) ?_
  refine lv_icmp_gt (tgt := 96) hx hb dX9_does_82 (by decide) (fun c_ => absurd c_ (by decide)) (fun _ => ?_)
  refine lv_aload_n hx hb dX9_does_85 rfl (lv_at hl 0 rfl) ?_
  refine lv_iload_n hx hb dX9_does_86 rfl (lv_at hl 1 rfl) ?_
  refine lv_bipush (v := 49) hx hb dX9_does_87 (by decide) ?_
  refine lv_isub hx hb dX9_does_89 ?_
  refine r_topi (x := 51 - 49) (y := 2) (by decide) ?_
  refine r_kv hw (r_runV (rest := []) hC hw 0 (c_X9_puts_2 (ad := ad) l _ hs hW hy hN hc hm hT) rk9 (wMl 0 (by decide)) wM0 1 gX9_does_X9_puts rfl rfl rfl (by decide +kernel) ⟨Nat.le_of_ble_eq_true rfl, Nat.le_of_ble_eq_true rfl⟩ rfl hl.1 rfl (Nat.le_of_ble_eq_true rfl) dX9_does_90 ⟨Nat.le_of_ble_eq_true rfl, Nat.le_of_ble_eq_true rfl⟩) (fun u_3 H locs h_1 hw => ?_)
  subst h_1
  dsimp only at hw
  refine lv_goto (tgt := 115) hx hb dX9_does_93 (by decide) ?_
  exact r_vret hC hr hlk hw (act κ (t 4) (t 5) 51 (t 0) (t 1) (t 2), t) rfl (congrArg (Prod.mk _) (upt t 3).symm) (Nat.le_of_ble_eq_true rfl) (Nat.le_of_ble_eq_true rfl) dX9_does_115

set_option maxHeartbeats 4000000 in
set_option maxRecDepth 100000 in
theorem c_X9_does_52 (l : Launch) {D : va_G} {q : Nat → ClassId} {ad : Nat → Nat} {κ : KS} {t : Nat → Int32} (sz : Nat) (hs : okStep 52 (t 0) (t 1) (t 2)) (hW : WFm κ) (hy : why κ 52 (t 0) (t 1) (t 2) = 0) (hN : nnOp κ 52 (t 0) (t 1) (t 2)) (hc : vp_in (sI κ 6) 13) (hm : vp_in (sI κ 2) 61) (hT : ¬ sI κ 7 < 0) : Met l yX9_does wsX9_does (rmz 3 67) (va_Pc [.ref (ad 0), .int 52] (rPre D q (wM q ad κ t) sz)) (va_Qv (fun (u : KS × (Nat → Int32)) => u = (act κ (t 4) (t 5) 52 (t 0) (t 1) (t 2), va_up t 3 (nxt κ 52 (t 0) (t 1) (t 3)))) (fun (u : KS × (Nat → Int32)) tt => rPo D (rA (wM q ad κ t) sz) (wM q ad u.1 u.2) tt) (rA (wM q ad κ t) sz)) 0 0 (rA (wM q ad κ t) sz) := by
  refine r_start (cc := cX9_does) (maxL := 2) (ret := none) (by decide) rfl (Nat.le_of_ble_eq_true rfl) ?_
  intro p e s m below meth c ls hC hr hlk hnm hsz hw hl
  have hx := hC.1
  have hb := hC.2.1
  have hl : lv_has ls 2 [(0, .ref (ad 0)), (1, .int 52)] := hl
  refine lv_iload_n hx hb dX9_does_0 rfl (lv_at hl 1 rfl) ?_
  refine lv_bipush (v := 14) hx hb dX9_does_1 (by decide) ?_
  refine lv_icmp_le (tgt := 12) hx hb dX9_does_3 (by decide) (fun c_ => absurd c_ (by decide)) (fun _ => ?_)
  refine lv_iload_n hx hb dX9_does_6 rfl (lv_at hl 1 rfl) ?_
  refine lv_bipush (v := 25) hx hb dX9_does_7 (by decide) ?_
  refine lv_icmp_ne (tgt := 20) hx hb dX9_does_9 (by decide) (fun _ => ?_) (fun c_ => absurd c_ (by decide))
  refine lv_iload_n hx hb dX9_does_20 rfl (lv_at hl 1 rfl) ?_
  refine lv_bipush (v := 26) hx hb dX9_does_21 (by decide) ?_
  refine lv_icmp_gt (tgt := 34) hx hb dX9_does_23 (by decide) (fun _ => ?_) (fun c_ => absurd (by decide) c_)
  refine lv_iload_n hx hb dX9_does_34 rfl (lv_at hl 1 rfl) ?_
  refine lv_bipush (v := 30) hx hb dX9_does_35 (by decide) ?_
  refine lv_icmp_gt (tgt := 48) hx hb dX9_does_37 (by decide) (fun _ => ?_) (fun c_ => absurd (by decide) c_)
  refine lv_iload_n hx hb dX9_does_48 rfl (lv_at hl 1 rfl) ?_
  refine lv_bipush (v := 38) hx hb dX9_does_49 (by decide) ?_
  refine lv_icmp_gt (tgt := 62) hx hb dX9_does_51 (by decide) (fun _ => ?_) (fun c_ => absurd (by decide) c_)
  refine lv_iload_n hx hb dX9_does_62 rfl (lv_at hl 1 rfl) ?_
  refine lv_bipush (v := 48) hx hb dX9_does_63 (by decide) ?_
  refine lv_icmp_gt (tgt := 79) hx hb dX9_does_65 (by decide) (fun _ => ?_) (fun c_ => absurd (by decide) c_)
  refine lv_iload_n hx hb dX9_does_79 rfl (lv_at hl 1 rfl) ?_
  refine lv_bipush (v := 58) hx hb dX9_does_80 (by decide) ?_
  refine lv_icmp_gt (tgt := 96) hx hb dX9_does_82 (by decide) (fun c_ => absurd c_ (by decide)) (fun _ => ?_)
  refine lv_aload_n hx hb dX9_does_85 rfl (lv_at hl 0 rfl) ?_
  refine lv_iload_n hx hb dX9_does_86 rfl (lv_at hl 1 rfl) ?_
  refine lv_bipush (v := 49) hx hb dX9_does_87 (by decide) ?_
  refine lv_isub hx hb dX9_does_89 ?_
  refine r_topi (x := 52 - 49) (y := 3) (by decide) ?_
  refine r_kv hw (r_runV (rest := []) hC hw 0 (c_X9_puts_3 (ad := ad) l _ hs hW hy hN hc hm hT) rk9 (wMl 0 (by decide)) wM0 1 gX9_does_X9_puts rfl rfl rfl (by decide +kernel) ⟨Nat.le_of_ble_eq_true rfl, Nat.le_of_ble_eq_true rfl⟩ rfl hl.1 rfl (Nat.le_of_ble_eq_true rfl) dX9_does_90 ⟨Nat.le_of_ble_eq_true rfl, Nat.le_of_ble_eq_true rfl⟩) (fun u_3 H locs h_1 hw => ?_)
  subst h_1
  dsimp only at hw
  refine lv_goto (tgt := 115) hx hb dX9_does_93 (by decide) ?_
  exact r_vret hC hr hlk hw (act κ (t 4) (t 5) 52 (t 0) (t 1) (t 2), t) rfl (congrArg (Prod.mk _) (upt t 3).symm) (Nat.le_of_ble_eq_true rfl) (Nat.le_of_ble_eq_true rfl) dX9_does_115

set_option maxHeartbeats 4000000 in
set_option maxRecDepth 100000 in
theorem c_X9_does_53 (l : Launch) {D : va_G} {q : Nat → ClassId} {ad : Nat → Nat} {κ : KS} {t : Nat → Int32} (sz : Nat) (hs : okStep 53 (t 0) (t 1) (t 2)) (hW : WFm κ) (hy : why κ 53 (t 0) (t 1) (t 2) = 0) (hN : nnOp κ 53 (t 0) (t 1) (t 2)) (hc : vp_in (sI κ 6) 13) (hm : vp_in (sI κ 2) 61) (hT : ¬ sI κ 7 < 0) : Met l yX9_does wsX9_does (rmz 3 67) (va_Pc [.ref (ad 0), .int 53] (rPre D q (wM q ad κ t) sz)) (va_Qv (fun (u : KS × (Nat → Int32)) => u = (act κ (t 4) (t 5) 53 (t 0) (t 1) (t 2), va_up t 3 (nxt κ 53 (t 0) (t 1) (t 3)))) (fun (u : KS × (Nat → Int32)) tt => rPo D (rA (wM q ad κ t) sz) (wM q ad u.1 u.2) tt) (rA (wM q ad κ t) sz)) 0 0 (rA (wM q ad κ t) sz) := by
  refine r_start (cc := cX9_does) (maxL := 2) (ret := none) (by decide) rfl (Nat.le_of_ble_eq_true rfl) ?_
  intro p e s m below meth c ls hC hr hlk hnm hsz hw hl
  have hx := hC.1
  have hb := hC.2.1
  have hl : lv_has ls 2 [(0, .ref (ad 0)), (1, .int 53)] := hl
  refine lv_iload_n hx hb dX9_does_0 rfl (lv_at hl 1 rfl) ?_
  refine lv_bipush (v := 14) hx hb dX9_does_1 (by decide) ?_
  refine lv_icmp_le (tgt := 12) hx hb dX9_does_3 (by decide) (fun c_ => absurd c_ (by decide)) (fun _ => ?_)
  refine lv_iload_n hx hb dX9_does_6 rfl (lv_at hl 1 rfl) ?_
  refine lv_bipush (v := 25) hx hb dX9_does_7 (by decide) ?_
  refine lv_icmp_ne (tgt := 20) hx hb dX9_does_9 (by decide) (fun _ => ?_) (fun c_ => absurd c_ (by decide))
  refine lv_iload_n hx hb dX9_does_20 rfl (lv_at hl 1 rfl) ?_
  refine lv_bipush (v := 26) hx hb dX9_does_21 (by decide) ?_
  refine lv_icmp_gt (tgt := 34) hx hb dX9_does_23 (by decide) (fun _ => ?_) (fun c_ => absurd (by decide) c_)
  refine lv_iload_n hx hb dX9_does_34 rfl (lv_at hl 1 rfl) ?_
  refine lv_bipush (v := 30) hx hb dX9_does_35 (by decide) ?_
  refine lv_icmp_gt (tgt := 48) hx hb dX9_does_37 (by decide) (fun _ => ?_) (fun c_ => absurd (by decide) c_)
  refine lv_iload_n hx hb dX9_does_48 rfl (lv_at hl 1 rfl) ?_
  refine lv_bipush (v := 38) hx hb dX9_does_49 (by decide) ?_
  refine lv_icmp_gt (tgt := 62) hx hb dX9_does_51 (by decide) (fun _ => ?_) (fun c_ => absurd (by decide) c_)
  refine lv_iload_n hx hb dX9_does_62 rfl (lv_at hl 1 rfl) ?_
  refine lv_bipush (v := 48) hx hb dX9_does_63 (by decide) ?_
  refine lv_icmp_gt (tgt := 79) hx hb dX9_does_65 (by decide) (fun _ => ?_) (fun c_ => absurd (by decide) c_)
  refine lv_iload_n hx hb dX9_does_79 rfl (lv_at hl 1 rfl) ?_
  refine lv_bipush (v := 58) hx hb dX9_does_80 (by decide) ?_
  refine lv_icmp_gt (tgt := 96) hx hb dX9_does_82 (by decide) (fun c_ => absurd c_ (by decide)) (fun _ => ?_)
  refine lv_aload_n hx hb dX9_does_85 rfl (lv_at hl 0 rfl) ?_
  refine lv_iload_n hx hb dX9_does_86 rfl (lv_at hl 1 rfl) ?_
  refine lv_bipush (v := 49) hx hb dX9_does_87 (by decide) ?_
  refine lv_isub hx hb dX9_does_89 ?_
  refine r_topi (x := 53 - 49) (y := 4) (by decide) ?_
  refine r_kv hw (r_runV (rest := []) hC hw 0 (c_X9_puts_4 (ad := ad) l _ hs hW hy hN hc hm hT) rk9 (wMl 0 (by decide)) wM0 1 gX9_does_X9_puts rfl rfl rfl (by decide +kernel) ⟨Nat.le_of_ble_eq_true rfl, Nat.le_of_ble_eq_true rfl⟩ rfl hl.1 rfl (Nat.le_of_ble_eq_true rfl) dX9_does_90 ⟨Nat.le_of_ble_eq_true rfl, Nat.le_of_ble_eq_true rfl⟩) (fun u_3 H locs h_1 hw => ?_)
  subst h_1
  dsimp only at hw
  refine lv_goto (tgt := 115) hx hb dX9_does_93 (by decide) ?_
  exact r_vret hC hr hlk hw (act κ (t 4) (t 5) 53 (t 0) (t 1) (t 2), t) rfl (congrArg (Prod.mk _) (upt t 3).symm) (Nat.le_of_ble_eq_true rfl) (Nat.le_of_ble_eq_true rfl) dX9_does_115

set_option maxHeartbeats 4000000 in
set_option maxRecDepth 100000 in
theorem c_X9_does_54 (l : Launch) {D : va_G} {q : Nat → ClassId} {ad : Nat → Nat} {κ : KS} {t : Nat → Int32} (sz : Nat) (hs : okStep 54 (t 0) (t 1) (t 2)) (hW : WFm κ) (hy : why κ 54 (t 0) (t 1) (t 2) = 0) (hN : nnOp κ 54 (t 0) (t 1) (t 2)) (hc : vp_in (sI κ 6) 13) (hm : vp_in (sI κ 2) 61) (hT : ¬ sI κ 7 < 0) : Met l yX9_does wsX9_does (rmz 3 67) (va_Pc [.ref (ad 0), .int 54] (rPre D q (wM q ad κ t) sz)) (va_Qv (fun (u : KS × (Nat → Int32)) => u = (act κ (t 4) (t 5) 54 (t 0) (t 1) (t 2), va_up t 3 (nxt κ 54 (t 0) (t 1) (t 3)))) (fun (u : KS × (Nat → Int32)) tt => rPo D (rA (wM q ad κ t) sz) (wM q ad u.1 u.2) tt) (rA (wM q ad κ t) sz)) 0 0 (rA (wM q ad κ t) sz) := by
  refine r_start (cc := cX9_does) (maxL := 2) (ret := none) (by decide) rfl (Nat.le_of_ble_eq_true rfl) ?_
  intro p e s m below meth c ls hC hr hlk hnm hsz hw hl
  have hx := hC.1
  have hb := hC.2.1
  have hl : lv_has ls 2 [(0, .ref (ad 0)), (1, .int 54)] := hl
  refine lv_iload_n hx hb dX9_does_0 rfl (lv_at hl 1 rfl) ?_
  refine lv_bipush (v := 14) hx hb dX9_does_1 (by decide) ?_
  refine lv_icmp_le (tgt := 12) hx hb dX9_does_3 (by decide) (fun c_ => absurd c_ (by decide)) (fun _ => ?_)
  refine lv_iload_n hx hb dX9_does_6 rfl (lv_at hl 1 rfl) ?_
  refine lv_bipush (v := 25) hx hb dX9_does_7 (by decide) ?_
  refine lv_icmp_ne (tgt := 20) hx hb dX9_does_9 (by decide) (fun _ => ?_) (fun c_ => absurd c_ (by decide))
  refine lv_iload_n hx hb dX9_does_20 rfl (lv_at hl 1 rfl) ?_
  refine lv_bipush (v := 26) hx hb dX9_does_21 (by decide) ?_
  refine lv_icmp_gt (tgt := 34) hx hb dX9_does_23 (by decide) (fun _ => ?_) (fun c_ => absurd (by decide) c_)
  refine lv_iload_n hx hb dX9_does_34 rfl (lv_at hl 1 rfl) ?_
  refine lv_bipush (v := 30) hx hb dX9_does_35 (by decide) ?_
  refine lv_icmp_gt (tgt := 48) hx hb dX9_does_37 (by decide) (fun _ => ?_) (fun c_ => absurd (by decide) c_)
  refine lv_iload_n hx hb dX9_does_48 rfl (lv_at hl 1 rfl) ?_
  refine lv_bipush (v := 38) hx hb dX9_does_49 (by decide) ?_
  refine lv_icmp_gt (tgt := 62) hx hb dX9_does_51 (by decide) (fun _ => ?_) (fun c_ => absurd (by decide) c_)
  refine lv_iload_n hx hb dX9_does_62 rfl (lv_at hl 1 rfl) ?_
  refine lv_bipush (v := 48) hx hb dX9_does_63 (by decide) ?_
  refine lv_icmp_gt (tgt := 79) hx hb dX9_does_65 (by decide) (fun _ => ?_) (fun c_ => absurd (by decide) c_)
  refine lv_iload_n hx hb dX9_does_79 rfl (lv_at hl 1 rfl) ?_
  refine lv_bipush (v := 58) hx hb dX9_does_80 (by decide) ?_
  refine lv_icmp_gt (tgt := 96) hx hb dX9_does_82 (by decide) (fun c_ => absurd c_ (by decide)) (fun _ => ?_)
  refine lv_aload_n hx hb dX9_does_85 rfl (lv_at hl 0 rfl) ?_
  refine lv_iload_n hx hb dX9_does_86 rfl (lv_at hl 1 rfl) ?_
  refine lv_bipush (v := 49) hx hb dX9_does_87 (by decide) ?_
  refine lv_isub hx hb dX9_does_89 ?_
  refine r_topi (x := 54 - 49) (y := 5) (by decide) ?_
  refine r_kv hw (r_runV (rest := []) hC hw 0 (c_X9_puts_5 (ad := ad) l _ hs hW hy hN hc hm hT) rk9 (wMl 0 (by decide)) wM0 1 gX9_does_X9_puts rfl rfl rfl (by decide +kernel) ⟨Nat.le_of_ble_eq_true rfl, Nat.le_of_ble_eq_true rfl⟩ rfl hl.1 rfl (Nat.le_of_ble_eq_true rfl) dX9_does_90 ⟨Nat.le_of_ble_eq_true rfl, Nat.le_of_ble_eq_true rfl⟩) (fun u_3 H locs h_1 hw => ?_)
  subst h_1
  dsimp only at hw
  refine lv_goto (tgt := 115) hx hb dX9_does_93 (by decide) ?_
  exact r_vret hC hr hlk hw (act κ (t 4) (t 5) 54 (t 0) (t 1) (t 2), t) rfl (congrArg (Prod.mk _) (upt t 3).symm) (Nat.le_of_ble_eq_true rfl) (Nat.le_of_ble_eq_true rfl) dX9_does_115

set_option maxHeartbeats 4000000 in
set_option maxRecDepth 100000 in
theorem c_X9_does_55 (l : Launch) {D : va_G} {q : Nat → ClassId} {ad : Nat → Nat} {κ : KS} {t : Nat → Int32} (sz : Nat) (hs : okStep 55 (t 0) (t 1) (t 2)) (hW : WFm κ) (hy : why κ 55 (t 0) (t 1) (t 2) = 0) (hN : nnOp κ 55 (t 0) (t 1) (t 2)) (hc : vp_in (sI κ 6) 13) (hm : vp_in (sI κ 2) 61) (hT : ¬ sI κ 7 < 0) : Met l yX9_does wsX9_does (rmz 3 67) (va_Pc [.ref (ad 0), .int 55] (rPre D q (wM q ad κ t) sz)) (va_Qv (fun (u : KS × (Nat → Int32)) => u = (act κ (t 4) (t 5) 55 (t 0) (t 1) (t 2), va_up t 3 (nxt κ 55 (t 0) (t 1) (t 3)))) (fun (u : KS × (Nat → Int32)) tt => rPo D (rA (wM q ad κ t) sz) (wM q ad u.1 u.2) tt) (rA (wM q ad κ t) sz)) 0 0 (rA (wM q ad κ t) sz) := by
  refine r_start (cc := cX9_does) (maxL := 2) (ret := none) (by decide) rfl (Nat.le_of_ble_eq_true rfl) ?_
  intro p e s m below meth c ls hC hr hlk hnm hsz hw hl
  have hx := hC.1
  have hb := hC.2.1
  have hl : lv_has ls 2 [(0, .ref (ad 0)), (1, .int 55)] := hl
  refine lv_iload_n hx hb dX9_does_0 rfl (lv_at hl 1 rfl) ?_
  refine lv_bipush (v := 14) hx hb dX9_does_1 (by decide) ?_
  refine lv_icmp_le (tgt := 12) hx hb dX9_does_3 (by decide) (fun c_ => absurd c_ (by decide)) (fun _ => ?_)
  refine lv_iload_n hx hb dX9_does_6 rfl (lv_at hl 1 rfl) ?_
  refine lv_bipush (v := 25) hx hb dX9_does_7 (by decide) ?_
  refine lv_icmp_ne (tgt := 20) hx hb dX9_does_9 (by decide) (fun _ => ?_) (fun c_ => absurd c_ (by decide))
  refine lv_iload_n hx hb dX9_does_20 rfl (lv_at hl 1 rfl) ?_
  refine lv_bipush (v := 26) hx hb dX9_does_21 (by decide) ?_
  refine lv_icmp_gt (tgt := 34) hx hb dX9_does_23 (by decide) (fun _ => ?_) (fun c_ => absurd (by decide) c_)
  refine lv_iload_n hx hb dX9_does_34 rfl (lv_at hl 1 rfl) ?_
  refine lv_bipush (v := 30) hx hb dX9_does_35 (by decide) ?_
  refine lv_icmp_gt (tgt := 48) hx hb dX9_does_37 (by decide) (fun _ => ?_) (fun c_ => absurd (by decide) c_)
  refine lv_iload_n hx hb dX9_does_48 rfl (lv_at hl 1 rfl) ?_
  refine lv_bipush (v := 38) hx hb dX9_does_49 (by decide) ?_
  refine lv_icmp_gt (tgt := 62) hx hb dX9_does_51 (by decide) (fun _ => ?_) (fun c_ => absurd (by decide) c_)
  refine lv_iload_n hx hb dX9_does_62 rfl (lv_at hl 1 rfl) ?_
  refine lv_bipush (v := 48) hx hb dX9_does_63 (by decide) ?_
  refine lv_icmp_gt (tgt := 79) hx hb dX9_does_65 (by decide) (fun _ => ?_) (fun c_ => absurd (by decide) c_)
  refine lv_iload_n hx hb dX9_does_79 rfl (lv_at hl 1 rfl) ?_
  refine lv_bipush (v := 58) hx hb dX9_does_80 (by decide) ?_
  refine lv_icmp_gt (tgt := 96) hx hb dX9_does_82 (by decide) (fun c_ => absurd c_ (by decide)) (fun _ => ?_)
  refine lv_aload_n hx hb dX9_does_85 rfl (lv_at hl 0 rfl) ?_
  refine lv_iload_n hx hb dX9_does_86 rfl (lv_at hl 1 rfl) ?_
  refine lv_bipush (v := 49) hx hb dX9_does_87 (by decide) ?_
  refine lv_isub hx hb dX9_does_89 ?_
  refine r_topi (x := 55 - 49) (y := 6) (by decide) ?_
  refine r_kv hw (r_runV (rest := []) hC hw 0 (c_X9_puts_6 (ad := ad) l _ hs hW hy hN hc hm hT) rk9 (wMl 0 (by decide)) wM0 1 gX9_does_X9_puts rfl rfl rfl (by decide +kernel) ⟨Nat.le_of_ble_eq_true rfl, Nat.le_of_ble_eq_true rfl⟩ rfl hl.1 rfl (Nat.le_of_ble_eq_true rfl) dX9_does_90 ⟨Nat.le_of_ble_eq_true rfl, Nat.le_of_ble_eq_true rfl⟩) (fun u_3 H locs h_1 hw => ?_)
  subst h_1
  dsimp only at hw
  refine lv_goto (tgt := 115) hx hb dX9_does_93 (by decide) ?_
  exact r_vret hC hr hlk hw (act κ (t 4) (t 5) 55 (t 0) (t 1) (t 2), t) rfl (congrArg (Prod.mk _) (upt t 3).symm) (Nat.le_of_ble_eq_true rfl) (Nat.le_of_ble_eq_true rfl) dX9_does_115

set_option maxHeartbeats 4000000 in
set_option maxRecDepth 100000 in
theorem c_X9_does_56 (l : Launch) {D : va_G} {q : Nat → ClassId} {ad : Nat → Nat} {κ : KS} {t : Nat → Int32} (sz : Nat) (hs : okStep 56 (t 0) (t 1) (t 2)) (hW : WFm κ) (hy : why κ 56 (t 0) (t 1) (t 2) = 0) (hN : nnOp κ 56 (t 0) (t 1) (t 2)) (hc : vp_in (sI κ 6) 13) (hm : vp_in (sI κ 2) 61) (hT : ¬ sI κ 7 < 0) : Met l yX9_does wsX9_does (rmz 3 67) (va_Pc [.ref (ad 0), .int 56] (rPre D q (wM q ad κ t) sz)) (va_Qv (fun (u : KS × (Nat → Int32)) => u = (act κ (t 4) (t 5) 56 (t 0) (t 1) (t 2), va_up t 3 (nxt κ 56 (t 0) (t 1) (t 3)))) (fun (u : KS × (Nat → Int32)) tt => rPo D (rA (wM q ad κ t) sz) (wM q ad u.1 u.2) tt) (rA (wM q ad κ t) sz)) 0 0 (rA (wM q ad κ t) sz) := by
  refine r_start (cc := cX9_does) (maxL := 2) (ret := none) (by decide) rfl (Nat.le_of_ble_eq_true rfl) ?_
  intro p e s m below meth c ls hC hr hlk hnm hsz hw hl
  have hx := hC.1
  have hb := hC.2.1
  have hl : lv_has ls 2 [(0, .ref (ad 0)), (1, .int 56)] := hl
  refine lv_iload_n hx hb dX9_does_0 rfl (lv_at hl 1 rfl) ?_
  refine lv_bipush (v := 14) hx hb dX9_does_1 (by decide) ?_
  refine lv_icmp_le (tgt := 12) hx hb dX9_does_3 (by decide) (fun c_ => absurd c_ (by decide)) (fun _ => ?_)
  refine lv_iload_n hx hb dX9_does_6 rfl (lv_at hl 1 rfl) ?_
  refine lv_bipush (v := 25) hx hb dX9_does_7 (by decide) ?_
  refine lv_icmp_ne (tgt := 20) hx hb dX9_does_9 (by decide) (fun _ => ?_) (fun c_ => absurd c_ (by decide))
  refine lv_iload_n hx hb dX9_does_20 rfl (lv_at hl 1 rfl) ?_
  refine lv_bipush (v := 26) hx hb dX9_does_21 (by decide) ?_
  refine lv_icmp_gt (tgt := 34) hx hb dX9_does_23 (by decide) (fun _ => ?_) (fun c_ => absurd (by decide) c_)
  refine lv_iload_n hx hb dX9_does_34 rfl (lv_at hl 1 rfl) ?_
  refine lv_bipush (v := 30) hx hb dX9_does_35 (by decide) ?_
  refine lv_icmp_gt (tgt := 48) hx hb dX9_does_37 (by decide) (fun _ => ?_) (fun c_ => absurd (by decide) c_)
  refine lv_iload_n hx hb dX9_does_48 rfl (lv_at hl 1 rfl) ?_
  refine lv_bipush (v := 38) hx hb dX9_does_49 (by decide) ?_
  refine lv_icmp_gt (tgt := 62) hx hb dX9_does_51 (by decide) (fun _ => ?_) (fun c_ => absurd (by decide) c_)
  refine lv_iload_n hx hb dX9_does_62 rfl (lv_at hl 1 rfl) ?_
  refine lv_bipush (v := 48) hx hb dX9_does_63 (by decide) ?_
  refine lv_icmp_gt (tgt := 79) hx hb dX9_does_65 (by decide) (fun _ => ?_) (fun c_ => absurd (by decide) c_)
  refine lv_iload_n hx hb dX9_does_79 rfl (lv_at hl 1 rfl) ?_
  refine lv_bipush (v := 58) hx hb dX9_does_80 (by decide) ?_
  refine lv_icmp_gt (tgt := 96) hx hb dX9_does_82 (by decide) (fun c_ => absurd c_ (by decide)) (fun _ => ?_)
  refine lv_aload_n hx hb dX9_does_85 rfl (lv_at hl 0 rfl) ?_
  refine lv_iload_n hx hb dX9_does_86 rfl (lv_at hl 1 rfl) ?_
  refine lv_bipush (v := 49) hx hb dX9_does_87 (by decide) ?_
  refine lv_isub hx hb dX9_does_89 ?_
  refine r_topi (x := 56 - 49) (y := 7) (by decide) ?_
  refine r_kv hw (r_runV (rest := []) hC hw 0 (c_X9_puts_7 (ad := ad) l _ hs hW hy hN hc hm hT) rk9 (wMl 0 (by decide)) wM0 1 gX9_does_X9_puts rfl rfl rfl (by decide +kernel) ⟨Nat.le_of_ble_eq_true rfl, Nat.le_of_ble_eq_true rfl⟩ rfl hl.1 rfl (Nat.le_of_ble_eq_true rfl) dX9_does_90 ⟨Nat.le_of_ble_eq_true rfl, Nat.le_of_ble_eq_true rfl⟩) (fun u_3 H locs h_1 hw => ?_)
  subst h_1
  dsimp only at hw
  refine lv_goto (tgt := 115) hx hb dX9_does_93 (by decide) ?_
  exact r_vret hC hr hlk hw (act κ (t 4) (t 5) 56 (t 0) (t 1) (t 2), t) rfl (congrArg (Prod.mk _) (upt t 3).symm) (Nat.le_of_ble_eq_true rfl) (Nat.le_of_ble_eq_true rfl) dX9_does_115

set_option maxHeartbeats 4000000 in
set_option maxRecDepth 100000 in
theorem c_X9_does_57 (l : Launch) {D : va_G} {q : Nat → ClassId} {ad : Nat → Nat} {κ : KS} {t : Nat → Int32} (sz : Nat) (hs : okStep 57 (t 0) (t 1) (t 2)) (hW : WFm κ) (hy : why κ 57 (t 0) (t 1) (t 2) = 0) (hN : nnOp κ 57 (t 0) (t 1) (t 2)) (hc : vp_in (sI κ 6) 13) (hm : vp_in (sI κ 2) 61) (hT : ¬ sI κ 7 < 0) : Met l yX9_does wsX9_does (rmz 3 67) (va_Pc [.ref (ad 0), .int 57] (rPre D q (wM q ad κ t) sz)) (va_Qv (fun (u : KS × (Nat → Int32)) => u = (act κ (t 4) (t 5) 57 (t 0) (t 1) (t 2), va_up t 3 (nxt κ 57 (t 0) (t 1) (t 3)))) (fun (u : KS × (Nat → Int32)) tt => rPo D (rA (wM q ad κ t) sz) (wM q ad u.1 u.2) tt) (rA (wM q ad κ t) sz)) 0 0 (rA (wM q ad κ t) sz) := by
  refine r_start (cc := cX9_does) (maxL := 2) (ret := none) (by decide) rfl (Nat.le_of_ble_eq_true rfl) ?_
  intro p e s m below meth c ls hC hr hlk hnm hsz hw hl
  have hx := hC.1
  have hb := hC.2.1
  have hl : lv_has ls 2 [(0, .ref (ad 0)), (1, .int 57)] := hl
  refine lv_iload_n hx hb dX9_does_0 rfl (lv_at hl 1 rfl) ?_
  refine lv_bipush (v := 14) hx hb dX9_does_1 (by decide) ?_
  refine lv_icmp_le (tgt := 12) hx hb dX9_does_3 (by decide) (fun c_ => absurd c_ (by decide)) (fun _ => ?_)
  refine lv_iload_n hx hb dX9_does_6 rfl (lv_at hl 1 rfl) ?_
  refine lv_bipush (v := 25) hx hb dX9_does_7 (by decide) ?_
  refine lv_icmp_ne (tgt := 20) hx hb dX9_does_9 (by decide) (fun _ => ?_) (fun c_ => absurd c_ (by decide))
  refine lv_iload_n hx hb dX9_does_20 rfl (lv_at hl 1 rfl) ?_
  refine lv_bipush (v := 26) hx hb dX9_does_21 (by decide) ?_
  refine lv_icmp_gt (tgt := 34) hx hb dX9_does_23 (by decide) (fun _ => ?_) (fun c_ => absurd (by decide) c_)
  refine lv_iload_n hx hb dX9_does_34 rfl (lv_at hl 1 rfl) ?_
  refine lv_bipush (v := 30) hx hb dX9_does_35 (by decide) ?_
  refine lv_icmp_gt (tgt := 48) hx hb dX9_does_37 (by decide) (fun _ => ?_) (fun c_ => absurd (by decide) c_)
  refine lv_iload_n hx hb dX9_does_48 rfl (lv_at hl 1 rfl) ?_
  refine lv_bipush (v := 38) hx hb dX9_does_49 (by decide) ?_
  refine lv_icmp_gt (tgt := 62) hx hb dX9_does_51 (by decide) (fun _ => ?_) (fun c_ => absurd (by decide) c_)
  refine lv_iload_n hx hb dX9_does_62 rfl (lv_at hl 1 rfl) ?_
  refine lv_bipush (v := 48) hx hb dX9_does_63 (by decide) ?_
  refine lv_icmp_gt (tgt := 79) hx hb dX9_does_65 (by decide) (fun _ => ?_) (fun c_ => absurd (by decide) c_)
  refine lv_iload_n hx hb dX9_does_79 rfl (lv_at hl 1 rfl) ?_
  refine lv_bipush (v := 58) hx hb dX9_does_80 (by decide) ?_
  refine lv_icmp_gt (tgt := 96) hx hb dX9_does_82 (by decide) (fun c_ => absurd c_ (by decide)) (fun _ => ?_)
  refine lv_aload_n hx hb dX9_does_85 rfl (lv_at hl 0 rfl) ?_
  refine lv_iload_n hx hb dX9_does_86 rfl (lv_at hl 1 rfl) ?_
  refine lv_bipush (v := 49) hx hb dX9_does_87 (by decide) ?_
  refine lv_isub hx hb dX9_does_89 ?_
  refine r_topi (x := 57 - 49) (y := 8) (by decide) ?_
  refine r_kv hw (r_runV (rest := []) hC hw 0 (c_X9_puts_8 (ad := ad) l _ hs hW hy hN hc hm hT) rk9 (wMl 0 (by decide)) wM0 1 gX9_does_X9_puts rfl rfl rfl (by decide +kernel) ⟨Nat.le_of_ble_eq_true rfl, Nat.le_of_ble_eq_true rfl⟩ rfl hl.1 rfl (Nat.le_of_ble_eq_true rfl) dX9_does_90 ⟨Nat.le_of_ble_eq_true rfl, Nat.le_of_ble_eq_true rfl⟩) (fun u_3 H locs h_1 hw => ?_)
  subst h_1
  dsimp only at hw
  refine lv_goto (tgt := 115) hx hb dX9_does_93 (by decide) ?_
  exact r_vret hC hr hlk hw (act κ (t 4) (t 5) 57 (t 0) (t 1) (t 2), t) rfl (congrArg (Prod.mk _) (upt t 3).symm) (Nat.le_of_ble_eq_true rfl) (Nat.le_of_ble_eq_true rfl) dX9_does_115

set_option maxHeartbeats 4000000 in
set_option maxRecDepth 100000 in
theorem c_X9_does_58 (l : Launch) {D : va_G} {q : Nat → ClassId} {ad : Nat → Nat} {κ : KS} {t : Nat → Int32} (sz : Nat) (hs : okStep 58 (t 0) (t 1) (t 2)) (hW : WFm κ) (hy : why κ 58 (t 0) (t 1) (t 2) = 0) (hN : nnOp κ 58 (t 0) (t 1) (t 2)) (hc : vp_in (sI κ 6) 13) (hm : vp_in (sI κ 2) 61) (hT : ¬ sI κ 7 < 0) : Met l yX9_does wsX9_does (rmz 3 67) (va_Pc [.ref (ad 0), .int 58] (rPre D q (wM q ad κ t) sz)) (va_Qv (fun (u : KS × (Nat → Int32)) => u = (act κ (t 4) (t 5) 58 (t 0) (t 1) (t 2), va_up t 3 (nxt κ 58 (t 0) (t 1) (t 3)))) (fun (u : KS × (Nat → Int32)) tt => rPo D (rA (wM q ad κ t) sz) (wM q ad u.1 u.2) tt) (rA (wM q ad κ t) sz)) 0 0 (rA (wM q ad κ t) sz) := by
  refine r_start (cc := cX9_does) (maxL := 2) (ret := none) (by decide) rfl (Nat.le_of_ble_eq_true rfl) ?_
  intro p e s m below meth c ls hC hr hlk hnm hsz hw hl
  have hx := hC.1
  have hb := hC.2.1
  have hl : lv_has ls 2 [(0, .ref (ad 0)), (1, .int 58)] := hl
  refine lv_iload_n hx hb dX9_does_0 rfl (lv_at hl 1 rfl) ?_
  refine lv_bipush (v := 14) hx hb dX9_does_1 (by decide) ?_
  refine lv_icmp_le (tgt := 12) hx hb dX9_does_3 (by decide) (fun c_ => absurd c_ (by decide)) (fun _ => ?_)
  refine lv_iload_n hx hb dX9_does_6 rfl (lv_at hl 1 rfl) ?_
  refine lv_bipush (v := 25) hx hb dX9_does_7 (by decide) ?_
  refine lv_icmp_ne (tgt := 20) hx hb dX9_does_9 (by decide) (fun _ => ?_) (fun c_ => absurd c_ (by decide))
  refine lv_iload_n hx hb dX9_does_20 rfl (lv_at hl 1 rfl) ?_
  refine lv_bipush (v := 26) hx hb dX9_does_21 (by decide) ?_
  refine lv_icmp_gt (tgt := 34) hx hb dX9_does_23 (by decide) (fun _ => ?_) (fun c_ => absurd (by decide) c_)
  refine lv_iload_n hx hb dX9_does_34 rfl (lv_at hl 1 rfl) ?_
  refine lv_bipush (v := 30) hx hb dX9_does_35 (by decide) ?_
  refine lv_icmp_gt (tgt := 48) hx hb dX9_does_37 (by decide) (fun _ => ?_) (fun c_ => absurd (by decide) c_)
  refine lv_iload_n hx hb dX9_does_48 rfl (lv_at hl 1 rfl) ?_
  refine lv_bipush (v := 38) hx hb dX9_does_49 (by decide) ?_
  refine lv_icmp_gt (tgt := 62) hx hb dX9_does_51 (by decide) (fun _ => ?_) (fun c_ => absurd (by decide) c_)
  refine lv_iload_n hx hb dX9_does_62 rfl (lv_at hl 1 rfl) ?_
  refine lv_bipush (v := 48) hx hb dX9_does_63 (by decide) ?_
  refine lv_icmp_gt (tgt := 79) hx hb dX9_does_65 (by decide) (fun _ => ?_) (fun c_ => absurd (by decide) c_)
  refine lv_iload_n hx hb dX9_does_79 rfl (lv_at hl 1 rfl) ?_
  refine lv_bipush (v := 58) hx hb dX9_does_80 (by decide) ?_
  refine lv_icmp_gt (tgt := 96) hx hb dX9_does_82 (by decide) (fun c_ => absurd c_ (by decide)) (fun _ => ?_)
  refine lv_aload_n hx hb dX9_does_85 rfl (lv_at hl 0 rfl) ?_
  refine lv_iload_n hx hb dX9_does_86 rfl (lv_at hl 1 rfl) ?_
  refine lv_bipush (v := 49) hx hb dX9_does_87 (by decide) ?_
  refine lv_isub hx hb dX9_does_89 ?_
  refine r_topi (x := 58 - 49) (y := 9) (by decide) ?_
  refine r_kv hw (r_runV (rest := []) hC hw 0 (c_X9_puts_9 (ad := ad) l _ hs hW hy hN hc hm hT) rk9 (wMl 0 (by decide)) wM0 1 gX9_does_X9_puts rfl rfl rfl (by decide +kernel) ⟨Nat.le_of_ble_eq_true rfl, Nat.le_of_ble_eq_true rfl⟩ rfl hl.1 rfl (Nat.le_of_ble_eq_true rfl) dX9_does_90 ⟨Nat.le_of_ble_eq_true rfl, Nat.le_of_ble_eq_true rfl⟩) (fun u_3 H locs h_1 hw => ?_)
  subst h_1
  dsimp only at hw
  refine lv_goto (tgt := 115) hx hb dX9_does_93 (by decide) ?_
  exact r_vret hC hr hlk hw (act κ (t 4) (t 5) 58 (t 0) (t 1) (t 2), t) rfl (congrArg (Prod.mk _) (upt t 3).symm) (Nat.le_of_ble_eq_true rfl) (Nat.le_of_ble_eq_true rfl) dX9_does_115

set_option maxHeartbeats 4000000 in
set_option maxRecDepth 100000 in
theorem c_X9_does_59 (l : Launch) {D : va_G} {q : Nat → ClassId} {ad : Nat → Nat} {κ : KS} {t : Nat → Int32} (sz : Nat) (hs : okStep 59 (t 0) (t 1) (t 2)) (hW : WFm κ) (hy : why κ 59 (t 0) (t 1) (t 2) = 0) (hN : nnOp κ 59 (t 0) (t 1) (t 2)) (hc : vp_in (sI κ 6) 13) (hm : vp_in (sI κ 2) 61) (hT : ¬ sI κ 7 < 0) : Met l yX9_does wsX9_does (rmz 3 67) (va_Pc [.ref (ad 0), .int 59] (rPre D q (wM q ad κ t) sz)) (va_Qv (fun (u : KS × (Nat → Int32)) => u = (act κ (t 4) (t 5) 59 (t 0) (t 1) (t 2), va_up t 3 (nxt κ 59 (t 0) (t 1) (t 3)))) (fun (u : KS × (Nat → Int32)) tt => rPo D (rA (wM q ad κ t) sz) (wM q ad u.1 u.2) tt) (rA (wM q ad κ t) sz)) 0 0 (rA (wM q ad κ t) sz) := by
  refine r_start (cc := cX9_does) (maxL := 2) (ret := none) (by decide) rfl (Nat.le_of_ble_eq_true rfl) ?_
  intro p e s m below meth c ls hC hr hlk hnm hsz hw hl
  have hx := hC.1
  have hb := hC.2.1
  have hl : lv_has ls 2 [(0, .ref (ad 0)), (1, .int 59)] := hl
  refine lv_iload_n hx hb dX9_does_0 rfl (lv_at hl 1 rfl) ?_
  refine lv_bipush (v := 14) hx hb dX9_does_1 (by decide) ?_
  refine lv_icmp_le (tgt := 12) hx hb dX9_does_3 (by decide) (fun c_ => absurd c_ (by decide)) (fun _ => ?_)
  refine lv_iload_n hx hb dX9_does_6 rfl (lv_at hl 1 rfl) ?_
  refine lv_bipush (v := 25) hx hb dX9_does_7 (by decide) ?_
  refine lv_icmp_ne (tgt := 20) hx hb dX9_does_9 (by decide) (fun _ => ?_) (fun c_ => absurd c_ (by decide))
  refine lv_iload_n hx hb dX9_does_20 rfl (lv_at hl 1 rfl) ?_
  refine lv_bipush (v := 26) hx hb dX9_does_21 (by decide) ?_
  refine lv_icmp_gt (tgt := 34) hx hb dX9_does_23 (by decide) (fun _ => ?_) (fun c_ => absurd (by decide) c_)
  refine lv_iload_n hx hb dX9_does_34 rfl (lv_at hl 1 rfl) ?_
  refine lv_bipush (v := 30) hx hb dX9_does_35 (by decide) ?_
  refine lv_icmp_gt (tgt := 48) hx hb dX9_does_37 (by decide) (fun _ => ?_) (fun c_ => absurd (by decide) c_)
  refine lv_iload_n hx hb dX9_does_48 rfl (lv_at hl 1 rfl) ?_
  refine lv_bipush (v := 38) hx hb dX9_does_49 (by decide) ?_
  refine lv_icmp_gt (tgt := 62) hx hb dX9_does_51 (by decide) (fun _ => ?_) (fun c_ => absurd (by decide) c_)
  refine lv_iload_n hx hb dX9_does_62 rfl (lv_at hl 1 rfl) ?_
  refine lv_bipush (v := 48) hx hb dX9_does_63 (by decide) ?_
  refine lv_icmp_gt (tgt := 79) hx hb dX9_does_65 (by decide) (fun _ => ?_) (fun c_ => absurd (by decide) c_)
  refine lv_iload_n hx hb dX9_does_79 rfl (lv_at hl 1 rfl) ?_
  refine lv_bipush (v := 58) hx hb dX9_does_80 (by decide) ?_
  refine lv_icmp_gt (tgt := 96) hx hb dX9_does_82 (by decide) (fun _ => ?_) (fun c_ => absurd (by decide) c_)
  refine lv_iload_n hx hb dX9_does_96 rfl (lv_at hl 1 rfl) ?_
  refine lv_bipush (v := 66) hx hb dX9_does_97 (by decide) ?_
  refine lv_icmp_gt (tgt := 110) hx hb dX9_does_99 (by decide) (fun c_ => absurd c_ (by decide)) (fun _ => ?_)
  refine lv_aload_n hx hb dX9_does_102 rfl (lv_at hl 0 rfl) ?_
  refine lv_iload_n hx hb dX9_does_103 rfl (lv_at hl 1 rfl) ?_
  refine r_kv hw (r_runV (rest := []) hC hw 0 (c_X9_doesKnot_59 (ad := ad) l _ hs hW hy hN hc hm hT) rk9 (wMl 0 (by decide)) wM0 1 gX9_does_X9_doesKnot rfl rfl rfl (by decide +kernel) ⟨Nat.le_of_ble_eq_true rfl, Nat.le_of_ble_eq_true rfl⟩ rfl hl.1 rfl (Nat.le_of_ble_eq_true rfl) dX9_does_104 ⟨Nat.le_of_ble_eq_true rfl, Nat.le_of_ble_eq_true rfl⟩) (fun u_3 H locs h_1 hw => ?_)
  subst h_1
  dsimp only at hw
  refine lv_goto (tgt := 115) hx hb dX9_does_107 (by decide) ?_
  exact r_vret hC hr hlk hw (act κ (t 4) (t 5) 59 (t 0) (t 1) (t 2), t) rfl (congrArg (Prod.mk _) (upt t 3).symm) (Nat.le_of_ble_eq_true rfl) (Nat.le_of_ble_eq_true rfl) dX9_does_115

set_option maxHeartbeats 4000000 in
set_option maxRecDepth 100000 in
theorem c_X9_does_60 (l : Launch) {D : va_G} {q : Nat → ClassId} {ad : Nat → Nat} {κ : KS} {t : Nat → Int32} (sz : Nat) (hs : okStep 60 (t 0) (t 1) (t 2)) (hW : WFm κ) (hy : why κ 60 (t 0) (t 1) (t 2) = 0) (hN : nnOp κ 60 (t 0) (t 1) (t 2)) (hc : vp_in (sI κ 6) 13) (hm : vp_in (sI κ 2) 61) (hT : ¬ sI κ 7 < 0) : Met l yX9_does wsX9_does (rmz 3 67) (va_Pc [.ref (ad 0), .int 60] (rPre D q (wM q ad κ t) sz)) (va_Qv (fun (u : KS × (Nat → Int32)) => u = (act κ (t 4) (t 5) 60 (t 0) (t 1) (t 2), va_up t 3 (nxt κ 60 (t 0) (t 1) (t 3)))) (fun (u : KS × (Nat → Int32)) tt => rPo D (rA (wM q ad κ t) sz) (wM q ad u.1 u.2) tt) (rA (wM q ad κ t) sz)) 0 0 (rA (wM q ad κ t) sz) := by
  refine r_start (cc := cX9_does) (maxL := 2) (ret := none) (by decide) rfl (Nat.le_of_ble_eq_true rfl) ?_
  intro p e s m below meth c ls hC hr hlk hnm hsz hw hl
  have hx := hC.1
  have hb := hC.2.1
  have hl : lv_has ls 2 [(0, .ref (ad 0)), (1, .int 60)] := hl
  refine lv_iload_n hx hb dX9_does_0 rfl (lv_at hl 1 rfl) ?_
  refine lv_bipush (v := 14) hx hb dX9_does_1 (by decide) ?_
  refine lv_icmp_le (tgt := 12) hx hb dX9_does_3 (by decide) (fun c_ => absurd c_ (by decide)) (fun _ => ?_)
  refine lv_iload_n hx hb dX9_does_6 rfl (lv_at hl 1 rfl) ?_
  refine lv_bipush (v := 25) hx hb dX9_does_7 (by decide) ?_
  refine lv_icmp_ne (tgt := 20) hx hb dX9_does_9 (by decide) (fun _ => ?_) (fun c_ => absurd c_ (by decide))
  refine lv_iload_n hx hb dX9_does_20 rfl (lv_at hl 1 rfl) ?_
  refine lv_bipush (v := 26) hx hb dX9_does_21 (by decide) ?_
  refine lv_icmp_gt (tgt := 34) hx hb dX9_does_23 (by decide) (fun _ => ?_) (fun c_ => absurd (by decide) c_)
  refine lv_iload_n hx hb dX9_does_34 rfl (lv_at hl 1 rfl) ?_
  refine lv_bipush (v := 30) hx hb dX9_does_35 (by decide) ?_
  refine lv_icmp_gt (tgt := 48) hx hb dX9_does_37 (by decide) (fun _ => ?_) (fun c_ => absurd (by decide) c_)
  refine lv_iload_n hx hb dX9_does_48 rfl (lv_at hl 1 rfl) ?_
  refine lv_bipush (v := 38) hx hb dX9_does_49 (by decide) ?_
  refine lv_icmp_gt (tgt := 62) hx hb dX9_does_51 (by decide) (fun _ => ?_) (fun c_ => absurd (by decide) c_)
  refine lv_iload_n hx hb dX9_does_62 rfl (lv_at hl 1 rfl) ?_
  refine lv_bipush (v := 48) hx hb dX9_does_63 (by decide) ?_
  refine lv_icmp_gt (tgt := 79) hx hb dX9_does_65 (by decide) (fun _ => ?_) (fun c_ => absurd (by decide) c_)
  refine lv_iload_n hx hb dX9_does_79 rfl (lv_at hl 1 rfl) ?_
  refine lv_bipush (v := 58) hx hb dX9_does_80 (by decide) ?_
  refine lv_icmp_gt (tgt := 96) hx hb dX9_does_82 (by decide) (fun _ => ?_) (fun c_ => absurd (by decide) c_)
  refine lv_iload_n hx hb dX9_does_96 rfl (lv_at hl 1 rfl) ?_
  refine lv_bipush (v := 66) hx hb dX9_does_97 (by decide) ?_
  refine lv_icmp_gt (tgt := 110) hx hb dX9_does_99 (by decide) (fun c_ => absurd c_ (by decide)) (fun _ => ?_)
  refine lv_aload_n hx hb dX9_does_102 rfl (lv_at hl 0 rfl) ?_
  refine lv_iload_n hx hb dX9_does_103 rfl (lv_at hl 1 rfl) ?_
  refine r_kv hw (r_runV (rest := []) hC hw 0 (c_X9_doesKnot_60 (ad := ad) l _ hs hW hy hN hc hm hT) rk9 (wMl 0 (by decide)) wM0 1 gX9_does_X9_doesKnot rfl rfl rfl (by decide +kernel) ⟨Nat.le_of_ble_eq_true rfl, Nat.le_of_ble_eq_true rfl⟩ rfl hl.1 rfl (Nat.le_of_ble_eq_true rfl) dX9_does_104 ⟨Nat.le_of_ble_eq_true rfl, Nat.le_of_ble_eq_true rfl⟩) (fun u_3 H locs h_1 hw => ?_)
  subst h_1
  dsimp only at hw
  refine lv_goto (tgt := 115) hx hb dX9_does_107 (by decide) ?_
  exact r_vret hC hr hlk hw (act κ (t 4) (t 5) 60 (t 0) (t 1) (t 2), t) rfl (congrArg (Prod.mk _) (upt t 3).symm) (Nat.le_of_ble_eq_true rfl) (Nat.le_of_ble_eq_true rfl) dX9_does_115

set_option maxHeartbeats 4000000 in
set_option maxRecDepth 100000 in
theorem c_X9_does_61 (l : Launch) {D : va_G} {q : Nat → ClassId} {ad : Nat → Nat} {κ : KS} {t : Nat → Int32} (sz : Nat) (hs : okStep 61 (t 0) (t 1) (t 2)) (hW : WFm κ) (hy : why κ 61 (t 0) (t 1) (t 2) = 0) (hN : nnOp κ 61 (t 0) (t 1) (t 2)) (hc : vp_in (sI κ 6) 13) (hm : vp_in (sI κ 2) 61) (hT : ¬ sI κ 7 < 0) : Met l yX9_does wsX9_does (rmz 3 67) (va_Pc [.ref (ad 0), .int 61] (rPre D q (wM q ad κ t) sz)) (va_Qv (fun (u : KS × (Nat → Int32)) => u = (act κ (t 4) (t 5) 61 (t 0) (t 1) (t 2), va_up t 3 (nxt κ 61 (t 0) (t 1) (t 3)))) (fun (u : KS × (Nat → Int32)) tt => rPo D (rA (wM q ad κ t) sz) (wM q ad u.1 u.2) tt) (rA (wM q ad κ t) sz)) 0 0 (rA (wM q ad κ t) sz) := by
  refine r_start (cc := cX9_does) (maxL := 2) (ret := none) (by decide) rfl (Nat.le_of_ble_eq_true rfl) ?_
  intro p e s m below meth c ls hC hr hlk hnm hsz hw hl
  have hx := hC.1
  have hb := hC.2.1
  have hl : lv_has ls 2 [(0, .ref (ad 0)), (1, .int 61)] := hl
  refine lv_iload_n hx hb dX9_does_0 rfl (lv_at hl 1 rfl) ?_
  refine lv_bipush (v := 14) hx hb dX9_does_1 (by decide) ?_
  refine lv_icmp_le (tgt := 12) hx hb dX9_does_3 (by decide) (fun c_ => absurd c_ (by decide)) (fun _ => ?_)
  refine lv_iload_n hx hb dX9_does_6 rfl (lv_at hl 1 rfl) ?_
  refine lv_bipush (v := 25) hx hb dX9_does_7 (by decide) ?_
  refine lv_icmp_ne (tgt := 20) hx hb dX9_does_9 (by decide) (fun _ => ?_) (fun c_ => absurd c_ (by decide))
  refine lv_iload_n hx hb dX9_does_20 rfl (lv_at hl 1 rfl) ?_
  refine lv_bipush (v := 26) hx hb dX9_does_21 (by decide) ?_
  refine lv_icmp_gt (tgt := 34) hx hb dX9_does_23 (by decide) (fun _ => ?_) (fun c_ => absurd (by decide) c_)
  refine lv_iload_n hx hb dX9_does_34 rfl (lv_at hl 1 rfl) ?_
  refine lv_bipush (v := 30) hx hb dX9_does_35 (by decide) ?_
  refine lv_icmp_gt (tgt := 48) hx hb dX9_does_37 (by decide) (fun _ => ?_) (fun c_ => absurd (by decide) c_)
  refine lv_iload_n hx hb dX9_does_48 rfl (lv_at hl 1 rfl) ?_
  refine lv_bipush (v := 38) hx hb dX9_does_49 (by decide) ?_
  refine lv_icmp_gt (tgt := 62) hx hb dX9_does_51 (by decide) (fun _ => ?_) (fun c_ => absurd (by decide) c_)
  refine lv_iload_n hx hb dX9_does_62 rfl (lv_at hl 1 rfl) ?_
  refine lv_bipush (v := 48) hx hb dX9_does_63 (by decide) ?_
  refine lv_icmp_gt (tgt := 79) hx hb dX9_does_65 (by decide) (fun _ => ?_) (fun c_ => absurd (by decide) c_)
  refine lv_iload_n hx hb dX9_does_79 rfl (lv_at hl 1 rfl) ?_
  refine lv_bipush (v := 58) hx hb dX9_does_80 (by decide) ?_
  refine lv_icmp_gt (tgt := 96) hx hb dX9_does_82 (by decide) (fun _ => ?_) (fun c_ => absurd (by decide) c_)
  refine lv_iload_n hx hb dX9_does_96 rfl (lv_at hl 1 rfl) ?_
  refine lv_bipush (v := 66) hx hb dX9_does_97 (by decide) ?_
  refine lv_icmp_gt (tgt := 110) hx hb dX9_does_99 (by decide) (fun c_ => absurd c_ (by decide)) (fun _ => ?_)
  refine lv_aload_n hx hb dX9_does_102 rfl (lv_at hl 0 rfl) ?_
  refine lv_iload_n hx hb dX9_does_103 rfl (lv_at hl 1 rfl) ?_
  refine r_kv hw (r_runV (rest := []) hC hw 0 (c_X9_doesKnot_61 (ad := ad) l _ hs hW hy hN hc hm hT) rk9 (wMl 0 (by decide)) wM0 1 gX9_does_X9_doesKnot rfl rfl rfl (by decide +kernel) ⟨Nat.le_of_ble_eq_true rfl, Nat.le_of_ble_eq_true rfl⟩ rfl hl.1 rfl (Nat.le_of_ble_eq_true rfl) dX9_does_104 ⟨Nat.le_of_ble_eq_true rfl, Nat.le_of_ble_eq_true rfl⟩) (fun u_3 H locs h_1 hw => ?_)
  subst h_1
  dsimp only at hw
  refine lv_goto (tgt := 115) hx hb dX9_does_107 (by decide) ?_
  exact r_vret hC hr hlk hw (act κ (t 4) (t 5) 61 (t 0) (t 1) (t 2), t) rfl (congrArg (Prod.mk _) (upt t 3).symm) (Nat.le_of_ble_eq_true rfl) (Nat.le_of_ble_eq_true rfl) dX9_does_115

set_option maxHeartbeats 4000000 in
set_option maxRecDepth 100000 in
theorem c_X9_does_62 (l : Launch) {D : va_G} {q : Nat → ClassId} {ad : Nat → Nat} {κ : KS} {t : Nat → Int32} (sz : Nat) (hs : okStep 62 (t 0) (t 1) (t 2)) (hW : WFm κ) (hy : why κ 62 (t 0) (t 1) (t 2) = 0) (hN : nnOp κ 62 (t 0) (t 1) (t 2)) (hc : vp_in (sI κ 6) 13) (hm : vp_in (sI κ 2) 61) (hT : ¬ sI κ 7 < 0) : Met l yX9_does wsX9_does (rmz 3 67) (va_Pc [.ref (ad 0), .int 62] (rPre D q (wM q ad κ t) sz)) (va_Qv (fun (u : KS × (Nat → Int32)) => u = (act κ (t 4) (t 5) 62 (t 0) (t 1) (t 2), va_up t 3 (nxt κ 62 (t 0) (t 1) (t 3)))) (fun (u : KS × (Nat → Int32)) tt => rPo D (rA (wM q ad κ t) sz) (wM q ad u.1 u.2) tt) (rA (wM q ad κ t) sz)) 0 0 (rA (wM q ad κ t) sz) := by
  refine r_start (cc := cX9_does) (maxL := 2) (ret := none) (by decide) rfl (Nat.le_of_ble_eq_true rfl) ?_
  intro p e s m below meth c ls hC hr hlk hnm hsz hw hl
  have hx := hC.1
  have hb := hC.2.1
  have hl : lv_has ls 2 [(0, .ref (ad 0)), (1, .int 62)] := hl
  refine lv_iload_n hx hb dX9_does_0 rfl (lv_at hl 1 rfl) ?_
  refine lv_bipush (v := 14) hx hb dX9_does_1 (by decide) ?_
  refine lv_icmp_le (tgt := 12) hx hb dX9_does_3 (by decide) (fun c_ => absurd c_ (by decide)) (fun _ => ?_)
  refine lv_iload_n hx hb dX9_does_6 rfl (lv_at hl 1 rfl) ?_
  refine lv_bipush (v := 25) hx hb dX9_does_7 (by decide) ?_
  refine lv_icmp_ne (tgt := 20) hx hb dX9_does_9 (by decide) (fun _ => ?_) (fun c_ => absurd c_ (by decide))
  refine lv_iload_n hx hb dX9_does_20 rfl (lv_at hl 1 rfl) ?_
  refine lv_bipush (v := 26) hx hb dX9_does_21 (by decide) ?_
  refine lv_icmp_gt (tgt := 34) hx hb dX9_does_23 (by decide) (fun _ => ?_) (fun c_ => absurd (by decide) c_)
  refine lv_iload_n hx hb dX9_does_34 rfl (lv_at hl 1 rfl) ?_
  refine lv_bipush (v := 30) hx hb dX9_does_35 (by decide) ?_
  refine lv_icmp_gt (tgt := 48) hx hb dX9_does_37 (by decide) (fun _ => ?_) (fun c_ => absurd (by decide) c_)
  refine lv_iload_n hx hb dX9_does_48 rfl (lv_at hl 1 rfl) ?_
  refine lv_bipush (v := 38) hx hb dX9_does_49 (by decide) ?_
  refine lv_icmp_gt (tgt := 62) hx hb dX9_does_51 (by decide) (fun _ => ?_) (fun c_ => absurd (by decide) c_)
  refine lv_iload_n hx hb dX9_does_62 rfl (lv_at hl 1 rfl) ?_
  refine lv_bipush (v := 48) hx hb dX9_does_63 (by decide) ?_
  refine lv_icmp_gt (tgt := 79) hx hb dX9_does_65 (by decide) (fun _ => ?_) (fun c_ => absurd (by decide) c_)
  refine lv_iload_n hx hb dX9_does_79 rfl (lv_at hl 1 rfl) ?_
  refine lv_bipush (v := 58) hx hb dX9_does_80 (by decide) ?_
  refine lv_icmp_gt (tgt := 96) hx hb dX9_does_82 (by decide) (fun _ => ?_) (fun c_ => absurd (by decide) c_)
  refine lv_iload_n hx hb dX9_does_96 rfl (lv_at hl 1 rfl) ?_
  refine lv_bipush (v := 66) hx hb dX9_does_97 (by decide) ?_
  refine lv_icmp_gt (tgt := 110) hx hb dX9_does_99 (by decide) (fun c_ => absurd c_ (by decide)) (fun _ => ?_)
  refine lv_aload_n hx hb dX9_does_102 rfl (lv_at hl 0 rfl) ?_
  refine lv_iload_n hx hb dX9_does_103 rfl (lv_at hl 1 rfl) ?_
  refine r_kv hw (r_runV (rest := []) hC hw 0 (c_X9_doesKnot_62 (ad := ad) l _ hs hW hy hN hc hm hT) rk9 (wMl 0 (by decide)) wM0 1 gX9_does_X9_doesKnot rfl rfl rfl (by decide +kernel) ⟨Nat.le_of_ble_eq_true rfl, Nat.le_of_ble_eq_true rfl⟩ rfl hl.1 rfl (Nat.le_of_ble_eq_true rfl) dX9_does_104 ⟨Nat.le_of_ble_eq_true rfl, Nat.le_of_ble_eq_true rfl⟩) (fun u_3 H locs h_1 hw => ?_)
  subst h_1
  dsimp only at hw
  refine lv_goto (tgt := 115) hx hb dX9_does_107 (by decide) ?_
  exact r_vret hC hr hlk hw (act κ (t 4) (t 5) 62 (t 0) (t 1) (t 2), t) rfl (congrArg (Prod.mk _) (upt t 3).symm) (Nat.le_of_ble_eq_true rfl) (Nat.le_of_ble_eq_true rfl) dX9_does_115

set_option maxHeartbeats 4000000 in
set_option maxRecDepth 100000 in
theorem c_X9_does_63 (l : Launch) {D : va_G} {q : Nat → ClassId} {ad : Nat → Nat} {κ : KS} {t : Nat → Int32} (sz : Nat) (hs : okStep 63 (t 0) (t 1) (t 2)) (hW : WFm κ) (hy : why κ 63 (t 0) (t 1) (t 2) = 0) (hN : nnOp κ 63 (t 0) (t 1) (t 2)) (hc : vp_in (sI κ 6) 13) (hm : vp_in (sI κ 2) 61) (hT : ¬ sI κ 7 < 0) : Met l yX9_does wsX9_does (rmz 3 67) (va_Pc [.ref (ad 0), .int 63] (rPre D q (wM q ad κ t) sz)) (va_Qv (fun (u : KS × (Nat → Int32)) => u = (act κ (t 4) (t 5) 63 (t 0) (t 1) (t 2), va_up t 3 (nxt κ 63 (t 0) (t 1) (t 3)))) (fun (u : KS × (Nat → Int32)) tt => rPo D (rA (wM q ad κ t) sz) (wM q ad u.1 u.2) tt) (rA (wM q ad κ t) sz)) 0 0 (rA (wM q ad κ t) sz) := by
  refine r_start (cc := cX9_does) (maxL := 2) (ret := none) (by decide) rfl (Nat.le_of_ble_eq_true rfl) ?_
  intro p e s m below meth c ls hC hr hlk hnm hsz hw hl
  have hx := hC.1
  have hb := hC.2.1
  have hl : lv_has ls 2 [(0, .ref (ad 0)), (1, .int 63)] := hl
  refine lv_iload_n hx hb dX9_does_0 rfl (lv_at hl 1 rfl) ?_
  refine lv_bipush (v := 14) hx hb dX9_does_1 (by decide) ?_
  refine lv_icmp_le (tgt := 12) hx hb dX9_does_3 (by decide) (fun c_ => absurd c_ (by decide)) (fun _ => ?_)
  refine lv_iload_n hx hb dX9_does_6 rfl (lv_at hl 1 rfl) ?_
  refine lv_bipush (v := 25) hx hb dX9_does_7 (by decide) ?_
  refine lv_icmp_ne (tgt := 20) hx hb dX9_does_9 (by decide) (fun _ => ?_) (fun c_ => absurd c_ (by decide))
  refine lv_iload_n hx hb dX9_does_20 rfl (lv_at hl 1 rfl) ?_
  refine lv_bipush (v := 26) hx hb dX9_does_21 (by decide) ?_
  refine lv_icmp_gt (tgt := 34) hx hb dX9_does_23 (by decide) (fun _ => ?_) (fun c_ => absurd (by decide) c_)
  refine lv_iload_n hx hb dX9_does_34 rfl (lv_at hl 1 rfl) ?_
  refine lv_bipush (v := 30) hx hb dX9_does_35 (by decide) ?_
  refine lv_icmp_gt (tgt := 48) hx hb dX9_does_37 (by decide) (fun _ => ?_) (fun c_ => absurd (by decide) c_)
  refine lv_iload_n hx hb dX9_does_48 rfl (lv_at hl 1 rfl) ?_
  refine lv_bipush (v := 38) hx hb dX9_does_49 (by decide) ?_
  refine lv_icmp_gt (tgt := 62) hx hb dX9_does_51 (by decide) (fun _ => ?_) (fun c_ => absurd (by decide) c_)
  refine lv_iload_n hx hb dX9_does_62 rfl (lv_at hl 1 rfl) ?_
  refine lv_bipush (v := 48) hx hb dX9_does_63 (by decide) ?_
  refine lv_icmp_gt (tgt := 79) hx hb dX9_does_65 (by decide) (fun _ => ?_) (fun c_ => absurd (by decide) c_)
  refine lv_iload_n hx hb dX9_does_79 rfl (lv_at hl 1 rfl) ?_
  refine lv_bipush (v := 58) hx hb dX9_does_80 (by decide) ?_
  refine lv_icmp_gt (tgt := 96) hx hb dX9_does_82 (by decide) (fun _ => ?_) (fun c_ => absurd (by decide) c_)
  refine lv_iload_n hx hb dX9_does_96 rfl (lv_at hl 1 rfl) ?_
  refine lv_bipush (v := 66) hx hb dX9_does_97 (by decide) ?_
  refine lv_icmp_gt (tgt := 110) hx hb dX9_does_99 (by decide) (fun c_ => absurd c_ (by decide)) (fun _ => ?_)
  refine lv_aload_n hx hb dX9_does_102 rfl (lv_at hl 0 rfl) ?_
  refine lv_iload_n hx hb dX9_does_103 rfl (lv_at hl 1 rfl) ?_
  refine r_kv hw (r_runV (rest := []) hC hw 0 (c_X9_doesKnot_63 (ad := ad) l _ hs hW hy hN hc hm hT) rk9 (wMl 0 (by decide)) wM0 1 gX9_does_X9_doesKnot rfl rfl rfl (by decide +kernel) ⟨Nat.le_of_ble_eq_true rfl, Nat.le_of_ble_eq_true rfl⟩ rfl hl.1 rfl (Nat.le_of_ble_eq_true rfl) dX9_does_104 ⟨Nat.le_of_ble_eq_true rfl, Nat.le_of_ble_eq_true rfl⟩) (fun u_3 H locs h_1 hw => ?_)
  subst h_1
  dsimp only at hw
  refine lv_goto (tgt := 115) hx hb dX9_does_107 (by decide) ?_
  exact r_vret hC hr hlk hw (act κ (t 4) (t 5) 63 (t 0) (t 1) (t 2), t) rfl (congrArg (Prod.mk _) (upt t 3).symm) (Nat.le_of_ble_eq_true rfl) (Nat.le_of_ble_eq_true rfl) dX9_does_115

set_option maxHeartbeats 4000000 in
set_option maxRecDepth 100000 in
theorem c_X9_does_64 (l : Launch) {D : va_G} {q : Nat → ClassId} {ad : Nat → Nat} {κ : KS} {t : Nat → Int32} (sz : Nat) (hs : okStep 64 (t 0) (t 1) (t 2)) (hW : WFm κ) (hy : why κ 64 (t 0) (t 1) (t 2) = 0) (hN : nnOp κ 64 (t 0) (t 1) (t 2)) (hc : vp_in (sI κ 6) 13) (hm : vp_in (sI κ 2) 61) (hT : ¬ sI κ 7 < 0) : Met l yX9_does wsX9_does (rmz 3 67) (va_Pc [.ref (ad 0), .int 64] (rPre D q (wM q ad κ t) sz)) (va_Qv (fun (u : KS × (Nat → Int32)) => u = (act κ (t 4) (t 5) 64 (t 0) (t 1) (t 2), va_up t 3 (nxt κ 64 (t 0) (t 1) (t 3)))) (fun (u : KS × (Nat → Int32)) tt => rPo D (rA (wM q ad κ t) sz) (wM q ad u.1 u.2) tt) (rA (wM q ad κ t) sz)) 0 0 (rA (wM q ad κ t) sz) := by
  refine r_start (cc := cX9_does) (maxL := 2) (ret := none) (by decide) rfl (Nat.le_of_ble_eq_true rfl) ?_
  intro p e s m below meth c ls hC hr hlk hnm hsz hw hl
  have hx := hC.1
  have hb := hC.2.1
  have hl : lv_has ls 2 [(0, .ref (ad 0)), (1, .int 64)] := hl
  refine lv_iload_n hx hb dX9_does_0 rfl (lv_at hl 1 rfl) ?_
  refine lv_bipush (v := 14) hx hb dX9_does_1 (by decide) ?_
  refine lv_icmp_le (tgt := 12) hx hb dX9_does_3 (by decide) (fun c_ => absurd c_ (by decide)) (fun _ => ?_)
  refine lv_iload_n hx hb dX9_does_6 rfl (lv_at hl 1 rfl) ?_
  refine lv_bipush (v := 25) hx hb dX9_does_7 (by decide) ?_
  refine lv_icmp_ne (tgt := 20) hx hb dX9_does_9 (by decide) (fun _ => ?_) (fun c_ => absurd c_ (by decide))
  refine lv_iload_n hx hb dX9_does_20 rfl (lv_at hl 1 rfl) ?_
  refine lv_bipush (v := 26) hx hb dX9_does_21 (by decide) ?_
  refine lv_icmp_gt (tgt := 34) hx hb dX9_does_23 (by decide) (fun _ => ?_) (fun c_ => absurd (by decide) c_)
  refine lv_iload_n hx hb dX9_does_34 rfl (lv_at hl 1 rfl) ?_
  refine lv_bipush (v := 30) hx hb dX9_does_35 (by decide) ?_
  refine lv_icmp_gt (tgt := 48) hx hb dX9_does_37 (by decide) (fun _ => ?_) (fun c_ => absurd (by decide) c_)
  refine lv_iload_n hx hb dX9_does_48 rfl (lv_at hl 1 rfl) ?_
  refine lv_bipush (v := 38) hx hb dX9_does_49 (by decide) ?_
  refine lv_icmp_gt (tgt := 62) hx hb dX9_does_51 (by decide) (fun _ => ?_) (fun c_ => absurd (by decide) c_)
  refine lv_iload_n hx hb dX9_does_62 rfl (lv_at hl 1 rfl) ?_
  refine lv_bipush (v := 48) hx hb dX9_does_63 (by decide) ?_
  refine lv_icmp_gt (tgt := 79) hx hb dX9_does_65 (by decide) (fun _ => ?_) (fun c_ => absurd (by decide) c_)
  refine lv_iload_n hx hb dX9_does_79 rfl (lv_at hl 1 rfl) ?_
  refine lv_bipush (v := 58) hx hb dX9_does_80 (by decide) ?_
  refine lv_icmp_gt (tgt := 96) hx hb dX9_does_82 (by decide) (fun _ => ?_) (fun c_ => absurd (by decide) c_)
  refine lv_iload_n hx hb dX9_does_96 rfl (lv_at hl 1 rfl) ?_
  refine lv_bipush (v := 66) hx hb dX9_does_97 (by decide) ?_
  refine lv_icmp_gt (tgt := 110) hx hb dX9_does_99 (by decide) (fun c_ => absurd c_ (by decide)) (fun _ => ?_)
  refine lv_aload_n hx hb dX9_does_102 rfl (lv_at hl 0 rfl) ?_
  refine lv_iload_n hx hb dX9_does_103 rfl (lv_at hl 1 rfl) ?_
  refine r_kv hw (r_runV (rest := []) hC hw 0 (c_X9_doesKnot_64 (ad := ad) l _ hs hW hy hN hc hm hT) rk9 (wMl 0 (by decide)) wM0 1 gX9_does_X9_doesKnot rfl rfl rfl (by decide +kernel) ⟨Nat.le_of_ble_eq_true rfl, Nat.le_of_ble_eq_true rfl⟩ rfl hl.1 rfl (Nat.le_of_ble_eq_true rfl) dX9_does_104 ⟨Nat.le_of_ble_eq_true rfl, Nat.le_of_ble_eq_true rfl⟩) (fun u_3 H locs h_1 hw => ?_)
  subst h_1
  dsimp only at hw
  refine lv_goto (tgt := 115) hx hb dX9_does_107 (by decide) ?_
  exact r_vret hC hr hlk hw (act κ (t 4) (t 5) 64 (t 0) (t 1) (t 2), t) rfl (congrArg (Prod.mk _) (upt t 3).symm) (Nat.le_of_ble_eq_true rfl) (Nat.le_of_ble_eq_true rfl) dX9_does_115

set_option maxHeartbeats 4000000 in
set_option maxRecDepth 100000 in
theorem c_X9_does_65 (l : Launch) {D : va_G} {q : Nat → ClassId} {ad : Nat → Nat} {κ : KS} {t : Nat → Int32} (sz : Nat) (hs : okStep 65 (t 0) (t 1) (t 2)) (hW : WFm κ) (hy : why κ 65 (t 0) (t 1) (t 2) = 0) (hN : nnOp κ 65 (t 0) (t 1) (t 2)) (hc : vp_in (sI κ 6) 13) (hm : vp_in (sI κ 2) 61) (hT : ¬ sI κ 7 < 0) : Met l yX9_does wsX9_does (rmz 3 67) (va_Pc [.ref (ad 0), .int 65] (rPre D q (wM q ad κ t) sz)) (va_Qv (fun (u : KS × (Nat → Int32)) => u = (act κ (t 4) (t 5) 65 (t 0) (t 1) (t 2), va_up t 3 (nxt κ 65 (t 0) (t 1) (t 3)))) (fun (u : KS × (Nat → Int32)) tt => rPo D (rA (wM q ad κ t) sz) (wM q ad u.1 u.2) tt) (rA (wM q ad κ t) sz)) 0 0 (rA (wM q ad κ t) sz) := by
  refine r_start (cc := cX9_does) (maxL := 2) (ret := none) (by decide) rfl (Nat.le_of_ble_eq_true rfl) ?_
  intro p e s m below meth c ls hC hr hlk hnm hsz hw hl
  have hx := hC.1
  have hb := hC.2.1
  have hl : lv_has ls 2 [(0, .ref (ad 0)), (1, .int 65)] := hl
  refine lv_iload_n hx hb dX9_does_0 rfl (lv_at hl 1 rfl) ?_
  refine lv_bipush (v := 14) hx hb dX9_does_1 (by decide) ?_
  refine lv_icmp_le (tgt := 12) hx hb dX9_does_3 (by decide) (fun c_ => absurd c_ (by decide)) (fun _ => ?_)
  refine lv_iload_n hx hb dX9_does_6 rfl (lv_at hl 1 rfl) ?_
  refine lv_bipush (v := 25) hx hb dX9_does_7 (by decide) ?_
  refine lv_icmp_ne (tgt := 20) hx hb dX9_does_9 (by decide) (fun _ => ?_) (fun c_ => absurd c_ (by decide))
  refine lv_iload_n hx hb dX9_does_20 rfl (lv_at hl 1 rfl) ?_
  refine lv_bipush (v := 26) hx hb dX9_does_21 (by decide) ?_
  refine lv_icmp_gt (tgt := 34) hx hb dX9_does_23 (by decide) (fun _ => ?_) (fun c_ => absurd (by decide) c_)
  refine lv_iload_n hx hb dX9_does_34 rfl (lv_at hl 1 rfl) ?_
  refine lv_bipush (v := 30) hx hb dX9_does_35 (by decide) ?_
  refine lv_icmp_gt (tgt := 48) hx hb dX9_does_37 (by decide) (fun _ => ?_) (fun c_ => absurd (by decide) c_)
  refine lv_iload_n hx hb dX9_does_48 rfl (lv_at hl 1 rfl) ?_
  refine lv_bipush (v := 38) hx hb dX9_does_49 (by decide) ?_
  refine lv_icmp_gt (tgt := 62) hx hb dX9_does_51 (by decide) (fun _ => ?_) (fun c_ => absurd (by decide) c_)
  refine lv_iload_n hx hb dX9_does_62 rfl (lv_at hl 1 rfl) ?_
  refine lv_bipush (v := 48) hx hb dX9_does_63 (by decide) ?_
  refine lv_icmp_gt (tgt := 79) hx hb dX9_does_65 (by decide) (fun _ => ?_) (fun c_ => absurd (by decide) c_)
  refine lv_iload_n hx hb dX9_does_79 rfl (lv_at hl 1 rfl) ?_
  refine lv_bipush (v := 58) hx hb dX9_does_80 (by decide) ?_
  refine lv_icmp_gt (tgt := 96) hx hb dX9_does_82 (by decide) (fun _ => ?_) (fun c_ => absurd (by decide) c_)
  refine lv_iload_n hx hb dX9_does_96 rfl (lv_at hl 1 rfl) ?_
  refine lv_bipush (v := 66) hx hb dX9_does_97 (by decide) ?_
  refine lv_icmp_gt (tgt := 110) hx hb dX9_does_99 (by decide) (fun c_ => absurd c_ (by decide)) (fun _ => ?_)
  refine lv_aload_n hx hb dX9_does_102 rfl (lv_at hl 0 rfl) ?_
  refine lv_iload_n hx hb dX9_does_103 rfl (lv_at hl 1 rfl) ?_
  refine r_kv hw (r_runV (rest := []) hC hw 0 (c_X9_doesKnot_65 (ad := ad) l _ hs hW hy hN hc hm hT) rk9 (wMl 0 (by decide)) wM0 1 gX9_does_X9_doesKnot rfl rfl rfl (by decide +kernel) ⟨Nat.le_of_ble_eq_true rfl, Nat.le_of_ble_eq_true rfl⟩ rfl hl.1 rfl (Nat.le_of_ble_eq_true rfl) dX9_does_104 ⟨Nat.le_of_ble_eq_true rfl, Nat.le_of_ble_eq_true rfl⟩) (fun u_3 H locs h_1 hw => ?_)
  subst h_1
  dsimp only at hw
  refine lv_goto (tgt := 115) hx hb dX9_does_107 (by decide) ?_
  exact r_vret hC hr hlk hw (act κ (t 4) (t 5) 65 (t 0) (t 1) (t 2), t) rfl (congrArg (Prod.mk _) (upt t 3).symm) (Nat.le_of_ble_eq_true rfl) (Nat.le_of_ble_eq_true rfl) dX9_does_115

set_option maxHeartbeats 4000000 in
set_option maxRecDepth 100000 in
theorem c_X9_does_66 (l : Launch) {D : va_G} {q : Nat → ClassId} {ad : Nat → Nat} {κ : KS} {t : Nat → Int32} (sz : Nat) (hs : okStep 66 (t 0) (t 1) (t 2)) (hW : WFm κ) (hy : why κ 66 (t 0) (t 1) (t 2) = 0) (hN : nnOp κ 66 (t 0) (t 1) (t 2)) (hc : vp_in (sI κ 6) 13) (hm : vp_in (sI κ 2) 61) (hT : ¬ sI κ 7 < 0) : Met l yX9_does wsX9_does (rmz 3 67) (va_Pc [.ref (ad 0), .int 66] (rPre D q (wM q ad κ t) sz)) (va_Qv (fun (u : KS × (Nat → Int32)) => u = (act κ (t 4) (t 5) 66 (t 0) (t 1) (t 2), va_up t 3 (nxt κ 66 (t 0) (t 1) (t 3)))) (fun (u : KS × (Nat → Int32)) tt => rPo D (rA (wM q ad κ t) sz) (wM q ad u.1 u.2) tt) (rA (wM q ad κ t) sz)) 0 0 (rA (wM q ad κ t) sz) := by
  refine r_start (cc := cX9_does) (maxL := 2) (ret := none) (by decide) rfl (Nat.le_of_ble_eq_true rfl) ?_
  intro p e s m below meth c ls hC hr hlk hnm hsz hw hl
  have hx := hC.1
  have hb := hC.2.1
  have hl : lv_has ls 2 [(0, .ref (ad 0)), (1, .int 66)] := hl
  refine lv_iload_n hx hb dX9_does_0 rfl (lv_at hl 1 rfl) ?_
  refine lv_bipush (v := 14) hx hb dX9_does_1 (by decide) ?_
  refine lv_icmp_le (tgt := 12) hx hb dX9_does_3 (by decide) (fun c_ => absurd c_ (by decide)) (fun _ => ?_)
  refine lv_iload_n hx hb dX9_does_6 rfl (lv_at hl 1 rfl) ?_
  refine lv_bipush (v := 25) hx hb dX9_does_7 (by decide) ?_
  refine lv_icmp_ne (tgt := 20) hx hb dX9_does_9 (by decide) (fun _ => ?_) (fun c_ => absurd c_ (by decide))
  refine lv_iload_n hx hb dX9_does_20 rfl (lv_at hl 1 rfl) ?_
  refine lv_bipush (v := 26) hx hb dX9_does_21 (by decide) ?_
  refine lv_icmp_gt (tgt := 34) hx hb dX9_does_23 (by decide) (fun _ => ?_) (fun c_ => absurd (by decide) c_)
  refine lv_iload_n hx hb dX9_does_34 rfl (lv_at hl 1 rfl) ?_
  refine lv_bipush (v := 30) hx hb dX9_does_35 (by decide) ?_
  refine lv_icmp_gt (tgt := 48) hx hb dX9_does_37 (by decide) (fun _ => ?_) (fun c_ => absurd (by decide) c_)
  refine lv_iload_n hx hb dX9_does_48 rfl (lv_at hl 1 rfl) ?_
  refine lv_bipush (v := 38) hx hb dX9_does_49 (by decide) ?_
  refine lv_icmp_gt (tgt := 62) hx hb dX9_does_51 (by decide) (fun _ => ?_) (fun c_ => absurd (by decide) c_)
  refine lv_iload_n hx hb dX9_does_62 rfl (lv_at hl 1 rfl) ?_
  refine lv_bipush (v := 48) hx hb dX9_does_63 (by decide) ?_
  refine lv_icmp_gt (tgt := 79) hx hb dX9_does_65 (by decide) (fun _ => ?_) (fun c_ => absurd (by decide) c_)
  refine lv_iload_n hx hb dX9_does_79 rfl (lv_at hl 1 rfl) ?_
  refine lv_bipush (v := 58) hx hb dX9_does_80 (by decide) ?_
  refine lv_icmp_gt (tgt := 96) hx hb dX9_does_82 (by decide) (fun _ => ?_) (fun c_ => absurd (by decide) c_)
  refine lv_iload_n hx hb dX9_does_96 rfl (lv_at hl 1 rfl) ?_
  refine lv_bipush (v := 66) hx hb dX9_does_97 (by decide) ?_
  refine lv_icmp_gt (tgt := 110) hx hb dX9_does_99 (by decide) (fun c_ => absurd c_ (by decide)) (fun _ => ?_)
  refine lv_aload_n hx hb dX9_does_102 rfl (lv_at hl 0 rfl) ?_
  refine lv_iload_n hx hb dX9_does_103 rfl (lv_at hl 1 rfl) ?_
  refine r_kv hw (r_runV (rest := []) hC hw 0 (c_X9_doesKnot_66 (ad := ad) l _ hs hW hy hN hc hm hT) rk9 (wMl 0 (by decide)) wM0 1 gX9_does_X9_doesKnot rfl rfl rfl (by decide +kernel) ⟨Nat.le_of_ble_eq_true rfl, Nat.le_of_ble_eq_true rfl⟩ rfl hl.1 rfl (Nat.le_of_ble_eq_true rfl) dX9_does_104 ⟨Nat.le_of_ble_eq_true rfl, Nat.le_of_ble_eq_true rfl⟩) (fun u_3 H locs h_1 hw => ?_)
  subst h_1
  dsimp only at hw
  refine lv_goto (tgt := 115) hx hb dX9_does_107 (by decide) ?_
  exact r_vret hC hr hlk hw (act κ (t 4) (t 5) 66 (t 0) (t 1) (t 2), t) rfl (congrArg (Prod.mk _) (upt t 3).symm) (Nat.le_of_ble_eq_true rfl) (Nat.le_of_ble_eq_true rfl) dX9_does_115

set_option maxHeartbeats 4000000 in
set_option maxRecDepth 100000 in
theorem c_X9_does_67 (l : Launch) {D : va_G} {q : Nat → ClassId} {ad : Nat → Nat} {κ : KS} {t : Nat → Int32} (sz : Nat) (hs : okStep 67 (t 0) (t 1) (t 2)) (hW : WFm κ) (hy : why κ 67 (t 0) (t 1) (t 2) = 0) (hN : nnOp κ 67 (t 0) (t 1) (t 2)) (hc : vp_in (sI κ 6) 13) (hm : vp_in (sI κ 2) 61) (hT : ¬ sI κ 7 < 0) : Met l yX9_does wsX9_does (rmz 3 67) (va_Pc [.ref (ad 0), .int 67] (rPre D q (wM q ad κ t) sz)) (va_Qv (fun (u : KS × (Nat → Int32)) => u = (act κ (t 4) (t 5) 67 (t 0) (t 1) (t 2), va_up t 3 (nxt κ 67 (t 0) (t 1) (t 3)))) (fun (u : KS × (Nat → Int32)) tt => rPo D (rA (wM q ad κ t) sz) (wM q ad u.1 u.2) tt) (rA (wM q ad κ t) sz)) 0 0 (rA (wM q ad κ t) sz) := by
  refine r_start (cc := cX9_does) (maxL := 2) (ret := none) (by decide) rfl (Nat.le_of_ble_eq_true rfl) ?_
  intro p e s m below meth c ls hC hr hlk hnm hsz hw hl
  have hx := hC.1
  have hb := hC.2.1
  have hl : lv_has ls 2 [(0, .ref (ad 0)), (1, .int 67)] := hl
  refine lv_iload_n hx hb dX9_does_0 rfl (lv_at hl 1 rfl) ?_
  refine lv_bipush (v := 14) hx hb dX9_does_1 (by decide) ?_
  refine lv_icmp_le (tgt := 12) hx hb dX9_does_3 (by decide) (fun c_ => absurd c_ (by decide)) (fun _ => ?_)
  refine lv_iload_n hx hb dX9_does_6 rfl (lv_at hl 1 rfl) ?_
  refine lv_bipush (v := 25) hx hb dX9_does_7 (by decide) ?_
  refine lv_icmp_ne (tgt := 20) hx hb dX9_does_9 (by decide) (fun _ => ?_) (fun c_ => absurd c_ (by decide))
  refine lv_iload_n hx hb dX9_does_20 rfl (lv_at hl 1 rfl) ?_
  refine lv_bipush (v := 26) hx hb dX9_does_21 (by decide) ?_
  refine lv_icmp_gt (tgt := 34) hx hb dX9_does_23 (by decide) (fun _ => ?_) (fun c_ => absurd (by decide) c_)
  refine lv_iload_n hx hb dX9_does_34 rfl (lv_at hl 1 rfl) ?_
  refine lv_bipush (v := 30) hx hb dX9_does_35 (by decide) ?_
  refine lv_icmp_gt (tgt := 48) hx hb dX9_does_37 (by decide) (fun _ => ?_) (fun c_ => absurd (by decide) c_)
  refine lv_iload_n hx hb dX9_does_48 rfl (lv_at hl 1 rfl) ?_
  refine lv_bipush (v := 38) hx hb dX9_does_49 (by decide) ?_
  refine lv_icmp_gt (tgt := 62) hx hb dX9_does_51 (by decide) (fun _ => ?_) (fun c_ => absurd (by decide) c_)
  refine lv_iload_n hx hb dX9_does_62 rfl (lv_at hl 1 rfl) ?_
  refine lv_bipush (v := 48) hx hb dX9_does_63 (by decide) ?_
  refine lv_icmp_gt (tgt := 79) hx hb dX9_does_65 (by decide) (fun _ => ?_) (fun c_ => absurd (by decide) c_)
  refine lv_iload_n hx hb dX9_does_79 rfl (lv_at hl 1 rfl) ?_
  refine lv_bipush (v := 58) hx hb dX9_does_80 (by decide) ?_
  refine lv_icmp_gt (tgt := 96) hx hb dX9_does_82 (by decide) (fun _ => ?_) (fun c_ => absurd (by decide) c_)
  refine lv_iload_n hx hb dX9_does_96 rfl (lv_at hl 1 rfl) ?_
  refine lv_bipush (v := 66) hx hb dX9_does_97 (by decide) ?_
  refine lv_icmp_gt (tgt := 110) hx hb dX9_does_99 (by decide) (fun _ => ?_) (fun c_ => absurd (by decide) c_)
  refine lv_aload_n hx hb dX9_does_110 rfl (lv_at hl 0 rfl) ?_
  refine lv_iload_n hx hb dX9_does_111 rfl (lv_at hl 1 rfl) ?_
  refine r_kv hw (r_runV (rest := []) hC hw 0 (c_X9_doesFault_67 (ad := ad) l _ hs hW hy hN hc hm hT) rk9 (wMl 0 (by decide)) wM0 1 gX9_does_X9_doesFault rfl rfl rfl (by decide +kernel) ⟨Nat.le_of_ble_eq_true rfl, Nat.le_of_ble_eq_true rfl⟩ rfl hl.1 rfl (Nat.le_of_ble_eq_true rfl) dX9_does_112 ⟨Nat.le_of_ble_eq_true rfl, Nat.le_of_ble_eq_true rfl⟩) (fun u_3 H locs h_1 hw => ?_)
  subst h_1
  dsimp only at hw
  exact r_vret hC hr hlk hw (act κ (t 4) (t 5) 67 (t 0) (t 1) (t 2), t) rfl (congrArg (Prod.mk _) (upt t 3).symm) (Nat.le_of_ble_eq_true rfl) (Nat.le_of_ble_eq_true rfl) dX9_does_115

set_option maxHeartbeats 4000000 in
set_option maxRecDepth 100000 in
theorem c_X9_does_69 (l : Launch) {D : va_G} {q : Nat → ClassId} {ad : Nat → Nat} {κ : KS} {t : Nat → Int32} (sz : Nat) (hs : okStep 69 (t 0) (t 1) (t 2)) (hW : WFm κ) (hy : why κ 69 (t 0) (t 1) (t 2) = 0) (hN : nnOp κ 69 (t 0) (t 1) (t 2)) (hc : vp_in (sI κ 6) 13) (hm : vp_in (sI κ 2) 61) (hT : ¬ sI κ 7 < 0) : Met l yX9_does wsX9_does (rmz 3 67) (va_Pc [.ref (ad 0), .int 69] (rPre D q (wM q ad κ t) sz)) (va_Qv (fun (u : KS × (Nat → Int32)) => u = (act κ (t 4) (t 5) 69 (t 0) (t 1) (t 2), va_up t 3 (nxt κ 69 (t 0) (t 1) (t 3)))) (fun (u : KS × (Nat → Int32)) tt => rPo D (rA (wM q ad κ t) sz) (wM q ad u.1 u.2) tt) (rA (wM q ad κ t) sz)) 0 0 (rA (wM q ad κ t) sz) := by
  refine r_start (cc := cX9_does) (maxL := 2) (ret := none) (by decide) rfl (Nat.le_of_ble_eq_true rfl) ?_
  intro p e s m below meth c ls hC hr hlk hnm hsz hw hl
  have hx := hC.1
  have hb := hC.2.1
  have hl : lv_has ls 2 [(0, .ref (ad 0)), (1, .int 69)] := hl
  refine lv_iload_n hx hb dX9_does_0 rfl (lv_at hl 1 rfl) ?_
  refine lv_bipush (v := 14) hx hb dX9_does_1 (by decide) ?_
  refine lv_icmp_le (tgt := 12) hx hb dX9_does_3 (by decide) (fun c_ => absurd c_ (by decide)) (fun _ => ?_)
  refine lv_iload_n hx hb dX9_does_6 rfl (lv_at hl 1 rfl) ?_
  refine lv_bipush (v := 25) hx hb dX9_does_7 (by decide) ?_
  refine lv_icmp_ne (tgt := 20) hx hb dX9_does_9 (by decide) (fun _ => ?_) (fun c_ => absurd c_ (by decide))
  refine lv_iload_n hx hb dX9_does_20 rfl (lv_at hl 1 rfl) ?_
  refine lv_bipush (v := 26) hx hb dX9_does_21 (by decide) ?_
  refine lv_icmp_gt (tgt := 34) hx hb dX9_does_23 (by decide) (fun _ => ?_) (fun c_ => absurd (by decide) c_)
  refine lv_iload_n hx hb dX9_does_34 rfl (lv_at hl 1 rfl) ?_
  refine lv_bipush (v := 30) hx hb dX9_does_35 (by decide) ?_
  refine lv_icmp_gt (tgt := 48) hx hb dX9_does_37 (by decide) (fun _ => ?_) (fun c_ => absurd (by decide) c_)
  refine lv_iload_n hx hb dX9_does_48 rfl (lv_at hl 1 rfl) ?_
  refine lv_bipush (v := 38) hx hb dX9_does_49 (by decide) ?_
  refine lv_icmp_gt (tgt := 62) hx hb dX9_does_51 (by decide) (fun _ => ?_) (fun c_ => absurd (by decide) c_)
  refine lv_iload_n hx hb dX9_does_62 rfl (lv_at hl 1 rfl) ?_
  refine lv_bipush (v := 48) hx hb dX9_does_63 (by decide) ?_
  refine lv_icmp_gt (tgt := 79) hx hb dX9_does_65 (by decide) (fun _ => ?_) (fun c_ => absurd (by decide) c_)
  refine lv_iload_n hx hb dX9_does_79 rfl (lv_at hl 1 rfl) ?_
  refine lv_bipush (v := 58) hx hb dX9_does_80 (by decide) ?_
  refine lv_icmp_gt (tgt := 96) hx hb dX9_does_82 (by decide) (fun _ => ?_) (fun c_ => absurd (by decide) c_)
  refine lv_iload_n hx hb dX9_does_96 rfl (lv_at hl 1 rfl) ?_
  refine lv_bipush (v := 66) hx hb dX9_does_97 (by decide) ?_
  refine lv_icmp_gt (tgt := 110) hx hb dX9_does_99 (by decide) (fun _ => ?_) (fun c_ => absurd (by decide) c_)
  refine lv_aload_n hx hb dX9_does_110 rfl (lv_at hl 0 rfl) ?_
  refine lv_iload_n hx hb dX9_does_111 rfl (lv_at hl 1 rfl) ?_
  refine r_kv hw (r_runV (rest := []) hC hw 0 (c_X9_doesFault_69 (ad := ad) l _ hs hW hy hN hc hm hT) rk9 (wMl 0 (by decide)) wM0 1 gX9_does_X9_doesFault rfl rfl rfl (by decide +kernel) ⟨Nat.le_of_ble_eq_true rfl, Nat.le_of_ble_eq_true rfl⟩ rfl hl.1 rfl (Nat.le_of_ble_eq_true rfl) dX9_does_112 ⟨Nat.le_of_ble_eq_true rfl, Nat.le_of_ble_eq_true rfl⟩) (fun u_3 H locs h_1 hw => ?_)
  subst h_1
  dsimp only at hw
  exact r_vret hC hr hlk hw (act κ (t 4) (t 5) 69 (t 0) (t 1) (t 2), t) rfl (congrArg (Prod.mk _) (upt t 3).symm) (Nat.le_of_ble_eq_true rfl) (Nat.le_of_ble_eq_true rfl) dX9_does_115

set_option maxHeartbeats 4000000 in
set_option maxRecDepth 100000 in
theorem c_X9_does_70 (l : Launch) {D : va_G} {q : Nat → ClassId} {ad : Nat → Nat} {κ : KS} {t : Nat → Int32} (sz : Nat) (hs : okStep 70 (t 0) (t 1) (t 2)) (hW : WFm κ) (hy : why κ 70 (t 0) (t 1) (t 2) = 0) (hN : nnOp κ 70 (t 0) (t 1) (t 2)) (hc : vp_in (sI κ 6) 13) (hm : vp_in (sI κ 2) 61) (hT : ¬ sI κ 7 < 0) : Met l yX9_does wsX9_does (rmz 3 67) (va_Pc [.ref (ad 0), .int 70] (rPre D q (wM q ad κ t) sz)) (va_Qv (fun (u : KS × (Nat → Int32)) => u = (act κ (t 4) (t 5) 70 (t 0) (t 1) (t 2), va_up t 3 (nxt κ 70 (t 0) (t 1) (t 3)))) (fun (u : KS × (Nat → Int32)) tt => rPo D (rA (wM q ad κ t) sz) (wM q ad u.1 u.2) tt) (rA (wM q ad κ t) sz)) 0 0 (rA (wM q ad κ t) sz) := by
  refine r_start (cc := cX9_does) (maxL := 2) (ret := none) (by decide) rfl (Nat.le_of_ble_eq_true rfl) ?_
  intro p e s m below meth c ls hC hr hlk hnm hsz hw hl
  have hx := hC.1
  have hb := hC.2.1
  have hl : lv_has ls 2 [(0, .ref (ad 0)), (1, .int 70)] := hl
  refine lv_iload_n hx hb dX9_does_0 rfl (lv_at hl 1 rfl) ?_
  refine lv_bipush (v := 14) hx hb dX9_does_1 (by decide) ?_
  refine lv_icmp_le (tgt := 12) hx hb dX9_does_3 (by decide) (fun c_ => absurd c_ (by decide)) (fun _ => ?_)
  refine lv_iload_n hx hb dX9_does_6 rfl (lv_at hl 1 rfl) ?_
  refine lv_bipush (v := 25) hx hb dX9_does_7 (by decide) ?_
  refine lv_icmp_ne (tgt := 20) hx hb dX9_does_9 (by decide) (fun _ => ?_) (fun c_ => absurd c_ (by decide))
  refine lv_iload_n hx hb dX9_does_20 rfl (lv_at hl 1 rfl) ?_
  refine lv_bipush (v := 26) hx hb dX9_does_21 (by decide) ?_
  refine lv_icmp_gt (tgt := 34) hx hb dX9_does_23 (by decide) (fun _ => ?_) (fun c_ => absurd (by decide) c_)
  refine lv_iload_n hx hb dX9_does_34 rfl (lv_at hl 1 rfl) ?_
  refine lv_bipush (v := 30) hx hb dX9_does_35 (by decide) ?_
  refine lv_icmp_gt (tgt := 48) hx hb dX9_does_37 (by decide) (fun _ => ?_) (fun c_ => absurd (by decide) c_)
  refine lv_iload_n hx hb dX9_does_48 rfl (lv_at hl 1 rfl) ?_
  refine lv_bipush (v := 38) hx hb dX9_does_49 (by decide) ?_
  refine lv_icmp_gt (tgt := 62) hx hb dX9_does_51 (by decide) (fun _ => ?_) (fun c_ => absurd (by decide) c_)
  refine lv_iload_n hx hb dX9_does_62 rfl (lv_at hl 1 rfl) ?_
  refine lv_bipush (v := 48) hx hb dX9_does_63 (by decide) ?_
  refine lv_icmp_gt (tgt := 79) hx hb dX9_does_65 (by decide) (fun _ => ?_) (fun c_ => absurd (by decide) c_)
  refine lv_iload_n hx hb dX9_does_79 rfl (lv_at hl 1 rfl) ?_
  refine lv_bipush (v := 58) hx hb dX9_does_80 (by decide) ?_
  refine lv_icmp_gt (tgt := 96) hx hb dX9_does_82 (by decide) (fun _ => ?_) (fun c_ => absurd (by decide) c_)
  refine lv_iload_n hx hb dX9_does_96 rfl (lv_at hl 1 rfl) ?_
  refine lv_bipush (v := 66) hx hb dX9_does_97 (by decide) ?_
  refine lv_icmp_gt (tgt := 110) hx hb dX9_does_99 (by decide) (fun _ => ?_) (fun c_ => absurd (by decide) c_)
  refine lv_aload_n hx hb dX9_does_110 rfl (lv_at hl 0 rfl) ?_
  refine lv_iload_n hx hb dX9_does_111 rfl (lv_at hl 1 rfl) ?_
  refine r_kv hw (r_runV (rest := []) hC hw 0 (c_X9_doesFault_70 (ad := ad) l _ hs hW hy hN hc hm hT) rk9 (wMl 0 (by decide)) wM0 1 gX9_does_X9_doesFault rfl rfl rfl (by decide +kernel) ⟨Nat.le_of_ble_eq_true rfl, Nat.le_of_ble_eq_true rfl⟩ rfl hl.1 rfl (Nat.le_of_ble_eq_true rfl) dX9_does_112 ⟨Nat.le_of_ble_eq_true rfl, Nat.le_of_ble_eq_true rfl⟩) (fun u_3 H locs h_1 hw => ?_)
  subst h_1
  dsimp only at hw
  exact r_vret hC hr hlk hw (act κ (t 4) (t 5) 70 (t 0) (t 1) (t 2), t) rfl (congrArg (Prod.mk _) (upt t 3).symm) (Nat.le_of_ble_eq_true rfl) (Nat.le_of_ble_eq_true rfl) dX9_does_115

set_option maxHeartbeats 4000000 in
set_option maxRecDepth 100000 in
theorem c_X9_does_71 (l : Launch) {D : va_G} {q : Nat → ClassId} {ad : Nat → Nat} {κ : KS} {t : Nat → Int32} (sz : Nat) (hs : okStep 71 (t 0) (t 1) (t 2)) (hW : WFm κ) (hy : why κ 71 (t 0) (t 1) (t 2) = 0) (hN : nnOp κ 71 (t 0) (t 1) (t 2)) (hc : vp_in (sI κ 6) 13) (hm : vp_in (sI κ 2) 61) (hT : ¬ sI κ 7 < 0) : Met l yX9_does wsX9_does (rmz 3 67) (va_Pc [.ref (ad 0), .int 71] (rPre D q (wM q ad κ t) sz)) (va_Qv (fun (u : KS × (Nat → Int32)) => u = (act κ (t 4) (t 5) 71 (t 0) (t 1) (t 2), va_up t 3 (nxt κ 71 (t 0) (t 1) (t 3)))) (fun (u : KS × (Nat → Int32)) tt => rPo D (rA (wM q ad κ t) sz) (wM q ad u.1 u.2) tt) (rA (wM q ad κ t) sz)) 0 0 (rA (wM q ad κ t) sz) := by
  refine r_start (cc := cX9_does) (maxL := 2) (ret := none) (by decide) rfl (Nat.le_of_ble_eq_true rfl) ?_
  intro p e s m below meth c ls hC hr hlk hnm hsz hw hl
  have hx := hC.1
  have hb := hC.2.1
  have hl : lv_has ls 2 [(0, .ref (ad 0)), (1, .int 71)] := hl
  refine lv_iload_n hx hb dX9_does_0 rfl (lv_at hl 1 rfl) ?_
  refine lv_bipush (v := 14) hx hb dX9_does_1 (by decide) ?_
  refine lv_icmp_le (tgt := 12) hx hb dX9_does_3 (by decide) (fun c_ => absurd c_ (by decide)) (fun _ => ?_)
  refine lv_iload_n hx hb dX9_does_6 rfl (lv_at hl 1 rfl) ?_
  refine lv_bipush (v := 25) hx hb dX9_does_7 (by decide) ?_
  refine lv_icmp_ne (tgt := 20) hx hb dX9_does_9 (by decide) (fun _ => ?_) (fun c_ => absurd c_ (by decide))
  refine lv_iload_n hx hb dX9_does_20 rfl (lv_at hl 1 rfl) ?_
  refine lv_bipush (v := 26) hx hb dX9_does_21 (by decide) ?_
  refine lv_icmp_gt (tgt := 34) hx hb dX9_does_23 (by decide) (fun _ => ?_) (fun c_ => absurd (by decide) c_)
  refine lv_iload_n hx hb dX9_does_34 rfl (lv_at hl 1 rfl) ?_
  refine lv_bipush (v := 30) hx hb dX9_does_35 (by decide) ?_
  refine lv_icmp_gt (tgt := 48) hx hb dX9_does_37 (by decide) (fun _ => ?_) (fun c_ => absurd (by decide) c_)
  refine lv_iload_n hx hb dX9_does_48 rfl (lv_at hl 1 rfl) ?_
  refine lv_bipush (v := 38) hx hb dX9_does_49 (by decide) ?_
  refine lv_icmp_gt (tgt := 62) hx hb dX9_does_51 (by decide) (fun _ => ?_) (fun c_ => absurd (by decide) c_)
  refine lv_iload_n hx hb dX9_does_62 rfl (lv_at hl 1 rfl) ?_
  refine lv_bipush (v := 48) hx hb dX9_does_63 (by decide) ?_
  refine lv_icmp_gt (tgt := 79) hx hb dX9_does_65 (by decide) (fun _ => ?_) (fun c_ => absurd (by decide) c_)
  refine lv_iload_n hx hb dX9_does_79 rfl (lv_at hl 1 rfl) ?_
  refine lv_bipush (v := 58) hx hb dX9_does_80 (by decide) ?_
  refine lv_icmp_gt (tgt := 96) hx hb dX9_does_82 (by decide) (fun _ => ?_) (fun c_ => absurd (by decide) c_)
  refine lv_iload_n hx hb dX9_does_96 rfl (lv_at hl 1 rfl) ?_
  refine lv_bipush (v := 66) hx hb dX9_does_97 (by decide) ?_
  refine lv_icmp_gt (tgt := 110) hx hb dX9_does_99 (by decide) (fun _ => ?_) (fun c_ => absurd (by decide) c_)
  refine lv_aload_n hx hb dX9_does_110 rfl (lv_at hl 0 rfl) ?_
  refine lv_iload_n hx hb dX9_does_111 rfl (lv_at hl 1 rfl) ?_
  refine r_kv hw (r_runV (rest := []) hC hw 0 (c_X9_doesFault_71 (ad := ad) l _ hs hW hy hN hc hm hT) rk9 (wMl 0 (by decide)) wM0 1 gX9_does_X9_doesFault rfl rfl rfl (by decide +kernel) ⟨Nat.le_of_ble_eq_true rfl, Nat.le_of_ble_eq_true rfl⟩ rfl hl.1 rfl (Nat.le_of_ble_eq_true rfl) dX9_does_112 ⟨Nat.le_of_ble_eq_true rfl, Nat.le_of_ble_eq_true rfl⟩) (fun u_3 H locs h_1 hw => ?_)
  subst h_1
  dsimp only at hw
  exact r_vret hC hr hlk hw (act κ (t 4) (t 5) 71 (t 0) (t 1) (t 2), t) rfl (congrArg (Prod.mk _) (upt t 3).symm) (Nat.le_of_ble_eq_true rfl) (Nat.le_of_ble_eq_true rfl) dX9_does_115

set_option maxHeartbeats 4000000 in
set_option maxRecDepth 100000 in
theorem c_X9_does_72 (l : Launch) {D : va_G} {q : Nat → ClassId} {ad : Nat → Nat} {κ : KS} {t : Nat → Int32} (sz : Nat) (hs : okStep 72 (t 0) (t 1) (t 2)) (hW : WFm κ) (hy : why κ 72 (t 0) (t 1) (t 2) = 0) (hN : nnOp κ 72 (t 0) (t 1) (t 2)) (hc : vp_in (sI κ 6) 13) (hm : vp_in (sI κ 2) 61) (hT : ¬ sI κ 7 < 0) : Met l yX9_does wsX9_does (rmz 3 67) (va_Pc [.ref (ad 0), .int 72] (rPre D q (wM q ad κ t) sz)) (va_Qv (fun (u : KS × (Nat → Int32)) => u = (act κ (t 4) (t 5) 72 (t 0) (t 1) (t 2), va_up t 3 (nxt κ 72 (t 0) (t 1) (t 3)))) (fun (u : KS × (Nat → Int32)) tt => rPo D (rA (wM q ad κ t) sz) (wM q ad u.1 u.2) tt) (rA (wM q ad κ t) sz)) 0 0 (rA (wM q ad κ t) sz) := by
  refine r_start (cc := cX9_does) (maxL := 2) (ret := none) (by decide) rfl (Nat.le_of_ble_eq_true rfl) ?_
  intro p e s m below meth c ls hC hr hlk hnm hsz hw hl
  have hx := hC.1
  have hb := hC.2.1
  have hl : lv_has ls 2 [(0, .ref (ad 0)), (1, .int 72)] := hl
  refine lv_iload_n hx hb dX9_does_0 rfl (lv_at hl 1 rfl) ?_
  refine lv_bipush (v := 14) hx hb dX9_does_1 (by decide) ?_
  refine lv_icmp_le (tgt := 12) hx hb dX9_does_3 (by decide) (fun c_ => absurd c_ (by decide)) (fun _ => ?_)
  refine lv_iload_n hx hb dX9_does_6 rfl (lv_at hl 1 rfl) ?_
  refine lv_bipush (v := 25) hx hb dX9_does_7 (by decide) ?_
  refine lv_icmp_ne (tgt := 20) hx hb dX9_does_9 (by decide) (fun _ => ?_) (fun c_ => absurd c_ (by decide))
  refine lv_iload_n hx hb dX9_does_20 rfl (lv_at hl 1 rfl) ?_
  refine lv_bipush (v := 26) hx hb dX9_does_21 (by decide) ?_
  refine lv_icmp_gt (tgt := 34) hx hb dX9_does_23 (by decide) (fun _ => ?_) (fun c_ => absurd (by decide) c_)
  refine lv_iload_n hx hb dX9_does_34 rfl (lv_at hl 1 rfl) ?_
  refine lv_bipush (v := 30) hx hb dX9_does_35 (by decide) ?_
  refine lv_icmp_gt (tgt := 48) hx hb dX9_does_37 (by decide) (fun _ => ?_) (fun c_ => absurd (by decide) c_)
  refine lv_iload_n hx hb dX9_does_48 rfl (lv_at hl 1 rfl) ?_
  refine lv_bipush (v := 38) hx hb dX9_does_49 (by decide) ?_
  refine lv_icmp_gt (tgt := 62) hx hb dX9_does_51 (by decide) (fun _ => ?_) (fun c_ => absurd (by decide) c_)
  refine lv_iload_n hx hb dX9_does_62 rfl (lv_at hl 1 rfl) ?_
  refine lv_bipush (v := 48) hx hb dX9_does_63 (by decide) ?_
  refine lv_icmp_gt (tgt := 79) hx hb dX9_does_65 (by decide) (fun _ => ?_) (fun c_ => absurd (by decide) c_)
  refine lv_iload_n hx hb dX9_does_79 rfl (lv_at hl 1 rfl) ?_
  refine lv_bipush (v := 58) hx hb dX9_does_80 (by decide) ?_
  refine lv_icmp_gt (tgt := 96) hx hb dX9_does_82 (by decide) (fun _ => ?_) (fun c_ => absurd (by decide) c_)
  refine lv_iload_n hx hb dX9_does_96 rfl (lv_at hl 1 rfl) ?_
  refine lv_bipush (v := 66) hx hb dX9_does_97 (by decide) ?_
  refine lv_icmp_gt (tgt := 110) hx hb dX9_does_99 (by decide) (fun _ => ?_) (fun c_ => absurd (by decide) c_)
  refine lv_aload_n hx hb dX9_does_110 rfl (lv_at hl 0 rfl) ?_
  refine lv_iload_n hx hb dX9_does_111 rfl (lv_at hl 1 rfl) ?_
  refine r_kv hw (r_runV (rest := []) hC hw 0 (c_X9_doesFault_72 (ad := ad) l _ hs hW hy hN hc hm hT) rk9 (wMl 0 (by decide)) wM0 1 gX9_does_X9_doesFault rfl rfl rfl (by decide +kernel) ⟨Nat.le_of_ble_eq_true rfl, Nat.le_of_ble_eq_true rfl⟩ rfl hl.1 rfl (Nat.le_of_ble_eq_true rfl) dX9_does_112 ⟨Nat.le_of_ble_eq_true rfl, Nat.le_of_ble_eq_true rfl⟩) (fun u_3 H locs h_1 hw => ?_)
  subst h_1
  dsimp only at hw
  exact r_vret hC hr hlk hw (act κ (t 4) (t 5) 72 (t 0) (t 1) (t 2), t) rfl (congrArg (Prod.mk _) (upt t 3).symm) (Nat.le_of_ble_eq_true rfl) (Nat.le_of_ble_eq_true rfl) dX9_does_115

set_option maxHeartbeats 4000000 in
set_option maxRecDepth 100000 in
theorem c_X9_does_73 (l : Launch) {D : va_G} {q : Nat → ClassId} {ad : Nat → Nat} {κ : KS} {t : Nat → Int32} (sz : Nat) (hs : okStep 73 (t 0) (t 1) (t 2)) (hW : WFm κ) (hy : why κ 73 (t 0) (t 1) (t 2) = 0) (hN : nnOp κ 73 (t 0) (t 1) (t 2)) (hc : vp_in (sI κ 6) 13) (hm : vp_in (sI κ 2) 61) (hT : ¬ sI κ 7 < 0) : Met l yX9_does wsX9_does (rmz 3 67) (va_Pc [.ref (ad 0), .int 73] (rPre D q (wM q ad κ t) sz)) (va_Qv (fun (u : KS × (Nat → Int32)) => u = (act κ (t 4) (t 5) 73 (t 0) (t 1) (t 2), va_up t 3 (nxt κ 73 (t 0) (t 1) (t 3)))) (fun (u : KS × (Nat → Int32)) tt => rPo D (rA (wM q ad κ t) sz) (wM q ad u.1 u.2) tt) (rA (wM q ad κ t) sz)) 0 0 (rA (wM q ad κ t) sz) := by
  refine r_start (cc := cX9_does) (maxL := 2) (ret := none) (by decide) rfl (Nat.le_of_ble_eq_true rfl) ?_
  intro p e s m below meth c ls hC hr hlk hnm hsz hw hl
  have hx := hC.1
  have hb := hC.2.1
  have hl : lv_has ls 2 [(0, .ref (ad 0)), (1, .int 73)] := hl
  refine lv_iload_n hx hb dX9_does_0 rfl (lv_at hl 1 rfl) ?_
  refine lv_bipush (v := 14) hx hb dX9_does_1 (by decide) ?_
  refine lv_icmp_le (tgt := 12) hx hb dX9_does_3 (by decide) (fun c_ => absurd c_ (by decide)) (fun _ => ?_)
  refine lv_iload_n hx hb dX9_does_6 rfl (lv_at hl 1 rfl) ?_
  refine lv_bipush (v := 25) hx hb dX9_does_7 (by decide) ?_
  refine lv_icmp_ne (tgt := 20) hx hb dX9_does_9 (by decide) (fun _ => ?_) (fun c_ => absurd c_ (by decide))
  refine lv_iload_n hx hb dX9_does_20 rfl (lv_at hl 1 rfl) ?_
  refine lv_bipush (v := 26) hx hb dX9_does_21 (by decide) ?_
  refine lv_icmp_gt (tgt := 34) hx hb dX9_does_23 (by decide) (fun _ => ?_) (fun c_ => absurd (by decide) c_)
  refine lv_iload_n hx hb dX9_does_34 rfl (lv_at hl 1 rfl) ?_
  refine lv_bipush (v := 30) hx hb dX9_does_35 (by decide) ?_
  refine lv_icmp_gt (tgt := 48) hx hb dX9_does_37 (by decide) (fun _ => ?_) (fun c_ => absurd (by decide) c_)
  refine lv_iload_n hx hb dX9_does_48 rfl (lv_at hl 1 rfl) ?_
  refine lv_bipush (v := 38) hx hb dX9_does_49 (by decide) ?_
  refine lv_icmp_gt (tgt := 62) hx hb dX9_does_51 (by decide) (fun _ => ?_) (fun c_ => absurd (by decide) c_)
  refine lv_iload_n hx hb dX9_does_62 rfl (lv_at hl 1 rfl) ?_
  refine lv_bipush (v := 48) hx hb dX9_does_63 (by decide) ?_
  refine lv_icmp_gt (tgt := 79) hx hb dX9_does_65 (by decide) (fun _ => ?_) (fun c_ => absurd (by decide) c_)
  refine lv_iload_n hx hb dX9_does_79 rfl (lv_at hl 1 rfl) ?_
  refine lv_bipush (v := 58) hx hb dX9_does_80 (by decide) ?_
  refine lv_icmp_gt (tgt := 96) hx hb dX9_does_82 (by decide) (fun _ => ?_) (fun c_ => absurd (by decide) c_)
  refine lv_iload_n hx hb dX9_does_96 rfl (lv_at hl 1 rfl) ?_
  refine lv_bipush (v := 66) hx hb dX9_does_97 (by decide) ?_
  refine lv_icmp_gt (tgt := 110) hx hb dX9_does_99 (by decide) (fun _ => ?_) (fun c_ => absurd (by decide) c_)
  refine lv_aload_n hx hb dX9_does_110 rfl (lv_at hl 0 rfl) ?_
  refine lv_iload_n hx hb dX9_does_111 rfl (lv_at hl 1 rfl) ?_
  refine r_kv hw (r_runV (rest := []) hC hw 0 (c_X9_doesFault_73 (ad := ad) l _ hs hW hy hN hc hm hT) rk9 (wMl 0 (by decide)) wM0 1 gX9_does_X9_doesFault rfl rfl rfl (by decide +kernel) ⟨Nat.le_of_ble_eq_true rfl, Nat.le_of_ble_eq_true rfl⟩ rfl hl.1 rfl (Nat.le_of_ble_eq_true rfl) dX9_does_112 ⟨Nat.le_of_ble_eq_true rfl, Nat.le_of_ble_eq_true rfl⟩) (fun u_3 H locs h_1 hw => ?_)
  subst h_1
  dsimp only at hw
  exact r_vret hC hr hlk hw (act κ (t 4) (t 5) 73 (t 0) (t 1) (t 2), t) rfl (congrArg (Prod.mk _) (upt t 3).symm) (Nat.le_of_ble_eq_true rfl) (Nat.le_of_ble_eq_true rfl) dX9_does_115

set_option maxHeartbeats 4000000 in
set_option maxRecDepth 100000 in
theorem c_X9_whyNot (l : Launch) {D : va_G} {q : Nat → ClassId} {ad : Nat → Nat} {κ : KS} {t : Nat → Int32} (sz : Nat) (k : Nat) (op : Int32) (hk : k < 74) (ho : op = nI k) (hs : okStep k (t 0) (t 1) (t 2)) (hW : WFm κ) : Met l yX9_whyNot wsX9_whyNot (rmz 5 110) (va_Pc [.ref (ad 0), .int op] (rPre D q (wM q ad κ t) sz)) (va_Qi (fun (r : Int32) (u : Unit) => r = why κ k (t 0) (t 1) (t 2)) (fun (u : Unit) tt => rPo D (rA (wM q ad κ t) sz) (wM q ad κ t) tt) (rA (wM q ad κ t) sz)) 0 0 (rA (wM q ad κ t) sz) := by
  subst ho
  match k, hk, hs with
  | 0, _, hs => exact c_X9_whyNot_0 l sz hs hW
  | 1, _, hs => exact c_X9_whyNot_1 l sz hs hW
  | 2, _, hs => exact c_X9_whyNot_2 l sz hs hW
  | 3, _, hs => exact c_X9_whyNot_3 l sz hs hW
  | 4, _, hs => exact c_X9_whyNot_4 l sz hs hW
  | 5, _, hs => exact c_X9_whyNot_5 l sz hs hW
  | 6, _, hs => exact c_X9_whyNot_6 l sz hs hW
  | 7, _, hs => exact c_X9_whyNot_7 l sz hs hW
  | 8, _, hs => exact c_X9_whyNot_8 l sz hs hW
  | 9, _, hs => exact c_X9_whyNot_9 l sz hs hW
  | 10, _, hs => exact c_X9_whyNot_10 l sz hs hW
  | 11, _, hs => exact c_X9_whyNot_11 l sz hs hW
  | 12, _, hs => exact c_X9_whyNot_12 l sz hs hW
  | 13, _, hs => exact c_X9_whyNot_13 l sz hs hW
  | 14, _, hs => exact c_X9_whyNot_14 l sz hs hW
  | 15, _, hs => exact c_X9_whyNot_15 l sz hs hW
  | 16, _, hs => exact c_X9_whyNot_16 l sz hs hW
  | 17, _, hs => exact c_X9_whyNot_17 l sz hs hW
  | 18, _, hs => exact c_X9_whyNot_18 l sz hs hW
  | 19, _, hs => exact c_X9_whyNot_19 l sz hs hW
  | 20, _, hs => exact c_X9_whyNot_20 l sz hs hW
  | 21, _, hs => exact c_X9_whyNot_21 l sz hs hW
  | 22, _, hs => exact c_X9_whyNot_22 l sz hs hW
  | 23, _, hs => exact c_X9_whyNot_23 l sz hs hW
  | 24, _, hs => exact c_X9_whyNot_24 l sz hs hW
  | 25, _, hs => exact c_X9_whyNot_25 l sz hs hW
  | 26, _, hs => exact c_X9_whyNot_26 l sz hs hW
  | 27, _, hs => exact c_X9_whyNot_27 l sz hs hW
  | 28, _, hs => exact c_X9_whyNot_28 l sz hs hW
  | 29, _, hs => exact c_X9_whyNot_29 l sz hs hW
  | 30, _, hs => exact c_X9_whyNot_30 l sz hs hW
  | 31, _, hs => exact c_X9_whyNot_31 l sz hs hW
  | 32, _, hs => exact c_X9_whyNot_32 l sz hs hW
  | 33, _, hs => exact c_X9_whyNot_33 l sz hs hW
  | 34, _, hs => exact c_X9_whyNot_34 l sz hs hW
  | 35, _, hs => exact c_X9_whyNot_35 l sz hs hW
  | 36, _, hs => exact c_X9_whyNot_36 l sz hs hW
  | 37, _, hs => exact c_X9_whyNot_37 l sz hs hW
  | 38, _, hs => exact c_X9_whyNot_38 l sz hs hW
  | 39, _, hs => exact c_X9_whyNot_39 l sz hs hW
  | 40, _, hs => exact c_X9_whyNot_40 l sz hs hW
  | 41, _, hs => exact c_X9_whyNot_41 l sz hs hW
  | 42, _, hs => exact c_X9_whyNot_42 l sz hs hW
  | 43, _, hs => exact c_X9_whyNot_43 l sz hs hW
  | 44, _, hs => exact c_X9_whyNot_44 l sz hs hW
  | 45, _, hs => exact c_X9_whyNot_45 l sz hs hW
  | 46, _, hs => exact c_X9_whyNot_46 l sz hs hW
  | 47, _, hs => exact c_X9_whyNot_47 l sz hs hW
  | 48, _, hs => exact c_X9_whyNot_48 l sz hs hW
  | 49, _, hs => exact c_X9_whyNot_49 l sz hs hW
  | 50, _, hs => exact c_X9_whyNot_50 l sz hs hW
  | 51, _, hs => exact c_X9_whyNot_51 l sz hs hW
  | 52, _, hs => exact c_X9_whyNot_52 l sz hs hW
  | 53, _, hs => exact c_X9_whyNot_53 l sz hs hW
  | 54, _, hs => exact c_X9_whyNot_54 l sz hs hW
  | 55, _, hs => exact c_X9_whyNot_55 l sz hs hW
  | 56, _, hs => exact c_X9_whyNot_56 l sz hs hW
  | 57, _, hs => exact c_X9_whyNot_57 l sz hs hW
  | 58, _, hs => exact c_X9_whyNot_58 l sz hs hW
  | 59, _, hs => exact c_X9_whyNot_59 l sz hs hW
  | 60, _, hs => exact c_X9_whyNot_60 l sz hs hW
  | 61, _, hs => exact c_X9_whyNot_61 l sz hs hW
  | 62, _, hs => exact c_X9_whyNot_62 l sz hs hW
  | 63, _, hs => exact c_X9_whyNot_63 l sz hs hW
  | 64, _, hs => exact c_X9_whyNot_64 l sz hs hW
  | 65, _, hs => exact c_X9_whyNot_65 l sz hs hW
  | 66, _, hs => exact c_X9_whyNot_66 l sz hs hW
  | 67, _, hs => exact c_X9_whyNot_67 l sz hs hW
  | 68, _, hs => exact c_X9_whyNot_68 l sz hs hW
  | 69, _, hs => exact c_X9_whyNot_69 l sz hs hW
  | 70, _, hs => exact c_X9_whyNot_70 l sz hs hW
  | 71, _, hs => exact c_X9_whyNot_71 l sz hs hW
  | 72, _, hs => exact c_X9_whyNot_72 l sz hs hW
  | 73, _, hs => exact c_X9_whyNot_73 l sz hs hW
  | k + 74, hk, _ => exact absurd hk (by omega)

set_option maxHeartbeats 4000000 in
set_option maxRecDepth 100000 in
theorem c_X9_does (l : Launch) {D : va_G} {q : Nat → ClassId} {ad : Nat → Nat} {κ : KS} {t : Nat → Int32} (sz : Nat) (k : Nat) (op : Int32) (hk : k < 74) (ho : op = nI k) (hs : okStep k (t 0) (t 1) (t 2)) (hW : WFm κ) (hy : why κ k (t 0) (t 1) (t 2) = 0) (hN : nnOp κ k (t 0) (t 1) (t 2)) (hc : vp_in (sI κ 6) 13) (hm : vp_in (sI κ 2) 61) (hT : ¬ sI κ 7 < 0) (h68 : k ≠ 68) : Met l yX9_does wsX9_does (rmz 3 67) (va_Pc [.ref (ad 0), .int op] (rPre D q (wM q ad κ t) sz)) (va_Qv (fun (u : KS × (Nat → Int32)) => u = (act κ (t 4) (t 5) k (t 0) (t 1) (t 2), va_up t 3 (nxt κ k (t 0) (t 1) (t 3)))) (fun (u : KS × (Nat → Int32)) tt => rPo D (rA (wM q ad κ t) sz) (wM q ad u.1 u.2) tt) (rA (wM q ad κ t) sz)) 0 0 (rA (wM q ad κ t) sz) := by
  subst ho
  match k, hk, h68, hs, hy, hN with
  | 0, _, _, hs, hy, hN => exact c_X9_does_0 l sz hs hW hy hN hc hm hT
  | 1, _, _, hs, hy, hN => exact c_X9_does_1 l sz hs hW hy hN hc hm hT
  | 2, _, _, hs, hy, hN => exact c_X9_does_2 l sz hs hW hy hN hc hm hT
  | 3, _, _, hs, hy, hN => exact c_X9_does_3 l sz hs hW hy hN hc hm hT
  | 4, _, _, hs, hy, hN => exact c_X9_does_4 l sz hs hW hy hN hc hm hT
  | 5, _, _, hs, hy, hN => exact c_X9_does_5 l sz hs hW hy hN hc hm hT
  | 6, _, _, hs, hy, hN => exact c_X9_does_6 l sz hs hW hy hN hc hm hT
  | 7, _, _, hs, hy, hN => exact c_X9_does_7 l sz hs hW hy hN hc hm hT
  | 8, _, _, hs, hy, hN => exact c_X9_does_8 l sz hs hW hy hN hc hm hT
  | 9, _, _, hs, hy, hN => exact c_X9_does_9 l sz hs hW hy hN hc hm hT
  | 10, _, _, hs, hy, hN => exact c_X9_does_10 l sz hs hW hy hN hc hm hT
  | 11, _, _, hs, hy, hN => exact c_X9_does_11 l sz hs hW hy hN hc hm hT
  | 12, _, _, hs, hy, hN => exact c_X9_does_12 l sz hs hW hy hN hc hm hT
  | 13, _, _, hs, hy, hN => exact c_X9_does_13 l sz hs hW hy hN hc hm hT
  | 14, _, _, hs, hy, hN => exact c_X9_does_14 l sz hs hW hy hN hc hm hT
  | 15, _, _, hs, hy, hN => exact c_X9_does_15 l sz hs hW hy hN hc hm hT
  | 16, _, _, hs, hy, hN => exact c_X9_does_16 l sz hs hW hy hN hc hm hT
  | 17, _, _, hs, hy, hN => exact c_X9_does_17 l sz hs hW hy hN hc hm hT
  | 18, _, _, hs, hy, hN => exact c_X9_does_18 l sz hs hW hy hN hc hm hT
  | 19, _, _, hs, hy, hN => exact c_X9_does_19 l sz hs hW hy hN hc hm hT
  | 20, _, _, hs, hy, hN => exact c_X9_does_20 l sz hs hW hy hN hc hm hT
  | 21, _, _, hs, hy, hN => exact c_X9_does_21 l sz hs hW hy hN hc hm hT
  | 22, _, _, hs, hy, hN => exact c_X9_does_22 l sz hs hW hy hN hc hm hT
  | 23, _, _, hs, hy, hN => exact c_X9_does_23 l sz hs hW hy hN hc hm hT
  | 24, _, _, hs, hy, hN => exact c_X9_does_24 l sz hs hW hy hN hc hm hT
  | 25, _, _, hs, hy, hN => exact c_X9_does_25 l sz hs hW hy hN hc hm hT
  | 26, _, _, hs, hy, hN => exact c_X9_does_26 l sz hs hW hy hN hc hm hT
  | 27, _, _, hs, hy, hN => exact c_X9_does_27 l sz hs hW hy hN hc hm hT
  | 28, _, _, hs, hy, hN => exact c_X9_does_28 l sz hs hW hy hN hc hm hT
  | 29, _, _, hs, hy, hN => exact c_X9_does_29 l sz hs hW hy hN hc hm hT
  | 30, _, _, hs, hy, hN => exact c_X9_does_30 l sz hs hW hy hN hc hm hT
  | 31, _, _, hs, hy, hN => exact c_X9_does_31 l sz hs hW hy hN hc hm hT
  | 32, _, _, hs, hy, hN => exact c_X9_does_32 l sz hs hW hy hN hc hm hT
  | 33, _, _, hs, hy, hN => exact c_X9_does_33 l sz hs hW hy hN hc hm hT
  | 34, _, _, hs, hy, hN => exact c_X9_does_34 l sz hs hW hy hN hc hm hT
  | 35, _, _, hs, hy, hN => exact c_X9_does_35 l sz hs hW hy hN hc hm hT
  | 36, _, _, hs, hy, hN => exact c_X9_does_36 l sz hs hW hy hN hc hm hT
  | 37, _, _, hs, hy, hN => exact c_X9_does_37 l sz hs hW hy hN hc hm hT
  | 38, _, _, hs, hy, hN => exact c_X9_does_38 l sz hs hW hy hN hc hm hT
  | 39, _, _, hs, hy, hN => exact c_X9_does_39 l sz hs hW hy hN hc hm hT
  | 40, _, _, hs, hy, hN => exact c_X9_does_40 l sz hs hW hy hN hc hm hT
  | 41, _, _, hs, hy, hN => exact c_X9_does_41 l sz hs hW hy hN hc hm hT
  | 42, _, _, hs, hy, hN => exact c_X9_does_42 l sz hs hW hy hN hc hm hT
  | 43, _, _, hs, hy, hN => exact c_X9_does_43 l sz hs hW hy hN hc hm hT
  | 44, _, _, hs, hy, hN => exact c_X9_does_44 l sz hs hW hy hN hc hm hT
  | 45, _, _, hs, hy, hN => exact c_X9_does_45 l sz hs hW hy hN hc hm hT
  | 46, _, _, hs, hy, hN => exact c_X9_does_46 l sz hs hW hy hN hc hm hT
  | 47, _, _, hs, hy, hN => exact c_X9_does_47 l sz hs hW hy hN hc hm hT
  | 48, _, _, hs, hy, hN => exact c_X9_does_48 l sz hs hW hy hN hc hm hT
  | 49, _, _, hs, hy, hN => exact c_X9_does_49 l sz hs hW hy hN hc hm hT
  | 50, _, _, hs, hy, hN => exact c_X9_does_50 l sz hs hW hy hN hc hm hT
  | 51, _, _, hs, hy, hN => exact c_X9_does_51 l sz hs hW hy hN hc hm hT
  | 52, _, _, hs, hy, hN => exact c_X9_does_52 l sz hs hW hy hN hc hm hT
  | 53, _, _, hs, hy, hN => exact c_X9_does_53 l sz hs hW hy hN hc hm hT
  | 54, _, _, hs, hy, hN => exact c_X9_does_54 l sz hs hW hy hN hc hm hT
  | 55, _, _, hs, hy, hN => exact c_X9_does_55 l sz hs hW hy hN hc hm hT
  | 56, _, _, hs, hy, hN => exact c_X9_does_56 l sz hs hW hy hN hc hm hT
  | 57, _, _, hs, hy, hN => exact c_X9_does_57 l sz hs hW hy hN hc hm hT
  | 58, _, _, hs, hy, hN => exact c_X9_does_58 l sz hs hW hy hN hc hm hT
  | 59, _, _, hs, hy, hN => exact c_X9_does_59 l sz hs hW hy hN hc hm hT
  | 60, _, _, hs, hy, hN => exact c_X9_does_60 l sz hs hW hy hN hc hm hT
  | 61, _, _, hs, hy, hN => exact c_X9_does_61 l sz hs hW hy hN hc hm hT
  | 62, _, _, hs, hy, hN => exact c_X9_does_62 l sz hs hW hy hN hc hm hT
  | 63, _, _, hs, hy, hN => exact c_X9_does_63 l sz hs hW hy hN hc hm hT
  | 64, _, _, hs, hy, hN => exact c_X9_does_64 l sz hs hW hy hN hc hm hT
  | 65, _, _, hs, hy, hN => exact c_X9_does_65 l sz hs hW hy hN hc hm hT
  | 66, _, _, hs, hy, hN => exact c_X9_does_66 l sz hs hW hy hN hc hm hT
  | 67, _, _, hs, hy, hN => exact c_X9_does_67 l sz hs hW hy hN hc hm hT
  | 68, _, h68, _, _, _ => exact absurd rfl h68
  | 69, _, _, hs, hy, hN => exact c_X9_does_69 l sz hs hW hy hN hc hm hT
  | 70, _, _, hs, hy, hN => exact c_X9_does_70 l sz hs hW hy hN hc hm hT
  | 71, _, _, hs, hy, hN => exact c_X9_does_71 l sz hs hW hy hN hc hm hT
  | 72, _, _, hs, hy, hN => exact c_X9_does_72 l sz hs hW hy hN hc hm hT
  | 73, _, _, hs, hy, hN => exact c_X9_does_73 l sz hs hW hy hN hc hm hT
  | k + 74, hk, _, _, _, _ => exact absurd hk (by omega)

