set_option maxHeartbeats 4000000 in
set_option maxRecDepth 100000 in
theorem c_X9_doesThing_32_0 (l : Launch) {D : va_G} {q : Nat → ClassId} {ad : Nat → Nat} {κ : KS} {t : Nat → Int32} (sz : Nat) (hs : okStep 32 (t 0) (t 1) (t 2)) (hW : WFm κ) (hy : why κ 32 (t 0) (t 1) (t 2) = 0) (hN : nnOp κ 32 (t 0) (t 1) (t 2)) (hc : vp_in (sI κ 6) 13) (hm : vp_in (sI κ 2) 61) (hT : ¬ sI κ 7 < 0) (hr0 : sA κ 2 (aN (t 1)) = 0) : Met l yX9_doesThing wsX9_doesThing (rmz 2 41) (va_Pc [.ref (ad 0), .int 32] (rPre D q (wM q ad κ t) sz)) (va_Qv (fun (u : KS × (Nat → Int32)) => u = (act κ (t 4) (t 5) 32 (t 0) (t 1) (t 2), t)) (fun (u : KS × (Nat → Int32)) tt => rPo D (rA (wM q ad κ t) sz) (wM q ad u.1 u.2) tt) (rA (wM q ad κ t) sz)) 0 0 (rA (wM q ad κ t) sz) := by
  have hi0 : vp_in (t 0) 8 := hs.1
  have hi1 : vp_in (t 1) 8 := hs.2.1
  have hi2 : vp_in (t 2) 8 := hs.2.2
  obtain ⟨-, q2⟩ := yE (by decide) hy
  obtain ⟨-, q3⟩ := yE (by decide) q2
  obtain ⟨-, q4⟩ := yE (by decide) q3
  obtain ⟨-, q5⟩ := yE (by decide) q4
  obtain ⟨q6, -⟩ := yE (by decide) q5
  rw [hr0] at q6
  obtain ⟨n0, hn0, hx0⟩ := mm60 (r := 0) hm q6
  have hm0 : vp_in (sI κ 2) 60 := by rw [hx0]; exact vp_in_nI (by omega) (by decide)
  refine r_start (cc := cX9_doesThing) (maxL := 7) (ret := none) (by decide) rfl (Nat.le_of_ble_eq_true rfl) ?_
  intro p e s m below meth c ls hC hr hlk hnm hsz hw hl
  have hx := hC.1
  have hb := hC.2.1
  have hl : lv_has ls 7 [(0, .ref (ad 0)), (1, .int 32)] := hl
  refine lv_iload_n hx hb dX9_doesThing_0 rfl (lv_at hl 1 rfl) ?_
  refine lv_tableIn (tgt := 73) hx hb dX9_doesThing_1 (by decide) (by decide) (by rfl) (by decide) ?_
  refine lv_aload_n hx hb dX9_doesThing_73 rfl (lv_at hl 0 rfl) ?_
  refine r_get hC hw rk9 in_X9_doesThing_9 0 (wMl 0 (by decide)) wM0 4 (by decide) lk_X9_doesThing_16 (v := .ref (ad 3)) rfl dX9_doesThing_74 ?_
  refine lv_aload_n hx hb dX9_doesThing_77 rfl (lv_at hl 0 rfl) ?_
  refine r_get hC hw rk9 in_X9_doesThing_9 0 (wMl 0 (by decide)) wM0 31 (by decide) lk_X9_doesThing_126 (v := .int (t 1)) rfl dX9_doesThing_78 ?_
  refine r_iald hC hw 3 (wMl 3 (by decide)) wM3 (by assumption) dX9_doesThing_81 ?_
  refine r_topi (y := 0) hr0 ?_
  refine lv_istore_n (lv' := [(3, .int 0), (0, .ref (ad 0)), (1, .int 32)]) hx hb dX9_doesThing_82 rfl hl (by decide) rfl (fun ls hl => ?_)
  refine lv_aload_n hx hb dX9_doesThing_83 rfl (lv_at hl 1 rfl) ?_
  refine r_get hC hw rk9 in_X9_doesThing_9 0 (wMl 0 (by decide)) wM0 4 (by decide) lk_X9_doesThing_16 (v := .ref (ad 3)) rfl dX9_doesThing_84 ?_
  refine lv_aload_n hx hb dX9_doesThing_87 rfl (lv_at hl 1 rfl) ?_
  refine r_get hC hw rk9 in_X9_doesThing_9 0 (wMl 0 (by decide)) wM0 32 (by decide) lk_X9_doesThing_123 (v := .int (t 2)) rfl dX9_doesThing_88 ?_
  refine r_iald hC hw 3 (wMl 3 (by decide)) wM3 (by assumption) dX9_doesThing_91 ?_
  refine lv_istore (lv' := [(4, .int (sA κ 2 (aN (t 2)))), (3, .int 0), (0, .ref (ad 0)), (1, .int 32)]) hx hb dX9_doesThing_92 hl (by decide) rfl (fun ls hl => ?_)
  refine lv_aload_n hx hb dX9_doesThing_94 rfl (lv_at hl 2 rfl) ?_
  refine lv_bipush (v := 10) hx hb dX9_doesThing_95 (by decide) ?_
  refine lv_iload_n hx hb dX9_doesThing_97 rfl (lv_at hl 1 rfl) ?_
  refine r_ki hw (r_runV (rest := []) hC hw 0 (c_X9_make (ad := ad) l _ 10 0 hm0) rk9 (wMl 0 (by decide)) wM0 2 gX9_doesThing_X9_make rfl rfl rfl (by decide +kernel) ⟨Nat.le_of_ble_eq_true rfl, Nat.le_of_ble_eq_true rfl⟩ rfl hl.1 rfl (Nat.le_of_ble_eq_true rfl) dX9_doesThing_98 ⟨Nat.le_of_ble_eq_true rfl, Nat.le_of_ble_eq_true rfl⟩) (fun r_2 u_3 H locs h_1 hw => ?_)
  obtain ⟨rfl, rfl⟩ := h_1
  dsimp only at hw
  obtain ⟨K0, eK0⟩ : ∃ z, z = (mkR (mk κ 10 0) (sI κ 2) (sA κ 2 (aN (t 2))) 0) := ⟨_, rfl⟩
  replace hw : rX D q (rA (wM q ad κ t) sz) s.heap s (wM q ad K0 t) H locs := by rw [eK0]; exact hw
  refine lv_istore (lv' := [(5, .int ((sI κ 2) + 1)), (4, .int (sA κ 2 (aN (t 2)))), (3, .int 0), (0, .ref (ad 0)), (1, .int 32)]) hx hb dX9_doesThing_101 hl (by decide) rfl (fun ls hl => ?_)
  refine lv_iconst (v := 0) hx hb dX9_doesThing_103 (by decide) ?_
  refine lv_istore (lv' := [(6, .int 0), (5, .int ((sI κ 2) + 1)), (4, .int (sA κ 2 (aN (t 2)))), (3, .int 0), (0, .ref (ad 0)), (1, .int 32)]) hx hb dX9_doesThing_104 hl (by decide) rfl (fun ls hl => ?_)
  refine lv_iload hx hb dX9_doesThing_106 (lv_at hl 0 rfl) ?_
  refine lv_iload_n hx hb dX9_doesThing_108 rfl (lv_at hl 3 rfl) ?_
  refine lv_icmp_ge (tgt := 140) hx hb dX9_doesThing_109 (by decide) (fun _ => ?_) (fun c_ => absurd (by decide) c_)
  refine lv_aload_n hx hb dX9_doesThing_140 rfl (lv_at hl 4 rfl) ?_
  refine r_get hC hw rk9 in_X9_doesThing_9 0 (wMl 0 (by decide)) wM0 8 (by decide) lk_X9_doesThing_31 (v := .ref (ad 7)) rfl dX9_doesThing_141 ?_
  refine lv_aload_n hx hb dX9_doesThing_144 rfl (lv_at hl 4 rfl) ?_
  refine r_get hC hw rk9 in_X9_doesThing_9 0 (wMl 0 (by decide)) wM0 30 (by decide) lk_X9_doesThing_142 (v := .int (t 0)) rfl dX9_doesThing_145 ?_
  refine lv_iload hx hb dX9_doesThing_148 (lv_at hl 1 rfl) ?_
  refine r_iast hC hw 7 (wMl 7 (by decide)) wM7 (by assumption) dX9_doesThing_150 (fun H locs hw => ?_)
  replace hw := mS_refs hw
  refine lv_goto (tgt := 360) hx hb dX9_doesThing_151 (by decide) ?_
  exact r_vret hC hr hlk hw ((uA K0 3 (aN (t 0)) ((sI κ 2) + 1)), t) rfl (by rw [eK0]; exact congrArg (fun z => (z, t)) (act32 hr0 (by decide)).symm) (Nat.le_of_ble_eq_true rfl) (Nat.le_of_ble_eq_true rfl) dX9_doesThing_360

set_option maxHeartbeats 4000000 in
set_option maxRecDepth 100000 in
theorem c_X9_doesThing_32_1 (l : Launch) {D : va_G} {q : Nat → ClassId} {ad : Nat → Nat} {κ : KS} {t : Nat → Int32} (sz : Nat) (hs : okStep 32 (t 0) (t 1) (t 2)) (hW : WFm κ) (hy : why κ 32 (t 0) (t 1) (t 2) = 0) (hN : nnOp κ 32 (t 0) (t 1) (t 2)) (hc : vp_in (sI κ 6) 13) (hm : vp_in (sI κ 2) 61) (hT : ¬ sI κ 7 < 0) (hr0 : sA κ 2 (aN (t 1)) = 1) : Met l yX9_doesThing wsX9_doesThing (rmz 2 41) (va_Pc [.ref (ad 0), .int 32] (rPre D q (wM q ad κ t) sz)) (va_Qv (fun (u : KS × (Nat → Int32)) => u = (act κ (t 4) (t 5) 32 (t 0) (t 1) (t 2), t)) (fun (u : KS × (Nat → Int32)) tt => rPo D (rA (wM q ad κ t) sz) (wM q ad u.1 u.2) tt) (rA (wM q ad κ t) sz)) 0 0 (rA (wM q ad κ t) sz) := by
  have hi0 : vp_in (t 0) 8 := hs.1
  have hi1 : vp_in (t 1) 8 := hs.2.1
  have hi2 : vp_in (t 2) 8 := hs.2.2
  obtain ⟨-, q2⟩ := yE (by decide) hy
  obtain ⟨-, q3⟩ := yE (by decide) q2
  obtain ⟨-, q4⟩ := yE (by decide) q3
  obtain ⟨-, q5⟩ := yE (by decide) q4
  obtain ⟨q6, -⟩ := yE (by decide) q5
  rw [hr0] at q6
  obtain ⟨n0, hn0, hx0⟩ := mm60 (r := 1) hm q6
  have hm0 : vp_in (sI κ 2) 60 := by rw [hx0]; exact vp_in_nI (by omega) (by decide)
  refine r_start (cc := cX9_doesThing) (maxL := 7) (ret := none) (by decide) rfl (Nat.le_of_ble_eq_true rfl) ?_
  intro p e s m below meth c ls hC hr hlk hnm hsz hw hl
  have hx := hC.1
  have hb := hC.2.1
  have hl : lv_has ls 7 [(0, .ref (ad 0)), (1, .int 32)] := hl
  refine lv_iload_n hx hb dX9_doesThing_0 rfl (lv_at hl 1 rfl) ?_
  refine lv_tableIn (tgt := 73) hx hb dX9_doesThing_1 (by decide) (by decide) (by rfl) (by decide) ?_
  refine lv_aload_n hx hb dX9_doesThing_73 rfl (lv_at hl 0 rfl) ?_
  refine r_get hC hw rk9 in_X9_doesThing_9 0 (wMl 0 (by decide)) wM0 4 (by decide) lk_X9_doesThing_16 (v := .ref (ad 3)) rfl dX9_doesThing_74 ?_
  refine lv_aload_n hx hb dX9_doesThing_77 rfl (lv_at hl 0 rfl) ?_
  refine r_get hC hw rk9 in_X9_doesThing_9 0 (wMl 0 (by decide)) wM0 31 (by decide) lk_X9_doesThing_126 (v := .int (t 1)) rfl dX9_doesThing_78 ?_
  refine r_iald hC hw 3 (wMl 3 (by decide)) wM3 (by assumption) dX9_doesThing_81 ?_
  refine r_topi (y := 1) hr0 ?_
  refine lv_istore_n (lv' := [(3, .int 1), (0, .ref (ad 0)), (1, .int 32)]) hx hb dX9_doesThing_82 rfl hl (by decide) rfl (fun ls hl => ?_)
  refine lv_aload_n hx hb dX9_doesThing_83 rfl (lv_at hl 1 rfl) ?_
  refine r_get hC hw rk9 in_X9_doesThing_9 0 (wMl 0 (by decide)) wM0 4 (by decide) lk_X9_doesThing_16 (v := .ref (ad 3)) rfl dX9_doesThing_84 ?_
  refine lv_aload_n hx hb dX9_doesThing_87 rfl (lv_at hl 1 rfl) ?_
  refine r_get hC hw rk9 in_X9_doesThing_9 0 (wMl 0 (by decide)) wM0 32 (by decide) lk_X9_doesThing_123 (v := .int (t 2)) rfl dX9_doesThing_88 ?_
  refine r_iald hC hw 3 (wMl 3 (by decide)) wM3 (by assumption) dX9_doesThing_91 ?_
  refine lv_istore (lv' := [(4, .int (sA κ 2 (aN (t 2)))), (3, .int 1), (0, .ref (ad 0)), (1, .int 32)]) hx hb dX9_doesThing_92 hl (by decide) rfl (fun ls hl => ?_)
  refine lv_aload_n hx hb dX9_doesThing_94 rfl (lv_at hl 2 rfl) ?_
  refine lv_bipush (v := 10) hx hb dX9_doesThing_95 (by decide) ?_
  refine lv_iload_n hx hb dX9_doesThing_97 rfl (lv_at hl 1 rfl) ?_
  refine r_ki hw (r_runV (rest := []) hC hw 0 (c_X9_make (ad := ad) l _ 10 1 hm0) rk9 (wMl 0 (by decide)) wM0 2 gX9_doesThing_X9_make rfl rfl rfl (by decide +kernel) ⟨Nat.le_of_ble_eq_true rfl, Nat.le_of_ble_eq_true rfl⟩ rfl hl.1 rfl (Nat.le_of_ble_eq_true rfl) dX9_doesThing_98 ⟨Nat.le_of_ble_eq_true rfl, Nat.le_of_ble_eq_true rfl⟩) (fun r_2 u_3 H locs h_1 hw => ?_)
  obtain ⟨rfl, rfl⟩ := h_1
  dsimp only at hw
  obtain ⟨K0, eK0⟩ : ∃ z, z = (mkR (mk κ 10 1) (sI κ 2) (sA κ 2 (aN (t 2))) 0) := ⟨_, rfl⟩
  replace hw : rX D q (rA (wM q ad κ t) sz) s.heap s (wM q ad K0 t) H locs := by rw [eK0]; exact hw
  have hr1 : vp_in (sI K0 2) 60 := by rw [eK0, mkR_made, mk_made, hx0, nI_1, nI_add]; exact vp_in_nI (by omega) (by decide)
  refine lv_istore (lv' := [(5, .int ((sI κ 2) + 1)), (4, .int (sA κ 2 (aN (t 2)))), (3, .int 1), (0, .ref (ad 0)), (1, .int 32)]) hx hb dX9_doesThing_101 hl (by decide) rfl (fun ls hl => ?_)
  refine lv_iconst (v := 0) hx hb dX9_doesThing_103 (by decide) ?_
  refine lv_istore (lv' := [(6, .int 0), (5, .int ((sI κ 2) + 1)), (4, .int (sA κ 2 (aN (t 2)))), (3, .int 1), (0, .ref (ad 0)), (1, .int 32)]) hx hb dX9_doesThing_104 hl (by decide) rfl (fun ls hl => ?_)
  refine lv_iload hx hb dX9_doesThing_106 (lv_at hl 0 rfl) ?_
  refine lv_iload_n hx hb dX9_doesThing_108 rfl (lv_at hl 3 rfl) ?_
  refine lv_icmp_ge (tgt := 140) hx hb dX9_doesThing_109 (by decide) (fun c_ => absurd c_ (by decide)) (fun _ => ?_)
  refine lv_aload_n hx hb dX9_doesThing_112 rfl (lv_at hl 4 rfl) ?_
  refine r_get hC hw rk9 in_X9_doesThing_9 0 (wMl 0 (by decide)) wM0 13 (by decide) lk_X9_doesThing_46 (v := .ref (ad 12)) rfl dX9_doesThing_113 ?_
  refine lv_bipush (v := 12) hx hb dX9_doesThing_116 (by decide) ?_
  refine lv_iload hx hb dX9_doesThing_118 (lv_at hl 1 rfl) ?_
  refine lv_iconst (v := 1) hx hb dX9_doesThing_120 (by decide) ?_
  refine lv_isub hx hb dX9_doesThing_121 ?_
  refine r_topi (y := sI κ 2) (ix1 _) ?_
  refine lv_imul hx hb dX9_doesThing_122 ?_
  refine lv_iload hx hb dX9_doesThing_123 (lv_at hl 0 rfl) ?_
  refine lv_iadd hx hb dX9_doesThing_125 ?_
  refine lv_aload_n hx hb dX9_doesThing_126 rfl (lv_at hl 4 rfl) ?_
  refine lv_iconst (v := 4) hx hb dX9_doesThing_127 (by decide) ?_
  refine lv_iload hx hb dX9_doesThing_128 (lv_at hl 2 rfl) ?_
  refine r_ki hw (r_runV (rest := [.int ((12 * (sI κ 2)) + 0), .ref (ad 12)]) hC hw 0 (c_X9_make (ad := ad) l _ 4 (sA κ 2 (aN (t 2))) hr1) rk9 (wMl 0 (by decide)) wM0 2 gX9_doesThing_X9_make rfl rfl rfl (by decide +kernel) ⟨Nat.le_of_ble_eq_true rfl, Nat.le_of_ble_eq_true rfl⟩ rfl hl.1 rfl (Nat.le_of_ble_eq_true rfl) dX9_doesThing_130 ⟨Nat.le_of_ble_eq_true rfl, Nat.le_of_ble_eq_true rfl⟩) (fun r_5 u_6 H locs h_4 hw => ?_)
  obtain ⟨rfl, rfl⟩ := h_4
  dsimp only at hw
  refine r_iast hC hw 12 (wMl 12 (by decide)) wM12 (ix60 hm0 v12_0) dX9_doesThing_133 (fun H locs hw => ?_)
  replace hw := mS_inner hw
  rw [eK0, mkR_S (mk κ 10 1) (sI κ 2) (sA κ 2 (aN (t 2))) 0 0 1 rfl rfl] at hw
  obtain ⟨K1, eK1⟩ : ∃ z, z = (mkR (mk κ 10 1) (sI κ 2) (sA κ 2 (aN (t 2))) 1) := ⟨_, rfl⟩
  rw [← eK1] at hw
  refine lv_iinc (v := 1) (lv' := [(6, .int 1), (5, .int ((sI κ 2) + 1)), (4, .int (sA κ 2 (aN (t 2)))), (3, .int 1), (0, .ref (ad 0)), (1, .int 32)]) hx hb dX9_doesThing_134 hl (k := 0) rfl (by first | rfl | decide) (by decide) rfl (fun ls hl => ?_)
  refine lv_goto (tgt := 106) hx hb dX9_doesThing_137 (by decide) ?_
  refine lv_iload hx hb dX9_doesThing_106 (lv_at hl 0 rfl) ?_
  refine lv_iload_n hx hb dX9_doesThing_108 rfl (lv_at hl 3 rfl) ?_
  refine lv_icmp_ge (tgt := 140) hx hb dX9_doesThing_109 (by decide) (fun _ => ?_) (fun c_ => absurd (by decide) c_)
  refine lv_aload_n hx hb dX9_doesThing_140 rfl (lv_at hl 4 rfl) ?_
  refine r_get hC hw rk9 in_X9_doesThing_9 0 (wMl 0 (by decide)) wM0 8 (by decide) lk_X9_doesThing_31 (v := .ref (ad 7)) rfl dX9_doesThing_141 ?_
  refine lv_aload_n hx hb dX9_doesThing_144 rfl (lv_at hl 4 rfl) ?_
  refine r_get hC hw rk9 in_X9_doesThing_9 0 (wMl 0 (by decide)) wM0 30 (by decide) lk_X9_doesThing_142 (v := .int (t 0)) rfl dX9_doesThing_145 ?_
  refine lv_iload hx hb dX9_doesThing_148 (lv_at hl 1 rfl) ?_
  refine r_iast hC hw 7 (wMl 7 (by decide)) wM7 (by assumption) dX9_doesThing_150 (fun H locs hw => ?_)
  replace hw := mS_refs hw
  refine lv_goto (tgt := 360) hx hb dX9_doesThing_151 (by decide) ?_
  exact r_vret hC hr hlk hw ((uA K1 3 (aN (t 0)) ((sI κ 2) + 1)), t) rfl (by rw [eK1]; exact congrArg (fun z => (z, t)) (act32 hr0 (by decide)).symm) (Nat.le_of_ble_eq_true rfl) (Nat.le_of_ble_eq_true rfl) dX9_doesThing_360

set_option maxHeartbeats 4000000 in
set_option maxRecDepth 100000 in
theorem c_X9_doesThing_32_2 (l : Launch) {D : va_G} {q : Nat → ClassId} {ad : Nat → Nat} {κ : KS} {t : Nat → Int32} (sz : Nat) (hs : okStep 32 (t 0) (t 1) (t 2)) (hW : WFm κ) (hy : why κ 32 (t 0) (t 1) (t 2) = 0) (hN : nnOp κ 32 (t 0) (t 1) (t 2)) (hc : vp_in (sI κ 6) 13) (hm : vp_in (sI κ 2) 61) (hT : ¬ sI κ 7 < 0) (hr0 : sA κ 2 (aN (t 1)) = 2) : Met l yX9_doesThing wsX9_doesThing (rmz 2 41) (va_Pc [.ref (ad 0), .int 32] (rPre D q (wM q ad κ t) sz)) (va_Qv (fun (u : KS × (Nat → Int32)) => u = (act κ (t 4) (t 5) 32 (t 0) (t 1) (t 2), t)) (fun (u : KS × (Nat → Int32)) tt => rPo D (rA (wM q ad κ t) sz) (wM q ad u.1 u.2) tt) (rA (wM q ad κ t) sz)) 0 0 (rA (wM q ad κ t) sz) := by
  have hi0 : vp_in (t 0) 8 := hs.1
  have hi1 : vp_in (t 1) 8 := hs.2.1
  have hi2 : vp_in (t 2) 8 := hs.2.2
  obtain ⟨-, q2⟩ := yE (by decide) hy
  obtain ⟨-, q3⟩ := yE (by decide) q2
  obtain ⟨-, q4⟩ := yE (by decide) q3
  obtain ⟨-, q5⟩ := yE (by decide) q4
  obtain ⟨q6, -⟩ := yE (by decide) q5
  rw [hr0] at q6
  obtain ⟨n0, hn0, hx0⟩ := mm60 (r := 2) hm q6
  have hm0 : vp_in (sI κ 2) 60 := by rw [hx0]; exact vp_in_nI (by omega) (by decide)
  refine r_start (cc := cX9_doesThing) (maxL := 7) (ret := none) (by decide) rfl (Nat.le_of_ble_eq_true rfl) ?_
  intro p e s m below meth c ls hC hr hlk hnm hsz hw hl
  have hx := hC.1
  have hb := hC.2.1
  have hl : lv_has ls 7 [(0, .ref (ad 0)), (1, .int 32)] := hl
  refine lv_iload_n hx hb dX9_doesThing_0 rfl (lv_at hl 1 rfl) ?_
  refine lv_tableIn (tgt := 73) hx hb dX9_doesThing_1 (by decide) (by decide) (by rfl) (by decide) ?_
  refine lv_aload_n hx hb dX9_doesThing_73 rfl (lv_at hl 0 rfl) ?_
  refine r_get hC hw rk9 in_X9_doesThing_9 0 (wMl 0 (by decide)) wM0 4 (by decide) lk_X9_doesThing_16 (v := .ref (ad 3)) rfl dX9_doesThing_74 ?_
  refine lv_aload_n hx hb dX9_doesThing_77 rfl (lv_at hl 0 rfl) ?_
  refine r_get hC hw rk9 in_X9_doesThing_9 0 (wMl 0 (by decide)) wM0 31 (by decide) lk_X9_doesThing_126 (v := .int (t 1)) rfl dX9_doesThing_78 ?_
  refine r_iald hC hw 3 (wMl 3 (by decide)) wM3 (by assumption) dX9_doesThing_81 ?_
  refine r_topi (y := 2) hr0 ?_
  refine lv_istore_n (lv' := [(3, .int 2), (0, .ref (ad 0)), (1, .int 32)]) hx hb dX9_doesThing_82 rfl hl (by decide) rfl (fun ls hl => ?_)
  refine lv_aload_n hx hb dX9_doesThing_83 rfl (lv_at hl 1 rfl) ?_
  refine r_get hC hw rk9 in_X9_doesThing_9 0 (wMl 0 (by decide)) wM0 4 (by decide) lk_X9_doesThing_16 (v := .ref (ad 3)) rfl dX9_doesThing_84 ?_
  refine lv_aload_n hx hb dX9_doesThing_87 rfl (lv_at hl 1 rfl) ?_
  refine r_get hC hw rk9 in_X9_doesThing_9 0 (wMl 0 (by decide)) wM0 32 (by decide) lk_X9_doesThing_123 (v := .int (t 2)) rfl dX9_doesThing_88 ?_
  refine r_iald hC hw 3 (wMl 3 (by decide)) wM3 (by assumption) dX9_doesThing_91 ?_
  refine lv_istore (lv' := [(4, .int (sA κ 2 (aN (t 2)))), (3, .int 2), (0, .ref (ad 0)), (1, .int 32)]) hx hb dX9_doesThing_92 hl (by decide) rfl (fun ls hl => ?_)
  refine lv_aload_n hx hb dX9_doesThing_94 rfl (lv_at hl 2 rfl) ?_
  refine lv_bipush (v := 10) hx hb dX9_doesThing_95 (by decide) ?_
  refine lv_iload_n hx hb dX9_doesThing_97 rfl (lv_at hl 1 rfl) ?_
  refine r_ki hw (r_runV (rest := []) hC hw 0 (c_X9_make (ad := ad) l _ 10 2 hm0) rk9 (wMl 0 (by decide)) wM0 2 gX9_doesThing_X9_make rfl rfl rfl (by decide +kernel) ⟨Nat.le_of_ble_eq_true rfl, Nat.le_of_ble_eq_true rfl⟩ rfl hl.1 rfl (Nat.le_of_ble_eq_true rfl) dX9_doesThing_98 ⟨Nat.le_of_ble_eq_true rfl, Nat.le_of_ble_eq_true rfl⟩) (fun r_2 u_3 H locs h_1 hw => ?_)
  obtain ⟨rfl, rfl⟩ := h_1
  dsimp only at hw
  obtain ⟨K0, eK0⟩ : ∃ z, z = (mkR (mk κ 10 2) (sI κ 2) (sA κ 2 (aN (t 2))) 0) := ⟨_, rfl⟩
  replace hw : rX D q (rA (wM q ad κ t) sz) s.heap s (wM q ad K0 t) H locs := by rw [eK0]; exact hw
  have hr1 : vp_in (sI K0 2) 60 := by rw [eK0, mkR_made, mk_made, hx0, nI_1, nI_add]; exact vp_in_nI (by omega) (by decide)
  refine lv_istore (lv' := [(5, .int ((sI κ 2) + 1)), (4, .int (sA κ 2 (aN (t 2)))), (3, .int 2), (0, .ref (ad 0)), (1, .int 32)]) hx hb dX9_doesThing_101 hl (by decide) rfl (fun ls hl => ?_)
  refine lv_iconst (v := 0) hx hb dX9_doesThing_103 (by decide) ?_
  refine lv_istore (lv' := [(6, .int 0), (5, .int ((sI κ 2) + 1)), (4, .int (sA κ 2 (aN (t 2)))), (3, .int 2), (0, .ref (ad 0)), (1, .int 32)]) hx hb dX9_doesThing_104 hl (by decide) rfl (fun ls hl => ?_)
  refine lv_iload hx hb dX9_doesThing_106 (lv_at hl 0 rfl) ?_
  refine lv_iload_n hx hb dX9_doesThing_108 rfl (lv_at hl 3 rfl) ?_
  refine lv_icmp_ge (tgt := 140) hx hb dX9_doesThing_109 (by decide) (fun c_ => absurd c_ (by decide)) (fun _ => ?_)
  refine lv_aload_n hx hb dX9_doesThing_112 rfl (lv_at hl 4 rfl) ?_
  refine r_get hC hw rk9 in_X9_doesThing_9 0 (wMl 0 (by decide)) wM0 13 (by decide) lk_X9_doesThing_46 (v := .ref (ad 12)) rfl dX9_doesThing_113 ?_
  refine lv_bipush (v := 12) hx hb dX9_doesThing_116 (by decide) ?_
  refine lv_iload hx hb dX9_doesThing_118 (lv_at hl 1 rfl) ?_
  refine lv_iconst (v := 1) hx hb dX9_doesThing_120 (by decide) ?_
  refine lv_isub hx hb dX9_doesThing_121 ?_
  refine r_topi (y := sI κ 2) (ix1 _) ?_
  refine lv_imul hx hb dX9_doesThing_122 ?_
  refine lv_iload hx hb dX9_doesThing_123 (lv_at hl 0 rfl) ?_
  refine lv_iadd hx hb dX9_doesThing_125 ?_
  refine lv_aload_n hx hb dX9_doesThing_126 rfl (lv_at hl 4 rfl) ?_
  refine lv_iconst (v := 4) hx hb dX9_doesThing_127 (by decide) ?_
  refine lv_iload hx hb dX9_doesThing_128 (lv_at hl 2 rfl) ?_
  refine r_ki hw (r_runV (rest := [.int ((12 * (sI κ 2)) + 0), .ref (ad 12)]) hC hw 0 (c_X9_make (ad := ad) l _ 4 (sA κ 2 (aN (t 2))) hr1) rk9 (wMl 0 (by decide)) wM0 2 gX9_doesThing_X9_make rfl rfl rfl (by decide +kernel) ⟨Nat.le_of_ble_eq_true rfl, Nat.le_of_ble_eq_true rfl⟩ rfl hl.1 rfl (Nat.le_of_ble_eq_true rfl) dX9_doesThing_130 ⟨Nat.le_of_ble_eq_true rfl, Nat.le_of_ble_eq_true rfl⟩) (fun r_5 u_6 H locs h_4 hw => ?_)
  obtain ⟨rfl, rfl⟩ := h_4
  dsimp only at hw
  refine r_iast hC hw 12 (wMl 12 (by decide)) wM12 (ix60 hm0 v12_0) dX9_doesThing_133 (fun H locs hw => ?_)
  replace hw := mS_inner hw
  rw [eK0, mkR_S (mk κ 10 2) (sI κ 2) (sA κ 2 (aN (t 2))) 0 0 1 rfl rfl] at hw
  obtain ⟨K1, eK1⟩ : ∃ z, z = (mkR (mk κ 10 2) (sI κ 2) (sA κ 2 (aN (t 2))) 1) := ⟨_, rfl⟩
  rw [← eK1] at hw
  have hr2 : vp_in (sI K1 2) 60 := by rw [eK1, mkR_made, mk_made, hx0, nI_1, nI_add]; exact vp_in_nI (by omega) (by decide)
  refine lv_iinc (v := 1) (lv' := [(6, .int 1), (5, .int ((sI κ 2) + 1)), (4, .int (sA κ 2 (aN (t 2)))), (3, .int 2), (0, .ref (ad 0)), (1, .int 32)]) hx hb dX9_doesThing_134 hl (k := 0) rfl (by first | rfl | decide) (by decide) rfl (fun ls hl => ?_)
  refine lv_goto (tgt := 106) hx hb dX9_doesThing_137 (by decide) ?_
  refine lv_iload hx hb dX9_doesThing_106 (lv_at hl 0 rfl) ?_
  refine lv_iload_n hx hb dX9_doesThing_108 rfl (lv_at hl 3 rfl) ?_
  refine lv_icmp_ge (tgt := 140) hx hb dX9_doesThing_109 (by decide) (fun c_ => absurd c_ (by decide)) (fun _ => ?_)
  refine lv_aload_n hx hb dX9_doesThing_112 rfl (lv_at hl 4 rfl) ?_
  refine r_get hC hw rk9 in_X9_doesThing_9 0 (wMl 0 (by decide)) wM0 13 (by decide) lk_X9_doesThing_46 (v := .ref (ad 12)) rfl dX9_doesThing_113 ?_
  refine lv_bipush (v := 12) hx hb dX9_doesThing_116 (by decide) ?_
  refine lv_iload hx hb dX9_doesThing_118 (lv_at hl 1 rfl) ?_
  refine lv_iconst (v := 1) hx hb dX9_doesThing_120 (by decide) ?_
  refine lv_isub hx hb dX9_doesThing_121 ?_
  refine r_topi (y := sI κ 2) (ix1 _) ?_
  refine lv_imul hx hb dX9_doesThing_122 ?_
  refine lv_iload hx hb dX9_doesThing_123 (lv_at hl 0 rfl) ?_
  refine lv_iadd hx hb dX9_doesThing_125 ?_
  refine lv_aload_n hx hb dX9_doesThing_126 rfl (lv_at hl 4 rfl) ?_
  refine lv_iconst (v := 4) hx hb dX9_doesThing_127 (by decide) ?_
  refine lv_iload hx hb dX9_doesThing_128 (lv_at hl 2 rfl) ?_
  refine r_ki hw (r_runV (rest := [.int ((12 * (sI κ 2)) + 1), .ref (ad 12)]) hC hw 0 (c_X9_make (ad := ad) l _ 4 (sA κ 2 (aN (t 2))) hr2) rk9 (wMl 0 (by decide)) wM0 2 gX9_doesThing_X9_make rfl rfl rfl (by decide +kernel) ⟨Nat.le_of_ble_eq_true rfl, Nat.le_of_ble_eq_true rfl⟩ rfl hl.1 rfl (Nat.le_of_ble_eq_true rfl) dX9_doesThing_130 ⟨Nat.le_of_ble_eq_true rfl, Nat.le_of_ble_eq_true rfl⟩) (fun r_8 u_9 H locs h_7 hw => ?_)
  obtain ⟨rfl, rfl⟩ := h_7
  dsimp only at hw
  refine r_iast hC hw 12 (wMl 12 (by decide)) wM12 (ix60 hm0 v12_1) dX9_doesThing_133 (fun H locs hw => ?_)
  replace hw := mS_inner hw
  rw [eK1, mkR_S (mk κ 10 2) (sI κ 2) (sA κ 2 (aN (t 2))) 1 1 2 rfl rfl] at hw
  obtain ⟨K2, eK2⟩ : ∃ z, z = (mkR (mk κ 10 2) (sI κ 2) (sA κ 2 (aN (t 2))) 2) := ⟨_, rfl⟩
  rw [← eK2] at hw
  refine lv_iinc (v := 2) (lv' := [(6, .int 2), (5, .int ((sI κ 2) + 1)), (4, .int (sA κ 2 (aN (t 2)))), (3, .int 2), (0, .ref (ad 0)), (1, .int 32)]) hx hb dX9_doesThing_134 hl (k := 0) rfl (by first | rfl | decide) (by decide) rfl (fun ls hl => ?_)
  refine lv_goto (tgt := 106) hx hb dX9_doesThing_137 (by decide) ?_
  refine lv_iload hx hb dX9_doesThing_106 (lv_at hl 0 rfl) ?_
  refine lv_iload_n hx hb dX9_doesThing_108 rfl (lv_at hl 3 rfl) ?_
  refine lv_icmp_ge (tgt := 140) hx hb dX9_doesThing_109 (by decide) (fun _ => ?_) (fun c_ => absurd (by decide) c_)
  refine lv_aload_n hx hb dX9_doesThing_140 rfl (lv_at hl 4 rfl) ?_
  refine r_get hC hw rk9 in_X9_doesThing_9 0 (wMl 0 (by decide)) wM0 8 (by decide) lk_X9_doesThing_31 (v := .ref (ad 7)) rfl dX9_doesThing_141 ?_
  refine lv_aload_n hx hb dX9_doesThing_144 rfl (lv_at hl 4 rfl) ?_
  refine r_get hC hw rk9 in_X9_doesThing_9 0 (wMl 0 (by decide)) wM0 30 (by decide) lk_X9_doesThing_142 (v := .int (t 0)) rfl dX9_doesThing_145 ?_
  refine lv_iload hx hb dX9_doesThing_148 (lv_at hl 1 rfl) ?_
  refine r_iast hC hw 7 (wMl 7 (by decide)) wM7 (by assumption) dX9_doesThing_150 (fun H locs hw => ?_)
  replace hw := mS_refs hw
  refine lv_goto (tgt := 360) hx hb dX9_doesThing_151 (by decide) ?_
  exact r_vret hC hr hlk hw ((uA K2 3 (aN (t 0)) ((sI κ 2) + 1)), t) rfl (by rw [eK2]; exact congrArg (fun z => (z, t)) (act32 hr0 (by decide)).symm) (Nat.le_of_ble_eq_true rfl) (Nat.le_of_ble_eq_true rfl) dX9_doesThing_360

set_option maxHeartbeats 4000000 in
set_option maxRecDepth 100000 in
theorem c_X9_doesThing_32_3 (l : Launch) {D : va_G} {q : Nat → ClassId} {ad : Nat → Nat} {κ : KS} {t : Nat → Int32} (sz : Nat) (hs : okStep 32 (t 0) (t 1) (t 2)) (hW : WFm κ) (hy : why κ 32 (t 0) (t 1) (t 2) = 0) (hN : nnOp κ 32 (t 0) (t 1) (t 2)) (hc : vp_in (sI κ 6) 13) (hm : vp_in (sI κ 2) 61) (hT : ¬ sI κ 7 < 0) (hr0 : sA κ 2 (aN (t 1)) = 3) : Met l yX9_doesThing wsX9_doesThing (rmz 2 41) (va_Pc [.ref (ad 0), .int 32] (rPre D q (wM q ad κ t) sz)) (va_Qv (fun (u : KS × (Nat → Int32)) => u = (act κ (t 4) (t 5) 32 (t 0) (t 1) (t 2), t)) (fun (u : KS × (Nat → Int32)) tt => rPo D (rA (wM q ad κ t) sz) (wM q ad u.1 u.2) tt) (rA (wM q ad κ t) sz)) 0 0 (rA (wM q ad κ t) sz) := by
  have hi0 : vp_in (t 0) 8 := hs.1
  have hi1 : vp_in (t 1) 8 := hs.2.1
  have hi2 : vp_in (t 2) 8 := hs.2.2
  obtain ⟨-, q2⟩ := yE (by decide) hy
  obtain ⟨-, q3⟩ := yE (by decide) q2
  obtain ⟨-, q4⟩ := yE (by decide) q3
  obtain ⟨-, q5⟩ := yE (by decide) q4
  obtain ⟨q6, -⟩ := yE (by decide) q5
  rw [hr0] at q6
  obtain ⟨n0, hn0, hx0⟩ := mm60 (r := 3) hm q6
  have hm0 : vp_in (sI κ 2) 60 := by rw [hx0]; exact vp_in_nI (by omega) (by decide)
  refine r_start (cc := cX9_doesThing) (maxL := 7) (ret := none) (by decide) rfl (Nat.le_of_ble_eq_true rfl) ?_
  intro p e s m below meth c ls hC hr hlk hnm hsz hw hl
  have hx := hC.1
  have hb := hC.2.1
  have hl : lv_has ls 7 [(0, .ref (ad 0)), (1, .int 32)] := hl
  refine lv_iload_n hx hb dX9_doesThing_0 rfl (lv_at hl 1 rfl) ?_
  refine lv_tableIn (tgt := 73) hx hb dX9_doesThing_1 (by decide) (by decide) (by rfl) (by decide) ?_
  refine lv_aload_n hx hb dX9_doesThing_73 rfl (lv_at hl 0 rfl) ?_
  refine r_get hC hw rk9 in_X9_doesThing_9 0 (wMl 0 (by decide)) wM0 4 (by decide) lk_X9_doesThing_16 (v := .ref (ad 3)) rfl dX9_doesThing_74 ?_
  refine lv_aload_n hx hb dX9_doesThing_77 rfl (lv_at hl 0 rfl) ?_
  refine r_get hC hw rk9 in_X9_doesThing_9 0 (wMl 0 (by decide)) wM0 31 (by decide) lk_X9_doesThing_126 (v := .int (t 1)) rfl dX9_doesThing_78 ?_
  refine r_iald hC hw 3 (wMl 3 (by decide)) wM3 (by assumption) dX9_doesThing_81 ?_
  refine r_topi (y := 3) hr0 ?_
  refine lv_istore_n (lv' := [(3, .int 3), (0, .ref (ad 0)), (1, .int 32)]) hx hb dX9_doesThing_82 rfl hl (by decide) rfl (fun ls hl => ?_)
  refine lv_aload_n hx hb dX9_doesThing_83 rfl (lv_at hl 1 rfl) ?_
  refine r_get hC hw rk9 in_X9_doesThing_9 0 (wMl 0 (by decide)) wM0 4 (by decide) lk_X9_doesThing_16 (v := .ref (ad 3)) rfl dX9_doesThing_84 ?_
  refine lv_aload_n hx hb dX9_doesThing_87 rfl (lv_at hl 1 rfl) ?_
  refine r_get hC hw rk9 in_X9_doesThing_9 0 (wMl 0 (by decide)) wM0 32 (by decide) lk_X9_doesThing_123 (v := .int (t 2)) rfl dX9_doesThing_88 ?_
  refine r_iald hC hw 3 (wMl 3 (by decide)) wM3 (by assumption) dX9_doesThing_91 ?_
  refine lv_istore (lv' := [(4, .int (sA κ 2 (aN (t 2)))), (3, .int 3), (0, .ref (ad 0)), (1, .int 32)]) hx hb dX9_doesThing_92 hl (by decide) rfl (fun ls hl => ?_)
  refine lv_aload_n hx hb dX9_doesThing_94 rfl (lv_at hl 2 rfl) ?_
  refine lv_bipush (v := 10) hx hb dX9_doesThing_95 (by decide) ?_
  refine lv_iload_n hx hb dX9_doesThing_97 rfl (lv_at hl 1 rfl) ?_
  refine r_ki hw (r_runV (rest := []) hC hw 0 (c_X9_make (ad := ad) l _ 10 3 hm0) rk9 (wMl 0 (by decide)) wM0 2 gX9_doesThing_X9_make rfl rfl rfl (by decide +kernel) ⟨Nat.le_of_ble_eq_true rfl, Nat.le_of_ble_eq_true rfl⟩ rfl hl.1 rfl (Nat.le_of_ble_eq_true rfl) dX9_doesThing_98 ⟨Nat.le_of_ble_eq_true rfl, Nat.le_of_ble_eq_true rfl⟩) (fun r_2 u_3 H locs h_1 hw => ?_)
  obtain ⟨rfl, rfl⟩ := h_1
  dsimp only at hw
  obtain ⟨K0, eK0⟩ : ∃ z, z = (mkR (mk κ 10 3) (sI κ 2) (sA κ 2 (aN (t 2))) 0) := ⟨_, rfl⟩
  replace hw : rX D q (rA (wM q ad κ t) sz) s.heap s (wM q ad K0 t) H locs := by rw [eK0]; exact hw
  have hr1 : vp_in (sI K0 2) 60 := by rw [eK0, mkR_made, mk_made, hx0, nI_1, nI_add]; exact vp_in_nI (by omega) (by decide)
  refine lv_istore (lv' := [(5, .int ((sI κ 2) + 1)), (4, .int (sA κ 2 (aN (t 2)))), (3, .int 3), (0, .ref (ad 0)), (1, .int 32)]) hx hb dX9_doesThing_101 hl (by decide) rfl (fun ls hl => ?_)
  refine lv_iconst (v := 0) hx hb dX9_doesThing_103 (by decide) ?_
  refine lv_istore (lv' := [(6, .int 0), (5, .int ((sI κ 2) + 1)), (4, .int (sA κ 2 (aN (t 2)))), (3, .int 3), (0, .ref (ad 0)), (1, .int 32)]) hx hb dX9_doesThing_104 hl (by decide) rfl (fun ls hl => ?_)
  refine lv_iload hx hb dX9_doesThing_106 (lv_at hl 0 rfl) ?_
  refine lv_iload_n hx hb dX9_doesThing_108 rfl (lv_at hl 3 rfl) ?_
  refine lv_icmp_ge (tgt := 140) hx hb dX9_doesThing_109 (by decide) (fun c_ => absurd c_ (by decide)) (fun _ => ?_)
  refine lv_aload_n hx hb dX9_doesThing_112 rfl (lv_at hl 4 rfl) ?_
  refine r_get hC hw rk9 in_X9_doesThing_9 0 (wMl 0 (by decide)) wM0 13 (by decide) lk_X9_doesThing_46 (v := .ref (ad 12)) rfl dX9_doesThing_113 ?_
  refine lv_bipush (v := 12) hx hb dX9_doesThing_116 (by decide) ?_
  refine lv_iload hx hb dX9_doesThing_118 (lv_at hl 1 rfl) ?_
  refine lv_iconst (v := 1) hx hb dX9_doesThing_120 (by decide) ?_
  refine lv_isub hx hb dX9_doesThing_121 ?_
  refine r_topi (y := sI κ 2) (ix1 _) ?_
  refine lv_imul hx hb dX9_doesThing_122 ?_
  refine lv_iload hx hb dX9_doesThing_123 (lv_at hl 0 rfl) ?_
  refine lv_iadd hx hb dX9_doesThing_125 ?_
  refine lv_aload_n hx hb dX9_doesThing_126 rfl (lv_at hl 4 rfl) ?_
  refine lv_iconst (v := 4) hx hb dX9_doesThing_127 (by decide) ?_
  refine lv_iload hx hb dX9_doesThing_128 (lv_at hl 2 rfl) ?_
  refine r_ki hw (r_runV (rest := [.int ((12 * (sI κ 2)) + 0), .ref (ad 12)]) hC hw 0 (c_X9_make (ad := ad) l _ 4 (sA κ 2 (aN (t 2))) hr1) rk9 (wMl 0 (by decide)) wM0 2 gX9_doesThing_X9_make rfl rfl rfl (by decide +kernel) ⟨Nat.le_of_ble_eq_true rfl, Nat.le_of_ble_eq_true rfl⟩ rfl hl.1 rfl (Nat.le_of_ble_eq_true rfl) dX9_doesThing_130 ⟨Nat.le_of_ble_eq_true rfl, Nat.le_of_ble_eq_true rfl⟩) (fun r_5 u_6 H locs h_4 hw => ?_)
  obtain ⟨rfl, rfl⟩ := h_4
  dsimp only at hw
  refine r_iast hC hw 12 (wMl 12 (by decide)) wM12 (ix60 hm0 v12_0) dX9_doesThing_133 (fun H locs hw => ?_)
  replace hw := mS_inner hw
  rw [eK0, mkR_S (mk κ 10 3) (sI κ 2) (sA κ 2 (aN (t 2))) 0 0 1 rfl rfl] at hw
  obtain ⟨K1, eK1⟩ : ∃ z, z = (mkR (mk κ 10 3) (sI κ 2) (sA κ 2 (aN (t 2))) 1) := ⟨_, rfl⟩
  rw [← eK1] at hw
  have hr2 : vp_in (sI K1 2) 60 := by rw [eK1, mkR_made, mk_made, hx0, nI_1, nI_add]; exact vp_in_nI (by omega) (by decide)
  refine lv_iinc (v := 1) (lv' := [(6, .int 1), (5, .int ((sI κ 2) + 1)), (4, .int (sA κ 2 (aN (t 2)))), (3, .int 3), (0, .ref (ad 0)), (1, .int 32)]) hx hb dX9_doesThing_134 hl (k := 0) rfl (by first | rfl | decide) (by decide) rfl (fun ls hl => ?_)
  refine lv_goto (tgt := 106) hx hb dX9_doesThing_137 (by decide) ?_
  refine lv_iload hx hb dX9_doesThing_106 (lv_at hl 0 rfl) ?_
  refine lv_iload_n hx hb dX9_doesThing_108 rfl (lv_at hl 3 rfl) ?_
  refine lv_icmp_ge (tgt := 140) hx hb dX9_doesThing_109 (by decide) (fun c_ => absurd c_ (by decide)) (fun _ => ?_)
  refine lv_aload_n hx hb dX9_doesThing_112 rfl (lv_at hl 4 rfl) ?_
  refine r_get hC hw rk9 in_X9_doesThing_9 0 (wMl 0 (by decide)) wM0 13 (by decide) lk_X9_doesThing_46 (v := .ref (ad 12)) rfl dX9_doesThing_113 ?_
  refine lv_bipush (v := 12) hx hb dX9_doesThing_116 (by decide) ?_
  refine lv_iload hx hb dX9_doesThing_118 (lv_at hl 1 rfl) ?_
  refine lv_iconst (v := 1) hx hb dX9_doesThing_120 (by decide) ?_
  refine lv_isub hx hb dX9_doesThing_121 ?_
  refine r_topi (y := sI κ 2) (ix1 _) ?_
  refine lv_imul hx hb dX9_doesThing_122 ?_
  refine lv_iload hx hb dX9_doesThing_123 (lv_at hl 0 rfl) ?_
  refine lv_iadd hx hb dX9_doesThing_125 ?_
  refine lv_aload_n hx hb dX9_doesThing_126 rfl (lv_at hl 4 rfl) ?_
  refine lv_iconst (v := 4) hx hb dX9_doesThing_127 (by decide) ?_
  refine lv_iload hx hb dX9_doesThing_128 (lv_at hl 2 rfl) ?_
  refine r_ki hw (r_runV (rest := [.int ((12 * (sI κ 2)) + 1), .ref (ad 12)]) hC hw 0 (c_X9_make (ad := ad) l _ 4 (sA κ 2 (aN (t 2))) hr2) rk9 (wMl 0 (by decide)) wM0 2 gX9_doesThing_X9_make rfl rfl rfl (by decide +kernel) ⟨Nat.le_of_ble_eq_true rfl, Nat.le_of_ble_eq_true rfl⟩ rfl hl.1 rfl (Nat.le_of_ble_eq_true rfl) dX9_doesThing_130 ⟨Nat.le_of_ble_eq_true rfl, Nat.le_of_ble_eq_true rfl⟩) (fun r_8 u_9 H locs h_7 hw => ?_)
  obtain ⟨rfl, rfl⟩ := h_7
  dsimp only at hw
  refine r_iast hC hw 12 (wMl 12 (by decide)) wM12 (ix60 hm0 v12_1) dX9_doesThing_133 (fun H locs hw => ?_)
  replace hw := mS_inner hw
  rw [eK1, mkR_S (mk κ 10 3) (sI κ 2) (sA κ 2 (aN (t 2))) 1 1 2 rfl rfl] at hw
  obtain ⟨K2, eK2⟩ : ∃ z, z = (mkR (mk κ 10 3) (sI κ 2) (sA κ 2 (aN (t 2))) 2) := ⟨_, rfl⟩
  rw [← eK2] at hw
  have hr3 : vp_in (sI K2 2) 60 := by rw [eK2, mkR_made, mk_made, hx0, nI_1, nI_add]; exact vp_in_nI (by omega) (by decide)
  refine lv_iinc (v := 2) (lv' := [(6, .int 2), (5, .int ((sI κ 2) + 1)), (4, .int (sA κ 2 (aN (t 2)))), (3, .int 3), (0, .ref (ad 0)), (1, .int 32)]) hx hb dX9_doesThing_134 hl (k := 0) rfl (by first | rfl | decide) (by decide) rfl (fun ls hl => ?_)
  refine lv_goto (tgt := 106) hx hb dX9_doesThing_137 (by decide) ?_
  refine lv_iload hx hb dX9_doesThing_106 (lv_at hl 0 rfl) ?_
  refine lv_iload_n hx hb dX9_doesThing_108 rfl (lv_at hl 3 rfl) ?_
  refine lv_icmp_ge (tgt := 140) hx hb dX9_doesThing_109 (by decide) (fun c_ => absurd c_ (by decide)) (fun _ => ?_)
  refine lv_aload_n hx hb dX9_doesThing_112 rfl (lv_at hl 4 rfl) ?_
  refine r_get hC hw rk9 in_X9_doesThing_9 0 (wMl 0 (by decide)) wM0 13 (by decide) lk_X9_doesThing_46 (v := .ref (ad 12)) rfl dX9_doesThing_113 ?_
  refine lv_bipush (v := 12) hx hb dX9_doesThing_116 (by decide) ?_
  refine lv_iload hx hb dX9_doesThing_118 (lv_at hl 1 rfl) ?_
  refine lv_iconst (v := 1) hx hb dX9_doesThing_120 (by decide) ?_
  refine lv_isub hx hb dX9_doesThing_121 ?_
  refine r_topi (y := sI κ 2) (ix1 _) ?_
  refine lv_imul hx hb dX9_doesThing_122 ?_
  refine lv_iload hx hb dX9_doesThing_123 (lv_at hl 0 rfl) ?_
  refine lv_iadd hx hb dX9_doesThing_125 ?_
  refine lv_aload_n hx hb dX9_doesThing_126 rfl (lv_at hl 4 rfl) ?_
  refine lv_iconst (v := 4) hx hb dX9_doesThing_127 (by decide) ?_
  refine lv_iload hx hb dX9_doesThing_128 (lv_at hl 2 rfl) ?_
  refine r_ki hw (r_runV (rest := [.int ((12 * (sI κ 2)) + 2), .ref (ad 12)]) hC hw 0 (c_X9_make (ad := ad) l _ 4 (sA κ 2 (aN (t 2))) hr3) rk9 (wMl 0 (by decide)) wM0 2 gX9_doesThing_X9_make rfl rfl rfl (by decide +kernel) ⟨Nat.le_of_ble_eq_true rfl, Nat.le_of_ble_eq_true rfl⟩ rfl hl.1 rfl (Nat.le_of_ble_eq_true rfl) dX9_doesThing_130 ⟨Nat.le_of_ble_eq_true rfl, Nat.le_of_ble_eq_true rfl⟩) (fun r_11 u_12 H locs h_10 hw => ?_)
  obtain ⟨rfl, rfl⟩ := h_10
  dsimp only at hw
  refine r_iast hC hw 12 (wMl 12 (by decide)) wM12 (ix60 hm0 v12_2) dX9_doesThing_133 (fun H locs hw => ?_)
  replace hw := mS_inner hw
  rw [eK2, mkR_S (mk κ 10 3) (sI κ 2) (sA κ 2 (aN (t 2))) 2 2 3 rfl rfl] at hw
  obtain ⟨K3, eK3⟩ : ∃ z, z = (mkR (mk κ 10 3) (sI κ 2) (sA κ 2 (aN (t 2))) 3) := ⟨_, rfl⟩
  rw [← eK3] at hw
  refine lv_iinc (v := 3) (lv' := [(6, .int 3), (5, .int ((sI κ 2) + 1)), (4, .int (sA κ 2 (aN (t 2)))), (3, .int 3), (0, .ref (ad 0)), (1, .int 32)]) hx hb dX9_doesThing_134 hl (k := 0) rfl (by first | rfl | decide) (by decide) rfl (fun ls hl => ?_)
  refine lv_goto (tgt := 106) hx hb dX9_doesThing_137 (by decide) ?_
  refine lv_iload hx hb dX9_doesThing_106 (lv_at hl 0 rfl) ?_
  refine lv_iload_n hx hb dX9_doesThing_108 rfl (lv_at hl 3 rfl) ?_
  refine lv_icmp_ge (tgt := 140) hx hb dX9_doesThing_109 (by decide) (fun _ => ?_) (fun c_ => absurd (by decide) c_)
  refine lv_aload_n hx hb dX9_doesThing_140 rfl (lv_at hl 4 rfl) ?_
  refine r_get hC hw rk9 in_X9_doesThing_9 0 (wMl 0 (by decide)) wM0 8 (by decide) lk_X9_doesThing_31 (v := .ref (ad 7)) rfl dX9_doesThing_141 ?_
  refine lv_aload_n hx hb dX9_doesThing_144 rfl (lv_at hl 4 rfl) ?_
  refine r_get hC hw rk9 in_X9_doesThing_9 0 (wMl 0 (by decide)) wM0 30 (by decide) lk_X9_doesThing_142 (v := .int (t 0)) rfl dX9_doesThing_145 ?_
  refine lv_iload hx hb dX9_doesThing_148 (lv_at hl 1 rfl) ?_
  refine r_iast hC hw 7 (wMl 7 (by decide)) wM7 (by assumption) dX9_doesThing_150 (fun H locs hw => ?_)
  replace hw := mS_refs hw
  refine lv_goto (tgt := 360) hx hb dX9_doesThing_151 (by decide) ?_
  exact r_vret hC hr hlk hw ((uA K3 3 (aN (t 0)) ((sI κ 2) + 1)), t) rfl (by rw [eK3]; exact congrArg (fun z => (z, t)) (act32 hr0 (by decide)).symm) (Nat.le_of_ble_eq_true rfl) (Nat.le_of_ble_eq_true rfl) dX9_doesThing_360

set_option maxHeartbeats 4000000 in
set_option maxRecDepth 100000 in
theorem c_X9_doesThing_32_4 (l : Launch) {D : va_G} {q : Nat → ClassId} {ad : Nat → Nat} {κ : KS} {t : Nat → Int32} (sz : Nat) (hs : okStep 32 (t 0) (t 1) (t 2)) (hW : WFm κ) (hy : why κ 32 (t 0) (t 1) (t 2) = 0) (hN : nnOp κ 32 (t 0) (t 1) (t 2)) (hc : vp_in (sI κ 6) 13) (hm : vp_in (sI κ 2) 61) (hT : ¬ sI κ 7 < 0) (hr0 : sA κ 2 (aN (t 1)) = 4) : Met l yX9_doesThing wsX9_doesThing (rmz 2 41) (va_Pc [.ref (ad 0), .int 32] (rPre D q (wM q ad κ t) sz)) (va_Qv (fun (u : KS × (Nat → Int32)) => u = (act κ (t 4) (t 5) 32 (t 0) (t 1) (t 2), t)) (fun (u : KS × (Nat → Int32)) tt => rPo D (rA (wM q ad κ t) sz) (wM q ad u.1 u.2) tt) (rA (wM q ad κ t) sz)) 0 0 (rA (wM q ad κ t) sz) := by
  have hi0 : vp_in (t 0) 8 := hs.1
  have hi1 : vp_in (t 1) 8 := hs.2.1
  have hi2 : vp_in (t 2) 8 := hs.2.2
  obtain ⟨-, q2⟩ := yE (by decide) hy
  obtain ⟨-, q3⟩ := yE (by decide) q2
  obtain ⟨-, q4⟩ := yE (by decide) q3
  obtain ⟨-, q5⟩ := yE (by decide) q4
  obtain ⟨q6, -⟩ := yE (by decide) q5
  rw [hr0] at q6
  obtain ⟨n0, hn0, hx0⟩ := mm60 (r := 4) hm q6
  have hm0 : vp_in (sI κ 2) 60 := by rw [hx0]; exact vp_in_nI (by omega) (by decide)
  refine r_start (cc := cX9_doesThing) (maxL := 7) (ret := none) (by decide) rfl (Nat.le_of_ble_eq_true rfl) ?_
  intro p e s m below meth c ls hC hr hlk hnm hsz hw hl
  have hx := hC.1
  have hb := hC.2.1
  have hl : lv_has ls 7 [(0, .ref (ad 0)), (1, .int 32)] := hl
  refine lv_iload_n hx hb dX9_doesThing_0 rfl (lv_at hl 1 rfl) ?_
  refine lv_tableIn (tgt := 73) hx hb dX9_doesThing_1 (by decide) (by decide) (by rfl) (by decide) ?_
  refine lv_aload_n hx hb dX9_doesThing_73 rfl (lv_at hl 0 rfl) ?_
  refine r_get hC hw rk9 in_X9_doesThing_9 0 (wMl 0 (by decide)) wM0 4 (by decide) lk_X9_doesThing_16 (v := .ref (ad 3)) rfl dX9_doesThing_74 ?_
  refine lv_aload_n hx hb dX9_doesThing_77 rfl (lv_at hl 0 rfl) ?_
  refine r_get hC hw rk9 in_X9_doesThing_9 0 (wMl 0 (by decide)) wM0 31 (by decide) lk_X9_doesThing_126 (v := .int (t 1)) rfl dX9_doesThing_78 ?_
  refine r_iald hC hw 3 (wMl 3 (by decide)) wM3 (by assumption) dX9_doesThing_81 ?_
  refine r_topi (y := 4) hr0 ?_
  refine lv_istore_n (lv' := [(3, .int 4), (0, .ref (ad 0)), (1, .int 32)]) hx hb dX9_doesThing_82 rfl hl (by decide) rfl (fun ls hl => ?_)
  refine lv_aload_n hx hb dX9_doesThing_83 rfl (lv_at hl 1 rfl) ?_
  refine r_get hC hw rk9 in_X9_doesThing_9 0 (wMl 0 (by decide)) wM0 4 (by decide) lk_X9_doesThing_16 (v := .ref (ad 3)) rfl dX9_doesThing_84 ?_
  refine lv_aload_n hx hb dX9_doesThing_87 rfl (lv_at hl 1 rfl) ?_
  refine r_get hC hw rk9 in_X9_doesThing_9 0 (wMl 0 (by decide)) wM0 32 (by decide) lk_X9_doesThing_123 (v := .int (t 2)) rfl dX9_doesThing_88 ?_
  refine r_iald hC hw 3 (wMl 3 (by decide)) wM3 (by assumption) dX9_doesThing_91 ?_
  refine lv_istore (lv' := [(4, .int (sA κ 2 (aN (t 2)))), (3, .int 4), (0, .ref (ad 0)), (1, .int 32)]) hx hb dX9_doesThing_92 hl (by decide) rfl (fun ls hl => ?_)
  refine lv_aload_n hx hb dX9_doesThing_94 rfl (lv_at hl 2 rfl) ?_
  refine lv_bipush (v := 10) hx hb dX9_doesThing_95 (by decide) ?_
  refine lv_iload_n hx hb dX9_doesThing_97 rfl (lv_at hl 1 rfl) ?_
  refine r_ki hw (r_runV (rest := []) hC hw 0 (c_X9_make (ad := ad) l _ 10 4 hm0) rk9 (wMl 0 (by decide)) wM0 2 gX9_doesThing_X9_make rfl rfl rfl (by decide +kernel) ⟨Nat.le_of_ble_eq_true rfl, Nat.le_of_ble_eq_true rfl⟩ rfl hl.1 rfl (Nat.le_of_ble_eq_true rfl) dX9_doesThing_98 ⟨Nat.le_of_ble_eq_true rfl, Nat.le_of_ble_eq_true rfl⟩) (fun r_2 u_3 H locs h_1 hw => ?_)
  obtain ⟨rfl, rfl⟩ := h_1
  dsimp only at hw
  obtain ⟨K0, eK0⟩ : ∃ z, z = (mkR (mk κ 10 4) (sI κ 2) (sA κ 2 (aN (t 2))) 0) := ⟨_, rfl⟩
  replace hw : rX D q (rA (wM q ad κ t) sz) s.heap s (wM q ad K0 t) H locs := by rw [eK0]; exact hw
  have hr1 : vp_in (sI K0 2) 60 := by rw [eK0, mkR_made, mk_made, hx0, nI_1, nI_add]; exact vp_in_nI (by omega) (by decide)
  refine lv_istore (lv' := [(5, .int ((sI κ 2) + 1)), (4, .int (sA κ 2 (aN (t 2)))), (3, .int 4), (0, .ref (ad 0)), (1, .int 32)]) hx hb dX9_doesThing_101 hl (by decide) rfl (fun ls hl => ?_)
  refine lv_iconst (v := 0) hx hb dX9_doesThing_103 (by decide) ?_
  refine lv_istore (lv' := [(6, .int 0), (5, .int ((sI κ 2) + 1)), (4, .int (sA κ 2 (aN (t 2)))), (3, .int 4), (0, .ref (ad 0)), (1, .int 32)]) hx hb dX9_doesThing_104 hl (by decide) rfl (fun ls hl => ?_)
  refine lv_iload hx hb dX9_doesThing_106 (lv_at hl 0 rfl) ?_
  refine lv_iload_n hx hb dX9_doesThing_108 rfl (lv_at hl 3 rfl) ?_
  refine lv_icmp_ge (tgt := 140) hx hb dX9_doesThing_109 (by decide) (fun c_ => absurd c_ (by decide)) (fun _ => ?_)
  refine lv_aload_n hx hb dX9_doesThing_112 rfl (lv_at hl 4 rfl) ?_
  refine r_get hC hw rk9 in_X9_doesThing_9 0 (wMl 0 (by decide)) wM0 13 (by decide) lk_X9_doesThing_46 (v := .ref (ad 12)) rfl dX9_doesThing_113 ?_
  refine lv_bipush (v := 12) hx hb dX9_doesThing_116 (by decide) ?_
  refine lv_iload hx hb dX9_doesThing_118 (lv_at hl 1 rfl) ?_
  refine lv_iconst (v := 1) hx hb dX9_doesThing_120 (by decide) ?_
  refine lv_isub hx hb dX9_doesThing_121 ?_
  refine r_topi (y := sI κ 2) (ix1 _) ?_
  refine lv_imul hx hb dX9_doesThing_122 ?_
  refine lv_iload hx hb dX9_doesThing_123 (lv_at hl 0 rfl) ?_
  refine lv_iadd hx hb dX9_doesThing_125 ?_
  refine lv_aload_n hx hb dX9_doesThing_126 rfl (lv_at hl 4 rfl) ?_
  refine lv_iconst (v := 4) hx hb dX9_doesThing_127 (by decide) ?_
  refine lv_iload hx hb dX9_doesThing_128 (lv_at hl 2 rfl) ?_
  refine r_ki hw (r_runV (rest := [.int ((12 * (sI κ 2)) + 0), .ref (ad 12)]) hC hw 0 (c_X9_make (ad := ad) l _ 4 (sA κ 2 (aN (t 2))) hr1) rk9 (wMl 0 (by decide)) wM0 2 gX9_doesThing_X9_make rfl rfl rfl (by decide +kernel) ⟨Nat.le_of_ble_eq_true rfl, Nat.le_of_ble_eq_true rfl⟩ rfl hl.1 rfl (Nat.le_of_ble_eq_true rfl) dX9_doesThing_130 ⟨Nat.le_of_ble_eq_true rfl, Nat.le_of_ble_eq_true rfl⟩) (fun r_5 u_6 H locs h_4 hw => ?_)
  obtain ⟨rfl, rfl⟩ := h_4
  dsimp only at hw
  refine r_iast hC hw 12 (wMl 12 (by decide)) wM12 (ix60 hm0 v12_0) dX9_doesThing_133 (fun H locs hw => ?_)
  replace hw := mS_inner hw
  rw [eK0, mkR_S (mk κ 10 4) (sI κ 2) (sA κ 2 (aN (t 2))) 0 0 1 rfl rfl] at hw
  obtain ⟨K1, eK1⟩ : ∃ z, z = (mkR (mk κ 10 4) (sI κ 2) (sA κ 2 (aN (t 2))) 1) := ⟨_, rfl⟩
  rw [← eK1] at hw
  have hr2 : vp_in (sI K1 2) 60 := by rw [eK1, mkR_made, mk_made, hx0, nI_1, nI_add]; exact vp_in_nI (by omega) (by decide)
  refine lv_iinc (v := 1) (lv' := [(6, .int 1), (5, .int ((sI κ 2) + 1)), (4, .int (sA κ 2 (aN (t 2)))), (3, .int 4), (0, .ref (ad 0)), (1, .int 32)]) hx hb dX9_doesThing_134 hl (k := 0) rfl (by first | rfl | decide) (by decide) rfl (fun ls hl => ?_)
  refine lv_goto (tgt := 106) hx hb dX9_doesThing_137 (by decide) ?_
  refine lv_iload hx hb dX9_doesThing_106 (lv_at hl 0 rfl) ?_
  refine lv_iload_n hx hb dX9_doesThing_108 rfl (lv_at hl 3 rfl) ?_
  refine lv_icmp_ge (tgt := 140) hx hb dX9_doesThing_109 (by decide) (fun c_ => absurd c_ (by decide)) (fun _ => ?_)
  refine lv_aload_n hx hb dX9_doesThing_112 rfl (lv_at hl 4 rfl) ?_
  refine r_get hC hw rk9 in_X9_doesThing_9 0 (wMl 0 (by decide)) wM0 13 (by decide) lk_X9_doesThing_46 (v := .ref (ad 12)) rfl dX9_doesThing_113 ?_
  refine lv_bipush (v := 12) hx hb dX9_doesThing_116 (by decide) ?_
  refine lv_iload hx hb dX9_doesThing_118 (lv_at hl 1 rfl) ?_
  refine lv_iconst (v := 1) hx hb dX9_doesThing_120 (by decide) ?_
  refine lv_isub hx hb dX9_doesThing_121 ?_
  refine r_topi (y := sI κ 2) (ix1 _) ?_
  refine lv_imul hx hb dX9_doesThing_122 ?_
  refine lv_iload hx hb dX9_doesThing_123 (lv_at hl 0 rfl) ?_
  refine lv_iadd hx hb dX9_doesThing_125 ?_
  refine lv_aload_n hx hb dX9_doesThing_126 rfl (lv_at hl 4 rfl) ?_
  refine lv_iconst (v := 4) hx hb dX9_doesThing_127 (by decide) ?_
  refine lv_iload hx hb dX9_doesThing_128 (lv_at hl 2 rfl) ?_
  refine r_ki hw (r_runV (rest := [.int ((12 * (sI κ 2)) + 1), .ref (ad 12)]) hC hw 0 (c_X9_make (ad := ad) l _ 4 (sA κ 2 (aN (t 2))) hr2) rk9 (wMl 0 (by decide)) wM0 2 gX9_doesThing_X9_make rfl rfl rfl (by decide +kernel) ⟨Nat.le_of_ble_eq_true rfl, Nat.le_of_ble_eq_true rfl⟩ rfl hl.1 rfl (Nat.le_of_ble_eq_true rfl) dX9_doesThing_130 ⟨Nat.le_of_ble_eq_true rfl, Nat.le_of_ble_eq_true rfl⟩) (fun r_8 u_9 H locs h_7 hw => ?_)
  obtain ⟨rfl, rfl⟩ := h_7
  dsimp only at hw
  refine r_iast hC hw 12 (wMl 12 (by decide)) wM12 (ix60 hm0 v12_1) dX9_doesThing_133 (fun H locs hw => ?_)
  replace hw := mS_inner hw
  rw [eK1, mkR_S (mk κ 10 4) (sI κ 2) (sA κ 2 (aN (t 2))) 1 1 2 rfl rfl] at hw
  obtain ⟨K2, eK2⟩ : ∃ z, z = (mkR (mk κ 10 4) (sI κ 2) (sA κ 2 (aN (t 2))) 2) := ⟨_, rfl⟩
  rw [← eK2] at hw
  have hr3 : vp_in (sI K2 2) 60 := by rw [eK2, mkR_made, mk_made, hx0, nI_1, nI_add]; exact vp_in_nI (by omega) (by decide)
  refine lv_iinc (v := 2) (lv' := [(6, .int 2), (5, .int ((sI κ 2) + 1)), (4, .int (sA κ 2 (aN (t 2)))), (3, .int 4), (0, .ref (ad 0)), (1, .int 32)]) hx hb dX9_doesThing_134 hl (k := 0) rfl (by first | rfl | decide) (by decide) rfl (fun ls hl => ?_)
  refine lv_goto (tgt := 106) hx hb dX9_doesThing_137 (by decide) ?_
  refine lv_iload hx hb dX9_doesThing_106 (lv_at hl 0 rfl) ?_
  refine lv_iload_n hx hb dX9_doesThing_108 rfl (lv_at hl 3 rfl) ?_
  refine lv_icmp_ge (tgt := 140) hx hb dX9_doesThing_109 (by decide) (fun c_ => absurd c_ (by decide)) (fun _ => ?_)
  refine lv_aload_n hx hb dX9_doesThing_112 rfl (lv_at hl 4 rfl) ?_
  refine r_get hC hw rk9 in_X9_doesThing_9 0 (wMl 0 (by decide)) wM0 13 (by decide) lk_X9_doesThing_46 (v := .ref (ad 12)) rfl dX9_doesThing_113 ?_
  refine lv_bipush (v := 12) hx hb dX9_doesThing_116 (by decide) ?_
  refine lv_iload hx hb dX9_doesThing_118 (lv_at hl 1 rfl) ?_
  refine lv_iconst (v := 1) hx hb dX9_doesThing_120 (by decide) ?_
  refine lv_isub hx hb dX9_doesThing_121 ?_
  refine r_topi (y := sI κ 2) (ix1 _) ?_
  refine lv_imul hx hb dX9_doesThing_122 ?_
  refine lv_iload hx hb dX9_doesThing_123 (lv_at hl 0 rfl) ?_
  refine lv_iadd hx hb dX9_doesThing_125 ?_
  refine lv_aload_n hx hb dX9_doesThing_126 rfl (lv_at hl 4 rfl) ?_
  refine lv_iconst (v := 4) hx hb dX9_doesThing_127 (by decide) ?_
  refine lv_iload hx hb dX9_doesThing_128 (lv_at hl 2 rfl) ?_
  refine r_ki hw (r_runV (rest := [.int ((12 * (sI κ 2)) + 2), .ref (ad 12)]) hC hw 0 (c_X9_make (ad := ad) l _ 4 (sA κ 2 (aN (t 2))) hr3) rk9 (wMl 0 (by decide)) wM0 2 gX9_doesThing_X9_make rfl rfl rfl (by decide +kernel) ⟨Nat.le_of_ble_eq_true rfl, Nat.le_of_ble_eq_true rfl⟩ rfl hl.1 rfl (Nat.le_of_ble_eq_true rfl) dX9_doesThing_130 ⟨Nat.le_of_ble_eq_true rfl, Nat.le_of_ble_eq_true rfl⟩) (fun r_11 u_12 H locs h_10 hw => ?_)
  obtain ⟨rfl, rfl⟩ := h_10
  dsimp only at hw
  refine r_iast hC hw 12 (wMl 12 (by decide)) wM12 (ix60 hm0 v12_2) dX9_doesThing_133 (fun H locs hw => ?_)
  replace hw := mS_inner hw
  rw [eK2, mkR_S (mk κ 10 4) (sI κ 2) (sA κ 2 (aN (t 2))) 2 2 3 rfl rfl] at hw
  obtain ⟨K3, eK3⟩ : ∃ z, z = (mkR (mk κ 10 4) (sI κ 2) (sA κ 2 (aN (t 2))) 3) := ⟨_, rfl⟩
  rw [← eK3] at hw
  have hr4 : vp_in (sI K3 2) 60 := by rw [eK3, mkR_made, mk_made, hx0, nI_1, nI_add]; exact vp_in_nI (by omega) (by decide)
  refine lv_iinc (v := 3) (lv' := [(6, .int 3), (5, .int ((sI κ 2) + 1)), (4, .int (sA κ 2 (aN (t 2)))), (3, .int 4), (0, .ref (ad 0)), (1, .int 32)]) hx hb dX9_doesThing_134 hl (k := 0) rfl (by first | rfl | decide) (by decide) rfl (fun ls hl => ?_)
  refine lv_goto (tgt := 106) hx hb dX9_doesThing_137 (by decide) ?_
  refine lv_iload hx hb dX9_doesThing_106 (lv_at hl 0 rfl) ?_
  refine lv_iload_n hx hb dX9_doesThing_108 rfl (lv_at hl 3 rfl) ?_
  refine lv_icmp_ge (tgt := 140) hx hb dX9_doesThing_109 (by decide) (fun c_ => absurd c_ (by decide)) (fun _ => ?_)
  refine lv_aload_n hx hb dX9_doesThing_112 rfl (lv_at hl 4 rfl) ?_
  refine r_get hC hw rk9 in_X9_doesThing_9 0 (wMl 0 (by decide)) wM0 13 (by decide) lk_X9_doesThing_46 (v := .ref (ad 12)) rfl dX9_doesThing_113 ?_
  refine lv_bipush (v := 12) hx hb dX9_doesThing_116 (by decide) ?_
  refine lv_iload hx hb dX9_doesThing_118 (lv_at hl 1 rfl) ?_
  refine lv_iconst (v := 1) hx hb dX9_doesThing_120 (by decide) ?_
  refine lv_isub hx hb dX9_doesThing_121 ?_
  refine r_topi (y := sI κ 2) (ix1 _) ?_
  refine lv_imul hx hb dX9_doesThing_122 ?_
  refine lv_iload hx hb dX9_doesThing_123 (lv_at hl 0 rfl) ?_
  refine lv_iadd hx hb dX9_doesThing_125 ?_
  refine lv_aload_n hx hb dX9_doesThing_126 rfl (lv_at hl 4 rfl) ?_
  refine lv_iconst (v := 4) hx hb dX9_doesThing_127 (by decide) ?_
  refine lv_iload hx hb dX9_doesThing_128 (lv_at hl 2 rfl) ?_
  refine r_ki hw (r_runV (rest := [.int ((12 * (sI κ 2)) + 3), .ref (ad 12)]) hC hw 0 (c_X9_make (ad := ad) l _ 4 (sA κ 2 (aN (t 2))) hr4) rk9 (wMl 0 (by decide)) wM0 2 gX9_doesThing_X9_make rfl rfl rfl (by decide +kernel) ⟨Nat.le_of_ble_eq_true rfl, Nat.le_of_ble_eq_true rfl⟩ rfl hl.1 rfl (Nat.le_of_ble_eq_true rfl) dX9_doesThing_130 ⟨Nat.le_of_ble_eq_true rfl, Nat.le_of_ble_eq_true rfl⟩) (fun r_14 u_15 H locs h_13 hw => ?_)
  obtain ⟨rfl, rfl⟩ := h_13
  dsimp only at hw
  refine r_iast hC hw 12 (wMl 12 (by decide)) wM12 (ix60 hm0 v12_3) dX9_doesThing_133 (fun H locs hw => ?_)
  replace hw := mS_inner hw
  rw [eK3, mkR_S (mk κ 10 4) (sI κ 2) (sA κ 2 (aN (t 2))) 3 3 4 rfl rfl] at hw
  obtain ⟨K4, eK4⟩ : ∃ z, z = (mkR (mk κ 10 4) (sI κ 2) (sA κ 2 (aN (t 2))) 4) := ⟨_, rfl⟩
  rw [← eK4] at hw
  refine lv_iinc (v := 4) (lv' := [(6, .int 4), (5, .int ((sI κ 2) + 1)), (4, .int (sA κ 2 (aN (t 2)))), (3, .int 4), (0, .ref (ad 0)), (1, .int 32)]) hx hb dX9_doesThing_134 hl (k := 0) rfl (by first | rfl | decide) (by decide) rfl (fun ls hl => ?_)
  refine lv_goto (tgt := 106) hx hb dX9_doesThing_137 (by decide) ?_
  refine lv_iload hx hb dX9_doesThing_106 (lv_at hl 0 rfl) ?_
  refine lv_iload_n hx hb dX9_doesThing_108 rfl (lv_at hl 3 rfl) ?_
  refine lv_icmp_ge (tgt := 140) hx hb dX9_doesThing_109 (by decide) (fun _ => ?_) (fun c_ => absurd (by decide) c_)
  refine lv_aload_n hx hb dX9_doesThing_140 rfl (lv_at hl 4 rfl) ?_
  refine r_get hC hw rk9 in_X9_doesThing_9 0 (wMl 0 (by decide)) wM0 8 (by decide) lk_X9_doesThing_31 (v := .ref (ad 7)) rfl dX9_doesThing_141 ?_
  refine lv_aload_n hx hb dX9_doesThing_144 rfl (lv_at hl 4 rfl) ?_
  refine r_get hC hw rk9 in_X9_doesThing_9 0 (wMl 0 (by decide)) wM0 30 (by decide) lk_X9_doesThing_142 (v := .int (t 0)) rfl dX9_doesThing_145 ?_
  refine lv_iload hx hb dX9_doesThing_148 (lv_at hl 1 rfl) ?_
  refine r_iast hC hw 7 (wMl 7 (by decide)) wM7 (by assumption) dX9_doesThing_150 (fun H locs hw => ?_)
  replace hw := mS_refs hw
  refine lv_goto (tgt := 360) hx hb dX9_doesThing_151 (by decide) ?_
  exact r_vret hC hr hlk hw ((uA K4 3 (aN (t 0)) ((sI κ 2) + 1)), t) rfl (by rw [eK4]; exact congrArg (fun z => (z, t)) (act32 hr0 (by decide)).symm) (Nat.le_of_ble_eq_true rfl) (Nat.le_of_ble_eq_true rfl) dX9_doesThing_360

set_option maxHeartbeats 4000000 in
set_option maxRecDepth 100000 in
theorem c_X9_doesThing_32_5 (l : Launch) {D : va_G} {q : Nat → ClassId} {ad : Nat → Nat} {κ : KS} {t : Nat → Int32} (sz : Nat) (hs : okStep 32 (t 0) (t 1) (t 2)) (hW : WFm κ) (hy : why κ 32 (t 0) (t 1) (t 2) = 0) (hN : nnOp κ 32 (t 0) (t 1) (t 2)) (hc : vp_in (sI κ 6) 13) (hm : vp_in (sI κ 2) 61) (hT : ¬ sI κ 7 < 0) (hr0 : sA κ 2 (aN (t 1)) = 5) : Met l yX9_doesThing wsX9_doesThing (rmz 2 41) (va_Pc [.ref (ad 0), .int 32] (rPre D q (wM q ad κ t) sz)) (va_Qv (fun (u : KS × (Nat → Int32)) => u = (act κ (t 4) (t 5) 32 (t 0) (t 1) (t 2), t)) (fun (u : KS × (Nat → Int32)) tt => rPo D (rA (wM q ad κ t) sz) (wM q ad u.1 u.2) tt) (rA (wM q ad κ t) sz)) 0 0 (rA (wM q ad κ t) sz) := by
  have hi0 : vp_in (t 0) 8 := hs.1
  have hi1 : vp_in (t 1) 8 := hs.2.1
  have hi2 : vp_in (t 2) 8 := hs.2.2
  obtain ⟨-, q2⟩ := yE (by decide) hy
  obtain ⟨-, q3⟩ := yE (by decide) q2
  obtain ⟨-, q4⟩ := yE (by decide) q3
  obtain ⟨-, q5⟩ := yE (by decide) q4
  obtain ⟨q6, -⟩ := yE (by decide) q5
  rw [hr0] at q6
  obtain ⟨n0, hn0, hx0⟩ := mm60 (r := 5) hm q6
  have hm0 : vp_in (sI κ 2) 60 := by rw [hx0]; exact vp_in_nI (by omega) (by decide)
  refine r_start (cc := cX9_doesThing) (maxL := 7) (ret := none) (by decide) rfl (Nat.le_of_ble_eq_true rfl) ?_
  intro p e s m below meth c ls hC hr hlk hnm hsz hw hl
  have hx := hC.1
  have hb := hC.2.1
  have hl : lv_has ls 7 [(0, .ref (ad 0)), (1, .int 32)] := hl
  refine lv_iload_n hx hb dX9_doesThing_0 rfl (lv_at hl 1 rfl) ?_
  refine lv_tableIn (tgt := 73) hx hb dX9_doesThing_1 (by decide) (by decide) (by rfl) (by decide) ?_
  refine lv_aload_n hx hb dX9_doesThing_73 rfl (lv_at hl 0 rfl) ?_
  refine r_get hC hw rk9 in_X9_doesThing_9 0 (wMl 0 (by decide)) wM0 4 (by decide) lk_X9_doesThing_16 (v := .ref (ad 3)) rfl dX9_doesThing_74 ?_
  refine lv_aload_n hx hb dX9_doesThing_77 rfl (lv_at hl 0 rfl) ?_
  refine r_get hC hw rk9 in_X9_doesThing_9 0 (wMl 0 (by decide)) wM0 31 (by decide) lk_X9_doesThing_126 (v := .int (t 1)) rfl dX9_doesThing_78 ?_
  refine r_iald hC hw 3 (wMl 3 (by decide)) wM3 (by assumption) dX9_doesThing_81 ?_
  refine r_topi (y := 5) hr0 ?_
  refine lv_istore_n (lv' := [(3, .int 5), (0, .ref (ad 0)), (1, .int 32)]) hx hb dX9_doesThing_82 rfl hl (by decide) rfl (fun ls hl => ?_)
  refine lv_aload_n hx hb dX9_doesThing_83 rfl (lv_at hl 1 rfl) ?_
  refine r_get hC hw rk9 in_X9_doesThing_9 0 (wMl 0 (by decide)) wM0 4 (by decide) lk_X9_doesThing_16 (v := .ref (ad 3)) rfl dX9_doesThing_84 ?_
  refine lv_aload_n hx hb dX9_doesThing_87 rfl (lv_at hl 1 rfl) ?_
  refine r_get hC hw rk9 in_X9_doesThing_9 0 (wMl 0 (by decide)) wM0 32 (by decide) lk_X9_doesThing_123 (v := .int (t 2)) rfl dX9_doesThing_88 ?_
  refine r_iald hC hw 3 (wMl 3 (by decide)) wM3 (by assumption) dX9_doesThing_91 ?_
  refine lv_istore (lv' := [(4, .int (sA κ 2 (aN (t 2)))), (3, .int 5), (0, .ref (ad 0)), (1, .int 32)]) hx hb dX9_doesThing_92 hl (by decide) rfl (fun ls hl => ?_)
  refine lv_aload_n hx hb dX9_doesThing_94 rfl (lv_at hl 2 rfl) ?_
  refine lv_bipush (v := 10) hx hb dX9_doesThing_95 (by decide) ?_
  refine lv_iload_n hx hb dX9_doesThing_97 rfl (lv_at hl 1 rfl) ?_
  refine r_ki hw (r_runV (rest := []) hC hw 0 (c_X9_make (ad := ad) l _ 10 5 hm0) rk9 (wMl 0 (by decide)) wM0 2 gX9_doesThing_X9_make rfl rfl rfl (by decide +kernel) ⟨Nat.le_of_ble_eq_true rfl, Nat.le_of_ble_eq_true rfl⟩ rfl hl.1 rfl (Nat.le_of_ble_eq_true rfl) dX9_doesThing_98 ⟨Nat.le_of_ble_eq_true rfl, Nat.le_of_ble_eq_true rfl⟩) (fun r_2 u_3 H locs h_1 hw => ?_)
  obtain ⟨rfl, rfl⟩ := h_1
  dsimp only at hw
  obtain ⟨K0, eK0⟩ : ∃ z, z = (mkR (mk κ 10 5) (sI κ 2) (sA κ 2 (aN (t 2))) 0) := ⟨_, rfl⟩
  replace hw : rX D q (rA (wM q ad κ t) sz) s.heap s (wM q ad K0 t) H locs := by rw [eK0]; exact hw
  have hr1 : vp_in (sI K0 2) 60 := by rw [eK0, mkR_made, mk_made, hx0, nI_1, nI_add]; exact vp_in_nI (by omega) (by decide)
  refine lv_istore (lv' := [(5, .int ((sI κ 2) + 1)), (4, .int (sA κ 2 (aN (t 2)))), (3, .int 5), (0, .ref (ad 0)), (1, .int 32)]) hx hb dX9_doesThing_101 hl (by decide) rfl (fun ls hl => ?_)
  refine lv_iconst (v := 0) hx hb dX9_doesThing_103 (by decide) ?_
  refine lv_istore (lv' := [(6, .int 0), (5, .int ((sI κ 2) + 1)), (4, .int (sA κ 2 (aN (t 2)))), (3, .int 5), (0, .ref (ad 0)), (1, .int 32)]) hx hb dX9_doesThing_104 hl (by decide) rfl (fun ls hl => ?_)
  refine lv_iload hx hb dX9_doesThing_106 (lv_at hl 0 rfl) ?_
  refine lv_iload_n hx hb dX9_doesThing_108 rfl (lv_at hl 3 rfl) ?_
  refine lv_icmp_ge (tgt := 140) hx hb dX9_doesThing_109 (by decide) (fun c_ => absurd c_ (by decide)) (fun _ => ?_)
  refine lv_aload_n hx hb dX9_doesThing_112 rfl (lv_at hl 4 rfl) ?_
  refine r_get hC hw rk9 in_X9_doesThing_9 0 (wMl 0 (by decide)) wM0 13 (by decide) lk_X9_doesThing_46 (v := .ref (ad 12)) rfl dX9_doesThing_113 ?_
  refine lv_bipush (v := 12) hx hb dX9_doesThing_116 (by decide) ?_
  refine lv_iload hx hb dX9_doesThing_118 (lv_at hl 1 rfl) ?_
  refine lv_iconst (v := 1) hx hb dX9_doesThing_120 (by decide) ?_
  refine lv_isub hx hb dX9_doesThing_121 ?_
  refine r_topi (y := sI κ 2) (ix1 _) ?_
  refine lv_imul hx hb dX9_doesThing_122 ?_
  refine lv_iload hx hb dX9_doesThing_123 (lv_at hl 0 rfl) ?_
  refine lv_iadd hx hb dX9_doesThing_125 ?_
  refine lv_aload_n hx hb dX9_doesThing_126 rfl (lv_at hl 4 rfl) ?_
  refine lv_iconst (v := 4) hx hb dX9_doesThing_127 (by decide) ?_
  refine lv_iload hx hb dX9_doesThing_128 (lv_at hl 2 rfl) ?_
  refine r_ki hw (r_runV (rest := [.int ((12 * (sI κ 2)) + 0), .ref (ad 12)]) hC hw 0 (c_X9_make (ad := ad) l _ 4 (sA κ 2 (aN (t 2))) hr1) rk9 (wMl 0 (by decide)) wM0 2 gX9_doesThing_X9_make rfl rfl rfl (by decide +kernel) ⟨Nat.le_of_ble_eq_true rfl, Nat.le_of_ble_eq_true rfl⟩ rfl hl.1 rfl (Nat.le_of_ble_eq_true rfl) dX9_doesThing_130 ⟨Nat.le_of_ble_eq_true rfl, Nat.le_of_ble_eq_true rfl⟩) (fun r_5 u_6 H locs h_4 hw => ?_)
  obtain ⟨rfl, rfl⟩ := h_4
  dsimp only at hw
  refine r_iast hC hw 12 (wMl 12 (by decide)) wM12 (ix60 hm0 v12_0) dX9_doesThing_133 (fun H locs hw => ?_)
  replace hw := mS_inner hw
  rw [eK0, mkR_S (mk κ 10 5) (sI κ 2) (sA κ 2 (aN (t 2))) 0 0 1 rfl rfl] at hw
  obtain ⟨K1, eK1⟩ : ∃ z, z = (mkR (mk κ 10 5) (sI κ 2) (sA κ 2 (aN (t 2))) 1) := ⟨_, rfl⟩
  rw [← eK1] at hw
  have hr2 : vp_in (sI K1 2) 60 := by rw [eK1, mkR_made, mk_made, hx0, nI_1, nI_add]; exact vp_in_nI (by omega) (by decide)
  refine lv_iinc (v := 1) (lv' := [(6, .int 1), (5, .int ((sI κ 2) + 1)), (4, .int (sA κ 2 (aN (t 2)))), (3, .int 5), (0, .ref (ad 0)), (1, .int 32)]) hx hb dX9_doesThing_134 hl (k := 0) rfl (by first | rfl | decide) (by decide) rfl (fun ls hl => ?_)
  refine lv_goto (tgt := 106) hx hb dX9_doesThing_137 (by decide) ?_
  refine lv_iload hx hb dX9_doesThing_106 (lv_at hl 0 rfl) ?_
  refine lv_iload_n hx hb dX9_doesThing_108 rfl (lv_at hl 3 rfl) ?_
  refine lv_icmp_ge (tgt := 140) hx hb dX9_doesThing_109 (by decide) (fun c_ => absurd c_ (by decide)) (fun _ => ?_)
  refine lv_aload_n hx hb dX9_doesThing_112 rfl (lv_at hl 4 rfl) ?_
  refine r_get hC hw rk9 in_X9_doesThing_9 0 (wMl 0 (by decide)) wM0 13 (by decide) lk_X9_doesThing_46 (v := .ref (ad 12)) rfl dX9_doesThing_113 ?_
  refine lv_bipush (v := 12) hx hb dX9_doesThing_116 (by decide) ?_
  refine lv_iload hx hb dX9_doesThing_118 (lv_at hl 1 rfl) ?_
  refine lv_iconst (v := 1) hx hb dX9_doesThing_120 (by decide) ?_
  refine lv_isub hx hb dX9_doesThing_121 ?_
  refine r_topi (y := sI κ 2) (ix1 _) ?_
  refine lv_imul hx hb dX9_doesThing_122 ?_
  refine lv_iload hx hb dX9_doesThing_123 (lv_at hl 0 rfl) ?_
  refine lv_iadd hx hb dX9_doesThing_125 ?_
  refine lv_aload_n hx hb dX9_doesThing_126 rfl (lv_at hl 4 rfl) ?_
  refine lv_iconst (v := 4) hx hb dX9_doesThing_127 (by decide) ?_
  refine lv_iload hx hb dX9_doesThing_128 (lv_at hl 2 rfl) ?_
  refine r_ki hw (r_runV (rest := [.int ((12 * (sI κ 2)) + 1), .ref (ad 12)]) hC hw 0 (c_X9_make (ad := ad) l _ 4 (sA κ 2 (aN (t 2))) hr2) rk9 (wMl 0 (by decide)) wM0 2 gX9_doesThing_X9_make rfl rfl rfl (by decide +kernel) ⟨Nat.le_of_ble_eq_true rfl, Nat.le_of_ble_eq_true rfl⟩ rfl hl.1 rfl (Nat.le_of_ble_eq_true rfl) dX9_doesThing_130 ⟨Nat.le_of_ble_eq_true rfl, Nat.le_of_ble_eq_true rfl⟩) (fun r_8 u_9 H locs h_7 hw => ?_)
  obtain ⟨rfl, rfl⟩ := h_7
  dsimp only at hw
  refine r_iast hC hw 12 (wMl 12 (by decide)) wM12 (ix60 hm0 v12_1) dX9_doesThing_133 (fun H locs hw => ?_)
  replace hw := mS_inner hw
  rw [eK1, mkR_S (mk κ 10 5) (sI κ 2) (sA κ 2 (aN (t 2))) 1 1 2 rfl rfl] at hw
  obtain ⟨K2, eK2⟩ : ∃ z, z = (mkR (mk κ 10 5) (sI κ 2) (sA κ 2 (aN (t 2))) 2) := ⟨_, rfl⟩
  rw [← eK2] at hw
  have hr3 : vp_in (sI K2 2) 60 := by rw [eK2, mkR_made, mk_made, hx0, nI_1, nI_add]; exact vp_in_nI (by omega) (by decide)
  refine lv_iinc (v := 2) (lv' := [(6, .int 2), (5, .int ((sI κ 2) + 1)), (4, .int (sA κ 2 (aN (t 2)))), (3, .int 5), (0, .ref (ad 0)), (1, .int 32)]) hx hb dX9_doesThing_134 hl (k := 0) rfl (by first | rfl | decide) (by decide) rfl (fun ls hl => ?_)
  refine lv_goto (tgt := 106) hx hb dX9_doesThing_137 (by decide) ?_
  refine lv_iload hx hb dX9_doesThing_106 (lv_at hl 0 rfl) ?_
  refine lv_iload_n hx hb dX9_doesThing_108 rfl (lv_at hl 3 rfl) ?_
  refine lv_icmp_ge (tgt := 140) hx hb dX9_doesThing_109 (by decide) (fun c_ => absurd c_ (by decide)) (fun _ => ?_)
  refine lv_aload_n hx hb dX9_doesThing_112 rfl (lv_at hl 4 rfl) ?_
  refine r_get hC hw rk9 in_X9_doesThing_9 0 (wMl 0 (by decide)) wM0 13 (by decide) lk_X9_doesThing_46 (v := .ref (ad 12)) rfl dX9_doesThing_113 ?_
  refine lv_bipush (v := 12) hx hb dX9_doesThing_116 (by decide) ?_
  refine lv_iload hx hb dX9_doesThing_118 (lv_at hl 1 rfl) ?_
  refine lv_iconst (v := 1) hx hb dX9_doesThing_120 (by decide) ?_
  refine lv_isub hx hb dX9_doesThing_121 ?_
  refine r_topi (y := sI κ 2) (ix1 _) ?_
  refine lv_imul hx hb dX9_doesThing_122 ?_
  refine lv_iload hx hb dX9_doesThing_123 (lv_at hl 0 rfl) ?_
  refine lv_iadd hx hb dX9_doesThing_125 ?_
  refine lv_aload_n hx hb dX9_doesThing_126 rfl (lv_at hl 4 rfl) ?_
  refine lv_iconst (v := 4) hx hb dX9_doesThing_127 (by decide) ?_
  refine lv_iload hx hb dX9_doesThing_128 (lv_at hl 2 rfl) ?_
  refine r_ki hw (r_runV (rest := [.int ((12 * (sI κ 2)) + 2), .ref (ad 12)]) hC hw 0 (c_X9_make (ad := ad) l _ 4 (sA κ 2 (aN (t 2))) hr3) rk9 (wMl 0 (by decide)) wM0 2 gX9_doesThing_X9_make rfl rfl rfl (by decide +kernel) ⟨Nat.le_of_ble_eq_true rfl, Nat.le_of_ble_eq_true rfl⟩ rfl hl.1 rfl (Nat.le_of_ble_eq_true rfl) dX9_doesThing_130 ⟨Nat.le_of_ble_eq_true rfl, Nat.le_of_ble_eq_true rfl⟩) (fun r_11 u_12 H locs h_10 hw => ?_)
  obtain ⟨rfl, rfl⟩ := h_10
  dsimp only at hw
  refine r_iast hC hw 12 (wMl 12 (by decide)) wM12 (ix60 hm0 v12_2) dX9_doesThing_133 (fun H locs hw => ?_)
  replace hw := mS_inner hw
  rw [eK2, mkR_S (mk κ 10 5) (sI κ 2) (sA κ 2 (aN (t 2))) 2 2 3 rfl rfl] at hw
  obtain ⟨K3, eK3⟩ : ∃ z, z = (mkR (mk κ 10 5) (sI κ 2) (sA κ 2 (aN (t 2))) 3) := ⟨_, rfl⟩
  rw [← eK3] at hw
  have hr4 : vp_in (sI K3 2) 60 := by rw [eK3, mkR_made, mk_made, hx0, nI_1, nI_add]; exact vp_in_nI (by omega) (by decide)
  refine lv_iinc (v := 3) (lv' := [(6, .int 3), (5, .int ((sI κ 2) + 1)), (4, .int (sA κ 2 (aN (t 2)))), (3, .int 5), (0, .ref (ad 0)), (1, .int 32)]) hx hb dX9_doesThing_134 hl (k := 0) rfl (by first | rfl | decide) (by decide) rfl (fun ls hl => ?_)
  refine lv_goto (tgt := 106) hx hb dX9_doesThing_137 (by decide) ?_
  refine lv_iload hx hb dX9_doesThing_106 (lv_at hl 0 rfl) ?_
  refine lv_iload_n hx hb dX9_doesThing_108 rfl (lv_at hl 3 rfl) ?_
  refine lv_icmp_ge (tgt := 140) hx hb dX9_doesThing_109 (by decide) (fun c_ => absurd c_ (by decide)) (fun _ => ?_)
  refine lv_aload_n hx hb dX9_doesThing_112 rfl (lv_at hl 4 rfl) ?_
  refine r_get hC hw rk9 in_X9_doesThing_9 0 (wMl 0 (by decide)) wM0 13 (by decide) lk_X9_doesThing_46 (v := .ref (ad 12)) rfl dX9_doesThing_113 ?_
  refine lv_bipush (v := 12) hx hb dX9_doesThing_116 (by decide) ?_
  refine lv_iload hx hb dX9_doesThing_118 (lv_at hl 1 rfl) ?_
  refine lv_iconst (v := 1) hx hb dX9_doesThing_120 (by decide) ?_
  refine lv_isub hx hb dX9_doesThing_121 ?_
  refine r_topi (y := sI κ 2) (ix1 _) ?_
  refine lv_imul hx hb dX9_doesThing_122 ?_
  refine lv_iload hx hb dX9_doesThing_123 (lv_at hl 0 rfl) ?_
  refine lv_iadd hx hb dX9_doesThing_125 ?_
  refine lv_aload_n hx hb dX9_doesThing_126 rfl (lv_at hl 4 rfl) ?_
  refine lv_iconst (v := 4) hx hb dX9_doesThing_127 (by decide) ?_
  refine lv_iload hx hb dX9_doesThing_128 (lv_at hl 2 rfl) ?_
  refine r_ki hw (r_runV (rest := [.int ((12 * (sI κ 2)) + 3), .ref (ad 12)]) hC hw 0 (c_X9_make (ad := ad) l _ 4 (sA κ 2 (aN (t 2))) hr4) rk9 (wMl 0 (by decide)) wM0 2 gX9_doesThing_X9_make rfl rfl rfl (by decide +kernel) ⟨Nat.le_of_ble_eq_true rfl, Nat.le_of_ble_eq_true rfl⟩ rfl hl.1 rfl (Nat.le_of_ble_eq_true rfl) dX9_doesThing_130 ⟨Nat.le_of_ble_eq_true rfl, Nat.le_of_ble_eq_true rfl⟩) (fun r_14 u_15 H locs h_13 hw => ?_)
  obtain ⟨rfl, rfl⟩ := h_13
  dsimp only at hw
  refine r_iast hC hw 12 (wMl 12 (by decide)) wM12 (ix60 hm0 v12_3) dX9_doesThing_133 (fun H locs hw => ?_)
  replace hw := mS_inner hw
  rw [eK3, mkR_S (mk κ 10 5) (sI κ 2) (sA κ 2 (aN (t 2))) 3 3 4 rfl rfl] at hw
  obtain ⟨K4, eK4⟩ : ∃ z, z = (mkR (mk κ 10 5) (sI κ 2) (sA κ 2 (aN (t 2))) 4) := ⟨_, rfl⟩
  rw [← eK4] at hw
  have hr5 : vp_in (sI K4 2) 60 := by rw [eK4, mkR_made, mk_made, hx0, nI_1, nI_add]; exact vp_in_nI (by omega) (by decide)
  refine lv_iinc (v := 4) (lv' := [(6, .int 4), (5, .int ((sI κ 2) + 1)), (4, .int (sA κ 2 (aN (t 2)))), (3, .int 5), (0, .ref (ad 0)), (1, .int 32)]) hx hb dX9_doesThing_134 hl (k := 0) rfl (by first | rfl | decide) (by decide) rfl (fun ls hl => ?_)
  refine lv_goto (tgt := 106) hx hb dX9_doesThing_137 (by decide) ?_
  refine lv_iload hx hb dX9_doesThing_106 (lv_at hl 0 rfl) ?_
  refine lv_iload_n hx hb dX9_doesThing_108 rfl (lv_at hl 3 rfl) ?_
  refine lv_icmp_ge (tgt := 140) hx hb dX9_doesThing_109 (by decide) (fun c_ => absurd c_ (by decide)) (fun _ => ?_)
  refine lv_aload_n hx hb dX9_doesThing_112 rfl (lv_at hl 4 rfl) ?_
  refine r_get hC hw rk9 in_X9_doesThing_9 0 (wMl 0 (by decide)) wM0 13 (by decide) lk_X9_doesThing_46 (v := .ref (ad 12)) rfl dX9_doesThing_113 ?_
  refine lv_bipush (v := 12) hx hb dX9_doesThing_116 (by decide) ?_
  refine lv_iload hx hb dX9_doesThing_118 (lv_at hl 1 rfl) ?_
  refine lv_iconst (v := 1) hx hb dX9_doesThing_120 (by decide) ?_
  refine lv_isub hx hb dX9_doesThing_121 ?_
  refine r_topi (y := sI κ 2) (ix1 _) ?_
  refine lv_imul hx hb dX9_doesThing_122 ?_
  refine lv_iload hx hb dX9_doesThing_123 (lv_at hl 0 rfl) ?_
  refine lv_iadd hx hb dX9_doesThing_125 ?_
  refine lv_aload_n hx hb dX9_doesThing_126 rfl (lv_at hl 4 rfl) ?_
  refine lv_iconst (v := 4) hx hb dX9_doesThing_127 (by decide) ?_
  refine lv_iload hx hb dX9_doesThing_128 (lv_at hl 2 rfl) ?_
  refine r_ki hw (r_runV (rest := [.int ((12 * (sI κ 2)) + 4), .ref (ad 12)]) hC hw 0 (c_X9_make (ad := ad) l _ 4 (sA κ 2 (aN (t 2))) hr5) rk9 (wMl 0 (by decide)) wM0 2 gX9_doesThing_X9_make rfl rfl rfl (by decide +kernel) ⟨Nat.le_of_ble_eq_true rfl, Nat.le_of_ble_eq_true rfl⟩ rfl hl.1 rfl (Nat.le_of_ble_eq_true rfl) dX9_doesThing_130 ⟨Nat.le_of_ble_eq_true rfl, Nat.le_of_ble_eq_true rfl⟩) (fun r_17 u_18 H locs h_16 hw => ?_)
  obtain ⟨rfl, rfl⟩ := h_16
  dsimp only at hw
  refine r_iast hC hw 12 (wMl 12 (by decide)) wM12 (ix60 hm0 v12_4) dX9_doesThing_133 (fun H locs hw => ?_)
  replace hw := mS_inner hw
  rw [eK4, mkR_S (mk κ 10 5) (sI κ 2) (sA κ 2 (aN (t 2))) 4 4 5 rfl rfl] at hw
  obtain ⟨K5, eK5⟩ : ∃ z, z = (mkR (mk κ 10 5) (sI κ 2) (sA κ 2 (aN (t 2))) 5) := ⟨_, rfl⟩
  rw [← eK5] at hw
  refine lv_iinc (v := 5) (lv' := [(6, .int 5), (5, .int ((sI κ 2) + 1)), (4, .int (sA κ 2 (aN (t 2)))), (3, .int 5), (0, .ref (ad 0)), (1, .int 32)]) hx hb dX9_doesThing_134 hl (k := 0) rfl (by first | rfl | decide) (by decide) rfl (fun ls hl => ?_)
  refine lv_goto (tgt := 106) hx hb dX9_doesThing_137 (by decide) ?_
  refine lv_iload hx hb dX9_doesThing_106 (lv_at hl 0 rfl) ?_
  refine lv_iload_n hx hb dX9_doesThing_108 rfl (lv_at hl 3 rfl) ?_
  refine lv_icmp_ge (tgt := 140) hx hb dX9_doesThing_109 (by decide) (fun _ => ?_) (fun c_ => absurd (by decide) c_)
  refine lv_aload_n hx hb dX9_doesThing_140 rfl (lv_at hl 4 rfl) ?_
  refine r_get hC hw rk9 in_X9_doesThing_9 0 (wMl 0 (by decide)) wM0 8 (by decide) lk_X9_doesThing_31 (v := .ref (ad 7)) rfl dX9_doesThing_141 ?_
  refine lv_aload_n hx hb dX9_doesThing_144 rfl (lv_at hl 4 rfl) ?_
  refine r_get hC hw rk9 in_X9_doesThing_9 0 (wMl 0 (by decide)) wM0 30 (by decide) lk_X9_doesThing_142 (v := .int (t 0)) rfl dX9_doesThing_145 ?_
  refine lv_iload hx hb dX9_doesThing_148 (lv_at hl 1 rfl) ?_
  refine r_iast hC hw 7 (wMl 7 (by decide)) wM7 (by assumption) dX9_doesThing_150 (fun H locs hw => ?_)
  replace hw := mS_refs hw
  refine lv_goto (tgt := 360) hx hb dX9_doesThing_151 (by decide) ?_
  exact r_vret hC hr hlk hw ((uA K5 3 (aN (t 0)) ((sI κ 2) + 1)), t) rfl (by rw [eK5]; exact congrArg (fun z => (z, t)) (act32 hr0 (by decide)).symm) (Nat.le_of_ble_eq_true rfl) (Nat.le_of_ble_eq_true rfl) dX9_doesThing_360

set_option maxHeartbeats 4000000 in
set_option maxRecDepth 100000 in
theorem c_X9_doesThing_32_6 (l : Launch) {D : va_G} {q : Nat → ClassId} {ad : Nat → Nat} {κ : KS} {t : Nat → Int32} (sz : Nat) (hs : okStep 32 (t 0) (t 1) (t 2)) (hW : WFm κ) (hy : why κ 32 (t 0) (t 1) (t 2) = 0) (hN : nnOp κ 32 (t 0) (t 1) (t 2)) (hc : vp_in (sI κ 6) 13) (hm : vp_in (sI κ 2) 61) (hT : ¬ sI κ 7 < 0) (hr0 : sA κ 2 (aN (t 1)) = 6) : Met l yX9_doesThing wsX9_doesThing (rmz 2 41) (va_Pc [.ref (ad 0), .int 32] (rPre D q (wM q ad κ t) sz)) (va_Qv (fun (u : KS × (Nat → Int32)) => u = (act κ (t 4) (t 5) 32 (t 0) (t 1) (t 2), t)) (fun (u : KS × (Nat → Int32)) tt => rPo D (rA (wM q ad κ t) sz) (wM q ad u.1 u.2) tt) (rA (wM q ad κ t) sz)) 0 0 (rA (wM q ad κ t) sz) := by
  have hi0 : vp_in (t 0) 8 := hs.1
  have hi1 : vp_in (t 1) 8 := hs.2.1
  have hi2 : vp_in (t 2) 8 := hs.2.2
  obtain ⟨-, q2⟩ := yE (by decide) hy
  obtain ⟨-, q3⟩ := yE (by decide) q2
  obtain ⟨-, q4⟩ := yE (by decide) q3
  obtain ⟨-, q5⟩ := yE (by decide) q4
  obtain ⟨q6, -⟩ := yE (by decide) q5
  rw [hr0] at q6
  obtain ⟨n0, hn0, hx0⟩ := mm60 (r := 6) hm q6
  have hm0 : vp_in (sI κ 2) 60 := by rw [hx0]; exact vp_in_nI (by omega) (by decide)
  refine r_start (cc := cX9_doesThing) (maxL := 7) (ret := none) (by decide) rfl (Nat.le_of_ble_eq_true rfl) ?_
  intro p e s m below meth c ls hC hr hlk hnm hsz hw hl
  have hx := hC.1
  have hb := hC.2.1
  have hl : lv_has ls 7 [(0, .ref (ad 0)), (1, .int 32)] := hl
  refine lv_iload_n hx hb dX9_doesThing_0 rfl (lv_at hl 1 rfl) ?_
  refine lv_tableIn (tgt := 73) hx hb dX9_doesThing_1 (by decide) (by decide) (by rfl) (by decide) ?_
  refine lv_aload_n hx hb dX9_doesThing_73 rfl (lv_at hl 0 rfl) ?_
  refine r_get hC hw rk9 in_X9_doesThing_9 0 (wMl 0 (by decide)) wM0 4 (by decide) lk_X9_doesThing_16 (v := .ref (ad 3)) rfl dX9_doesThing_74 ?_
  refine lv_aload_n hx hb dX9_doesThing_77 rfl (lv_at hl 0 rfl) ?_
  refine r_get hC hw rk9 in_X9_doesThing_9 0 (wMl 0 (by decide)) wM0 31 (by decide) lk_X9_doesThing_126 (v := .int (t 1)) rfl dX9_doesThing_78 ?_
  refine r_iald hC hw 3 (wMl 3 (by decide)) wM3 (by assumption) dX9_doesThing_81 ?_
  refine r_topi (y := 6) hr0 ?_
  refine lv_istore_n (lv' := [(3, .int 6), (0, .ref (ad 0)), (1, .int 32)]) hx hb dX9_doesThing_82 rfl hl (by decide) rfl (fun ls hl => ?_)
  refine lv_aload_n hx hb dX9_doesThing_83 rfl (lv_at hl 1 rfl) ?_
  refine r_get hC hw rk9 in_X9_doesThing_9 0 (wMl 0 (by decide)) wM0 4 (by decide) lk_X9_doesThing_16 (v := .ref (ad 3)) rfl dX9_doesThing_84 ?_
  refine lv_aload_n hx hb dX9_doesThing_87 rfl (lv_at hl 1 rfl) ?_
  refine r_get hC hw rk9 in_X9_doesThing_9 0 (wMl 0 (by decide)) wM0 32 (by decide) lk_X9_doesThing_123 (v := .int (t 2)) rfl dX9_doesThing_88 ?_
  refine r_iald hC hw 3 (wMl 3 (by decide)) wM3 (by assumption) dX9_doesThing_91 ?_
  refine lv_istore (lv' := [(4, .int (sA κ 2 (aN (t 2)))), (3, .int 6), (0, .ref (ad 0)), (1, .int 32)]) hx hb dX9_doesThing_92 hl (by decide) rfl (fun ls hl => ?_)
  refine lv_aload_n hx hb dX9_doesThing_94 rfl (lv_at hl 2 rfl) ?_
  refine lv_bipush (v := 10) hx hb dX9_doesThing_95 (by decide) ?_
  refine lv_iload_n hx hb dX9_doesThing_97 rfl (lv_at hl 1 rfl) ?_
  refine r_ki hw (r_runV (rest := []) hC hw 0 (c_X9_make (ad := ad) l _ 10 6 hm0) rk9 (wMl 0 (by decide)) wM0 2 gX9_doesThing_X9_make rfl rfl rfl (by decide +kernel) ⟨Nat.le_of_ble_eq_true rfl, Nat.le_of_ble_eq_true rfl⟩ rfl hl.1 rfl (Nat.le_of_ble_eq_true rfl) dX9_doesThing_98 ⟨Nat.le_of_ble_eq_true rfl, Nat.le_of_ble_eq_true rfl⟩) (fun r_2 u_3 H locs h_1 hw => ?_)
  obtain ⟨rfl, rfl⟩ := h_1
  dsimp only at hw
  obtain ⟨K0, eK0⟩ : ∃ z, z = (mkR (mk κ 10 6) (sI κ 2) (sA κ 2 (aN (t 2))) 0) := ⟨_, rfl⟩
  replace hw : rX D q (rA (wM q ad κ t) sz) s.heap s (wM q ad K0 t) H locs := by rw [eK0]; exact hw
  have hr1 : vp_in (sI K0 2) 60 := by rw [eK0, mkR_made, mk_made, hx0, nI_1, nI_add]; exact vp_in_nI (by omega) (by decide)
  refine lv_istore (lv' := [(5, .int ((sI κ 2) + 1)), (4, .int (sA κ 2 (aN (t 2)))), (3, .int 6), (0, .ref (ad 0)), (1, .int 32)]) hx hb dX9_doesThing_101 hl (by decide) rfl (fun ls hl => ?_)
  refine lv_iconst (v := 0) hx hb dX9_doesThing_103 (by decide) ?_
  refine lv_istore (lv' := [(6, .int 0), (5, .int ((sI κ 2) + 1)), (4, .int (sA κ 2 (aN (t 2)))), (3, .int 6), (0, .ref (ad 0)), (1, .int 32)]) hx hb dX9_doesThing_104 hl (by decide) rfl (fun ls hl => ?_)
  refine lv_iload hx hb dX9_doesThing_106 (lv_at hl 0 rfl) ?_
  refine lv_iload_n hx hb dX9_doesThing_108 rfl (lv_at hl 3 rfl) ?_
  refine lv_icmp_ge (tgt := 140) hx hb dX9_doesThing_109 (by decide) (fun c_ => absurd c_ (by decide)) (fun _ => ?_)
  refine lv_aload_n hx hb dX9_doesThing_112 rfl (lv_at hl 4 rfl) ?_
  refine r_get hC hw rk9 in_X9_doesThing_9 0 (wMl 0 (by decide)) wM0 13 (by decide) lk_X9_doesThing_46 (v := .ref (ad 12)) rfl dX9_doesThing_113 ?_
  refine lv_bipush (v := 12) hx hb dX9_doesThing_116 (by decide) ?_
  refine lv_iload hx hb dX9_doesThing_118 (lv_at hl 1 rfl) ?_
  refine lv_iconst (v := 1) hx hb dX9_doesThing_120 (by decide) ?_
  refine lv_isub hx hb dX9_doesThing_121 ?_
  refine r_topi (y := sI κ 2) (ix1 _) ?_
  refine lv_imul hx hb dX9_doesThing_122 ?_
  refine lv_iload hx hb dX9_doesThing_123 (lv_at hl 0 rfl) ?_
  refine lv_iadd hx hb dX9_doesThing_125 ?_
  refine lv_aload_n hx hb dX9_doesThing_126 rfl (lv_at hl 4 rfl) ?_
  refine lv_iconst (v := 4) hx hb dX9_doesThing_127 (by decide) ?_
  refine lv_iload hx hb dX9_doesThing_128 (lv_at hl 2 rfl) ?_
  refine r_ki hw (r_runV (rest := [.int ((12 * (sI κ 2)) + 0), .ref (ad 12)]) hC hw 0 (c_X9_make (ad := ad) l _ 4 (sA κ 2 (aN (t 2))) hr1) rk9 (wMl 0 (by decide)) wM0 2 gX9_doesThing_X9_make rfl rfl rfl (by decide +kernel) ⟨Nat.le_of_ble_eq_true rfl, Nat.le_of_ble_eq_true rfl⟩ rfl hl.1 rfl (Nat.le_of_ble_eq_true rfl) dX9_doesThing_130 ⟨Nat.le_of_ble_eq_true rfl, Nat.le_of_ble_eq_true rfl⟩) (fun r_5 u_6 H locs h_4 hw => ?_)
  obtain ⟨rfl, rfl⟩ := h_4
  dsimp only at hw
  refine r_iast hC hw 12 (wMl 12 (by decide)) wM12 (ix60 hm0 v12_0) dX9_doesThing_133 (fun H locs hw => ?_)
  replace hw := mS_inner hw
  rw [eK0, mkR_S (mk κ 10 6) (sI κ 2) (sA κ 2 (aN (t 2))) 0 0 1 rfl rfl] at hw
  obtain ⟨K1, eK1⟩ : ∃ z, z = (mkR (mk κ 10 6) (sI κ 2) (sA κ 2 (aN (t 2))) 1) := ⟨_, rfl⟩
  rw [← eK1] at hw
  have hr2 : vp_in (sI K1 2) 60 := by rw [eK1, mkR_made, mk_made, hx0, nI_1, nI_add]; exact vp_in_nI (by omega) (by decide)
  refine lv_iinc (v := 1) (lv' := [(6, .int 1), (5, .int ((sI κ 2) + 1)), (4, .int (sA κ 2 (aN (t 2)))), (3, .int 6), (0, .ref (ad 0)), (1, .int 32)]) hx hb dX9_doesThing_134 hl (k := 0) rfl (by first | rfl | decide) (by decide) rfl (fun ls hl => ?_)
  refine lv_goto (tgt := 106) hx hb dX9_doesThing_137 (by decide) ?_
  refine lv_iload hx hb dX9_doesThing_106 (lv_at hl 0 rfl) ?_
  refine lv_iload_n hx hb dX9_doesThing_108 rfl (lv_at hl 3 rfl) ?_
  refine lv_icmp_ge (tgt := 140) hx hb dX9_doesThing_109 (by decide) (fun c_ => absurd c_ (by decide)) (fun _ => ?_)
  refine lv_aload_n hx hb dX9_doesThing_112 rfl (lv_at hl 4 rfl) ?_
  refine r_get hC hw rk9 in_X9_doesThing_9 0 (wMl 0 (by decide)) wM0 13 (by decide) lk_X9_doesThing_46 (v := .ref (ad 12)) rfl dX9_doesThing_113 ?_
  refine lv_bipush (v := 12) hx hb dX9_doesThing_116 (by decide) ?_
  refine lv_iload hx hb dX9_doesThing_118 (lv_at hl 1 rfl) ?_
  refine lv_iconst (v := 1) hx hb dX9_doesThing_120 (by decide) ?_
  refine lv_isub hx hb dX9_doesThing_121 ?_
  refine r_topi (y := sI κ 2) (ix1 _) ?_
  refine lv_imul hx hb dX9_doesThing_122 ?_
  refine lv_iload hx hb dX9_doesThing_123 (lv_at hl 0 rfl) ?_
  refine lv_iadd hx hb dX9_doesThing_125 ?_
  refine lv_aload_n hx hb dX9_doesThing_126 rfl (lv_at hl 4 rfl) ?_
  refine lv_iconst (v := 4) hx hb dX9_doesThing_127 (by decide) ?_
  refine lv_iload hx hb dX9_doesThing_128 (lv_at hl 2 rfl) ?_
  refine r_ki hw (r_runV (rest := [.int ((12 * (sI κ 2)) + 1), .ref (ad 12)]) hC hw 0 (c_X9_make (ad := ad) l _ 4 (sA κ 2 (aN (t 2))) hr2) rk9 (wMl 0 (by decide)) wM0 2 gX9_doesThing_X9_make rfl rfl rfl (by decide +kernel) ⟨Nat.le_of_ble_eq_true rfl, Nat.le_of_ble_eq_true rfl⟩ rfl hl.1 rfl (Nat.le_of_ble_eq_true rfl) dX9_doesThing_130 ⟨Nat.le_of_ble_eq_true rfl, Nat.le_of_ble_eq_true rfl⟩) (fun r_8 u_9 H locs h_7 hw => ?_)
  obtain ⟨rfl, rfl⟩ := h_7
  dsimp only at hw
  refine r_iast hC hw 12 (wMl 12 (by decide)) wM12 (ix60 hm0 v12_1) dX9_doesThing_133 (fun H locs hw => ?_)
  replace hw := mS_inner hw
  rw [eK1, mkR_S (mk κ 10 6) (sI κ 2) (sA κ 2 (aN (t 2))) 1 1 2 rfl rfl] at hw
  obtain ⟨K2, eK2⟩ : ∃ z, z = (mkR (mk κ 10 6) (sI κ 2) (sA κ 2 (aN (t 2))) 2) := ⟨_, rfl⟩
  rw [← eK2] at hw
  have hr3 : vp_in (sI K2 2) 60 := by rw [eK2, mkR_made, mk_made, hx0, nI_1, nI_add]; exact vp_in_nI (by omega) (by decide)
  refine lv_iinc (v := 2) (lv' := [(6, .int 2), (5, .int ((sI κ 2) + 1)), (4, .int (sA κ 2 (aN (t 2)))), (3, .int 6), (0, .ref (ad 0)), (1, .int 32)]) hx hb dX9_doesThing_134 hl (k := 0) rfl (by first | rfl | decide) (by decide) rfl (fun ls hl => ?_)
  refine lv_goto (tgt := 106) hx hb dX9_doesThing_137 (by decide) ?_
  refine lv_iload hx hb dX9_doesThing_106 (lv_at hl 0 rfl) ?_
  refine lv_iload_n hx hb dX9_doesThing_108 rfl (lv_at hl 3 rfl) ?_
  refine lv_icmp_ge (tgt := 140) hx hb dX9_doesThing_109 (by decide) (fun c_ => absurd c_ (by decide)) (fun _ => ?_)
  refine lv_aload_n hx hb dX9_doesThing_112 rfl (lv_at hl 4 rfl) ?_
  refine r_get hC hw rk9 in_X9_doesThing_9 0 (wMl 0 (by decide)) wM0 13 (by decide) lk_X9_doesThing_46 (v := .ref (ad 12)) rfl dX9_doesThing_113 ?_
  refine lv_bipush (v := 12) hx hb dX9_doesThing_116 (by decide) ?_
  refine lv_iload hx hb dX9_doesThing_118 (lv_at hl 1 rfl) ?_
  refine lv_iconst (v := 1) hx hb dX9_doesThing_120 (by decide) ?_
  refine lv_isub hx hb dX9_doesThing_121 ?_
  refine r_topi (y := sI κ 2) (ix1 _) ?_
  refine lv_imul hx hb dX9_doesThing_122 ?_
  refine lv_iload hx hb dX9_doesThing_123 (lv_at hl 0 rfl) ?_
  refine lv_iadd hx hb dX9_doesThing_125 ?_
  refine lv_aload_n hx hb dX9_doesThing_126 rfl (lv_at hl 4 rfl) ?_
  refine lv_iconst (v := 4) hx hb dX9_doesThing_127 (by decide) ?_
  refine lv_iload hx hb dX9_doesThing_128 (lv_at hl 2 rfl) ?_
  refine r_ki hw (r_runV (rest := [.int ((12 * (sI κ 2)) + 2), .ref (ad 12)]) hC hw 0 (c_X9_make (ad := ad) l _ 4 (sA κ 2 (aN (t 2))) hr3) rk9 (wMl 0 (by decide)) wM0 2 gX9_doesThing_X9_make rfl rfl rfl (by decide +kernel) ⟨Nat.le_of_ble_eq_true rfl, Nat.le_of_ble_eq_true rfl⟩ rfl hl.1 rfl (Nat.le_of_ble_eq_true rfl) dX9_doesThing_130 ⟨Nat.le_of_ble_eq_true rfl, Nat.le_of_ble_eq_true rfl⟩) (fun r_11 u_12 H locs h_10 hw => ?_)
  obtain ⟨rfl, rfl⟩ := h_10
  dsimp only at hw
  refine r_iast hC hw 12 (wMl 12 (by decide)) wM12 (ix60 hm0 v12_2) dX9_doesThing_133 (fun H locs hw => ?_)
  replace hw := mS_inner hw
  rw [eK2, mkR_S (mk κ 10 6) (sI κ 2) (sA κ 2 (aN (t 2))) 2 2 3 rfl rfl] at hw
  obtain ⟨K3, eK3⟩ : ∃ z, z = (mkR (mk κ 10 6) (sI κ 2) (sA κ 2 (aN (t 2))) 3) := ⟨_, rfl⟩
  rw [← eK3] at hw
  have hr4 : vp_in (sI K3 2) 60 := by rw [eK3, mkR_made, mk_made, hx0, nI_1, nI_add]; exact vp_in_nI (by omega) (by decide)
  refine lv_iinc (v := 3) (lv' := [(6, .int 3), (5, .int ((sI κ 2) + 1)), (4, .int (sA κ 2 (aN (t 2)))), (3, .int 6), (0, .ref (ad 0)), (1, .int 32)]) hx hb dX9_doesThing_134 hl (k := 0) rfl (by first | rfl | decide) (by decide) rfl (fun ls hl => ?_)
  refine lv_goto (tgt := 106) hx hb dX9_doesThing_137 (by decide) ?_
  refine lv_iload hx hb dX9_doesThing_106 (lv_at hl 0 rfl) ?_
  refine lv_iload_n hx hb dX9_doesThing_108 rfl (lv_at hl 3 rfl) ?_
  refine lv_icmp_ge (tgt := 140) hx hb dX9_doesThing_109 (by decide) (fun c_ => absurd c_ (by decide)) (fun _ => ?_)
  refine lv_aload_n hx hb dX9_doesThing_112 rfl (lv_at hl 4 rfl) ?_
  refine r_get hC hw rk9 in_X9_doesThing_9 0 (wMl 0 (by decide)) wM0 13 (by decide) lk_X9_doesThing_46 (v := .ref (ad 12)) rfl dX9_doesThing_113 ?_
  refine lv_bipush (v := 12) hx hb dX9_doesThing_116 (by decide) ?_
  refine lv_iload hx hb dX9_doesThing_118 (lv_at hl 1 rfl) ?_
  refine lv_iconst (v := 1) hx hb dX9_doesThing_120 (by decide) ?_
  refine lv_isub hx hb dX9_doesThing_121 ?_
  refine r_topi (y := sI κ 2) (ix1 _) ?_
  refine lv_imul hx hb dX9_doesThing_122 ?_
  refine lv_iload hx hb dX9_doesThing_123 (lv_at hl 0 rfl) ?_
  refine lv_iadd hx hb dX9_doesThing_125 ?_
  refine lv_aload_n hx hb dX9_doesThing_126 rfl (lv_at hl 4 rfl) ?_
  refine lv_iconst (v := 4) hx hb dX9_doesThing_127 (by decide) ?_
  refine lv_iload hx hb dX9_doesThing_128 (lv_at hl 2 rfl) ?_
  refine r_ki hw (r_runV (rest := [.int ((12 * (sI κ 2)) + 3), .ref (ad 12)]) hC hw 0 (c_X9_make (ad := ad) l _ 4 (sA κ 2 (aN (t 2))) hr4) rk9 (wMl 0 (by decide)) wM0 2 gX9_doesThing_X9_make rfl rfl rfl (by decide +kernel) ⟨Nat.le_of_ble_eq_true rfl, Nat.le_of_ble_eq_true rfl⟩ rfl hl.1 rfl (Nat.le_of_ble_eq_true rfl) dX9_doesThing_130 ⟨Nat.le_of_ble_eq_true rfl, Nat.le_of_ble_eq_true rfl⟩) (fun r_14 u_15 H locs h_13 hw => ?_)
  obtain ⟨rfl, rfl⟩ := h_13
  dsimp only at hw
  refine r_iast hC hw 12 (wMl 12 (by decide)) wM12 (ix60 hm0 v12_3) dX9_doesThing_133 (fun H locs hw => ?_)
  replace hw := mS_inner hw
  rw [eK3, mkR_S (mk κ 10 6) (sI κ 2) (sA κ 2 (aN (t 2))) 3 3 4 rfl rfl] at hw
  obtain ⟨K4, eK4⟩ : ∃ z, z = (mkR (mk κ 10 6) (sI κ 2) (sA κ 2 (aN (t 2))) 4) := ⟨_, rfl⟩
  rw [← eK4] at hw
  have hr5 : vp_in (sI K4 2) 60 := by rw [eK4, mkR_made, mk_made, hx0, nI_1, nI_add]; exact vp_in_nI (by omega) (by decide)
  refine lv_iinc (v := 4) (lv' := [(6, .int 4), (5, .int ((sI κ 2) + 1)), (4, .int (sA κ 2 (aN (t 2)))), (3, .int 6), (0, .ref (ad 0)), (1, .int 32)]) hx hb dX9_doesThing_134 hl (k := 0) rfl (by first | rfl | decide) (by decide) rfl (fun ls hl => ?_)
  refine lv_goto (tgt := 106) hx hb dX9_doesThing_137 (by decide) ?_
  refine lv_iload hx hb dX9_doesThing_106 (lv_at hl 0 rfl) ?_
  refine lv_iload_n hx hb dX9_doesThing_108 rfl (lv_at hl 3 rfl) ?_
  refine lv_icmp_ge (tgt := 140) hx hb dX9_doesThing_109 (by decide) (fun c_ => absurd c_ (by decide)) (fun _ => ?_)
  refine lv_aload_n hx hb dX9_doesThing_112 rfl (lv_at hl 4 rfl) ?_
  refine r_get hC hw rk9 in_X9_doesThing_9 0 (wMl 0 (by decide)) wM0 13 (by decide) lk_X9_doesThing_46 (v := .ref (ad 12)) rfl dX9_doesThing_113 ?_
  refine lv_bipush (v := 12) hx hb dX9_doesThing_116 (by decide) ?_
  refine lv_iload hx hb dX9_doesThing_118 (lv_at hl 1 rfl) ?_
  refine lv_iconst (v := 1) hx hb dX9_doesThing_120 (by decide) ?_
  refine lv_isub hx hb dX9_doesThing_121 ?_
  refine r_topi (y := sI κ 2) (ix1 _) ?_
  refine lv_imul hx hb dX9_doesThing_122 ?_
  refine lv_iload hx hb dX9_doesThing_123 (lv_at hl 0 rfl) ?_
  refine lv_iadd hx hb dX9_doesThing_125 ?_
  refine lv_aload_n hx hb dX9_doesThing_126 rfl (lv_at hl 4 rfl) ?_
  refine lv_iconst (v := 4) hx hb dX9_doesThing_127 (by decide) ?_
  refine lv_iload hx hb dX9_doesThing_128 (lv_at hl 2 rfl) ?_
  refine r_ki hw (r_runV (rest := [.int ((12 * (sI κ 2)) + 4), .ref (ad 12)]) hC hw 0 (c_X9_make (ad := ad) l _ 4 (sA κ 2 (aN (t 2))) hr5) rk9 (wMl 0 (by decide)) wM0 2 gX9_doesThing_X9_make rfl rfl rfl (by decide +kernel) ⟨Nat.le_of_ble_eq_true rfl, Nat.le_of_ble_eq_true rfl⟩ rfl hl.1 rfl (Nat.le_of_ble_eq_true rfl) dX9_doesThing_130 ⟨Nat.le_of_ble_eq_true rfl, Nat.le_of_ble_eq_true rfl⟩) (fun r_17 u_18 H locs h_16 hw => ?_)
  obtain ⟨rfl, rfl⟩ := h_16
  dsimp only at hw
  refine r_iast hC hw 12 (wMl 12 (by decide)) wM12 (ix60 hm0 v12_4) dX9_doesThing_133 (fun H locs hw => ?_)
  replace hw := mS_inner hw
  rw [eK4, mkR_S (mk κ 10 6) (sI κ 2) (sA κ 2 (aN (t 2))) 4 4 5 rfl rfl] at hw
  obtain ⟨K5, eK5⟩ : ∃ z, z = (mkR (mk κ 10 6) (sI κ 2) (sA κ 2 (aN (t 2))) 5) := ⟨_, rfl⟩
  rw [← eK5] at hw
  have hr6 : vp_in (sI K5 2) 60 := by rw [eK5, mkR_made, mk_made, hx0, nI_1, nI_add]; exact vp_in_nI (by omega) (by decide)
  refine lv_iinc (v := 5) (lv' := [(6, .int 5), (5, .int ((sI κ 2) + 1)), (4, .int (sA κ 2 (aN (t 2)))), (3, .int 6), (0, .ref (ad 0)), (1, .int 32)]) hx hb dX9_doesThing_134 hl (k := 0) rfl (by first | rfl | decide) (by decide) rfl (fun ls hl => ?_)
  refine lv_goto (tgt := 106) hx hb dX9_doesThing_137 (by decide) ?_
  refine lv_iload hx hb dX9_doesThing_106 (lv_at hl 0 rfl) ?_
  refine lv_iload_n hx hb dX9_doesThing_108 rfl (lv_at hl 3 rfl) ?_
  refine lv_icmp_ge (tgt := 140) hx hb dX9_doesThing_109 (by decide) (fun c_ => absurd c_ (by decide)) (fun _ => ?_)
  refine lv_aload_n hx hb dX9_doesThing_112 rfl (lv_at hl 4 rfl) ?_
  refine r_get hC hw rk9 in_X9_doesThing_9 0 (wMl 0 (by decide)) wM0 13 (by decide) lk_X9_doesThing_46 (v := .ref (ad 12)) rfl dX9_doesThing_113 ?_
  refine lv_bipush (v := 12) hx hb dX9_doesThing_116 (by decide) ?_
  refine lv_iload hx hb dX9_doesThing_118 (lv_at hl 1 rfl) ?_
  refine lv_iconst (v := 1) hx hb dX9_doesThing_120 (by decide) ?_
  refine lv_isub hx hb dX9_doesThing_121 ?_
  refine r_topi (y := sI κ 2) (ix1 _) ?_
  refine lv_imul hx hb dX9_doesThing_122 ?_
  refine lv_iload hx hb dX9_doesThing_123 (lv_at hl 0 rfl) ?_
  refine lv_iadd hx hb dX9_doesThing_125 ?_
  refine lv_aload_n hx hb dX9_doesThing_126 rfl (lv_at hl 4 rfl) ?_
  refine lv_iconst (v := 4) hx hb dX9_doesThing_127 (by decide) ?_
  refine lv_iload hx hb dX9_doesThing_128 (lv_at hl 2 rfl) ?_
  refine r_ki hw (r_runV (rest := [.int ((12 * (sI κ 2)) + 5), .ref (ad 12)]) hC hw 0 (c_X9_make (ad := ad) l _ 4 (sA κ 2 (aN (t 2))) hr6) rk9 (wMl 0 (by decide)) wM0 2 gX9_doesThing_X9_make rfl rfl rfl (by decide +kernel) ⟨Nat.le_of_ble_eq_true rfl, Nat.le_of_ble_eq_true rfl⟩ rfl hl.1 rfl (Nat.le_of_ble_eq_true rfl) dX9_doesThing_130 ⟨Nat.le_of_ble_eq_true rfl, Nat.le_of_ble_eq_true rfl⟩) (fun r_20 u_21 H locs h_19 hw => ?_)
  obtain ⟨rfl, rfl⟩ := h_19
  dsimp only at hw
  refine r_iast hC hw 12 (wMl 12 (by decide)) wM12 (ix60 hm0 v12_5) dX9_doesThing_133 (fun H locs hw => ?_)
  replace hw := mS_inner hw
  rw [eK5, mkR_S (mk κ 10 6) (sI κ 2) (sA κ 2 (aN (t 2))) 5 5 6 rfl rfl] at hw
  obtain ⟨K6, eK6⟩ : ∃ z, z = (mkR (mk κ 10 6) (sI κ 2) (sA κ 2 (aN (t 2))) 6) := ⟨_, rfl⟩
  rw [← eK6] at hw
  refine lv_iinc (v := 6) (lv' := [(6, .int 6), (5, .int ((sI κ 2) + 1)), (4, .int (sA κ 2 (aN (t 2)))), (3, .int 6), (0, .ref (ad 0)), (1, .int 32)]) hx hb dX9_doesThing_134 hl (k := 0) rfl (by first | rfl | decide) (by decide) rfl (fun ls hl => ?_)
  refine lv_goto (tgt := 106) hx hb dX9_doesThing_137 (by decide) ?_
  refine lv_iload hx hb dX9_doesThing_106 (lv_at hl 0 rfl) ?_
  refine lv_iload_n hx hb dX9_doesThing_108 rfl (lv_at hl 3 rfl) ?_
  refine lv_icmp_ge (tgt := 140) hx hb dX9_doesThing_109 (by decide) (fun _ => ?_) (fun c_ => absurd (by decide) c_)
  refine lv_aload_n hx hb dX9_doesThing_140 rfl (lv_at hl 4 rfl) ?_
  refine r_get hC hw rk9 in_X9_doesThing_9 0 (wMl 0 (by decide)) wM0 8 (by decide) lk_X9_doesThing_31 (v := .ref (ad 7)) rfl dX9_doesThing_141 ?_
  refine lv_aload_n hx hb dX9_doesThing_144 rfl (lv_at hl 4 rfl) ?_
  refine r_get hC hw rk9 in_X9_doesThing_9 0 (wMl 0 (by decide)) wM0 30 (by decide) lk_X9_doesThing_142 (v := .int (t 0)) rfl dX9_doesThing_145 ?_
  refine lv_iload hx hb dX9_doesThing_148 (lv_at hl 1 rfl) ?_
  refine r_iast hC hw 7 (wMl 7 (by decide)) wM7 (by assumption) dX9_doesThing_150 (fun H locs hw => ?_)
  replace hw := mS_refs hw
  refine lv_goto (tgt := 360) hx hb dX9_doesThing_151 (by decide) ?_
  exact r_vret hC hr hlk hw ((uA K6 3 (aN (t 0)) ((sI κ 2) + 1)), t) rfl (by rw [eK6]; exact congrArg (fun z => (z, t)) (act32 hr0 (by decide)).symm) (Nat.le_of_ble_eq_true rfl) (Nat.le_of_ble_eq_true rfl) dX9_doesThing_360

set_option maxHeartbeats 4000000 in
set_option maxRecDepth 100000 in
theorem c_X9_doesThing_32 (l : Launch) {D : va_G} {q : Nat → ClassId} {ad : Nat → Nat} {κ : KS} {t : Nat → Int32} (sz : Nat) (hs : okStep 32 (t 0) (t 1) (t 2)) (hW : WFm κ) (hy : why κ 32 (t 0) (t 1) (t 2) = 0) (hN : nnOp κ 32 (t 0) (t 1) (t 2)) (hc : vp_in (sI κ 6) 13) (hm : vp_in (sI κ 2) 61) (hT : ¬ sI κ 7 < 0) : Met l yX9_doesThing wsX9_doesThing (rmz 2 41) (va_Pc [.ref (ad 0), .int 32] (rPre D q (wM q ad κ t) sz)) (va_Qv (fun (u : KS × (Nat → Int32)) => u = (act κ (t 4) (t 5) 32 (t 0) (t 1) (t 2), t)) (fun (u : KS × (Nat → Int32)) tt => rPo D (rA (wM q ad κ t) sz) (wM q ad u.1 u.2) tt) (rA (wM q ad κ t) sz)) 0 0 (rA (wM q ad κ t) sz) := by
  obtain ⟨q1, q2⟩ := yE (by decide) hy
  obtain ⟨-, q3⟩ := yE (by decide) q2
  obtain ⟨q4, -⟩ := yE (by decide) q3
  obtain ⟨j, hj, hx⟩ := in7 q4 q1
  match j, hj, hx with
  | 0, _, hx => exact c_X9_doesThing_32_0 l sz hs hW hy hN hc hm hT hx
  | 1, _, hx => exact c_X9_doesThing_32_1 l sz hs hW hy hN hc hm hT hx
  | 2, _, hx => exact c_X9_doesThing_32_2 l sz hs hW hy hN hc hm hT hx
  | 3, _, hx => exact c_X9_doesThing_32_3 l sz hs hW hy hN hc hm hT hx
  | 4, _, hx => exact c_X9_doesThing_32_4 l sz hs hW hy hN hc hm hT hx
  | 5, _, hx => exact c_X9_doesThing_32_5 l sz hs hW hy hN hc hm hT hx
  | 6, _, hx => exact c_X9_doesThing_32_6 l sz hs hW hy hN hc hm hT hx
  | j + 7, hj, _ => exact absurd hj (by omega)

