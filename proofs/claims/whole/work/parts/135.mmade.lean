set_option maxHeartbeats 4000000 in
set_option maxRecDepth 100000 in
theorem c_X9_doesThing_33 (l : Launch) {D : va_G} {q : Nat → ClassId} {ad : Nat → Nat} {κ : KS} {t : Nat → Int32} (sz : Nat) (hs : okStep 33 (t 0) (t 1) (t 2)) (hW : WFm κ) (hy : why κ 33 (t 0) (t 1) (t 2) = 0) (hN : nnOp κ 33 (t 0) (t 1) (t 2)) (hc : vp_in (sI κ 6) 13) (hm : vp_in (sI κ 2) 61) (hT : ¬ sI κ 7 < 0) : Met l yX9_doesThing wsX9_doesThing (rmz 2 41) (va_Pc [.ref (ad 0), .int 33] (rPre D q (wM q ad κ t) sz)) (va_Qv (fun (u : KS × (Nat → Int32)) => u = (act κ (t 4) (t 5) 33 (t 0) (t 1) (t 2), t)) (fun (u : KS × (Nat → Int32)) tt => rPo D (rA (wM q ad κ t) sz) (wM q ad u.1 u.2) tt) (rA (wM q ad κ t) sz)) 0 0 (rA (wM q ad κ t) sz) := by
  have hi0 : vp_in (t 0) 8 := hs.1
  have hi1 : vp_in (t 1 - 11) 4 := hs.2.1
  have hi2 : vp_in (t 2) 8 := hs.2.2
  have hmm := in60 hm (y7 hy).1
  refine r_start (cc := cX9_doesThing) (maxL := 7) (ret := none) (by decide) rfl (Nat.le_of_ble_eq_true rfl) ?_
  intro p e s m below meth c ls hC hr hlk hnm hsz hw hl
  have hx := hC.1
  have hb := hC.2.1
  have hl : lv_has ls 7 [(0, .ref (ad 0)), (1, .int 33)] := hl
  refine lv_iload_n hx hb dX9_doesThing_0 rfl (lv_at hl 1 rfl) ?_
  refine lv_tableIn (tgt := 154) hx hb dX9_doesThing_1 (by decide) (by decide) (by rfl) (by decide) ?_
  refine lv_aload_n hx hb dX9_doesThing_154 rfl (lv_at hl 0 rfl) ?_
  refine r_get hC hw rk9 in_X9_doesThing_9 0 (wMl 0 (by decide)) wM0 8 (by decide) lk_X9_doesThing_31 (v := .ref (ad 7)) rfl dX9_doesThing_155 ?_
  refine lv_aload_n hx hb dX9_doesThing_158 rfl (lv_at hl 0 rfl) ?_
  refine r_get hC hw rk9 in_X9_doesThing_9 0 (wMl 0 (by decide)) wM0 30 (by decide) lk_X9_doesThing_142 (v := .int (t 0)) rfl dX9_doesThing_159 ?_
  refine lv_aload_n hx hb dX9_doesThing_162 rfl (lv_at hl 0 rfl) ?_
  refine lv_aload_n hx hb dX9_doesThing_163 rfl (lv_at hl 0 rfl) ?_
  refine r_get hC hw rk9 in_X9_doesThing_9 0 (wMl 0 (by decide)) wM0 31 (by decide) lk_X9_doesThing_126 (v := .int (t 1)) rfl dX9_doesThing_164 ?_
  refine lv_iconst (v := 0) hx hb dX9_doesThing_167 (by decide) ?_
  refine r_ki hw (r_runV (rest := [.int (t 0), .ref (ad 7)]) hC hw 0 (c_X9_make (ad := ad) l _ (t 1) 0 hmm) rk9 (wMl 0 (by decide)) wM0 2 gX9_doesThing_X9_make rfl rfl rfl (by decide +kernel) ⟨Nat.le_of_ble_eq_true rfl, Nat.le_of_ble_eq_true rfl⟩ rfl hl.1 rfl (Nat.le_of_ble_eq_true rfl) dX9_doesThing_168 ⟨Nat.le_of_ble_eq_true rfl, Nat.le_of_ble_eq_true rfl⟩) (fun r_2 u_3 H locs h_1 hw => ?_)
  obtain ⟨rfl, rfl⟩ := h_1
  dsimp only at hw
  refine r_iast hC hw 7 (wMl 7 (by decide)) wM7 (by assumption) dX9_doesThing_171 (fun H locs hw => ?_)
  replace hw := mS_refs hw
  refine lv_aload_n hx hb dX9_doesThing_172 rfl (lv_at hl 0 rfl) ?_
  refine r_get hC hw rk9 in_X9_doesThing_9 0 (wMl 0 (by decide)) wM0 14 (by decide) lk_X9_doesThing_49 (v := .ref (ad 13)) rfl dX9_doesThing_173 ?_
  refine lv_aload_n hx hb dX9_doesThing_176 rfl (lv_at hl 0 rfl) ?_
  refine r_get hC hw rk9 in_X9_doesThing_9 0 (wMl 0 (by decide)) wM0 8 (by decide) lk_X9_doesThing_31 (v := .ref (ad 7)) rfl dX9_doesThing_177 ?_
  refine lv_aload_n hx hb dX9_doesThing_180 rfl (lv_at hl 0 rfl) ?_
  refine r_get hC hw rk9 in_X9_doesThing_9 0 (wMl 0 (by decide)) wM0 30 (by decide) lk_X9_doesThing_142 (v := .int (t 0)) rfl dX9_doesThing_181 ?_
  refine r_iald hC hw 7 (wMl 7 (by decide)) wM7 (by assumption) dX9_doesThing_184 ?_
  refine r_topi (y := (sI κ 2) + 1) (uA_self _ _ _ _) ?_
  refine lv_iconst (v := 1) hx hb dX9_doesThing_185 (by decide) ?_
  refine lv_isub hx hb dX9_doesThing_186 ?_
  refine r_topi (y := sI κ 2) (ix1 _) ?_
  refine lv_aload_n hx hb dX9_doesThing_187 rfl (lv_at hl 0 rfl) ?_
  refine r_get hC hw rk9 in_X9_doesThing_9 0 (wMl 0 (by decide)) wM0 4 (by decide) lk_X9_doesThing_16 (v := .ref (ad 3)) rfl dX9_doesThing_188 ?_
  refine lv_aload_n hx hb dX9_doesThing_191 rfl (lv_at hl 0 rfl) ?_
  refine r_get hC hw rk9 in_X9_doesThing_9 0 (wMl 0 (by decide)) wM0 32 (by decide) lk_X9_doesThing_123 (v := .int (t 2)) rfl dX9_doesThing_192 ?_
  refine r_iald hC hw 3 (wMl 3 (by decide)) wM3 (by assumption) dX9_doesThing_195 ?_
  refine r_topi (y := sA κ 2 (aN (t 2))) (by rw [uA_ne _ _ _ (by decide), mk_A2]) ?_
  refine r_iast hC hw 13 (wMl 13 (by decide)) wM13 hmm dX9_doesThing_196 (fun H locs hw => ?_)
  replace hw := mS_tags hw
  refine lv_goto (tgt := 360) hx hb dX9_doesThing_197 (by decide) ?_
  exact r_vret hC hr hlk hw ((uA (uA (mk κ (t 1) 0) 3 (aN (t 0)) ((sI κ 2) + 1)) 7 (aN (sI κ 2)) (sA κ 2 (aN (t 2)))), t) rfl rfl (Nat.le_of_ble_eq_true rfl) (Nat.le_of_ble_eq_true rfl) dX9_doesThing_360

set_option maxHeartbeats 4000000 in
set_option maxRecDepth 100000 in
theorem c_X9_doesThing_31 (l : Launch) {D : va_G} {q : Nat → ClassId} {ad : Nat → Nat} {κ : KS} {t : Nat → Int32} (sz : Nat) (hs : okStep 31 (t 0) (t 1) (t 2)) (hW : WFm κ) (hy : why κ 31 (t 0) (t 1) (t 2) = 0) (hN : nnOp κ 31 (t 0) (t 1) (t 2)) (hc : vp_in (sI κ 6) 13) (hm : vp_in (sI κ 2) 61) (hT : ¬ sI κ 7 < 0) : Met l yX9_doesThing wsX9_doesThing (rmz 2 41) (va_Pc [.ref (ad 0), .int 31] (rPre D q (wM q ad κ t) sz)) (va_Qv (fun (u : KS × (Nat → Int32)) => u = (act κ (t 4) (t 5) 31 (t 0) (t 1) (t 2), t)) (fun (u : KS × (Nat → Int32)) tt => rPo D (rA (wM q ad κ t) sz) (wM q ad u.1 u.2) tt) (rA (wM q ad κ t) sz)) 0 0 (rA (wM q ad κ t) sz) := by
  have hi0 : vp_in (t 0) 8 := hs.1
  have hi1 : vp_in (t 1) 10 := hs.2.1
  have hi2 : vp_in (t 2) 8 := hs.2.2
  obtain ⟨q1, q2⟩ := yE (by decide) hy
  obtain ⟨q3, q4⟩ := yE (by decide) q2
  have hmm := in60 hm (y7 q4).1
  refine r_start (cc := cX9_doesThing) (maxL := 7) (ret := none) (by decide) rfl (Nat.le_of_ble_eq_true rfl) ?_
  intro p e s m below meth c ls hC hr hlk hnm hsz hw hl
  have hx := hC.1
  have hb := hC.2.1
  have hl : lv_has ls 7 [(0, .ref (ad 0)), (1, .int 31)] := hl
  refine lv_iload_n hx hb dX9_doesThing_0 rfl (lv_at hl 1 rfl) ?_
  refine lv_tableIn (tgt := 44) hx hb dX9_doesThing_1 (by decide) (by decide) (by rfl) (by decide) ?_
  refine lv_aload_n hx hb dX9_doesThing_44 rfl (lv_at hl 0 rfl) ?_
  refine r_get hC hw rk9 in_X9_doesThing_9 0 (wMl 0 (by decide)) wM0 8 (by decide) lk_X9_doesThing_31 (v := .ref (ad 7)) rfl dX9_doesThing_45 ?_
  refine lv_aload_n hx hb dX9_doesThing_48 rfl (lv_at hl 0 rfl) ?_
  refine r_get hC hw rk9 in_X9_doesThing_9 0 (wMl 0 (by decide)) wM0 30 (by decide) lk_X9_doesThing_142 (v := .int (t 0)) rfl dX9_doesThing_49 ?_
  refine lv_aload_n hx hb dX9_doesThing_52 rfl (lv_at hl 0 rfl) ?_
  refine lv_aload_n hx hb dX9_doesThing_53 rfl (lv_at hl 0 rfl) ?_
  refine r_get hC hw rk9 in_X9_doesThing_9 0 (wMl 0 (by decide)) wM0 31 (by decide) lk_X9_doesThing_126 (v := .int (t 1)) rfl dX9_doesThing_54 ?_
  refine lv_aload_n hx hb dX9_doesThing_57 rfl (lv_at hl 0 rfl) ?_
  refine r_get hC hw rk9 in_X9_doesThing_9 0 (wMl 0 (by decide)) wM0 4 (by decide) lk_X9_doesThing_16 (v := .ref (ad 3)) rfl dX9_doesThing_58 ?_
  refine lv_aload_n hx hb dX9_doesThing_61 rfl (lv_at hl 0 rfl) ?_
  refine r_get hC hw rk9 in_X9_doesThing_9 0 (wMl 0 (by decide)) wM0 32 (by decide) lk_X9_doesThing_123 (v := .int (t 2)) rfl dX9_doesThing_62 ?_
  refine r_iald hC hw 3 (wMl 3 (by decide)) wM3 (by assumption) dX9_doesThing_65 ?_
  refine r_ki hw (r_runV (rest := [.int (t 0), .ref (ad 7)]) hC hw 0 (c_X9_make (ad := ad) l _ (t 1) (sA κ 2 (aN (t 2))) hmm) rk9 (wMl 0 (by decide)) wM0 2 gX9_doesThing_X9_make rfl rfl rfl (by decide +kernel) ⟨Nat.le_of_ble_eq_true rfl, Nat.le_of_ble_eq_true rfl⟩ rfl hl.1 rfl (Nat.le_of_ble_eq_true rfl) dX9_doesThing_66 ⟨Nat.le_of_ble_eq_true rfl, Nat.le_of_ble_eq_true rfl⟩) (fun r_2 u_3 H locs h_1 hw => ?_)
  obtain ⟨rfl, rfl⟩ := h_1
  dsimp only at hw
  refine r_iast hC hw 7 (wMl 7 (by decide)) wM7 (by assumption) dX9_doesThing_69 (fun H locs hw => ?_)
  replace hw := mS_refs hw
  refine lv_goto (tgt := 360) hx hb dX9_doesThing_70 (by decide) ?_
  exact r_vret hC hr hlk hw ((uA (mk κ (t 1) (sA κ 2 (aN (t 2)))) 3 (aN (t 0)) ((sI κ 2) + 1)), t) rfl rfl (Nat.le_of_ble_eq_true rfl) (Nat.le_of_ble_eq_true rfl) dX9_doesThing_360

set_option maxHeartbeats 4000000 in
set_option maxRecDepth 100000 in
theorem c_X9_doesFault_67 (l : Launch) {D : va_G} {q : Nat → ClassId} {ad : Nat → Nat} {κ : KS} {t : Nat → Int32} (sz : Nat) (hs : okStep 67 (t 0) (t 1) (t 2)) (hW : WFm κ) (hy : why κ 67 (t 0) (t 1) (t 2) = 0) (hN : nnOp κ 67 (t 0) (t 1) (t 2)) (hc : vp_in (sI κ 6) 13) (hm : vp_in (sI κ 2) 61) (hT : ¬ sI κ 7 < 0) : Met l yX9_doesFault wsX9_doesFault (rmz 1 23) (va_Pc [.ref (ad 0), .int 67] (rPre D q (wM q ad κ t) sz)) (va_Qv (fun (u : KS × (Nat → Int32)) => u = (act κ (t 4) (t 5) 67 (t 0) (t 1) (t 2), t)) (fun (u : KS × (Nat → Int32)) tt => rPo D (rA (wM q ad κ t) sz) (wM q ad u.1 u.2) tt) (rA (wM q ad κ t) sz)) 0 0 (rA (wM q ad κ t) sz) := by
  have hi0 : vp_in (t 0) 8 := hs.1
  have hi1 : vp_in (t 1) 8 := hs.2.1
  have hi2 : vp_in (t 2) 8 := hs.2.2
  have hmm := in60 hm (y7 (y4 hy).2).1
  refine r_start (cc := cX9_doesFault) (maxL := 4) (ret := none) (by decide) rfl (Nat.le_of_ble_eq_true rfl) ?_
  intro p e s m below meth c ls hC hr hlk hnm hsz hw hl
  have hx := hC.1
  have hb := hC.2.1
  have hl : lv_has ls 4 [(0, .ref (ad 0)), (1, .int 67)] := hl
  refine lv_iload_n hx hb dX9_doesFault_0 rfl (lv_at hl 1 rfl) ?_
  refine lv_tableIn (tgt := 40) hx hb dX9_doesFault_1 (by decide) (by decide) (by rfl) (by decide) ?_
  refine lv_bipush (v := 8) hx hb dX9_doesFault_40 (by decide) ?_
  refine lv_aload_n hx hb dX9_doesFault_42 rfl (lv_at hl 0 rfl) ?_
  refine r_get hC hw rk9 in_X9_doesFault_9 0 (wMl 0 (by decide)) wM0 4 (by decide) lk_X9_doesFault_16 (v := .ref (ad 3)) rfl dX9_doesFault_43 ?_
  refine lv_aload_n hx hb dX9_doesFault_46 rfl (lv_at hl 0 rfl) ?_
  refine r_get hC hw rk9 in_X9_doesFault_9 0 (wMl 0 (by decide)) wM0 31 (by decide) lk_X9_doesFault_126 (v := .int (t 1)) rfl dX9_doesFault_47 ?_
  refine r_iald hC hw 3 (wMl 3 (by decide)) wM3 (by assumption) dX9_doesFault_50 ?_
  refine lv_bipush (v := 15) hx hb dX9_doesFault_51 (by decide) ?_
  refine lv_iand hx hb dX9_doesFault_53 ?_
  refine lv_iadd hx hb dX9_doesFault_54 ?_
  refine lv_istore_n (lv' := [(2, .int (8 + ((sA κ 2 (aN (t 1))) &&& 15))), (0, .ref (ad 0)), (1, .int 67)]) hx hb dX9_doesFault_55 rfl hl (by decide) rfl (fun ls hl => ?_)
  refine lv_aload_n hx hb dX9_doesFault_56 rfl (lv_at hl 1 rfl) ?_
  refine r_get hC hw rk9 in_X9_doesFault_9 0 (wMl 0 (by decide)) wM0 8 (by decide) lk_X9_doesFault_31 (v := .ref (ad 7)) rfl dX9_doesFault_57 ?_
  refine lv_aload_n hx hb dX9_doesFault_60 rfl (lv_at hl 1 rfl) ?_
  refine r_get hC hw rk9 in_X9_doesFault_9 0 (wMl 0 (by decide)) wM0 32 (by decide) lk_X9_doesFault_123 (v := .int (t 2)) rfl dX9_doesFault_61 ?_
  refine r_iald hC hw 7 (wMl 7 (by decide)) wM7 (by assumption) dX9_doesFault_64 ?_
  refine lv_istore_n (lv' := [(3, .int (sA κ 3 (aN (t 2)))), (2, .int (8 + ((sA κ 2 (aN (t 1))) &&& 15))), (0, .ref (ad 0)), (1, .int 67)]) hx hb dX9_doesFault_65 rfl hl (by decide) rfl (fun ls hl => ?_)
  refine lv_aload_n hx hb dX9_doesFault_66 rfl (lv_at hl 2 rfl) ?_
  refine r_get hC hw rk9 in_X9_doesFault_9 0 (wMl 0 (by decide)) wM0 8 (by decide) lk_X9_doesFault_31 (v := .ref (ad 7)) rfl dX9_doesFault_67 ?_
  refine lv_aload_n hx hb dX9_doesFault_70 rfl (lv_at hl 2 rfl) ?_
  refine r_get hC hw rk9 in_X9_doesFault_9 0 (wMl 0 (by decide)) wM0 30 (by decide) lk_X9_doesFault_142 (v := .int (t 0)) rfl dX9_doesFault_71 ?_
  refine lv_aload_n hx hb dX9_doesFault_74 rfl (lv_at hl 2 rfl) ?_
  refine lv_bipush (v := 15) hx hb dX9_doesFault_75 (by decide) ?_
  refine lv_iconst (v := 0) hx hb dX9_doesFault_77 (by decide) ?_
  refine r_ki hw (r_runV (rest := [.int (t 0), .ref (ad 7)]) hC hw 0 (c_X9_make (ad := ad) l _ 15 0 hmm) rk9 (wMl 0 (by decide)) wM0 2 gX9_doesFault_X9_make rfl rfl rfl (by decide +kernel) ⟨Nat.le_of_ble_eq_true rfl, Nat.le_of_ble_eq_true rfl⟩ rfl hl.1 rfl (Nat.le_of_ble_eq_true rfl) dX9_doesFault_78 ⟨Nat.le_of_ble_eq_true rfl, Nat.le_of_ble_eq_true rfl⟩) (fun r_2 u_3 H locs h_1 hw => ?_)
  obtain ⟨rfl, rfl⟩ := h_1
  dsimp only at hw
  refine r_iast hC hw 7 (wMl 7 (by decide)) wM7 (by assumption) dX9_doesFault_81 (fun H locs hw => ?_)
  replace hw := mS_refs hw
  refine lv_aload_n hx hb dX9_doesFault_82 rfl (lv_at hl 2 rfl) ?_
  refine r_get hC hw rk9 in_X9_doesFault_9 0 (wMl 0 (by decide)) wM0 14 (by decide) lk_X9_doesFault_49 (v := .ref (ad 13)) rfl dX9_doesFault_83 ?_
  refine lv_aload_n hx hb dX9_doesFault_86 rfl (lv_at hl 2 rfl) ?_
  refine r_get hC hw rk9 in_X9_doesFault_9 0 (wMl 0 (by decide)) wM0 8 (by decide) lk_X9_doesFault_31 (v := .ref (ad 7)) rfl dX9_doesFault_87 ?_
  refine lv_aload_n hx hb dX9_doesFault_90 rfl (lv_at hl 2 rfl) ?_
  refine r_get hC hw rk9 in_X9_doesFault_9 0 (wMl 0 (by decide)) wM0 30 (by decide) lk_X9_doesFault_142 (v := .int (t 0)) rfl dX9_doesFault_91 ?_
  refine r_iald hC hw 7 (wMl 7 (by decide)) wM7 (by assumption) dX9_doesFault_94 ?_
  refine r_topi (y := (sI κ 2) + 1) (uA_self _ _ _ _) ?_
  refine lv_iconst (v := 1) hx hb dX9_doesFault_95 (by decide) ?_
  refine lv_isub hx hb dX9_doesFault_96 ?_
  refine r_topi (y := sI κ 2) (ix1 _) ?_
  refine lv_iload_n hx hb dX9_doesFault_97 rfl (lv_at hl 1 rfl) ?_
  refine r_iast hC hw 13 (wMl 13 (by decide)) wM13 hmm dX9_doesFault_98 (fun H locs hw => ?_)
  replace hw := mS_tags hw
  refine lv_aload_n hx hb dX9_doesFault_99 rfl (lv_at hl 2 rfl) ?_
  refine r_get hC hw rk9 in_X9_doesFault_9 0 (wMl 0 (by decide)) wM0 16 (by decide) lk_X9_doesFault_55 (v := .ref (ad 15)) rfl dX9_doesFault_100 ?_
  refine lv_aload_n hx hb dX9_doesFault_103 rfl (lv_at hl 2 rfl) ?_
  refine r_get hC hw rk9 in_X9_doesFault_9 0 (wMl 0 (by decide)) wM0 8 (by decide) lk_X9_doesFault_31 (v := .ref (ad 7)) rfl dX9_doesFault_104 ?_
  refine lv_aload_n hx hb dX9_doesFault_107 rfl (lv_at hl 2 rfl) ?_
  refine r_get hC hw rk9 in_X9_doesFault_9 0 (wMl 0 (by decide)) wM0 30 (by decide) lk_X9_doesFault_142 (v := .int (t 0)) rfl dX9_doesFault_108 ?_
  refine r_iald hC hw 7 (wMl 7 (by decide)) wM7 (by assumption) dX9_doesFault_111 ?_
  refine r_topi (y := (sI κ 2) + 1) (by rw [uA_ne _ _ _ (by decide), uA_self]) ?_
  refine lv_iconst (v := 1) hx hb dX9_doesFault_112 (by decide) ?_
  refine lv_isub hx hb dX9_doesFault_113 ?_
  refine r_topi (y := sI κ 2) (ix1 _) ?_
  refine lv_iload_n hx hb dX9_doesFault_114 rfl (lv_at hl 0 rfl) ?_
  refine r_iast hC hw 15 (wMl 15 (by decide)) wM15 hmm dX9_doesFault_115 (fun H locs hw => ?_)
  replace hw := mS_nexts hw
  refine lv_goto (tgt := 245) hx hb dX9_doesFault_116 (by decide) ?_
  exact r_vret hC hr hlk hw ((uA (uA (uA (mk κ 15 0) 3 (aN (t 0)) ((sI κ 2) + 1)) 7 (aN (sI κ 2)) (8 + ((sA κ 2 (aN (t 1))) &&& 15))) 8 (aN (sI κ 2)) (sA κ 3 (aN (t 2)))), t) rfl rfl (Nat.le_of_ble_eq_true rfl) (Nat.le_of_ble_eq_true rfl) dX9_doesFault_245

