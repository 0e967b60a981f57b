set_option maxHeartbeats 4000000 in
set_option maxRecDepth 100000 in
theorem c_X9_one (l : Launch) {D : va_G} {q : Nat → ClassId} {ad : Nat → Nat} {κ : KS} {t : Nat → Int32} (sz : Nat) (hRS : RS κ) : Met l yX9_one wsX9_one (rmz 6 133) (va_Pc [.ref (ad 0)] (rPre D q (wM q ad κ t) sz)) (va_Qv (fun (u : KS × (Nat → Int32)) => u = pne (κ, t)) (fun (u : KS × (Nat → Int32)) tt => rPo D (rA (wM q ad κ t) sz) (wM q ad u.1 u.2) tt) (rA (wM q ad κ t) sz)) 0 0 (rA (wM q ad κ t) sz) := by
  obtain ⟨hW, ⟨hm_, h16, hh⟩, ⟨cn, h12, hcn⟩, hm, hT, ⟨pn, hpn, hpl⟩, hk, ho, hs, hN, h68⟩ := hRS
  have h6 := h600 (K := sI κ 4) hpl hpn
  have hc : vp_in (sI κ 6) 13 := by rw [hcn]; exact vp_in_nI (by omega) (by decide)
  have hia : oO κ = 68 → vp_in (oA κ) 8 := fun h => by
    have e : oK κ = 68 := by show aN (oO κ) = 68; rw [h]; decide
    have h1 := hs.1
    rw [e] at h1
    exact h1
  refine r_start (cc := cX9_one) (maxL := 3) (ret := none) (by decide) rfl (Nat.le_of_ble_eq_true rfl) ?_
  intro p e s m below meth c ls hC hr hlk hnm hsz hw hl
  have hx := hC.1
  have hb := hC.2.1
  have hl : lv_has ls 3 [(0, .ref (ad 0))] := hl
  refine lv_aload_n hx hb dX9_one_0 rfl (lv_at hl 0 rfl) ?_
  refine r_get hC hw rk9 in_X9_one_9 0 (wMl 0 (by decide)) wM0 0 (by decide) lk_X9_one_7 (v := .ref (ad 1)) rfl dX9_one_1 ?_
  refine lv_iconst (v := 4) hx hb dX9_one_4 (by decide) ?_
  refine lv_aload_n hx hb dX9_one_5 rfl (lv_at hl 0 rfl) ?_
  refine r_get hC hw rk9 in_X9_one_9 0 (wMl 0 (by decide)) wM0 19 (by decide) lk_X9_one_92 (v := .int (sI κ 4)) rfl dX9_one_6 ?_
  refine lv_imul hx hb dX9_one_9 ?_
  refine r_iald hC hw 1 (wMl 1 (by decide)) wM1 h6.1 dX9_one_10 ?_
  refine lv_istore_n (lv' := [(1, .int (sA κ 0 (aN (4 * (sI κ 4))))), (0, .ref (ad 0))]) hx hb dX9_one_11 rfl hl (by decide) rfl (fun ls hl => ?_)
  refine lv_aload_n hx hb dX9_one_12 rfl (lv_at hl 1 rfl) ?_
  refine lv_aload_n hx hb dX9_one_13 rfl (lv_at hl 1 rfl) ?_
  refine r_get hC hw rk9 in_X9_one_9 0 (wMl 0 (by decide)) wM0 0 (by decide) lk_X9_one_7 (v := .ref (ad 1)) rfl dX9_one_14 ?_
  refine lv_iconst (v := 4) hx hb dX9_one_17 (by decide) ?_
  refine lv_aload_n hx hb dX9_one_18 rfl (lv_at hl 1 rfl) ?_
  refine r_get hC hw rk9 in_X9_one_9 0 (wMl 0 (by decide)) wM0 19 (by decide) lk_X9_one_92 (v := .int (sI κ 4)) rfl dX9_one_19 ?_
  refine lv_imul hx hb dX9_one_22 ?_
  refine lv_iconst (v := 1) hx hb dX9_one_23 (by decide) ?_
  refine lv_iadd hx hb dX9_one_24 ?_
  refine r_iald hC hw 1 (wMl 1 (by decide)) wM1 h6.2.1 dX9_one_25 ?_
  refine r_put hC hw rk9 in_X9_one_9 0 (wMl 0 (by decide)) wM0 30 (by decide) lk_X9_one_142 rfl rfl rfl (Nat.le_of_ble_eq_true rfl) dX9_one_26 (fun H locs hw => ?_)
  replace hw := mP_a hw
  refine lv_aload_n hx hb dX9_one_29 rfl (lv_at hl 1 rfl) ?_
  refine lv_aload_n hx hb dX9_one_30 rfl (lv_at hl 1 rfl) ?_
  refine r_get hC hw rk9 in_X9_one_9 0 (wMl 0 (by decide)) wM0 0 (by decide) lk_X9_one_7 (v := .ref (ad 1)) rfl dX9_one_31 ?_
  refine lv_iconst (v := 4) hx hb dX9_one_34 (by decide) ?_
  refine lv_aload_n hx hb dX9_one_35 rfl (lv_at hl 1 rfl) ?_
  refine r_get hC hw rk9 in_X9_one_9 0 (wMl 0 (by decide)) wM0 19 (by decide) lk_X9_one_92 (v := .int (sI κ 4)) rfl dX9_one_36 ?_
  refine lv_imul hx hb dX9_one_39 ?_
  refine lv_iconst (v := 2) hx hb dX9_one_40 (by decide) ?_
  refine lv_iadd hx hb dX9_one_41 ?_
  refine r_iald hC hw 1 (wMl 1 (by decide)) wM1 h6.2.2.1 dX9_one_42 ?_
  refine r_put hC hw rk9 in_X9_one_9 0 (wMl 0 (by decide)) wM0 31 (by decide) lk_X9_one_126 rfl rfl rfl (Nat.le_of_ble_eq_true rfl) dX9_one_43 (fun H locs hw => ?_)
  replace hw := mP_b hw
  refine lv_aload_n hx hb dX9_one_46 rfl (lv_at hl 1 rfl) ?_
  refine lv_aload_n hx hb dX9_one_47 rfl (lv_at hl 1 rfl) ?_
  refine r_get hC hw rk9 in_X9_one_9 0 (wMl 0 (by decide)) wM0 0 (by decide) lk_X9_one_7 (v := .ref (ad 1)) rfl dX9_one_48 ?_
  refine lv_iconst (v := 4) hx hb dX9_one_51 (by decide) ?_
  refine lv_aload_n hx hb dX9_one_52 rfl (lv_at hl 1 rfl) ?_
  refine r_get hC hw rk9 in_X9_one_9 0 (wMl 0 (by decide)) wM0 19 (by decide) lk_X9_one_92 (v := .int (sI κ 4)) rfl dX9_one_53 ?_
  refine lv_imul hx hb dX9_one_56 ?_
  refine lv_iconst (v := 3) hx hb dX9_one_57 (by decide) ?_
  refine lv_iadd hx hb dX9_one_58 ?_
  refine r_iald hC hw 1 (wMl 1 (by decide)) wM1 h6.2.2.2 dX9_one_59 ?_
  refine r_put hC hw rk9 in_X9_one_9 0 (wMl 0 (by decide)) wM0 32 (by decide) lk_X9_one_123 rfl rfl rfl (Nat.le_of_ble_eq_true rfl) dX9_one_60 (fun H locs hw => ?_)
  replace hw := mP_c hw
  refine lv_aload_n hx hb dX9_one_63 rfl (lv_at hl 1 rfl) ?_
  refine lv_aload_n hx hb dX9_one_64 rfl (lv_at hl 1 rfl) ?_
  refine r_get hC hw rk9 in_X9_one_9 0 (wMl 0 (by decide)) wM0 19 (by decide) lk_X9_one_92 (v := .int (sI κ 4)) rfl dX9_one_65 ?_
  refine lv_iconst (v := 1) hx hb dX9_one_68 (by decide) ?_
  refine lv_iadd hx hb dX9_one_69 ?_
  refine r_put hC hw rk9 in_X9_one_9 0 (wMl 0 (by decide)) wM0 33 (by decide) lk_X9_one_174 rfl rfl rfl (Nat.le_of_ble_eq_true rfl) dX9_one_70 (fun H locs hw => ?_)
  replace hw := mP_after hw
  replace hw : rX D q (rA (wM q ad κ t) sz) s.heap s (wM q ad κ (t1 κ t)) H locs := hw
  refine lv_aload_n hx hb dX9_one_73 rfl (lv_at hl 1 rfl) ?_
  refine lv_iload_n hx hb dX9_one_74 rfl (lv_at hl 0 rfl) ?_
  refine r_ki hw (r_runV (rest := []) hC hw 0 (c_X9_whyNot (ad := ad) l _ (oK κ) (oO κ) hk ho (by exact hs) hW) rk9 (wMl 0 (by decide)) wM0 1 gX9_one_X9_whyNot rfl rfl rfl (by decide +kernel) ⟨Nat.le_of_ble_eq_true rfl, Nat.le_of_ble_eq_true rfl⟩ rfl hl.1 rfl (Nat.le_of_ble_eq_true rfl) dX9_one_75 ⟨Nat.le_of_ble_eq_true rfl, Nat.le_of_ble_eq_true rfl⟩) (fun r_2 u_3 H locs h_1 hw => ?_)
  replace h_1 : r_2 = oF κ := h_1
  subst h_1
  refine lv_istore_n (lv' := [(2, .int (oF κ)), (1, .int (sA κ 0 (aN (4 * (sI κ 4))))), (0, .ref (ad 0))]) hx hb dX9_one_78 rfl hl (by decide) rfl (fun ls hl => ?_)
  refine lv_iload_n hx hb dX9_one_79 rfl (lv_at hl 0 rfl) ?_
  refine lv_if_ne (tgt := 91) hx hb dX9_one_80 (by decide) (fun c_4 => ?_) (fun c_4 => ?_)
  · refine lv_aload_n hx hb dX9_one_91 rfl (lv_at hl 2 rfl) ?_
    refine lv_iload_n hx hb dX9_one_92 rfl (lv_at hl 1 rfl) ?_
    refine lv_iload_n hx hb dX9_one_93 rfl (lv_at hl 0 rfl) ?_
    refine r_kv hw (r_runV (rest := []) hC hw 0 (c_X9_fails (ad := ad) l _ (oO κ) (oF κ) hm_ cn hh h16 hcn h12 (fun h => by exact hia h)) rk9 (wMl 0 (by decide)) wM0 2 gX9_one_X9_fails rfl rfl rfl (by decide +kernel) ⟨Nat.le_of_ble_eq_true rfl, Nat.le_of_ble_eq_true rfl⟩ rfl hl.1 rfl (Nat.le_of_ble_eq_true rfl) dX9_one_94 ⟨Nat.le_of_ble_eq_true rfl, Nat.le_of_ble_eq_true rfl⟩) (fun u_7 H locs h_5 hw => ?_)
    have he : u_7 = p2 κ t := by rw [h_5]; exact (if_neg c_4).symm
    clear h_5
    obtain ⟨κ2, t2⟩ := u_7
    dsimp only at hw
    refine lv_aload_n hx hb dX9_one_97 rfl (lv_at hl 2 rfl) ?_
    refine lv_dup hx hb dX9_one_98 rfl ?_
    refine r_get hC hw rk9 in_X9_one_9 0 (wMl 0 (by decide)) wM0 20 (by decide) lk_X9_one_95 (v := .int (sI κ2 5)) rfl dX9_one_99 ?_
    refine lv_iconst (v := 1) hx hb dX9_one_102 (by decide) ?_
    refine lv_iadd hx hb dX9_one_103 ?_
    refine r_put hC hw rk9 in_X9_one_9 0 (wMl 0 (by decide)) wM0 20 (by decide) lk_X9_one_95 rfl rfl rfl (Nat.le_of_ble_eq_true rfl) dX9_one_104 (fun H locs hw => ?_)
    replace hw := mP_done hw
    refine lv_aload_n hx hb dX9_one_107 rfl (lv_at hl 2 rfl) ?_
    refine r_get hC hw rk9 in_X9_one_9 0 (wMl 0 (by decide)) wM0 18 (by decide) lk_X9_one_83 (v := .int (sI κ2 3)) rfl dX9_one_108 ?_
    refine lv_iconst (v := 1) hx hb dX9_one_111 (by decide) ?_
    refine lv_icmp_ne (tgt := 143) hx hb dX9_one_112 (by decide) (fun c_8 => ?_) (fun c_8 => ?_)
    · exact r_vret hC hr hlk hw ((uI κ2 5 ((sI κ2 5) + 1)), t2) rfl (by show _ = o3 (p2 κ t); rw [← he]; exact (if_neg c_8).symm) (Nat.le_of_ble_eq_true rfl) (Nat.le_of_ble_eq_true rfl) dX9_one_143
    · refine lv_aload_n hx hb dX9_one_115 rfl (lv_at hl 2 rfl) ?_
      refine lv_aload_n hx hb dX9_one_116 rfl (lv_at hl 2 rfl) ?_
      refine r_get hC hw rk9 in_X9_one_9 0 (wMl 0 (by decide)) wM0 33 (by decide) lk_X9_one_174 (v := .int (t2 3)) rfl dX9_one_117 ?_
      refine r_put hC hw rk9 in_X9_one_9 0 (wMl 0 (by decide)) wM0 19 (by decide) lk_X9_one_92 rfl rfl rfl (Nat.le_of_ble_eq_true rfl) dX9_one_120 (fun H locs hw => ?_)
      replace hw := mP_place hw
      refine lv_aload_n hx hb dX9_one_123 rfl (lv_at hl 2 rfl) ?_
      refine lv_aload_n hx hb dX9_one_124 rfl (lv_at hl 2 rfl) ?_
      refine r_get hC hw rk9 in_X9_one_9 0 (wMl 0 (by decide)) wM0 19 (by decide) lk_X9_one_92 (v := .int (t2 3)) rfl dX9_one_125 ?_
      refine lv_aload_n hx hb dX9_one_128 rfl (lv_at hl 2 rfl) ?_
      refine r_get hC hw rk9 in_X9_one_9 0 (wMl 0 (by decide)) wM0 1 (by decide) lk_X9_one_80 (v := .int (sI κ2 0)) rfl dX9_one_129 ?_
      refine lv_icmp_ge (tgt := 139) hx hb dX9_one_132 (by decide) (fun c_9 => ?_) (fun c_9 => ?_)
      · refine lv_iconst (v := 2) hx hb dX9_one_139 (by decide) ?_
        refine r_put hC hw rk9 in_X9_one_9 0 (wMl 0 (by decide)) wM0 18 (by decide) lk_X9_one_83 rfl rfl rfl (Nat.le_of_ble_eq_true rfl) dX9_one_140 (fun H locs hw => ?_)
        replace hw := mP_status hw
        exact r_vret hC hr hlk hw ((uI (uI (uI κ2 5 ((sI κ2 5) + 1)) 4 (t2 3)) 3 2), t2) rfl (by show _ = o3 (p2 κ t); rw [← he]; exact ((congrArg (fun z => (uI (uI (uI κ2 5 (sI κ2 5 + 1)) 4 (t2 3)) 3 z, t2)) (if_pos c_9).symm).trans (if_pos c_8).symm)) (Nat.le_of_ble_eq_true rfl) (Nat.le_of_ble_eq_true rfl) dX9_one_143
      · refine lv_iconst (v := 1) hx hb dX9_one_135 (by decide) ?_
        refine lv_goto (tgt := 140) hx hb dX9_one_136 (by decide) ?_
        refine r_put hC hw rk9 in_X9_one_9 0 (wMl 0 (by decide)) wM0 18 (by decide) lk_X9_one_83 rfl rfl rfl (Nat.le_of_ble_eq_true rfl) dX9_one_140 (fun H locs hw => ?_)
        replace hw := mP_status hw
        exact r_vret hC hr hlk hw ((uI (uI (uI κ2 5 ((sI κ2 5) + 1)) 4 (t2 3)) 3 1), t2) rfl (by show _ = o3 (p2 κ t); rw [← he]; exact ((congrArg (fun z => (uI (uI (uI κ2 5 (sI κ2 5 + 1)) 4 (t2 3)) 3 z, t2)) (if_neg c_9).symm).trans (if_pos c_8).symm)) (Nat.le_of_ble_eq_true rfl) (Nat.le_of_ble_eq_true rfl) dX9_one_143
  · refine lv_aload_n hx hb dX9_one_83 rfl (lv_at hl 2 rfl) ?_
    refine lv_iload_n hx hb dX9_one_84 rfl (lv_at hl 1 rfl) ?_
    refine r_kv hw (r_runV (rest := []) hC hw 0 (c_X9_does (ad := ad) l _ (oK κ) (oO κ) hk ho (by exact hs) hW (by exact c_4) (by exact hN c_4) hc hm hT (fun h => h68 h c_4)) rk9 (wMl 0 (by decide)) wM0 1 gX9_one_X9_does rfl rfl rfl (by decide +kernel) ⟨Nat.le_of_ble_eq_true rfl, Nat.le_of_ble_eq_true rfl⟩ rfl hl.1 rfl (Nat.le_of_ble_eq_true rfl) dX9_one_85 ⟨Nat.le_of_ble_eq_true rfl, Nat.le_of_ble_eq_true rfl⟩) (fun u_12 H locs h_10 hw => ?_)
    have he : u_12 = p2 κ t := by rw [h_10]; exact (if_pos c_4).symm
    clear h_10
    obtain ⟨κ2, t2⟩ := u_12
    dsimp only at hw
    refine lv_goto (tgt := 97) hx hb dX9_one_88 (by decide) ?_
    refine lv_aload_n hx hb dX9_one_97 rfl (lv_at hl 2 rfl) ?_
    refine lv_dup hx hb dX9_one_98 rfl ?_
    refine r_get hC hw rk9 in_X9_one_9 0 (wMl 0 (by decide)) wM0 20 (by decide) lk_X9_one_95 (v := .int (sI κ2 5)) rfl dX9_one_99 ?_
    refine lv_iconst (v := 1) hx hb dX9_one_102 (by decide) ?_
    refine lv_iadd hx hb dX9_one_103 ?_
    refine r_put hC hw rk9 in_X9_one_9 0 (wMl 0 (by decide)) wM0 20 (by decide) lk_X9_one_95 rfl rfl rfl (Nat.le_of_ble_eq_true rfl) dX9_one_104 (fun H locs hw => ?_)
    replace hw := mP_done hw
    refine lv_aload_n hx hb dX9_one_107 rfl (lv_at hl 2 rfl) ?_
    refine r_get hC hw rk9 in_X9_one_9 0 (wMl 0 (by decide)) wM0 18 (by decide) lk_X9_one_83 (v := .int (sI κ2 3)) rfl dX9_one_108 ?_
    refine lv_iconst (v := 1) hx hb dX9_one_111 (by decide) ?_
    refine lv_icmp_ne (tgt := 143) hx hb dX9_one_112 (by decide) (fun c_13 => ?_) (fun c_13 => ?_)
    · exact r_vret hC hr hlk hw ((uI κ2 5 ((sI κ2 5) + 1)), t2) rfl (by show _ = o3 (p2 κ t); rw [← he]; exact (if_neg c_13).symm) (Nat.le_of_ble_eq_true rfl) (Nat.le_of_ble_eq_true rfl) dX9_one_143
    · refine lv_aload_n hx hb dX9_one_115 rfl (lv_at hl 2 rfl) ?_
      refine lv_aload_n hx hb dX9_one_116 rfl (lv_at hl 2 rfl) ?_
      refine r_get hC hw rk9 in_X9_one_9 0 (wMl 0 (by decide)) wM0 33 (by decide) lk_X9_one_174 (v := .int (t2 3)) rfl dX9_one_117 ?_
      refine r_put hC hw rk9 in_X9_one_9 0 (wMl 0 (by decide)) wM0 19 (by decide) lk_X9_one_92 rfl rfl rfl (Nat.le_of_ble_eq_true rfl) dX9_one_120 (fun H locs hw => ?_)
      replace hw := mP_place hw
      refine lv_aload_n hx hb dX9_one_123 rfl (lv_at hl 2 rfl) ?_
      refine lv_aload_n hx hb dX9_one_124 rfl (lv_at hl 2 rfl) ?_
      refine r_get hC hw rk9 in_X9_one_9 0 (wMl 0 (by decide)) wM0 19 (by decide) lk_X9_one_92 (v := .int (t2 3)) rfl dX9_one_125 ?_
      refine lv_aload_n hx hb dX9_one_128 rfl (lv_at hl 2 rfl) ?_
      refine r_get hC hw rk9 in_X9_one_9 0 (wMl 0 (by decide)) wM0 1 (by decide) lk_X9_one_80 (v := .int (sI κ2 0)) rfl dX9_one_129 ?_
      refine lv_icmp_ge (tgt := 139) hx hb dX9_one_132 (by decide) (fun c_14 => ?_) (fun c_14 => ?_)
      · refine lv_iconst (v := 2) hx hb dX9_one_139 (by decide) ?_
        refine r_put hC hw rk9 in_X9_one_9 0 (wMl 0 (by decide)) wM0 18 (by decide) lk_X9_one_83 rfl rfl rfl (Nat.le_of_ble_eq_true rfl) dX9_one_140 (fun H locs hw => ?_)
        replace hw := mP_status hw
        exact r_vret hC hr hlk hw ((uI (uI (uI κ2 5 ((sI κ2 5) + 1)) 4 (t2 3)) 3 2), t2) rfl (by show _ = o3 (p2 κ t); rw [← he]; exact ((congrArg (fun z => (uI (uI (uI κ2 5 (sI κ2 5 + 1)) 4 (t2 3)) 3 z, t2)) (if_pos c_14).symm).trans (if_pos c_13).symm)) (Nat.le_of_ble_eq_true rfl) (Nat.le_of_ble_eq_true rfl) dX9_one_143
      · refine lv_iconst (v := 1) hx hb dX9_one_135 (by decide) ?_
        refine lv_goto (tgt := 140) hx hb dX9_one_136 (by decide) ?_
        refine r_put hC hw rk9 in_X9_one_9 0 (wMl 0 (by decide)) wM0 18 (by decide) lk_X9_one_83 rfl rfl rfl (Nat.le_of_ble_eq_true rfl) dX9_one_140 (fun H locs hw => ?_)
        replace hw := mP_status hw
        exact r_vret hC hr hlk hw ((uI (uI (uI κ2 5 ((sI κ2 5) + 1)) 4 (t2 3)) 3 1), t2) rfl (by show _ = o3 (p2 κ t); rw [← he]; exact ((congrArg (fun z => (uI (uI (uI κ2 5 (sI κ2 5 + 1)) 4 (t2 3)) 3 z, t2)) (if_neg c_14).symm).trans (if_pos c_13).symm)) (Nat.le_of_ble_eq_true rfl) (Nat.le_of_ble_eq_true rfl) dX9_one_143

set_option maxHeartbeats 4000000 in
set_option maxRecDepth 100000 in
theorem lp_X9_step {p : Program} {l : Launch} {e : Env} {R : Room} {s : State} {m : MethodId} {args : Array Value} {below : List Frame} {meth : Method} {c : Code} {cells slots : Nat} {Q : State → Prop} {D : va_G} {q : Nat → ClassId} {A : Nat → Prop} {H0 : Heap} {ad : Nat → Nat} (hC : CallFix p m c cX9_step 3 s args wsX9_step RX9) (hR : R = rmz 7 155) (h00 : cells = 0 ∧ slots = 0) (u0 : KS × (Nat → Int32)) (n0 : Int32) (N : Nat) (hn0 : n0 = nI N) (hN : N ≤ 100) (hinv : ∀ i, i < N → sI (pit u0 i).1 3 = 1 → RS (pit u0 i).1) (kk : ∀ (H : Heap) (locs : List Loc) (ls : Array Slot), rX D q A H0 s (wM q ad (pit u0 N).1 (pit u0 N).2) H locs → lv_has ls 3 [(0, .ref (ad 0))] → W p l e (rmz 7 155) s m args below meth c H locs 0 0 Q (F0 m 47 ls [])) : ∀ (n i : Nat) (K : Int32) (H : Heap) (locs : List Loc) (ls : Array Slot), K = nI i → i + n = N → rX D q A H0 s (wM q ad (pit u0 i).1 (pit u0 i).2) H locs → lv_has ls 3 [(2, .int K), (0, .ref (ad 0)), (1, .int n0)] → W p l e R s m args below meth c H locs cells slots Q (F0 m 24 ls []) := by
  subst hR
  obtain ⟨rfl, rfl⟩ := h00
  have hx := hC.1
  have hb := hC.2.1
  intro n
  induction n with
  | zero =>
    intro i K H locs ls hK hi hw hl
    refine lv_iload_n hx hb dX9_step_24 rfl (lv_at hl 0 rfl) ?_
    refine lv_iload_n hx hb dX9_step_25 rfl (lv_at hl 2 rfl) ?_
    refine lv_icmp_ge (tgt := 47) hx hb dX9_step_26 (by decide) (fun _ => ?_) (fun c_ => absurd (by rw [hn0, hK]; exact nI_le (by omega) (by omega)) c_)
    exact kk _ _ _ (by rw [show N = i by omega]; exact hw) (lv_sub hl [1] rfl)
  | succ n ih =>
    intro i K H locs ls hK hi hw hl
    refine lv_iload_n hx hb dX9_step_24 rfl (lv_at hl 0 rfl) ?_
    refine lv_iload_n hx hb dX9_step_25 rfl (lv_at hl 2 rfl) ?_
    refine lv_icmp_ge (tgt := 47) hx hb dX9_step_26 (by decide) (fun c_ => absurd c_ (by rw [hn0, hK]; exact nI_ge (by omega) (by omega))) (fun _ => ?_)
    refine lv_aload_n hx hb dX9_step_29 rfl (lv_at hl 1 rfl) ?_
    refine r_get hC hw rk9 in_X9_step_9 0 (wMl 0 (by decide)) wM0 18 (by decide) lk_X9_step_83 (v := .int (sI ((pit u0 i).1) 3)) rfl dX9_step_30 ?_
    refine lv_iconst (v := 1) hx hb dX9_step_33 (by decide) ?_
    refine lv_icmp_ne (tgt := 47) hx hb dX9_step_34 (by decide) (fun c_1 => ?_) (fun c_1 => ?_)
    · exact kk _ _ _ (by rw [show N = i + (n + 1) by omega, pit_stop c_1]; exact hw) (lv_sub hl [1] rfl)
    · refine lv_aload_n hx hb dX9_step_37 rfl (lv_at hl 1 rfl) ?_
      refine r_kv hw (r_runV (rest := []) hC hw 0 (c_X9_one (ad := ad) l _ (hinv i (by omega) c_1)) rk9 (wMl 0 (by decide)) wM0 0 gX9_step_X9_one rfl rfl rfl (by decide +kernel) ⟨Nat.le_of_ble_eq_true rfl, Nat.le_of_ble_eq_true rfl⟩ rfl hl.1 rfl (Nat.le_of_ble_eq_true rfl) dX9_step_38 ⟨Nat.le_of_ble_eq_true rfl, Nat.le_of_ble_eq_true rfl⟩) (fun u_4 H locs h_2 hw => ?_)
      rw [show pne ((pit u0 i).1, (pit u0 i).2) = pit u0 (i + 1) from (if_pos c_1).symm] at h_2
      subst h_2
      refine lv_iinc (v := K + 1) (lv' := [(2, .int (K + 1)), (0, .ref (ad 0)), (1, .int n0)]) hx hb dX9_step_41 hl (k := 0) rfl (by first | rfl | decide) (by decide) rfl (fun ls hl => ?_)
      refine lv_goto (tgt := 24) hx hb dX9_step_44 (by decide) ?_
      exact ih (i + 1) (K + 1) H locs ls (by rw [hK]; exact nI_1 i) (by omega) hw (lv_sub hl [0, 1, 2] rfl)

def stepR (κ : KS) (t : Nat → Int32) (n : Int32) : Int32 × (KS × (Nat → Int32)) := if sI κ 3 = 0 then (-1, (κ, t)) else if pIn n 0 100 then (sI (pit (κ, t) (aN n)).1 3 - 1, pit (κ, t) (aN n)) else (-2, (κ, t))
set_option maxHeartbeats 4000000 in
set_option maxRecDepth 100000 in
theorem c_X9_step (l : Launch) {D : va_G} {q : Nat → ClassId} {ad : Nat → Nat} {κ : KS} {t : Nat → Int32} (sz : Nat) (n0 : Int32) (hinv : ∀ i, i < aN n0 → sI (pit (κ, t) i).1 3 = 1 → RS (pit (κ, t) i).1) : Met l yX9_step wsX9_step (rmz 7 155) (va_Pc [.ref (ad 0), .int n0] (rPre D q (wM q ad κ t) sz)) (va_Qi (fun (r : Int32) (u : KS × (Nat → Int32)) => (r, u) = stepR κ t n0) (fun (u : KS × (Nat → Int32)) tt => rPo D (rA (wM q ad κ t) sz) (wM q ad u.1 u.2) tt) (rA (wM q ad κ t) sz)) 0 0 (rA (wM q ad κ t) sz) := by
  refine r_start (cc := cX9_step) (maxL := 3) (ret := (some .int)) (by decide) rfl (Nat.le_of_ble_eq_true rfl) ?_
  intro p e s m below meth c ls hC hr hlk hnm hsz hw hl
  have hx := hC.1
  have hb := hC.2.1
  have hl : lv_has ls 3 [(0, .ref (ad 0)), (1, .int n0)] := hl
  refine lv_aload_n hx hb dX9_step_0 rfl (lv_at hl 0 rfl) ?_
  refine r_get hC hw rk9 in_X9_step_9 0 (wMl 0 (by decide)) wM0 18 (by decide) lk_X9_step_83 (v := .int (sI κ 3)) rfl dX9_step_1 ?_
  refine lv_if_ne (tgt := 9) hx hb dX9_step_4 (by decide) (fun c_1 => ?_) (fun c_1 => ?_)
  · refine lv_iload_n hx hb dX9_step_9 rfl (lv_at hl 1 rfl) ?_
    refine lv_iconst (v := 0) hx hb dX9_step_10 (by decide) ?_
    refine lv_bipush (v := 100) hx hb dX9_step_11 (by decide) ?_
    refine r_ki hw (r_runS (rest := []) hC hw (c_X9_isIn l _ _ n0 0 100) 3 gX9_step_X9_isIn rfl rfl rfl (by decide +kernel) ⟨Nat.le_of_ble_eq_true rfl, Nat.le_of_ble_eq_true rfl⟩ rfl hl.1 rfl (Nat.le_of_ble_eq_true rfl) dX9_step_13 ⟨Nat.le_of_ble_eq_true rfl, Nat.le_of_ble_eq_true rfl⟩) (fun r_3 u_4 H locs h_2 hw => ?_)
    by_cases c_5 : pIn n0 0 100
    · rw [if_pos c_5] at h_2
      subst h_2
      refine lv_if_ne (tgt := 22) hx hb dX9_step_16 (by decide) (fun _ => ?_) (fun c_ => absurd c_ (by decide))
      refine lv_iconst (v := 0) hx hb dX9_step_22 (by decide) ?_
      refine lv_istore_n (lv' := [(2, .int 0), (0, .ref (ad 0)), (1, .int n0)]) hx hb dX9_step_23 rfl hl (by decide) rfl (fun ls hl => ?_)
      obtain ⟨N, hN, hn0⟩ := nI_100 c_5
      refine lp_X9_step hC rfl ⟨rfl, rfl⟩ (κ, t) n0 N hn0 hN (fun i hi h => hinv i (by rw [hn0, show aN (nI N) = N from nI_clamp (by omega)]; exact hi) h) (fun H locs ls hw hl => ?_) N 0 0 H locs ls nI_0.symm (by omega) hw (lv_sub hl [0, 1, 2] rfl)
      refine lv_aload_n hx hb dX9_step_47 rfl (lv_at hl 0 rfl) ?_
      refine r_get hC hw rk9 in_X9_step_9 0 (wMl 0 (by decide)) wM0 18 (by decide) lk_X9_step_83 (v := .int (sI ((pit (κ, t) N).1) 3)) rfl dX9_step_48 ?_
      refine lv_iconst (v := 1) hx hb dX9_step_51 (by decide) ?_
      refine lv_isub hx hb dX9_step_52 ?_
      exact r_iret hC hr hlk hw (pit (κ, t) N) rfl (by unfold stepR; rw [if_neg c_1, if_pos c_5, hn0, show aN (nI N) = N from nI_clamp (by omega)]) (Nat.le_of_ble_eq_true rfl) (Nat.le_of_ble_eq_true rfl) dX9_step_53
    · rw [if_neg c_5] at h_2
      subst h_2
      refine lv_if_ne (tgt := 22) hx hb dX9_step_16 (by decide) (fun c_ => absurd (by decide) c_) (fun _ => ?_)
      refine lv_bipush (v := (-2)) hx hb dX9_step_19 (by decide) ?_
      exact r_iret hC hr hlk hw (κ, t) rfl ((if_neg c_1).trans (if_neg c_5)).symm (Nat.le_of_ble_eq_true rfl) (Nat.le_of_ble_eq_true rfl) dX9_step_21
  · refine lv_iconst (v := (-1)) hx hb dX9_step_7 (by decide) ?_
    exact r_iret hC hr hlk hw (κ, t) rfl (if_pos c_1).symm (Nat.le_of_ble_eq_true rfl) (Nat.le_of_ble_eq_true rfl) dX9_step_8

