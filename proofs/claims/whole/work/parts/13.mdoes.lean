set_option maxHeartbeats 4000000 in
set_option maxRecDepth 100000 in
theorem c_X9_make (l : Launch) {D : va_G} {q : Nat → ClassId} {ad : Nat → Nat} {κ : KS} {t : Nat → Int32} (sz : Nat) (kd pl : Int32) (hmm : vp_in (sI κ 2) 60) : Met l yX9_make wsX9_make (rmz 0 0) (va_Pc [.ref (ad 0), .int kd, .int pl] (rPre D q (wM q ad κ t) sz)) (va_Qi (fun (r : Int32) (u : KS × (Nat → Int32)) => r = sI κ 2 + 1 ∧ u = (mk κ kd pl, t)) (fun (u : KS × (Nat → Int32)) tt => rPo D (rA (wM q ad κ t) sz) (wM q ad u.1 u.2) tt) (rA (wM q ad κ t) sz)) 0 0 (rA (wM q ad κ t) sz) := by
  refine r_start (cc := cX9_make) (maxL := 4) (ret := (some .int)) (by decide) rfl (Nat.le_of_ble_eq_true rfl) ?_
  intro p e s m below meth c ls hC hr hlk hnm hsz hw hl
  have hx := hC.1
  have hb := hC.2.1
  have hl : lv_has ls 4 [(0, .ref (ad 0)), (1, .int kd), (2, .int pl)] := hl
  refine lv_aload_n hx hb dX9_make_0 rfl (lv_at hl 0 rfl) ?_
  refine r_get hC hw rk9 in_X9_make_9 0 (wMl 0 (by decide)) wM0 9 (by decide) lk_X9_make_34 (v := .ref (ad 8)) rfl dX9_make_1 ?_
  refine lv_aload_n hx hb dX9_make_4 rfl (lv_at hl 0 rfl) ?_
  refine r_get hC hw rk9 in_X9_make_9 0 (wMl 0 (by decide)) wM0 17 (by decide) lk_X9_make_89 (v := .int (sI κ 2)) rfl dX9_make_5 ?_
  refine lv_iload_n hx hb dX9_make_8 rfl (lv_at hl 1 rfl) ?_
  refine r_iast hC hw 8 (wMl 8 (by decide)) wM8 hmm dX9_make_9 (fun H locs hw => ?_)
  replace hw := mS_kinds hw
  refine lv_aload_n hx hb dX9_make_10 rfl (lv_at hl 0 rfl) ?_
  refine r_get hC hw rk9 in_X9_make_9 0 (wMl 0 (by decide)) wM0 10 (by decide) lk_X9_make_37 (v := .ref (ad 9)) rfl dX9_make_11 ?_
  refine lv_aload_n hx hb dX9_make_14 rfl (lv_at hl 0 rfl) ?_
  refine r_get hC hw rk9 in_X9_make_9 0 (wMl 0 (by decide)) wM0 17 (by decide) lk_X9_make_89 (v := .int (sI κ 2)) rfl dX9_make_15 ?_
  refine lv_iload_n hx hb dX9_make_18 rfl (lv_at hl 2 rfl) ?_
  refine r_iast hC hw 9 (wMl 9 (by decide)) wM9 hmm dX9_make_19 (fun H locs hw => ?_)
  replace hw := mS_sizes hw
  refine lv_iconst (v := 0) hx hb dX9_make_20 (by decide) ?_
  refine lv_istore_n (lv' := [(3, .int 0), (0, .ref (ad 0)), (1, .int kd), (2, .int pl)]) hx hb dX9_make_21 rfl hl (by decide) rfl (fun ls hl => ?_)
  refine lv_iload_n hx hb dX9_make_22 rfl (lv_at hl 0 rfl) ?_
  refine lv_bipush (v := 12) hx hb dX9_make_23 (by decide) ?_
  refine lv_icmp_ge (tgt := 79) hx hb dX9_make_25 (by decide) (fun c_ => absurd c_ (by decide)) (fun _ => ?_)
  refine lv_aload_n hx hb dX9_make_28 rfl (lv_at hl 1 rfl) ?_
  refine r_get hC hw rk9 in_X9_make_9 0 (wMl 0 (by decide)) wM0 11 (by decide) lk_X9_make_40 (v := .ref (ad 10)) rfl dX9_make_29 ?_
  refine lv_bipush (v := 12) hx hb dX9_make_32 (by decide) ?_
  refine lv_aload_n hx hb dX9_make_34 rfl (lv_at hl 1 rfl) ?_
  refine r_get hC hw rk9 in_X9_make_9 0 (wMl 0 (by decide)) wM0 17 (by decide) lk_X9_make_89 (v := .int (sI κ 2)) rfl dX9_make_35 ?_
  refine lv_imul hx hb dX9_make_38 ?_
  refine lv_iload_n hx hb dX9_make_39 rfl (lv_at hl 0 rfl) ?_
  refine lv_iadd hx hb dX9_make_40 ?_
  refine lv_lconst (v := 0) hx hb dX9_make_41 (by decide) ?_
  refine r_last hC hw 10 (wMl 10 (by decide)) wM10 (ix60 hmm v12_0) dX9_make_42 (fun H locs hw => ?_)
  replace hw := mS_cells hw
  refine lv_aload_n hx hb dX9_make_43 rfl (lv_at hl 1 rfl) ?_
  refine r_get hC hw rk9 in_X9_make_9 0 (wMl 0 (by decide)) wM0 12 (by decide) lk_X9_make_43 (v := .ref (ad 11)) rfl dX9_make_44 ?_
  refine lv_bipush (v := 12) hx hb dX9_make_47 (by decide) ?_
  refine lv_aload_n hx hb dX9_make_49 rfl (lv_at hl 1 rfl) ?_
  refine r_get hC hw rk9 in_X9_make_9 0 (wMl 0 (by decide)) wM0 17 (by decide) lk_X9_make_89 (v := .int (sI κ 2)) rfl dX9_make_50 ?_
  refine lv_imul hx hb dX9_make_53 ?_
  refine lv_iload_n hx hb dX9_make_54 rfl (lv_at hl 0 rfl) ?_
  refine lv_iadd hx hb dX9_make_55 ?_
  refine lv_dconst0 hx hb dX9_make_56 ?_
  refine r_dast hC hw 11 (wMl 11 (by decide)) wM11 (ix60 hmm v12_0) dX9_make_57 (fun H locs hw => ?_)
  replace hw := mS_points hw
  refine lv_aload_n hx hb dX9_make_58 rfl (lv_at hl 1 rfl) ?_
  refine r_get hC hw rk9 in_X9_make_9 0 (wMl 0 (by decide)) wM0 13 (by decide) lk_X9_make_46 (v := .ref (ad 12)) rfl dX9_make_59 ?_
  refine lv_bipush (v := 12) hx hb dX9_make_62 (by decide) ?_
  refine lv_aload_n hx hb dX9_make_64 rfl (lv_at hl 1 rfl) ?_
  refine r_get hC hw rk9 in_X9_make_9 0 (wMl 0 (by decide)) wM0 17 (by decide) lk_X9_make_89 (v := .int (sI κ 2)) rfl dX9_make_65 ?_
  refine lv_imul hx hb dX9_make_68 ?_
  refine lv_iload_n hx hb dX9_make_69 rfl (lv_at hl 0 rfl) ?_
  refine lv_iadd hx hb dX9_make_70 ?_
  refine lv_iconst (v := 0) hx hb dX9_make_71 (by decide) ?_
  refine r_iast hC hw 12 (wMl 12 (by decide)) wM12 (ix60 hmm v12_0) dX9_make_72 (fun H locs hw => ?_)
  replace hw := mS_inner hw
  refine lv_iinc (v := 1) (lv' := [(3, .int 1), (0, .ref (ad 0)), (1, .int kd), (2, .int pl)]) hx hb dX9_make_73 hl (k := 0) rfl (by first | rfl | decide) (by decide) rfl (fun ls hl => ?_)
  refine lv_goto (tgt := 22) hx hb dX9_make_76 (by decide) ?_
  refine lv_iload_n hx hb dX9_make_22 rfl (lv_at hl 0 rfl) ?_
  refine lv_bipush (v := 12) hx hb dX9_make_23 (by decide) ?_
  refine lv_icmp_ge (tgt := 79) hx hb dX9_make_25 (by decide) (fun c_ => absurd c_ (by decide)) (fun _ => ?_)
  refine lv_aload_n hx hb dX9_make_28 rfl (lv_at hl 1 rfl) ?_
  refine r_get hC hw rk9 in_X9_make_9 0 (wMl 0 (by decide)) wM0 11 (by decide) lk_X9_make_40 (v := .ref (ad 10)) rfl dX9_make_29 ?_
  refine lv_bipush (v := 12) hx hb dX9_make_32 (by decide) ?_
  refine lv_aload_n hx hb dX9_make_34 rfl (lv_at hl 1 rfl) ?_
  refine r_get hC hw rk9 in_X9_make_9 0 (wMl 0 (by decide)) wM0 17 (by decide) lk_X9_make_89 (v := .int (sI κ 2)) rfl dX9_make_35 ?_
  refine lv_imul hx hb dX9_make_38 ?_
  refine lv_iload_n hx hb dX9_make_39 rfl (lv_at hl 0 rfl) ?_
  refine lv_iadd hx hb dX9_make_40 ?_
  refine lv_lconst (v := 0) hx hb dX9_make_41 (by decide) ?_
  refine r_last hC hw 10 (wMl 10 (by decide)) wM10 (ix60 hmm v12_1) dX9_make_42 (fun H locs hw => ?_)
  replace hw := mS_cells hw
  refine lv_aload_n hx hb dX9_make_43 rfl (lv_at hl 1 rfl) ?_
  refine r_get hC hw rk9 in_X9_make_9 0 (wMl 0 (by decide)) wM0 12 (by decide) lk_X9_make_43 (v := .ref (ad 11)) rfl dX9_make_44 ?_
  refine lv_bipush (v := 12) hx hb dX9_make_47 (by decide) ?_
  refine lv_aload_n hx hb dX9_make_49 rfl (lv_at hl 1 rfl) ?_
  refine r_get hC hw rk9 in_X9_make_9 0 (wMl 0 (by decide)) wM0 17 (by decide) lk_X9_make_89 (v := .int (sI κ 2)) rfl dX9_make_50 ?_
  refine lv_imul hx hb dX9_make_53 ?_
  refine lv_iload_n hx hb dX9_make_54 rfl (lv_at hl 0 rfl) ?_
  refine lv_iadd hx hb dX9_make_55 ?_
  refine lv_dconst0 hx hb dX9_make_56 ?_
  refine r_dast hC hw 11 (wMl 11 (by decide)) wM11 (ix60 hmm v12_1) dX9_make_57 (fun H locs hw => ?_)
  replace hw := mS_points hw
  refine lv_aload_n hx hb dX9_make_58 rfl (lv_at hl 1 rfl) ?_
  refine r_get hC hw rk9 in_X9_make_9 0 (wMl 0 (by decide)) wM0 13 (by decide) lk_X9_make_46 (v := .ref (ad 12)) rfl dX9_make_59 ?_
  refine lv_bipush (v := 12) hx hb dX9_make_62 (by decide) ?_
  refine lv_aload_n hx hb dX9_make_64 rfl (lv_at hl 1 rfl) ?_
  refine r_get hC hw rk9 in_X9_make_9 0 (wMl 0 (by decide)) wM0 17 (by decide) lk_X9_make_89 (v := .int (sI κ 2)) rfl dX9_make_65 ?_
  refine lv_imul hx hb dX9_make_68 ?_
  refine lv_iload_n hx hb dX9_make_69 rfl (lv_at hl 0 rfl) ?_
  refine lv_iadd hx hb dX9_make_70 ?_
  refine lv_iconst (v := 0) hx hb dX9_make_71 (by decide) ?_
  refine r_iast hC hw 12 (wMl 12 (by decide)) wM12 (ix60 hmm v12_1) dX9_make_72 (fun H locs hw => ?_)
  replace hw := mS_inner hw
  refine lv_iinc (v := 2) (lv' := [(3, .int 2), (0, .ref (ad 0)), (1, .int kd), (2, .int pl)]) hx hb dX9_make_73 hl (k := 0) rfl (by first | rfl | decide) (by decide) rfl (fun ls hl => ?_)
  refine lv_goto (tgt := 22) hx hb dX9_make_76 (by decide) ?_
  refine lv_iload_n hx hb dX9_make_22 rfl (lv_at hl 0 rfl) ?_
  refine lv_bipush (v := 12) hx hb dX9_make_23 (by decide) ?_
  refine lv_icmp_ge (tgt := 79) hx hb dX9_make_25 (by decide) (fun c_ => absurd c_ (by decide)) (fun _ => ?_)
  refine lv_aload_n hx hb dX9_make_28 rfl (lv_at hl 1 rfl) ?_
  refine r_get hC hw rk9 in_X9_make_9 0 (wMl 0 (by decide)) wM0 11 (by decide) lk_X9_make_40 (v := .ref (ad 10)) rfl dX9_make_29 ?_
  refine lv_bipush (v := 12) hx hb dX9_make_32 (by decide) ?_
  refine lv_aload_n hx hb dX9_make_34 rfl (lv_at hl 1 rfl) ?_
  refine r_get hC hw rk9 in_X9_make_9 0 (wMl 0 (by decide)) wM0 17 (by decide) lk_X9_make_89 (v := .int (sI κ 2)) rfl dX9_make_35 ?_
  refine lv_imul hx hb dX9_make_38 ?_
  refine lv_iload_n hx hb dX9_make_39 rfl (lv_at hl 0 rfl) ?_
  refine lv_iadd hx hb dX9_make_40 ?_
  refine lv_lconst (v := 0) hx hb dX9_make_41 (by decide) ?_
  refine r_last hC hw 10 (wMl 10 (by decide)) wM10 (ix60 hmm v12_2) dX9_make_42 (fun H locs hw => ?_)
  replace hw := mS_cells hw
  refine lv_aload_n hx hb dX9_make_43 rfl (lv_at hl 1 rfl) ?_
  refine r_get hC hw rk9 in_X9_make_9 0 (wMl 0 (by decide)) wM0 12 (by decide) lk_X9_make_43 (v := .ref (ad 11)) rfl dX9_make_44 ?_
  refine lv_bipush (v := 12) hx hb dX9_make_47 (by decide) ?_
  refine lv_aload_n hx hb dX9_make_49 rfl (lv_at hl 1 rfl) ?_
  refine r_get hC hw rk9 in_X9_make_9 0 (wMl 0 (by decide)) wM0 17 (by decide) lk_X9_make_89 (v := .int (sI κ 2)) rfl dX9_make_50 ?_
  refine lv_imul hx hb dX9_make_53 ?_
  refine lv_iload_n hx hb dX9_make_54 rfl (lv_at hl 0 rfl) ?_
  refine lv_iadd hx hb dX9_make_55 ?_
  refine lv_dconst0 hx hb dX9_make_56 ?_
  refine r_dast hC hw 11 (wMl 11 (by decide)) wM11 (ix60 hmm v12_2) dX9_make_57 (fun H locs hw => ?_)
  replace hw := mS_points hw
  refine lv_aload_n hx hb dX9_make_58 rfl (lv_at hl 1 rfl) ?_
  refine r_get hC hw rk9 in_X9_make_9 0 (wMl 0 (by decide)) wM0 13 (by decide) lk_X9_make_46 (v := .ref (ad 12)) rfl dX9_make_59 ?_
  refine lv_bipush (v := 12) hx hb dX9_make_62 (by decide) ?_
  refine lv_aload_n hx hb dX9_make_64 rfl (lv_at hl 1 rfl) ?_
  refine r_get hC hw rk9 in_X9_make_9 0 (wMl 0 (by decide)) wM0 17 (by decide) lk_X9_make_89 (v := .int (sI κ 2)) rfl dX9_make_65 ?_
  refine lv_imul hx hb dX9_make_68 ?_
  refine lv_iload_n hx hb dX9_make_69 rfl (lv_at hl 0 rfl) ?_
  refine lv_iadd hx hb dX9_make_70 ?_
  refine lv_iconst (v := 0) hx hb dX9_make_71 (by decide) ?_
  refine r_iast hC hw 12 (wMl 12 (by decide)) wM12 (ix60 hmm v12_2) dX9_make_72 (fun H locs hw => ?_)
  replace hw := mS_inner hw
  refine lv_iinc (v := 3) (lv' := [(3, .int 3), (0, .ref (ad 0)), (1, .int kd), (2, .int pl)]) hx hb dX9_make_73 hl (k := 0) rfl (by first | rfl | decide) (by decide) rfl (fun ls hl => ?_)
  refine lv_goto (tgt := 22) hx hb dX9_make_76 (by decide) ?_
  refine lv_iload_n hx hb dX9_make_22 rfl (lv_at hl 0 rfl) ?_
  refine lv_bipush (v := 12) hx hb dX9_make_23 (by decide) ?_
  refine lv_icmp_ge (tgt := 79) hx hb dX9_make_25 (by decide) (fun c_ => absurd c_ (by decide)) (fun _ => ?_)
  refine lv_aload_n hx hb dX9_make_28 rfl (lv_at hl 1 rfl) ?_
  refine r_get hC hw rk9 in_X9_make_9 0 (wMl 0 (by decide)) wM0 11 (by decide) lk_X9_make_40 (v := .ref (ad 10)) rfl dX9_make_29 ?_
  refine lv_bipush (v := 12) hx hb dX9_make_32 (by decide) ?_
  refine lv_aload_n hx hb dX9_make_34 rfl (lv_at hl 1 rfl) ?_
  refine r_get hC hw rk9 in_X9_make_9 0 (wMl 0 (by decide)) wM0 17 (by decide) lk_X9_make_89 (v := .int (sI κ 2)) rfl dX9_make_35 ?_
  refine lv_imul hx hb dX9_make_38 ?_
  refine lv_iload_n hx hb dX9_make_39 rfl (lv_at hl 0 rfl) ?_
  refine lv_iadd hx hb dX9_make_40 ?_
  refine lv_lconst (v := 0) hx hb dX9_make_41 (by decide) ?_
  refine r_last hC hw 10 (wMl 10 (by decide)) wM10 (ix60 hmm v12_3) dX9_make_42 (fun H locs hw => ?_)
  replace hw := mS_cells hw
  refine lv_aload_n hx hb dX9_make_43 rfl (lv_at hl 1 rfl) ?_
  refine r_get hC hw rk9 in_X9_make_9 0 (wMl 0 (by decide)) wM0 12 (by decide) lk_X9_make_43 (v := .ref (ad 11)) rfl dX9_make_44 ?_
  refine lv_bipush (v := 12) hx hb dX9_make_47 (by decide) ?_
  refine lv_aload_n hx hb dX9_make_49 rfl (lv_at hl 1 rfl) ?_
  refine r_get hC hw rk9 in_X9_make_9 0 (wMl 0 (by decide)) wM0 17 (by decide) lk_X9_make_89 (v := .int (sI κ 2)) rfl dX9_make_50 ?_
  refine lv_imul hx hb dX9_make_53 ?_
  refine lv_iload_n hx hb dX9_make_54 rfl (lv_at hl 0 rfl) ?_
  refine lv_iadd hx hb dX9_make_55 ?_
  refine lv_dconst0 hx hb dX9_make_56 ?_
  refine r_dast hC hw 11 (wMl 11 (by decide)) wM11 (ix60 hmm v12_3) dX9_make_57 (fun H locs hw => ?_)
  replace hw := mS_points hw
  refine lv_aload_n hx hb dX9_make_58 rfl (lv_at hl 1 rfl) ?_
  refine r_get hC hw rk9 in_X9_make_9 0 (wMl 0 (by decide)) wM0 13 (by decide) lk_X9_make_46 (v := .ref (ad 12)) rfl dX9_make_59 ?_
  refine lv_bipush (v := 12) hx hb dX9_make_62 (by decide) ?_
  refine lv_aload_n hx hb dX9_make_64 rfl (lv_at hl 1 rfl) ?_
  refine r_get hC hw rk9 in_X9_make_9 0 (wMl 0 (by decide)) wM0 17 (by decide) lk_X9_make_89 (v := .int (sI κ 2)) rfl dX9_make_65 ?_
  refine lv_imul hx hb dX9_make_68 ?_
  refine lv_iload_n hx hb dX9_make_69 rfl (lv_at hl 0 rfl) ?_
  refine lv_iadd hx hb dX9_make_70 ?_
  refine lv_iconst (v := 0) hx hb dX9_make_71 (by decide) ?_
  refine r_iast hC hw 12 (wMl 12 (by decide)) wM12 (ix60 hmm v12_3) dX9_make_72 (fun H locs hw => ?_)
  replace hw := mS_inner hw
  refine lv_iinc (v := 4) (lv' := [(3, .int 4), (0, .ref (ad 0)), (1, .int kd), (2, .int pl)]) hx hb dX9_make_73 hl (k := 0) rfl (by first | rfl | decide) (by decide) rfl (fun ls hl => ?_)
  refine lv_goto (tgt := 22) hx hb dX9_make_76 (by decide) ?_
  refine lv_iload_n hx hb dX9_make_22 rfl (lv_at hl 0 rfl) ?_
  refine lv_bipush (v := 12) hx hb dX9_make_23 (by decide) ?_
  refine lv_icmp_ge (tgt := 79) hx hb dX9_make_25 (by decide) (fun c_ => absurd c_ (by decide)) (fun _ => ?_)
  refine lv_aload_n hx hb dX9_make_28 rfl (lv_at hl 1 rfl) ?_
  refine r_get hC hw rk9 in_X9_make_9 0 (wMl 0 (by decide)) wM0 11 (by decide) lk_X9_make_40 (v := .ref (ad 10)) rfl dX9_make_29 ?_
  refine lv_bipush (v := 12) hx hb dX9_make_32 (by decide) ?_
  refine lv_aload_n hx hb dX9_make_34 rfl (lv_at hl 1 rfl) ?_
  refine r_get hC hw rk9 in_X9_make_9 0 (wMl 0 (by decide)) wM0 17 (by decide) lk_X9_make_89 (v := .int (sI κ 2)) rfl dX9_make_35 ?_
  refine lv_imul hx hb dX9_make_38 ?_
  refine lv_iload_n hx hb dX9_make_39 rfl (lv_at hl 0 rfl) ?_
  refine lv_iadd hx hb dX9_make_40 ?_
  refine lv_lconst (v := 0) hx hb dX9_make_41 (by decide) ?_
  refine r_last hC hw 10 (wMl 10 (by decide)) wM10 (ix60 hmm v12_4) dX9_make_42 (fun H locs hw => ?_)
  replace hw := mS_cells hw
  refine lv_aload_n hx hb dX9_make_43 rfl (lv_at hl 1 rfl) ?_
  refine r_get hC hw rk9 in_X9_make_9 0 (wMl 0 (by decide)) wM0 12 (by decide) lk_X9_make_43 (v := .ref (ad 11)) rfl dX9_make_44 ?_
  refine lv_bipush (v := 12) hx hb dX9_make_47 (by decide) ?_
  refine lv_aload_n hx hb dX9_make_49 rfl (lv_at hl 1 rfl) ?_
  refine r_get hC hw rk9 in_X9_make_9 0 (wMl 0 (by decide)) wM0 17 (by decide) lk_X9_make_89 (v := .int (sI κ 2)) rfl dX9_make_50 ?_
  refine lv_imul hx hb dX9_make_53 ?_
  refine lv_iload_n hx hb dX9_make_54 rfl (lv_at hl 0 rfl) ?_
  refine lv_iadd hx hb dX9_make_55 ?_
  refine lv_dconst0 hx hb dX9_make_56 ?_
  refine r_dast hC hw 11 (wMl 11 (by decide)) wM11 (ix60 hmm v12_4) dX9_make_57 (fun H locs hw => ?_)
  replace hw := mS_points hw
  refine lv_aload_n hx hb dX9_make_58 rfl (lv_at hl 1 rfl) ?_
  refine r_get hC hw rk9 in_X9_make_9 0 (wMl 0 (by decide)) wM0 13 (by decide) lk_X9_make_46 (v := .ref (ad 12)) rfl dX9_make_59 ?_
  refine lv_bipush (v := 12) hx hb dX9_make_62 (by decide) ?_
  refine lv_aload_n hx hb dX9_make_64 rfl (lv_at hl 1 rfl) ?_
  refine r_get hC hw rk9 in_X9_make_9 0 (wMl 0 (by decide)) wM0 17 (by decide) lk_X9_make_89 (v := .int (sI κ 2)) rfl dX9_make_65 ?_
  refine lv_imul hx hb dX9_make_68 ?_
  refine lv_iload_n hx hb dX9_make_69 rfl (lv_at hl 0 rfl) ?_
  refine lv_iadd hx hb dX9_make_70 ?_
  refine lv_iconst (v := 0) hx hb dX9_make_71 (by decide) ?_
  refine r_iast hC hw 12 (wMl 12 (by decide)) wM12 (ix60 hmm v12_4) dX9_make_72 (fun H locs hw => ?_)
  replace hw := mS_inner hw
  refine lv_iinc (v := 5) (lv' := [(3, .int 5), (0, .ref (ad 0)), (1, .int kd), (2, .int pl)]) hx hb dX9_make_73 hl (k := 0) rfl (by first | rfl | decide) (by decide) rfl (fun ls hl => ?_)
  refine lv_goto (tgt := 22) hx hb dX9_make_76 (by decide) ?_
  refine lv_iload_n hx hb dX9_make_22 rfl (lv_at hl 0 rfl) ?_
  refine lv_bipush (v := 12) hx hb dX9_make_23 (by decide) ?_
  refine lv_icmp_ge (tgt := 79) hx hb dX9_make_25 (by decide) (fun c_ => absurd c_ (by decide)) (fun _ => ?_)
  refine lv_aload_n hx hb dX9_make_28 rfl (lv_at hl 1 rfl) ?_
  refine r_get hC hw rk9 in_X9_make_9 0 (wMl 0 (by decide)) wM0 11 (by decide) lk_X9_make_40 (v := .ref (ad 10)) rfl dX9_make_29 ?_
  refine lv_bipush (v := 12) hx hb dX9_make_32 (by decide) ?_
  refine lv_aload_n hx hb dX9_make_34 rfl (lv_at hl 1 rfl) ?_
  refine r_get hC hw rk9 in_X9_make_9 0 (wMl 0 (by decide)) wM0 17 (by decide) lk_X9_make_89 (v := .int (sI κ 2)) rfl dX9_make_35 ?_
  refine lv_imul hx hb dX9_make_38 ?_
  refine lv_iload_n hx hb dX9_make_39 rfl (lv_at hl 0 rfl) ?_
  refine lv_iadd hx hb dX9_make_40 ?_
  refine lv_lconst (v := 0) hx hb dX9_make_41 (by decide) ?_
  refine r_last hC hw 10 (wMl 10 (by decide)) wM10 (ix60 hmm v12_5) dX9_make_42 (fun H locs hw => ?_)
  replace hw := mS_cells hw
  refine lv_aload_n hx hb dX9_make_43 rfl (lv_at hl 1 rfl) ?_
  refine r_get hC hw rk9 in_X9_make_9 0 (wMl 0 (by decide)) wM0 12 (by decide) lk_X9_make_43 (v := .ref (ad 11)) rfl dX9_make_44 ?_
  refine lv_bipush (v := 12) hx hb dX9_make_47 (by decide) ?_
  refine lv_aload_n hx hb dX9_make_49 rfl (lv_at hl 1 rfl) ?_
  refine r_get hC hw rk9 in_X9_make_9 0 (wMl 0 (by decide)) wM0 17 (by decide) lk_X9_make_89 (v := .int (sI κ 2)) rfl dX9_make_50 ?_
  refine lv_imul hx hb dX9_make_53 ?_
  refine lv_iload_n hx hb dX9_make_54 rfl (lv_at hl 0 rfl) ?_
  refine lv_iadd hx hb dX9_make_55 ?_
  refine lv_dconst0 hx hb dX9_make_56 ?_
  refine r_dast hC hw 11 (wMl 11 (by decide)) wM11 (ix60 hmm v12_5) dX9_make_57 (fun H locs hw => ?_)
  replace hw := mS_points hw
  refine lv_aload_n hx hb dX9_make_58 rfl (lv_at hl 1 rfl) ?_
  refine r_get hC hw rk9 in_X9_make_9 0 (wMl 0 (by decide)) wM0 13 (by decide) lk_X9_make_46 (v := .ref (ad 12)) rfl dX9_make_59 ?_
  refine lv_bipush (v := 12) hx hb dX9_make_62 (by decide) ?_
  refine lv_aload_n hx hb dX9_make_64 rfl (lv_at hl 1 rfl) ?_
  refine r_get hC hw rk9 in_X9_make_9 0 (wMl 0 (by decide)) wM0 17 (by decide) lk_X9_make_89 (v := .int (sI κ 2)) rfl dX9_make_65 ?_
  refine lv_imul hx hb dX9_make_68 ?_
  refine lv_iload_n hx hb dX9_make_69 rfl (lv_at hl 0 rfl) ?_
  refine lv_iadd hx hb dX9_make_70 ?_
  refine lv_iconst (v := 0) hx hb dX9_make_71 (by decide) ?_
  refine r_iast hC hw 12 (wMl 12 (by decide)) wM12 (ix60 hmm v12_5) dX9_make_72 (fun H locs hw => ?_)
  replace hw := mS_inner hw
  refine lv_iinc (v := 6) (lv' := [(3, .int 6), (0, .ref (ad 0)), (1, .int kd), (2, .int pl)]) hx hb dX9_make_73 hl (k := 0) rfl (by first | rfl | decide) (by decide) rfl (fun ls hl => ?_)
  refine lv_goto (tgt := 22) hx hb dX9_make_76 (by decide) ?_
  refine lv_iload_n hx hb dX9_make_22 rfl (lv_at hl 0 rfl) ?_
  refine lv_bipush (v := 12) hx hb dX9_make_23 (by decide) ?_
  refine lv_icmp_ge (tgt := 79) hx hb dX9_make_25 (by decide) (fun c_ => absurd c_ (by decide)) (fun _ => ?_)
  refine lv_aload_n hx hb dX9_make_28 rfl (lv_at hl 1 rfl) ?_
  refine r_get hC hw rk9 in_X9_make_9 0 (wMl 0 (by decide)) wM0 11 (by decide) lk_X9_make_40 (v := .ref (ad 10)) rfl dX9_make_29 ?_
  refine lv_bipush (v := 12) hx hb dX9_make_32 (by decide) ?_
  refine lv_aload_n hx hb dX9_make_34 rfl (lv_at hl 1 rfl) ?_
  refine r_get hC hw rk9 in_X9_make_9 0 (wMl 0 (by decide)) wM0 17 (by decide) lk_X9_make_89 (v := .int (sI κ 2)) rfl dX9_make_35 ?_
  refine lv_imul hx hb dX9_make_38 ?_
  refine lv_iload_n hx hb dX9_make_39 rfl (lv_at hl 0 rfl) ?_
  refine lv_iadd hx hb dX9_make_40 ?_
  refine lv_lconst (v := 0) hx hb dX9_make_41 (by decide) ?_
  refine r_last hC hw 10 (wMl 10 (by decide)) wM10 (ix60 hmm v12_6) dX9_make_42 (fun H locs hw => ?_)
  replace hw := mS_cells hw
  refine lv_aload_n hx hb dX9_make_43 rfl (lv_at hl 1 rfl) ?_
  refine r_get hC hw rk9 in_X9_make_9 0 (wMl 0 (by decide)) wM0 12 (by decide) lk_X9_make_43 (v := .ref (ad 11)) rfl dX9_make_44 ?_
  refine lv_bipush (v := 12) hx hb dX9_make_47 (by decide) ?_
  refine lv_aload_n hx hb dX9_make_49 rfl (lv_at hl 1 rfl) ?_
  refine r_get hC hw rk9 in_X9_make_9 0 (wMl 0 (by decide)) wM0 17 (by decide) lk_X9_make_89 (v := .int (sI κ 2)) rfl dX9_make_50 ?_
  refine lv_imul hx hb dX9_make_53 ?_
  refine lv_iload_n hx hb dX9_make_54 rfl (lv_at hl 0 rfl) ?_
  refine lv_iadd hx hb dX9_make_55 ?_
  refine lv_dconst0 hx hb dX9_make_56 ?_
  refine r_dast hC hw 11 (wMl 11 (by decide)) wM11 (ix60 hmm v12_6) dX9_make_57 (fun H locs hw => ?_)
  replace hw := mS_points hw
  refine lv_aload_n hx hb dX9_make_58 rfl (lv_at hl 1 rfl) ?_
  refine r_get hC hw rk9 in_X9_make_9 0 (wMl 0 (by decide)) wM0 13 (by decide) lk_X9_make_46 (v := .ref (ad 12)) rfl dX9_make_59 ?_
  refine lv_bipush (v := 12) hx hb dX9_make_62 (by decide) ?_
  refine lv_aload_n hx hb dX9_make_64 rfl (lv_at hl 1 rfl) ?_
  refine r_get hC hw rk9 in_X9_make_9 0 (wMl 0 (by decide)) wM0 17 (by decide) lk_X9_make_89 (v := .int (sI κ 2)) rfl dX9_make_65 ?_
  refine lv_imul hx hb dX9_make_68 ?_
  refine lv_iload_n hx hb dX9_make_69 rfl (lv_at hl 0 rfl) ?_
  refine lv_iadd hx hb dX9_make_70 ?_
  refine lv_iconst (v := 0) hx hb dX9_make_71 (by decide) ?_
  refine r_iast hC hw 12 (wMl 12 (by decide)) wM12 (ix60 hmm v12_6) dX9_make_72 (fun H locs hw => ?_)
  replace hw := mS_inner hw
  refine lv_iinc (v := 7) (lv' := [(3, .int 7), (0, .ref (ad 0)), (1, .int kd), (2, .int pl)]) hx hb dX9_make_73 hl (k := 0) rfl (by first | rfl | decide) (by decide) rfl (fun ls hl => ?_)
  refine lv_goto (tgt := 22) hx hb dX9_make_76 (by decide) ?_
  refine lv_iload_n hx hb dX9_make_22 rfl (lv_at hl 0 rfl) ?_
  refine lv_bipush (v := 12) hx hb dX9_make_23 (by decide) ?_
  refine lv_icmp_ge (tgt := 79) hx hb dX9_make_25 (by decide) (fun c_ => absurd c_ (by decide)) (fun _ => ?_)
  refine lv_aload_n hx hb dX9_make_28 rfl (lv_at hl 1 rfl) ?_
  refine r_get hC hw rk9 in_X9_make_9 0 (wMl 0 (by decide)) wM0 11 (by decide) lk_X9_make_40 (v := .ref (ad 10)) rfl dX9_make_29 ?_
  refine lv_bipush (v := 12) hx hb dX9_make_32 (by decide) ?_
  refine lv_aload_n hx hb dX9_make_34 rfl (lv_at hl 1 rfl) ?_
  refine r_get hC hw rk9 in_X9_make_9 0 (wMl 0 (by decide)) wM0 17 (by decide) lk_X9_make_89 (v := .int (sI κ 2)) rfl dX9_make_35 ?_
  refine lv_imul hx hb dX9_make_38 ?_
  refine lv_iload_n hx hb dX9_make_39 rfl (lv_at hl 0 rfl) ?_
  refine lv_iadd hx hb dX9_make_40 ?_
  refine lv_lconst (v := 0) hx hb dX9_make_41 (by decide) ?_
  refine r_last hC hw 10 (wMl 10 (by decide)) wM10 (ix60 hmm v12_7) dX9_make_42 (fun H locs hw => ?_)
  replace hw := mS_cells hw
  refine lv_aload_n hx hb dX9_make_43 rfl (lv_at hl 1 rfl) ?_
  refine r_get hC hw rk9 in_X9_make_9 0 (wMl 0 (by decide)) wM0 12 (by decide) lk_X9_make_43 (v := .ref (ad 11)) rfl dX9_make_44 ?_
  refine lv_bipush (v := 12) hx hb dX9_make_47 (by decide) ?_
  refine lv_aload_n hx hb dX9_make_49 rfl (lv_at hl 1 rfl) ?_
  refine r_get hC hw rk9 in_X9_make_9 0 (wMl 0 (by decide)) wM0 17 (by decide) lk_X9_make_89 (v := .int (sI κ 2)) rfl dX9_make_50 ?_
  refine lv_imul hx hb dX9_make_53 ?_
  refine lv_iload_n hx hb dX9_make_54 rfl (lv_at hl 0 rfl) ?_
  refine lv_iadd hx hb dX9_make_55 ?_
  refine lv_dconst0 hx hb dX9_make_56 ?_
  refine r_dast hC hw 11 (wMl 11 (by decide)) wM11 (ix60 hmm v12_7) dX9_make_57 (fun H locs hw => ?_)
  replace hw := mS_points hw
  refine lv_aload_n hx hb dX9_make_58 rfl (lv_at hl 1 rfl) ?_
  refine r_get hC hw rk9 in_X9_make_9 0 (wMl 0 (by decide)) wM0 13 (by decide) lk_X9_make_46 (v := .ref (ad 12)) rfl dX9_make_59 ?_
  refine lv_bipush (v := 12) hx hb dX9_make_62 (by decide) ?_
  refine lv_aload_n hx hb dX9_make_64 rfl (lv_at hl 1 rfl) ?_
  refine r_get hC hw rk9 in_X9_make_9 0 (wMl 0 (by decide)) wM0 17 (by decide) lk_X9_make_89 (v := .int (sI κ 2)) rfl dX9_make_65 ?_
  refine lv_imul hx hb dX9_make_68 ?_
  refine lv_iload_n hx hb dX9_make_69 rfl (lv_at hl 0 rfl) ?_
  refine lv_iadd hx hb dX9_make_70 ?_
  refine lv_iconst (v := 0) hx hb dX9_make_71 (by decide) ?_
  refine r_iast hC hw 12 (wMl 12 (by decide)) wM12 (ix60 hmm v12_7) dX9_make_72 (fun H locs hw => ?_)
  replace hw := mS_inner hw
  refine lv_iinc (v := 8) (lv' := [(3, .int 8), (0, .ref (ad 0)), (1, .int kd), (2, .int pl)]) hx hb dX9_make_73 hl (k := 0) rfl (by first | rfl | decide) (by decide) rfl (fun ls hl => ?_)
  refine lv_goto (tgt := 22) hx hb dX9_make_76 (by decide) ?_
  refine lv_iload_n hx hb dX9_make_22 rfl (lv_at hl 0 rfl) ?_
  refine lv_bipush (v := 12) hx hb dX9_make_23 (by decide) ?_
  refine lv_icmp_ge (tgt := 79) hx hb dX9_make_25 (by decide) (fun c_ => absurd c_ (by decide)) (fun _ => ?_)
  refine lv_aload_n hx hb dX9_make_28 rfl (lv_at hl 1 rfl) ?_
  refine r_get hC hw rk9 in_X9_make_9 0 (wMl 0 (by decide)) wM0 11 (by decide) lk_X9_make_40 (v := .ref (ad 10)) rfl dX9_make_29 ?_
  refine lv_bipush (v := 12) hx hb dX9_make_32 (by decide) ?_
  refine lv_aload_n hx hb dX9_make_34 rfl (lv_at hl 1 rfl) ?_
  refine r_get hC hw rk9 in_X9_make_9 0 (wMl 0 (by decide)) wM0 17 (by decide) lk_X9_make_89 (v := .int (sI κ 2)) rfl dX9_make_35 ?_
  refine lv_imul hx hb dX9_make_38 ?_
  refine lv_iload_n hx hb dX9_make_39 rfl (lv_at hl 0 rfl) ?_
  refine lv_iadd hx hb dX9_make_40 ?_
  refine lv_lconst (v := 0) hx hb dX9_make_41 (by decide) ?_
  refine r_last hC hw 10 (wMl 10 (by decide)) wM10 (ix60 hmm v12_8) dX9_make_42 (fun H locs hw => ?_)
  replace hw := mS_cells hw
  refine lv_aload_n hx hb dX9_make_43 rfl (lv_at hl 1 rfl) ?_
  refine r_get hC hw rk9 in_X9_make_9 0 (wMl 0 (by decide)) wM0 12 (by decide) lk_X9_make_43 (v := .ref (ad 11)) rfl dX9_make_44 ?_
  refine lv_bipush (v := 12) hx hb dX9_make_47 (by decide) ?_
  refine lv_aload_n hx hb dX9_make_49 rfl (lv_at hl 1 rfl) ?_
  refine r_get hC hw rk9 in_X9_make_9 0 (wMl 0 (by decide)) wM0 17 (by decide) lk_X9_make_89 (v := .int (sI κ 2)) rfl dX9_make_50 ?_
  refine lv_imul hx hb dX9_make_53 ?_
  refine lv_iload_n hx hb dX9_make_54 rfl (lv_at hl 0 rfl) ?_
  refine lv_iadd hx hb dX9_make_55 ?_
  refine lv_dconst0 hx hb dX9_make_56 ?_
  refine r_dast hC hw 11 (wMl 11 (by decide)) wM11 (ix60 hmm v12_8) dX9_make_57 (fun H locs hw => ?_)
  replace hw := mS_points hw
  refine lv_aload_n hx hb dX9_make_58 rfl (lv_at hl 1 rfl) ?_
  refine r_get hC hw rk9 in_X9_make_9 0 (wMl 0 (by decide)) wM0 13 (by decide) lk_X9_make_46 (v := .ref (ad 12)) rfl dX9_make_59 ?_
  refine lv_bipush (v := 12) hx hb dX9_make_62 (by decide) ?_
  refine lv_aload_n hx hb dX9_make_64 rfl (lv_at hl 1 rfl) ?_
  refine r_get hC hw rk9 in_X9_make_9 0 (wMl 0 (by decide)) wM0 17 (by decide) lk_X9_make_89 (v := .int (sI κ 2)) rfl dX9_make_65 ?_
  refine lv_imul hx hb dX9_make_68 ?_
  refine lv_iload_n hx hb dX9_make_69 rfl (lv_at hl 0 rfl) ?_
  refine lv_iadd hx hb dX9_make_70 ?_
  refine lv_iconst (v := 0) hx hb dX9_make_71 (by decide) ?_
  refine r_iast hC hw 12 (wMl 12 (by decide)) wM12 (ix60 hmm v12_8) dX9_make_72 (fun H locs hw => ?_)
  replace hw := mS_inner hw
  refine lv_iinc (v := 9) (lv' := [(3, .int 9), (0, .ref (ad 0)), (1, .int kd), (2, .int pl)]) hx hb dX9_make_73 hl (k := 0) rfl (by first | rfl | decide) (by decide) rfl (fun ls hl => ?_)
  refine lv_goto (tgt := 22) hx hb dX9_make_76 (by decide) ?_
  refine lv_iload_n hx hb dX9_make_22 rfl (lv_at hl 0 rfl) ?_
  refine lv_bipush (v := 12) hx hb dX9_make_23 (by decide) ?_
  refine lv_icmp_ge (tgt := 79) hx hb dX9_make_25 (by decide) (fun c_ => absurd c_ (by decide)) (fun _ => ?_)
  refine lv_aload_n hx hb dX9_make_28 rfl (lv_at hl 1 rfl) ?_
  refine r_get hC hw rk9 in_X9_make_9 0 (wMl 0 (by decide)) wM0 11 (by decide) lk_X9_make_40 (v := .ref (ad 10)) rfl dX9_make_29 ?_
  refine lv_bipush (v := 12) hx hb dX9_make_32 (by decide) ?_
  refine lv_aload_n hx hb dX9_make_34 rfl (lv_at hl 1 rfl) ?_
  refine r_get hC hw rk9 in_X9_make_9 0 (wMl 0 (by decide)) wM0 17 (by decide) lk_X9_make_89 (v := .int (sI κ 2)) rfl dX9_make_35 ?_
  refine lv_imul hx hb dX9_make_38 ?_
  refine lv_iload_n hx hb dX9_make_39 rfl (lv_at hl 0 rfl) ?_
  refine lv_iadd hx hb dX9_make_40 ?_
  refine lv_lconst (v := 0) hx hb dX9_make_41 (by decide) ?_
  refine r_last hC hw 10 (wMl 10 (by decide)) wM10 (ix60 hmm v12_9) dX9_make_42 (fun H locs hw => ?_)
  replace hw := mS_cells hw
  refine lv_aload_n hx hb dX9_make_43 rfl (lv_at hl 1 rfl) ?_
  refine r_get hC hw rk9 in_X9_make_9 0 (wMl 0 (by decide)) wM0 12 (by decide) lk_X9_make_43 (v := .ref (ad 11)) rfl dX9_make_44 ?_
  refine lv_bipush (v := 12) hx hb dX9_make_47 (by decide) ?_
  refine lv_aload_n hx hb dX9_make_49 rfl (lv_at hl 1 rfl) ?_
  refine r_get hC hw rk9 in_X9_make_9 0 (wMl 0 (by decide)) wM0 17 (by decide) lk_X9_make_89 (v := .int (sI κ 2)) rfl dX9_make_50 ?_
  refine lv_imul hx hb dX9_make_53 ?_
  refine lv_iload_n hx hb dX9_make_54 rfl (lv_at hl 0 rfl) ?_
  refine lv_iadd hx hb dX9_make_55 ?_
  refine lv_dconst0 hx hb dX9_make_56 ?_
  refine r_dast hC hw 11 (wMl 11 (by decide)) wM11 (ix60 hmm v12_9) dX9_make_57 (fun H locs hw => ?_)
  replace hw := mS_points hw
  refine lv_aload_n hx hb dX9_make_58 rfl (lv_at hl 1 rfl) ?_
  refine r_get hC hw rk9 in_X9_make_9 0 (wMl 0 (by decide)) wM0 13 (by decide) lk_X9_make_46 (v := .ref (ad 12)) rfl dX9_make_59 ?_
  refine lv_bipush (v := 12) hx hb dX9_make_62 (by decide) ?_
  refine lv_aload_n hx hb dX9_make_64 rfl (lv_at hl 1 rfl) ?_
  refine r_get hC hw rk9 in_X9_make_9 0 (wMl 0 (by decide)) wM0 17 (by decide) lk_X9_make_89 (v := .int (sI κ 2)) rfl dX9_make_65 ?_
  refine lv_imul hx hb dX9_make_68 ?_
  refine lv_iload_n hx hb dX9_make_69 rfl (lv_at hl 0 rfl) ?_
  refine lv_iadd hx hb dX9_make_70 ?_
  refine lv_iconst (v := 0) hx hb dX9_make_71 (by decide) ?_
  refine r_iast hC hw 12 (wMl 12 (by decide)) wM12 (ix60 hmm v12_9) dX9_make_72 (fun H locs hw => ?_)
  replace hw := mS_inner hw
  refine lv_iinc (v := 10) (lv' := [(3, .int 10), (0, .ref (ad 0)), (1, .int kd), (2, .int pl)]) hx hb dX9_make_73 hl (k := 0) rfl (by first | rfl | decide) (by decide) rfl (fun ls hl => ?_)
  refine lv_goto (tgt := 22) hx hb dX9_make_76 (by decide) ?_
  refine lv_iload_n hx hb dX9_make_22 rfl (lv_at hl 0 rfl) ?_
  refine lv_bipush (v := 12) hx hb dX9_make_23 (by decide) ?_
  refine lv_icmp_ge (tgt := 79) hx hb dX9_make_25 (by decide) (fun c_ => absurd c_ (by decide)) (fun _ => ?_)
  refine lv_aload_n hx hb dX9_make_28 rfl (lv_at hl 1 rfl) ?_
  refine r_get hC hw rk9 in_X9_make_9 0 (wMl 0 (by decide)) wM0 11 (by decide) lk_X9_make_40 (v := .ref (ad 10)) rfl dX9_make_29 ?_
  refine lv_bipush (v := 12) hx hb dX9_make_32 (by decide) ?_
  refine lv_aload_n hx hb dX9_make_34 rfl (lv_at hl 1 rfl) ?_
  refine r_get hC hw rk9 in_X9_make_9 0 (wMl 0 (by decide)) wM0 17 (by decide) lk_X9_make_89 (v := .int (sI κ 2)) rfl dX9_make_35 ?_
  refine lv_imul hx hb dX9_make_38 ?_
  refine lv_iload_n hx hb dX9_make_39 rfl (lv_at hl 0 rfl) ?_
  refine lv_iadd hx hb dX9_make_40 ?_
  refine lv_lconst (v := 0) hx hb dX9_make_41 (by decide) ?_
  refine r_last hC hw 10 (wMl 10 (by decide)) wM10 (ix60 hmm v12_10) dX9_make_42 (fun H locs hw => ?_)
  replace hw := mS_cells hw
  refine lv_aload_n hx hb dX9_make_43 rfl (lv_at hl 1 rfl) ?_
  refine r_get hC hw rk9 in_X9_make_9 0 (wMl 0 (by decide)) wM0 12 (by decide) lk_X9_make_43 (v := .ref (ad 11)) rfl dX9_make_44 ?_
  refine lv_bipush (v := 12) hx hb dX9_make_47 (by decide) ?_
  refine lv_aload_n hx hb dX9_make_49 rfl (lv_at hl 1 rfl) ?_
  refine r_get hC hw rk9 in_X9_make_9 0 (wMl 0 (by decide)) wM0 17 (by decide) lk_X9_make_89 (v := .int (sI κ 2)) rfl dX9_make_50 ?_
  refine lv_imul hx hb dX9_make_53 ?_
  refine lv_iload_n hx hb dX9_make_54 rfl (lv_at hl 0 rfl) ?_
  refine lv_iadd hx hb dX9_make_55 ?_
  refine lv_dconst0 hx hb dX9_make_56 ?_
  refine r_dast hC hw 11 (wMl 11 (by decide)) wM11 (ix60 hmm v12_10) dX9_make_57 (fun H locs hw => ?_)
  replace hw := mS_points hw
  refine lv_aload_n hx hb dX9_make_58 rfl (lv_at hl 1 rfl) ?_
  refine r_get hC hw rk9 in_X9_make_9 0 (wMl 0 (by decide)) wM0 13 (by decide) lk_X9_make_46 (v := .ref (ad 12)) rfl dX9_make_59 ?_
  refine lv_bipush (v := 12) hx hb dX9_make_62 (by decide) ?_
  refine lv_aload_n hx hb dX9_make_64 rfl (lv_at hl 1 rfl) ?_
  refine r_get hC hw rk9 in_X9_make_9 0 (wMl 0 (by decide)) wM0 17 (by decide) lk_X9_make_89 (v := .int (sI κ 2)) rfl dX9_make_65 ?_
  refine lv_imul hx hb dX9_make_68 ?_
  refine lv_iload_n hx hb dX9_make_69 rfl (lv_at hl 0 rfl) ?_
  refine lv_iadd hx hb dX9_make_70 ?_
  refine lv_iconst (v := 0) hx hb dX9_make_71 (by decide) ?_
  refine r_iast hC hw 12 (wMl 12 (by decide)) wM12 (ix60 hmm v12_10) dX9_make_72 (fun H locs hw => ?_)
  replace hw := mS_inner hw
  refine lv_iinc (v := 11) (lv' := [(3, .int 11), (0, .ref (ad 0)), (1, .int kd), (2, .int pl)]) hx hb dX9_make_73 hl (k := 0) rfl (by first | rfl | decide) (by decide) rfl (fun ls hl => ?_)
  refine lv_goto (tgt := 22) hx hb dX9_make_76 (by decide) ?_
  refine lv_iload_n hx hb dX9_make_22 rfl (lv_at hl 0 rfl) ?_
  refine lv_bipush (v := 12) hx hb dX9_make_23 (by decide) ?_
  refine lv_icmp_ge (tgt := 79) hx hb dX9_make_25 (by decide) (fun c_ => absurd c_ (by decide)) (fun _ => ?_)
  refine lv_aload_n hx hb dX9_make_28 rfl (lv_at hl 1 rfl) ?_
  refine r_get hC hw rk9 in_X9_make_9 0 (wMl 0 (by decide)) wM0 11 (by decide) lk_X9_make_40 (v := .ref (ad 10)) rfl dX9_make_29 ?_
  refine lv_bipush (v := 12) hx hb dX9_make_32 (by decide) ?_
  refine lv_aload_n hx hb dX9_make_34 rfl (lv_at hl 1 rfl) ?_
  refine r_get hC hw rk9 in_X9_make_9 0 (wMl 0 (by decide)) wM0 17 (by decide) lk_X9_make_89 (v := .int (sI κ 2)) rfl dX9_make_35 ?_
  refine lv_imul hx hb dX9_make_38 ?_
  refine lv_iload_n hx hb dX9_make_39 rfl (lv_at hl 0 rfl) ?_
  refine lv_iadd hx hb dX9_make_40 ?_
  refine lv_lconst (v := 0) hx hb dX9_make_41 (by decide) ?_
  refine r_last hC hw 10 (wMl 10 (by decide)) wM10 (ix60 hmm v12_11) dX9_make_42 (fun H locs hw => ?_)
  replace hw := mS_cells hw
  refine lv_aload_n hx hb dX9_make_43 rfl (lv_at hl 1 rfl) ?_
  refine r_get hC hw rk9 in_X9_make_9 0 (wMl 0 (by decide)) wM0 12 (by decide) lk_X9_make_43 (v := .ref (ad 11)) rfl dX9_make_44 ?_
  refine lv_bipush (v := 12) hx hb dX9_make_47 (by decide) ?_
  refine lv_aload_n hx hb dX9_make_49 rfl (lv_at hl 1 rfl) ?_
  refine r_get hC hw rk9 in_X9_make_9 0 (wMl 0 (by decide)) wM0 17 (by decide) lk_X9_make_89 (v := .int (sI κ 2)) rfl dX9_make_50 ?_
  refine lv_imul hx hb dX9_make_53 ?_
  refine lv_iload_n hx hb dX9_make_54 rfl (lv_at hl 0 rfl) ?_
  refine lv_iadd hx hb dX9_make_55 ?_
  refine lv_dconst0 hx hb dX9_make_56 ?_
  refine r_dast hC hw 11 (wMl 11 (by decide)) wM11 (ix60 hmm v12_11) dX9_make_57 (fun H locs hw => ?_)
  replace hw := mS_points hw
  refine lv_aload_n hx hb dX9_make_58 rfl (lv_at hl 1 rfl) ?_
  refine r_get hC hw rk9 in_X9_make_9 0 (wMl 0 (by decide)) wM0 13 (by decide) lk_X9_make_46 (v := .ref (ad 12)) rfl dX9_make_59 ?_
  refine lv_bipush (v := 12) hx hb dX9_make_62 (by decide) ?_
  refine lv_aload_n hx hb dX9_make_64 rfl (lv_at hl 1 rfl) ?_
  refine r_get hC hw rk9 in_X9_make_9 0 (wMl 0 (by decide)) wM0 17 (by decide) lk_X9_make_89 (v := .int (sI κ 2)) rfl dX9_make_65 ?_
  refine lv_imul hx hb dX9_make_68 ?_
  refine lv_iload_n hx hb dX9_make_69 rfl (lv_at hl 0 rfl) ?_
  refine lv_iadd hx hb dX9_make_70 ?_
  refine lv_iconst (v := 0) hx hb dX9_make_71 (by decide) ?_
  refine r_iast hC hw 12 (wMl 12 (by decide)) wM12 (ix60 hmm v12_11) dX9_make_72 (fun H locs hw => ?_)
  replace hw := mS_inner hw
  refine lv_iinc (v := 12) (lv' := [(3, .int 12), (0, .ref (ad 0)), (1, .int kd), (2, .int pl)]) hx hb dX9_make_73 hl (k := 0) rfl (by first | rfl | decide) (by decide) rfl (fun ls hl => ?_)
  refine lv_goto (tgt := 22) hx hb dX9_make_76 (by decide) ?_
  refine lv_iload_n hx hb dX9_make_22 rfl (lv_at hl 0 rfl) ?_
  refine lv_bipush (v := 12) hx hb dX9_make_23 (by decide) ?_
  refine lv_icmp_ge (tgt := 79) hx hb dX9_make_25 (by decide) (fun _ => ?_) (fun c_ => absurd (by decide) c_)
  refine lv_aload_n hx hb dX9_make_79 rfl (lv_at hl 1 rfl) ?_
  refine r_get hC hw rk9 in_X9_make_9 0 (wMl 0 (by decide)) wM0 14 (by decide) lk_X9_make_49 (v := .ref (ad 13)) rfl dX9_make_80 ?_
  refine lv_aload_n hx hb dX9_make_83 rfl (lv_at hl 1 rfl) ?_
  refine r_get hC hw rk9 in_X9_make_9 0 (wMl 0 (by decide)) wM0 17 (by decide) lk_X9_make_89 (v := .int (sI κ 2)) rfl dX9_make_84 ?_
  refine lv_iconst (v := 0) hx hb dX9_make_87 (by decide) ?_
  refine r_iast hC hw 13 (wMl 13 (by decide)) wM13 hmm dX9_make_88 (fun H locs hw => ?_)
  replace hw := mS_tags hw
  refine lv_aload_n hx hb dX9_make_89 rfl (lv_at hl 1 rfl) ?_
  refine r_get hC hw rk9 in_X9_make_9 0 (wMl 0 (by decide)) wM0 15 (by decide) lk_X9_make_52 (v := .ref (ad 14)) rfl dX9_make_90 ?_
  refine lv_aload_n hx hb dX9_make_93 rfl (lv_at hl 1 rfl) ?_
  refine r_get hC hw rk9 in_X9_make_9 0 (wMl 0 (by decide)) wM0 17 (by decide) lk_X9_make_89 (v := .int (sI κ 2)) rfl dX9_make_94 ?_
  refine lv_lconst (v := 0) hx hb dX9_make_97 (by decide) ?_
  refine r_last hC hw 14 (wMl 14 (by decide)) wM14 hmm dX9_make_98 (fun H locs hw => ?_)
  replace hw := mS_weights hw
  refine lv_aload_n hx hb dX9_make_99 rfl (lv_at hl 1 rfl) ?_
  refine r_get hC hw rk9 in_X9_make_9 0 (wMl 0 (by decide)) wM0 16 (by decide) lk_X9_make_55 (v := .ref (ad 15)) rfl dX9_make_100 ?_
  refine lv_aload_n hx hb dX9_make_103 rfl (lv_at hl 1 rfl) ?_
  refine r_get hC hw rk9 in_X9_make_9 0 (wMl 0 (by decide)) wM0 17 (by decide) lk_X9_make_89 (v := .int (sI κ 2)) rfl dX9_make_104 ?_
  refine lv_iconst (v := 0) hx hb dX9_make_107 (by decide) ?_
  refine r_iast hC hw 15 (wMl 15 (by decide)) wM15 hmm dX9_make_108 (fun H locs hw => ?_)
  replace hw := mS_nexts hw
  refine lv_aload_n hx hb dX9_make_109 rfl (lv_at hl 1 rfl) ?_
  refine lv_dup hx hb dX9_make_110 rfl ?_
  refine r_get hC hw rk9 in_X9_make_9 0 (wMl 0 (by decide)) wM0 17 (by decide) lk_X9_make_89 (v := .int (sI κ 2)) rfl dX9_make_111 ?_
  refine lv_iconst (v := 1) hx hb dX9_make_114 (by decide) ?_
  refine lv_iadd hx hb dX9_make_115 ?_
  refine r_put hC hw rk9 in_X9_make_9 0 (wMl 0 (by decide)) wM0 17 (by decide) lk_X9_make_89 rfl rfl rfl (Nat.le_of_ble_eq_true rfl) dX9_make_116 (fun H locs hw => ?_)
  replace hw := mP_made hw
  refine lv_aload_n hx hb dX9_make_119 rfl (lv_at hl 1 rfl) ?_
  refine r_get hC hw rk9 in_X9_make_9 0 (wMl 0 (by decide)) wM0 17 (by decide) lk_X9_make_89 (v := .int ((sI κ 2) + 1)) rfl dX9_make_120 ?_
  exact r_iret hC hr hlk hw ((uI (uA (uJ (uA (uA (uD (uJ (uA (uD (uJ (uA (uD (uJ (uA (uD (uJ (uA (uD (uJ (uA (uD (uJ (uA (uD (uJ (uA (uD (uJ (uA (uD (uJ (uA (uD (uJ (uA (uD (uJ (uA (uD (uJ (uA (uA κ 4 (aN (sI κ 2)) kd) 5 (aN (sI κ 2)) pl) 1 (aN ((12 * (sI κ 2)) + 0)) 0) 1 (aN ((12 * (sI κ 2)) + 0)) FP.dconst0) 6 (aN ((12 * (sI κ 2)) + 0)) 0) 1 (aN ((12 * (sI κ 2)) + 1)) 0) 1 (aN ((12 * (sI κ 2)) + 1)) FP.dconst0) 6 (aN ((12 * (sI κ 2)) + 1)) 0) 1 (aN ((12 * (sI κ 2)) + 2)) 0) 1 (aN ((12 * (sI κ 2)) + 2)) FP.dconst0) 6 (aN ((12 * (sI κ 2)) + 2)) 0) 1 (aN ((12 * (sI κ 2)) + 3)) 0) 1 (aN ((12 * (sI κ 2)) + 3)) FP.dconst0) 6 (aN ((12 * (sI κ 2)) + 3)) 0) 1 (aN ((12 * (sI κ 2)) + 4)) 0) 1 (aN ((12 * (sI κ 2)) + 4)) FP.dconst0) 6 (aN ((12 * (sI κ 2)) + 4)) 0) 1 (aN ((12 * (sI κ 2)) + 5)) 0) 1 (aN ((12 * (sI κ 2)) + 5)) FP.dconst0) 6 (aN ((12 * (sI κ 2)) + 5)) 0) 1 (aN ((12 * (sI κ 2)) + 6)) 0) 1 (aN ((12 * (sI κ 2)) + 6)) FP.dconst0) 6 (aN ((12 * (sI κ 2)) + 6)) 0) 1 (aN ((12 * (sI κ 2)) + 7)) 0) 1 (aN ((12 * (sI κ 2)) + 7)) FP.dconst0) 6 (aN ((12 * (sI κ 2)) + 7)) 0) 1 (aN ((12 * (sI κ 2)) + 8)) 0) 1 (aN ((12 * (sI κ 2)) + 8)) FP.dconst0) 6 (aN ((12 * (sI κ 2)) + 8)) 0) 1 (aN ((12 * (sI κ 2)) + 9)) 0) 1 (aN ((12 * (sI κ 2)) + 9)) FP.dconst0) 6 (aN ((12 * (sI κ 2)) + 9)) 0) 1 (aN ((12 * (sI κ 2)) + 10)) 0) 1 (aN ((12 * (sI κ 2)) + 10)) FP.dconst0) 6 (aN ((12 * (sI κ 2)) + 10)) 0) 1 (aN ((12 * (sI κ 2)) + 11)) 0) 1 (aN ((12 * (sI κ 2)) + 11)) FP.dconst0) 6 (aN ((12 * (sI κ 2)) + 11)) 0) 7 (aN (sI κ 2)) 0) 2 (aN (sI κ 2)) 0) 8 (aN (sI κ 2)) 0) 2 ((sI κ 2) + 1)), t) rfl ⟨rfl, rfl⟩ (Nat.le_of_ble_eq_true rfl) (Nat.le_of_ble_eq_true rfl) dX9_make_123

set_option maxHeartbeats 4000000 in
set_option maxRecDepth 100000 in
theorem c_X9_turn (l : Launch) {D : va_G} {q : Nat → ClassId} (w : wT) (sz : Nat) (kd tg x : Int32) : Met l yX9_turn wsX9_turn (rmz 0 0) (va_Pc [.int kd, .int tg, .int x] (rPre D q w sz)) (va_Qi (fun (r : Int32) (u : Unit) => r = pTurn kd tg x) (fun (u : Unit) tt => rPo D (rA w sz) w tt) (rA w sz)) 0 0 (rA w sz) := by
  refine r_start (cc := cX9_turn) (maxL := 4) (ret := (some .int)) (by decide) rfl (Nat.le_of_ble_eq_true rfl) ?_
  intro p e s m below meth c ls hC hr hlk hnm hsz hw hl
  have hx := hC.1
  have hb := hC.2.1
  have hl : lv_has ls 4 [(0, .int kd), (1, .int tg), (2, .int x)] := hl
  refine lv_iload_n hx hb dX9_turn_0 rfl (lv_at hl 2 rfl) ?_
  refine lv_iload_n hx hb dX9_turn_1 rfl (lv_at hl 1 rfl) ?_
  refine lv_iadd hx hb dX9_turn_2 ?_
  refine lv_istore_n (lv' := [(3, .int (x + tg)), (0, .int kd), (1, .int tg), (2, .int x)]) hx hb dX9_turn_3 rfl hl (by decide) rfl (fun ls hl => ?_)
  refine lv_iload_n hx hb dX9_turn_4 rfl (lv_at hl 1 rfl) ?_
  refine lv_bipush (v := 14) hx hb dX9_turn_5 (by decide) ?_
  refine lv_icmp_ne (tgt := 16) hx hb dX9_turn_7 (by decide) (fun c_1 => ?_) (fun c_1 => ?_)
  · refine lv_iload_n hx hb dX9_turn_16 rfl (lv_at hl 1 rfl) ?_
    refine lv_bipush (v := 13) hx hb dX9_turn_17 (by decide) ?_
    refine lv_icmp_ne (tgt := 30) hx hb dX9_turn_19 (by decide) (fun c_2 => ?_) (fun c_2 => ?_)
    · refine lv_iload_n hx hb dX9_turn_30 rfl (lv_at hl 0 rfl) ?_
      exact r_iret hC hr hlk hw () rfl ((if_neg c_1).trans (if_neg c_2)).symm (Nat.le_of_ble_eq_true rfl) (Nat.le_of_ble_eq_true rfl) dX9_turn_31
    · refine lv_iconst (v := 2) hx hb dX9_turn_22 (by decide) ?_
      refine lv_iload_n hx hb dX9_turn_23 rfl (lv_at hl 0 rfl) ?_
      refine lv_imul hx hb dX9_turn_24 ?_
      refine lv_iconst (v := 1) hx hb dX9_turn_25 (by decide) ?_
      refine lv_iadd hx hb dX9_turn_26 ?_
      refine lv_goto (tgt := 31) hx hb dX9_turn_27 (by decide) ?_
      exact r_iret hC hr hlk hw () rfl ((if_neg c_1).trans (if_pos c_2)).symm (Nat.le_of_ble_eq_true rfl) (Nat.le_of_ble_eq_true rfl) dX9_turn_31
  · refine lv_iload_n hx hb dX9_turn_10 rfl (lv_at hl 2 rfl) ?_
    refine lv_iload_n hx hb dX9_turn_11 rfl (lv_at hl 3 rfl) ?_
    refine lv_imul hx hb dX9_turn_12 ?_
    refine lv_goto (tgt := 31) hx hb dX9_turn_13 (by decide) ?_
    exact r_iret hC hr hlk hw () rfl (if_pos c_1).symm (Nat.le_of_ble_eq_true rfl) (Nat.le_of_ble_eq_true rfl) dX9_turn_31

set_option maxHeartbeats 4000000 in
set_option maxRecDepth 100000 in
theorem c_X9_doesWhole_0 (l : Launch) {D : va_G} {q : Nat → ClassId} {ad : Nat → Nat} {κ : KS} {t : Nat → Int32} (sz : Nat) (hs : okStep 0 (t 0) (t 1) (t 2)) (hW : WFm κ) (hy : why κ 0 (t 0) (t 1) (t 2) = 0) (hN : nnOp κ 0 (t 0) (t 1) (t 2)) (hc : vp_in (sI κ 6) 13) (hm : vp_in (sI κ 2) 61) (hT : ¬ sI κ 7 < 0) : Met l yX9_doesWhole wsX9_doesWhole (rmz 0 0) (va_Pc [.ref (ad 0), .int 0] (rPre D q (wM q ad κ t) sz)) (va_Qv (fun (u : KS × (Nat → Int32)) => u = (act κ (t 4) (t 5) 0 (t 0) (t 1) (t 2), t)) (fun (u : KS × (Nat → Int32)) tt => rPo D (rA (wM q ad κ t) sz) (wM q ad u.1 u.2) tt) (rA (wM q ad κ t) sz)) 0 0 (rA (wM q ad κ t) sz) := by
  refine r_start (cc := cX9_doesWhole) (maxL := 2) (ret := none) (by decide) rfl (Nat.le_of_ble_eq_true rfl) ?_
  intro p e s m below meth c ls hC hr hlk hnm hsz hw hl
  have hx := hC.1
  have hb := hC.2.1
  have hl : lv_has ls 2 [(0, .ref (ad 0)), (1, .int 0)] := hl
  refine lv_iload_n hx hb dX9_doesWhole_0 rfl (lv_at hl 1 rfl) ?_
  refine lv_tableIn (tgt := 76) hx hb dX9_doesWhole_1 (by decide) (by decide) (by rfl) (by decide) ?_
  refine lv_aload_n hx hb dX9_doesWhole_76 rfl (lv_at hl 0 rfl) ?_
  refine lv_iconst (v := 2) hx hb dX9_doesWhole_77 (by decide) ?_
  refine r_put hC hw rk9 in_X9_doesWhole_9 0 (wMl 0 (by decide)) wM0 18 (by decide) lk_X9_doesWhole_83 rfl rfl rfl (Nat.le_of_ble_eq_true rfl) dX9_doesWhole_78 (fun H locs hw => ?_)
  replace hw := mP_status hw
  refine lv_goto (tgt := 509) hx hb dX9_doesWhole_81 (by decide) ?_
  exact r_vret hC hr hlk hw ((uI κ 3 2), t) rfl rfl (Nat.le_of_ble_eq_true rfl) (Nat.le_of_ble_eq_true rfl) dX9_doesWhole_509

set_option maxHeartbeats 4000000 in
set_option maxRecDepth 100000 in
theorem c_X9_doesWhole_1 (l : Launch) {D : va_G} {q : Nat → ClassId} {ad : Nat → Nat} {κ : KS} {t : Nat → Int32} (sz : Nat) (hs : okStep 1 (t 0) (t 1) (t 2)) (hW : WFm κ) (hy : why κ 1 (t 0) (t 1) (t 2) = 0) (hN : nnOp κ 1 (t 0) (t 1) (t 2)) (hc : vp_in (sI κ 6) 13) (hm : vp_in (sI κ 2) 61) (hT : ¬ sI κ 7 < 0) : Met l yX9_doesWhole wsX9_doesWhole (rmz 0 0) (va_Pc [.ref (ad 0), .int 1] (rPre D q (wM q ad κ t) sz)) (va_Qv (fun (u : KS × (Nat → Int32)) => u = (act κ (t 4) (t 5) 1 (t 0) (t 1) (t 2), t)) (fun (u : KS × (Nat → Int32)) tt => rPo D (rA (wM q ad κ t) sz) (wM q ad u.1 u.2) tt) (rA (wM q ad κ t) sz)) 0 0 (rA (wM q ad κ t) sz) := by
  have hi0 : vp_in (t 0) 8 := hs.1
  refine r_start (cc := cX9_doesWhole) (maxL := 2) (ret := none) (by decide) rfl (Nat.le_of_ble_eq_true rfl) ?_
  intro p e s m below meth c ls hC hr hlk hnm hsz hw hl
  have hx := hC.1
  have hb := hC.2.1
  have hl : lv_has ls 2 [(0, .ref (ad 0)), (1, .int 1)] := hl
  refine lv_iload_n hx hb dX9_doesWhole_0 rfl (lv_at hl 1 rfl) ?_
  refine lv_tableIn (tgt := 84) hx hb dX9_doesWhole_1 (by decide) (by decide) (by rfl) (by decide) ?_
  refine lv_aload_n hx hb dX9_doesWhole_84 rfl (lv_at hl 0 rfl) ?_
  refine r_get hC hw rk9 in_X9_doesWhole_9 0 (wMl 0 (by decide)) wM0 4 (by decide) lk_X9_doesWhole_16 (v := .ref (ad 3)) rfl dX9_doesWhole_85 ?_
  refine lv_aload_n hx hb dX9_doesWhole_88 rfl (lv_at hl 0 rfl) ?_
  refine r_get hC hw rk9 in_X9_doesWhole_9 0 (wMl 0 (by decide)) wM0 30 (by decide) lk_X9_doesWhole_142 (v := .int (t 0)) rfl dX9_doesWhole_89 ?_
  refine lv_aload_n hx hb dX9_doesWhole_92 rfl (lv_at hl 0 rfl) ?_
  refine r_get hC hw rk9 in_X9_doesWhole_9 0 (wMl 0 (by decide)) wM0 31 (by decide) lk_X9_doesWhole_126 (v := .int (t 1)) rfl dX9_doesWhole_93 ?_
  refine r_iast hC hw 3 (wMl 3 (by decide)) wM3 (by assumption) dX9_doesWhole_96 (fun H locs hw => ?_)
  replace hw := mS_words hw
  refine lv_goto (tgt := 509) hx hb dX9_doesWhole_97 (by decide) ?_
  exact r_vret hC hr hlk hw ((uA κ 2 (aN (t 0)) (t 1)), t) rfl rfl (Nat.le_of_ble_eq_true rfl) (Nat.le_of_ble_eq_true rfl) dX9_doesWhole_509

set_option maxHeartbeats 4000000 in
set_option maxRecDepth 100000 in
theorem c_X9_doesWhole_2 (l : Launch) {D : va_G} {q : Nat → ClassId} {ad : Nat → Nat} {κ : KS} {t : Nat → Int32} (sz : Nat) (hs : okStep 2 (t 0) (t 1) (t 2)) (hW : WFm κ) (hy : why κ 2 (t 0) (t 1) (t 2) = 0) (hN : nnOp κ 2 (t 0) (t 1) (t 2)) (hc : vp_in (sI κ 6) 13) (hm : vp_in (sI κ 2) 61) (hT : ¬ sI κ 7 < 0) : Met l yX9_doesWhole wsX9_doesWhole (rmz 0 0) (va_Pc [.ref (ad 0), .int 2] (rPre D q (wM q ad κ t) sz)) (va_Qv (fun (u : KS × (Nat → Int32)) => u = (act κ (t 4) (t 5) 2 (t 0) (t 1) (t 2), t)) (fun (u : KS × (Nat → Int32)) tt => rPo D (rA (wM q ad κ t) sz) (wM q ad u.1 u.2) tt) (rA (wM q ad κ t) sz)) 0 0 (rA (wM q ad κ t) sz) := by
  have hi0 : vp_in (t 0) 4 := hs.1
  refine r_start (cc := cX9_doesWhole) (maxL := 2) (ret := none) (by decide) rfl (Nat.le_of_ble_eq_true rfl) ?_
  intro p e s m below meth c ls hC hr hlk hnm hsz hw hl
  have hx := hC.1
  have hb := hC.2.1
  have hl : lv_has ls 2 [(0, .ref (ad 0)), (1, .int 2)] := hl
  refine lv_iload_n hx hb dX9_doesWhole_0 rfl (lv_at hl 1 rfl) ?_
  refine lv_tableIn (tgt := 100) hx hb dX9_doesWhole_1 (by decide) (by decide) (by rfl) (by decide) ?_
  refine lv_aload_n hx hb dX9_doesWhole_100 rfl (lv_at hl 0 rfl) ?_
  refine r_get hC hw rk9 in_X9_doesWhole_9 0 (wMl 0 (by decide)) wM0 5 (by decide) lk_X9_doesWhole_19 (v := .ref (ad 4)) rfl dX9_doesWhole_101 ?_
  refine lv_aload_n hx hb dX9_doesWhole_104 rfl (lv_at hl 0 rfl) ?_
  refine r_get hC hw rk9 in_X9_doesWhole_9 0 (wMl 0 (by decide)) wM0 30 (by decide) lk_X9_doesWhole_142 (v := .int (t 0)) rfl dX9_doesWhole_105 ?_
  refine lv_aload_n hx hb dX9_doesWhole_108 rfl (lv_at hl 0 rfl) ?_
  refine r_get hC hw rk9 in_X9_doesWhole_9 0 (wMl 0 (by decide)) wM0 31 (by decide) lk_X9_doesWhole_126 (v := .int (t 1)) rfl dX9_doesWhole_109 ?_
  refine lv_i2l (v := (t 1).toInt64) hx hb dX9_doesWhole_112 rfl ?_
  refine lv_bipush (v := 32) hx hb dX9_doesWhole_113 (by decide) ?_
  refine lv_lshl (v := ((t 1).toInt64) <<< ((32 : Int32).toInt64 &&& 63)) hx hb dX9_doesWhole_115 rfl ?_
  refine lv_aload_n hx hb dX9_doesWhole_116 rfl (lv_at hl 0 rfl) ?_
  refine r_get hC hw rk9 in_X9_doesWhole_9 0 (wMl 0 (by decide)) wM0 32 (by decide) lk_X9_doesWhole_123 (v := .int (t 2)) rfl dX9_doesWhole_117 ?_
  refine lv_i2l (v := (t 2).toInt64) hx hb dX9_doesWhole_120 rfl ?_
  refine lv_ldc2 hx hb hC.2.2.2.1 (hC.2.2.2.2 _ lk_X9_doesWhole_170) dX9_doesWhole_121 ?_
  refine lv_land hx hb dX9_doesWhole_124 ?_
  refine lv_lor hx hb dX9_doesWhole_125 ?_
  refine r_last hC hw 4 (wMl 4 (by decide)) wM4 (by assumption) dX9_doesWhole_126 (fun H locs hw => ?_)
  replace hw := mS_wides hw
  refine lv_goto (tgt := 509) hx hb dX9_doesWhole_127 (by decide) ?_
  exact r_vret hC hr hlk hw ((uJ κ 0 (aN (t 0)) ((((t 1).toInt64) <<< ((32 : Int32).toInt64 &&& 63)) ||| (((t 2).toInt64) &&& (4294967295)))), t) rfl rfl (Nat.le_of_ble_eq_true rfl) (Nat.le_of_ble_eq_true rfl) dX9_doesWhole_509

set_option maxHeartbeats 4000000 in
set_option maxRecDepth 100000 in
theorem c_X9_doesWhole_3 (l : Launch) {D : va_G} {q : Nat → ClassId} {ad : Nat → Nat} {κ : KS} {t : Nat → Int32} (sz : Nat) (hs : okStep 3 (t 0) (t 1) (t 2)) (hW : WFm κ) (hy : why κ 3 (t 0) (t 1) (t 2) = 0) (hN : nnOp κ 3 (t 0) (t 1) (t 2)) (hc : vp_in (sI κ 6) 13) (hm : vp_in (sI κ 2) 61) (hT : ¬ sI κ 7 < 0) : Met l yX9_doesWhole wsX9_doesWhole (rmz 0 0) (va_Pc [.ref (ad 0), .int 3] (rPre D q (wM q ad κ t) sz)) (va_Qv (fun (u : KS × (Nat → Int32)) => u = (act κ (t 4) (t 5) 3 (t 0) (t 1) (t 2), t)) (fun (u : KS × (Nat → Int32)) tt => rPo D (rA (wM q ad κ t) sz) (wM q ad u.1 u.2) tt) (rA (wM q ad κ t) sz)) 0 0 (rA (wM q ad κ t) sz) := by
  have hi0 : vp_in (t 0) 8 := hs.1
  have hi1 : vp_in (t 1) 8 := hs.2.1
  refine r_start (cc := cX9_doesWhole) (maxL := 2) (ret := none) (by decide) rfl (Nat.le_of_ble_eq_true rfl) ?_
  intro p e s m below meth c ls hC hr hlk hnm hsz hw hl
  have hx := hC.1
  have hb := hC.2.1
  have hl : lv_has ls 2 [(0, .ref (ad 0)), (1, .int 3)] := hl
  refine lv_iload_n hx hb dX9_doesWhole_0 rfl (lv_at hl 1 rfl) ?_
  refine lv_tableIn (tgt := 130) hx hb dX9_doesWhole_1 (by decide) (by decide) (by rfl) (by decide) ?_
  refine lv_aload_n hx hb dX9_doesWhole_130 rfl (lv_at hl 0 rfl) ?_
  refine r_get hC hw rk9 in_X9_doesWhole_9 0 (wMl 0 (by decide)) wM0 4 (by decide) lk_X9_doesWhole_16 (v := .ref (ad 3)) rfl dX9_doesWhole_131 ?_
  refine lv_aload_n hx hb dX9_doesWhole_134 rfl (lv_at hl 0 rfl) ?_
  refine r_get hC hw rk9 in_X9_doesWhole_9 0 (wMl 0 (by decide)) wM0 30 (by decide) lk_X9_doesWhole_142 (v := .int (t 0)) rfl dX9_doesWhole_135 ?_
  refine lv_aload_n hx hb dX9_doesWhole_138 rfl (lv_at hl 0 rfl) ?_
  refine r_get hC hw rk9 in_X9_doesWhole_9 0 (wMl 0 (by decide)) wM0 4 (by decide) lk_X9_doesWhole_16 (v := .ref (ad 3)) rfl dX9_doesWhole_139 ?_
  refine lv_aload_n hx hb dX9_doesWhole_142 rfl (lv_at hl 0 rfl) ?_
  refine r_get hC hw rk9 in_X9_doesWhole_9 0 (wMl 0 (by decide)) wM0 31 (by decide) lk_X9_doesWhole_126 (v := .int (t 1)) rfl dX9_doesWhole_143 ?_
  refine r_iald hC hw 3 (wMl 3 (by decide)) wM3 (by assumption) dX9_doesWhole_146 ?_
  refine r_iast hC hw 3 (wMl 3 (by decide)) wM3 (by assumption) dX9_doesWhole_147 (fun H locs hw => ?_)
  replace hw := mS_words hw
  refine lv_goto (tgt := 509) hx hb dX9_doesWhole_148 (by decide) ?_
  exact r_vret hC hr hlk hw ((uA κ 2 (aN (t 0)) (sA κ 2 (aN (t 1)))), t) rfl rfl (Nat.le_of_ble_eq_true rfl) (Nat.le_of_ble_eq_true rfl) dX9_doesWhole_509

set_option maxHeartbeats 4000000 in
set_option maxRecDepth 100000 in
theorem c_X9_doesWhole_4 (l : Launch) {D : va_G} {q : Nat → ClassId} {ad : Nat → Nat} {κ : KS} {t : Nat → Int32} (sz : Nat) (hs : okStep 4 (t 0) (t 1) (t 2)) (hW : WFm κ) (hy : why κ 4 (t 0) (t 1) (t 2) = 0) (hN : nnOp κ 4 (t 0) (t 1) (t 2)) (hc : vp_in (sI κ 6) 13) (hm : vp_in (sI κ 2) 61) (hT : ¬ sI κ 7 < 0) : Met l yX9_doesWhole wsX9_doesWhole (rmz 0 0) (va_Pc [.ref (ad 0), .int 4] (rPre D q (wM q ad κ t) sz)) (va_Qv (fun (u : KS × (Nat → Int32)) => u = (act κ (t 4) (t 5) 4 (t 0) (t 1) (t 2), t)) (fun (u : KS × (Nat → Int32)) tt => rPo D (rA (wM q ad κ t) sz) (wM q ad u.1 u.2) tt) (rA (wM q ad κ t) sz)) 0 0 (rA (wM q ad κ t) sz) := by
  have hi0 : vp_in (t 0) 8 := hs.1
  have hi1 : vp_in (t 1) 8 := hs.2.1
  have hi2 : vp_in (t 2) 8 := hs.2.2
  refine r_start (cc := cX9_doesWhole) (maxL := 2) (ret := none) (by decide) rfl (Nat.le_of_ble_eq_true rfl) ?_
  intro p e s m below meth c ls hC hr hlk hnm hsz hw hl
  have hx := hC.1
  have hb := hC.2.1
  have hl : lv_has ls 2 [(0, .ref (ad 0)), (1, .int 4)] := hl
  refine lv_iload_n hx hb dX9_doesWhole_0 rfl (lv_at hl 1 rfl) ?_
  refine lv_tableIn (tgt := 151) hx hb dX9_doesWhole_1 (by decide) (by decide) (by rfl) (by decide) ?_
  refine lv_aload_n hx hb dX9_doesWhole_151 rfl (lv_at hl 0 rfl) ?_
  refine r_get hC hw rk9 in_X9_doesWhole_9 0 (wMl 0 (by decide)) wM0 4 (by decide) lk_X9_doesWhole_16 (v := .ref (ad 3)) rfl dX9_doesWhole_152 ?_
  refine lv_aload_n hx hb dX9_doesWhole_155 rfl (lv_at hl 0 rfl) ?_
  refine r_get hC hw rk9 in_X9_doesWhole_9 0 (wMl 0 (by decide)) wM0 30 (by decide) lk_X9_doesWhole_142 (v := .int (t 0)) rfl dX9_doesWhole_156 ?_
  refine lv_aload_n hx hb dX9_doesWhole_159 rfl (lv_at hl 0 rfl) ?_
  refine r_get hC hw rk9 in_X9_doesWhole_9 0 (wMl 0 (by decide)) wM0 4 (by decide) lk_X9_doesWhole_16 (v := .ref (ad 3)) rfl dX9_doesWhole_160 ?_
  refine lv_aload_n hx hb dX9_doesWhole_163 rfl (lv_at hl 0 rfl) ?_
  refine r_get hC hw rk9 in_X9_doesWhole_9 0 (wMl 0 (by decide)) wM0 31 (by decide) lk_X9_doesWhole_126 (v := .int (t 1)) rfl dX9_doesWhole_164 ?_
  refine r_iald hC hw 3 (wMl 3 (by decide)) wM3 (by assumption) dX9_doesWhole_167 ?_
  refine lv_aload_n hx hb dX9_doesWhole_168 rfl (lv_at hl 0 rfl) ?_
  refine r_get hC hw rk9 in_X9_doesWhole_9 0 (wMl 0 (by decide)) wM0 4 (by decide) lk_X9_doesWhole_16 (v := .ref (ad 3)) rfl dX9_doesWhole_169 ?_
  refine lv_aload_n hx hb dX9_doesWhole_172 rfl (lv_at hl 0 rfl) ?_
  refine r_get hC hw rk9 in_X9_doesWhole_9 0 (wMl 0 (by decide)) wM0 32 (by decide) lk_X9_doesWhole_123 (v := .int (t 2)) rfl dX9_doesWhole_173 ?_
  refine r_iald hC hw 3 (wMl 3 (by decide)) wM3 (by assumption) dX9_doesWhole_176 ?_
  refine lv_iadd hx hb dX9_doesWhole_177 ?_
  refine r_iast hC hw 3 (wMl 3 (by decide)) wM3 (by assumption) dX9_doesWhole_178 (fun H locs hw => ?_)
  replace hw := mS_words hw
  refine lv_goto (tgt := 509) hx hb dX9_doesWhole_179 (by decide) ?_
  exact r_vret hC hr hlk hw ((uA κ 2 (aN (t 0)) ((sA κ 2 (aN (t 1))) + (sA κ 2 (aN (t 2))))), t) rfl rfl (Nat.le_of_ble_eq_true rfl) (Nat.le_of_ble_eq_true rfl) dX9_doesWhole_509

set_option maxHeartbeats 4000000 in
set_option maxRecDepth 100000 in
theorem c_X9_doesWhole_5 (l : Launch) {D : va_G} {q : Nat → ClassId} {ad : Nat → Nat} {κ : KS} {t : Nat → Int32} (sz : Nat) (hs : okStep 5 (t 0) (t 1) (t 2)) (hW : WFm κ) (hy : why κ 5 (t 0) (t 1) (t 2) = 0) (hN : nnOp κ 5 (t 0) (t 1) (t 2)) (hc : vp_in (sI κ 6) 13) (hm : vp_in (sI κ 2) 61) (hT : ¬ sI κ 7 < 0) : Met l yX9_doesWhole wsX9_doesWhole (rmz 0 0) (va_Pc [.ref (ad 0), .int 5] (rPre D q (wM q ad κ t) sz)) (va_Qv (fun (u : KS × (Nat → Int32)) => u = (act κ (t 4) (t 5) 5 (t 0) (t 1) (t 2), t)) (fun (u : KS × (Nat → Int32)) tt => rPo D (rA (wM q ad κ t) sz) (wM q ad u.1 u.2) tt) (rA (wM q ad κ t) sz)) 0 0 (rA (wM q ad κ t) sz) := by
  have hi0 : vp_in (t 0) 8 := hs.1
  have hi1 : vp_in (t 1) 8 := hs.2.1
  have hi2 : vp_in (t 2) 8 := hs.2.2
  refine r_start (cc := cX9_doesWhole) (maxL := 2) (ret := none) (by decide) rfl (Nat.le_of_ble_eq_true rfl) ?_
  intro p e s m below meth c ls hC hr hlk hnm hsz hw hl
  have hx := hC.1
  have hb := hC.2.1
  have hl : lv_has ls 2 [(0, .ref (ad 0)), (1, .int 5)] := hl
  refine lv_iload_n hx hb dX9_doesWhole_0 rfl (lv_at hl 1 rfl) ?_
  refine lv_tableIn (tgt := 182) hx hb dX9_doesWhole_1 (by decide) (by decide) (by rfl) (by decide) ?_
  refine lv_aload_n hx hb dX9_doesWhole_182 rfl (lv_at hl 0 rfl) ?_
  refine r_get hC hw rk9 in_X9_doesWhole_9 0 (wMl 0 (by decide)) wM0 4 (by decide) lk_X9_doesWhole_16 (v := .ref (ad 3)) rfl dX9_doesWhole_183 ?_
  refine lv_aload_n hx hb dX9_doesWhole_186 rfl (lv_at hl 0 rfl) ?_
  refine r_get hC hw rk9 in_X9_doesWhole_9 0 (wMl 0 (by decide)) wM0 30 (by decide) lk_X9_doesWhole_142 (v := .int (t 0)) rfl dX9_doesWhole_187 ?_
  refine lv_aload_n hx hb dX9_doesWhole_190 rfl (lv_at hl 0 rfl) ?_
  refine r_get hC hw rk9 in_X9_doesWhole_9 0 (wMl 0 (by decide)) wM0 4 (by decide) lk_X9_doesWhole_16 (v := .ref (ad 3)) rfl dX9_doesWhole_191 ?_
  refine lv_aload_n hx hb dX9_doesWhole_194 rfl (lv_at hl 0 rfl) ?_
  refine r_get hC hw rk9 in_X9_doesWhole_9 0 (wMl 0 (by decide)) wM0 31 (by decide) lk_X9_doesWhole_126 (v := .int (t 1)) rfl dX9_doesWhole_195 ?_
  refine r_iald hC hw 3 (wMl 3 (by decide)) wM3 (by assumption) dX9_doesWhole_198 ?_
  refine lv_aload_n hx hb dX9_doesWhole_199 rfl (lv_at hl 0 rfl) ?_
  refine r_get hC hw rk9 in_X9_doesWhole_9 0 (wMl 0 (by decide)) wM0 4 (by decide) lk_X9_doesWhole_16 (v := .ref (ad 3)) rfl dX9_doesWhole_200 ?_
  refine lv_aload_n hx hb dX9_doesWhole_203 rfl (lv_at hl 0 rfl) ?_
  refine r_get hC hw rk9 in_X9_doesWhole_9 0 (wMl 0 (by decide)) wM0 32 (by decide) lk_X9_doesWhole_123 (v := .int (t 2)) rfl dX9_doesWhole_204 ?_
  refine r_iald hC hw 3 (wMl 3 (by decide)) wM3 (by assumption) dX9_doesWhole_207 ?_
  refine lv_isub hx hb dX9_doesWhole_208 ?_
  refine r_iast hC hw 3 (wMl 3 (by decide)) wM3 (by assumption) dX9_doesWhole_209 (fun H locs hw => ?_)
  replace hw := mS_words hw
  refine lv_goto (tgt := 509) hx hb dX9_doesWhole_210 (by decide) ?_
  exact r_vret hC hr hlk hw ((uA κ 2 (aN (t 0)) ((sA κ 2 (aN (t 1))) - (sA κ 2 (aN (t 2))))), t) rfl rfl (Nat.le_of_ble_eq_true rfl) (Nat.le_of_ble_eq_true rfl) dX9_doesWhole_509

set_option maxHeartbeats 4000000 in
set_option maxRecDepth 100000 in
theorem c_X9_doesWhole_6 (l : Launch) {D : va_G} {q : Nat → ClassId} {ad : Nat → Nat} {κ : KS} {t : Nat → Int32} (sz : Nat) (hs : okStep 6 (t 0) (t 1) (t 2)) (hW : WFm κ) (hy : why κ 6 (t 0) (t 1) (t 2) = 0) (hN : nnOp κ 6 (t 0) (t 1) (t 2)) (hc : vp_in (sI κ 6) 13) (hm : vp_in (sI κ 2) 61) (hT : ¬ sI κ 7 < 0) : Met l yX9_doesWhole wsX9_doesWhole (rmz 0 0) (va_Pc [.ref (ad 0), .int 6] (rPre D q (wM q ad κ t) sz)) (va_Qv (fun (u : KS × (Nat → Int32)) => u = (act κ (t 4) (t 5) 6 (t 0) (t 1) (t 2), t)) (fun (u : KS × (Nat → Int32)) tt => rPo D (rA (wM q ad κ t) sz) (wM q ad u.1 u.2) tt) (rA (wM q ad κ t) sz)) 0 0 (rA (wM q ad κ t) sz) := by
  have hi0 : vp_in (t 0) 8 := hs.1
  have hi1 : vp_in (t 1) 8 := hs.2.1
  have hi2 : vp_in (t 2) 8 := hs.2.2
  refine r_start (cc := cX9_doesWhole) (maxL := 2) (ret := none) (by decide) rfl (Nat.le_of_ble_eq_true rfl) ?_
  intro p e s m below meth c ls hC hr hlk hnm hsz hw hl
  have hx := hC.1
  have hb := hC.2.1
  have hl : lv_has ls 2 [(0, .ref (ad 0)), (1, .int 6)] := hl
  refine lv_iload_n hx hb dX9_doesWhole_0 rfl (lv_at hl 1 rfl) ?_
  refine lv_tableIn (tgt := 213) hx hb dX9_doesWhole_1 (by decide) (by decide) (by rfl) (by decide) ?_
  refine lv_aload_n hx hb dX9_doesWhole_213 rfl (lv_at hl 0 rfl) ?_
  refine r_get hC hw rk9 in_X9_doesWhole_9 0 (wMl 0 (by decide)) wM0 4 (by decide) lk_X9_doesWhole_16 (v := .ref (ad 3)) rfl dX9_doesWhole_214 ?_
  refine lv_aload_n hx hb dX9_doesWhole_217 rfl (lv_at hl 0 rfl) ?_
  refine r_get hC hw rk9 in_X9_doesWhole_9 0 (wMl 0 (by decide)) wM0 30 (by decide) lk_X9_doesWhole_142 (v := .int (t 0)) rfl dX9_doesWhole_218 ?_
  refine lv_aload_n hx hb dX9_doesWhole_221 rfl (lv_at hl 0 rfl) ?_
  refine r_get hC hw rk9 in_X9_doesWhole_9 0 (wMl 0 (by decide)) wM0 4 (by decide) lk_X9_doesWhole_16 (v := .ref (ad 3)) rfl dX9_doesWhole_222 ?_
  refine lv_aload_n hx hb dX9_doesWhole_225 rfl (lv_at hl 0 rfl) ?_
  refine r_get hC hw rk9 in_X9_doesWhole_9 0 (wMl 0 (by decide)) wM0 31 (by decide) lk_X9_doesWhole_126 (v := .int (t 1)) rfl dX9_doesWhole_226 ?_
  refine r_iald hC hw 3 (wMl 3 (by decide)) wM3 (by assumption) dX9_doesWhole_229 ?_
  refine lv_aload_n hx hb dX9_doesWhole_230 rfl (lv_at hl 0 rfl) ?_
  refine r_get hC hw rk9 in_X9_doesWhole_9 0 (wMl 0 (by decide)) wM0 4 (by decide) lk_X9_doesWhole_16 (v := .ref (ad 3)) rfl dX9_doesWhole_231 ?_
  refine lv_aload_n hx hb dX9_doesWhole_234 rfl (lv_at hl 0 rfl) ?_
  refine r_get hC hw rk9 in_X9_doesWhole_9 0 (wMl 0 (by decide)) wM0 32 (by decide) lk_X9_doesWhole_123 (v := .int (t 2)) rfl dX9_doesWhole_235 ?_
  refine r_iald hC hw 3 (wMl 3 (by decide)) wM3 (by assumption) dX9_doesWhole_238 ?_
  refine lv_imul hx hb dX9_doesWhole_239 ?_
  refine r_iast hC hw 3 (wMl 3 (by decide)) wM3 (by assumption) dX9_doesWhole_240 (fun H locs hw => ?_)
  replace hw := mS_words hw
  refine lv_goto (tgt := 509) hx hb dX9_doesWhole_241 (by decide) ?_
  exact r_vret hC hr hlk hw ((uA κ 2 (aN (t 0)) ((sA κ 2 (aN (t 1))) * (sA κ 2 (aN (t 2))))), t) rfl rfl (Nat.le_of_ble_eq_true rfl) (Nat.le_of_ble_eq_true rfl) dX9_doesWhole_509

set_option maxHeartbeats 4000000 in
set_option maxRecDepth 100000 in
theorem c_X9_doesWhole_7 (l : Launch) {D : va_G} {q : Nat → ClassId} {ad : Nat → Nat} {κ : KS} {t : Nat → Int32} (sz : Nat) (hs : okStep 7 (t 0) (t 1) (t 2)) (hW : WFm κ) (hy : why κ 7 (t 0) (t 1) (t 2) = 0) (hN : nnOp κ 7 (t 0) (t 1) (t 2)) (hc : vp_in (sI κ 6) 13) (hm : vp_in (sI κ 2) 61) (hT : ¬ sI κ 7 < 0) : Met l yX9_doesWhole wsX9_doesWhole (rmz 0 0) (va_Pc [.ref (ad 0), .int 7] (rPre D q (wM q ad κ t) sz)) (va_Qv (fun (u : KS × (Nat → Int32)) => u = (act κ (t 4) (t 5) 7 (t 0) (t 1) (t 2), t)) (fun (u : KS × (Nat → Int32)) tt => rPo D (rA (wM q ad κ t) sz) (wM q ad u.1 u.2) tt) (rA (wM q ad κ t) sz)) 0 0 (rA (wM q ad κ t) sz) := by
  have hi0 : vp_in (t 0) 8 := hs.1
  have hi1 : vp_in (t 1) 8 := hs.2.1
  have hi2 : vp_in (t 2) 8 := hs.2.2
  have hz := (y6 hy).1
  refine r_start (cc := cX9_doesWhole) (maxL := 2) (ret := none) (by decide) rfl (Nat.le_of_ble_eq_true rfl) ?_
  intro p e s m below meth c ls hC hr hlk hnm hsz hw hl
  have hx := hC.1
  have hb := hC.2.1
  have hl : lv_has ls 2 [(0, .ref (ad 0)), (1, .int 7)] := hl
  refine lv_iload_n hx hb dX9_doesWhole_0 rfl (lv_at hl 1 rfl) ?_
  refine lv_tableIn (tgt := 244) hx hb dX9_doesWhole_1 (by decide) (by decide) (by rfl) (by decide) ?_
  refine lv_aload_n hx hb dX9_doesWhole_244 rfl (lv_at hl 0 rfl) ?_
  refine r_get hC hw rk9 in_X9_doesWhole_9 0 (wMl 0 (by decide)) wM0 4 (by decide) lk_X9_doesWhole_16 (v := .ref (ad 3)) rfl dX9_doesWhole_245 ?_
  refine lv_aload_n hx hb dX9_doesWhole_248 rfl (lv_at hl 0 rfl) ?_
  refine r_get hC hw rk9 in_X9_doesWhole_9 0 (wMl 0 (by decide)) wM0 30 (by decide) lk_X9_doesWhole_142 (v := .int (t 0)) rfl dX9_doesWhole_249 ?_
  refine lv_aload_n hx hb dX9_doesWhole_252 rfl (lv_at hl 0 rfl) ?_
  refine r_get hC hw rk9 in_X9_doesWhole_9 0 (wMl 0 (by decide)) wM0 4 (by decide) lk_X9_doesWhole_16 (v := .ref (ad 3)) rfl dX9_doesWhole_253 ?_
  refine lv_aload_n hx hb dX9_doesWhole_256 rfl (lv_at hl 0 rfl) ?_
  refine r_get hC hw rk9 in_X9_doesWhole_9 0 (wMl 0 (by decide)) wM0 31 (by decide) lk_X9_doesWhole_126 (v := .int (t 1)) rfl dX9_doesWhole_257 ?_
  refine r_iald hC hw 3 (wMl 3 (by decide)) wM3 (by assumption) dX9_doesWhole_260 ?_
  refine lv_aload_n hx hb dX9_doesWhole_261 rfl (lv_at hl 0 rfl) ?_
  refine r_get hC hw rk9 in_X9_doesWhole_9 0 (wMl 0 (by decide)) wM0 4 (by decide) lk_X9_doesWhole_16 (v := .ref (ad 3)) rfl dX9_doesWhole_262 ?_
  refine lv_aload_n hx hb dX9_doesWhole_265 rfl (lv_at hl 0 rfl) ?_
  refine r_get hC hw rk9 in_X9_doesWhole_9 0 (wMl 0 (by decide)) wM0 32 (by decide) lk_X9_doesWhole_123 (v := .int (t 2)) rfl dX9_doesWhole_266 ?_
  refine r_iald hC hw 3 (wMl 3 (by decide)) wM3 (by assumption) dX9_doesWhole_269 ?_
  refine lv_idiv hx hb dX9_doesWhole_270 hz ?_
  refine r_iast hC hw 3 (wMl 3 (by decide)) wM3 (by assumption) dX9_doesWhole_271 (fun H locs hw => ?_)
  replace hw := mS_words hw
  refine lv_goto (tgt := 509) hx hb dX9_doesWhole_272 (by decide) ?_
  exact r_vret hC hr hlk hw ((uA κ 2 (aN (t 0)) ((sA κ 2 (aN (t 1))) / (sA κ 2 (aN (t 2))))), t) rfl rfl (Nat.le_of_ble_eq_true rfl) (Nat.le_of_ble_eq_true rfl) dX9_doesWhole_509

set_option maxHeartbeats 4000000 in
set_option maxRecDepth 100000 in
theorem c_X9_doesWhole_8 (l : Launch) {D : va_G} {q : Nat → ClassId} {ad : Nat → Nat} {κ : KS} {t : Nat → Int32} (sz : Nat) (hs : okStep 8 (t 0) (t 1) (t 2)) (hW : WFm κ) (hy : why κ 8 (t 0) (t 1) (t 2) = 0) (hN : nnOp κ 8 (t 0) (t 1) (t 2)) (hc : vp_in (sI κ 6) 13) (hm : vp_in (sI κ 2) 61) (hT : ¬ sI κ 7 < 0) : Met l yX9_doesWhole wsX9_doesWhole (rmz 0 0) (va_Pc [.ref (ad 0), .int 8] (rPre D q (wM q ad κ t) sz)) (va_Qv (fun (u : KS × (Nat → Int32)) => u = (act κ (t 4) (t 5) 8 (t 0) (t 1) (t 2), t)) (fun (u : KS × (Nat → Int32)) tt => rPo D (rA (wM q ad κ t) sz) (wM q ad u.1 u.2) tt) (rA (wM q ad κ t) sz)) 0 0 (rA (wM q ad κ t) sz) := by
  have hi0 : vp_in (t 0) 8 := hs.1
  have hi1 : vp_in (t 1) 8 := hs.2.1
  have hi2 : vp_in (t 2) 8 := hs.2.2
  have hz := (y6 hy).1
  refine r_start (cc := cX9_doesWhole) (maxL := 2) (ret := none) (by decide) rfl (Nat.le_of_ble_eq_true rfl) ?_
  intro p e s m below meth c ls hC hr hlk hnm hsz hw hl
  have hx := hC.1
  have hb := hC.2.1
  have hl : lv_has ls 2 [(0, .ref (ad 0)), (1, .int 8)] := hl
  refine lv_iload_n hx hb dX9_doesWhole_0 rfl (lv_at hl 1 rfl) ?_
  refine lv_tableIn (tgt := 275) hx hb dX9_doesWhole_1 (by decide) (by decide) (by rfl) (by decide) ?_
  refine lv_aload_n hx hb dX9_doesWhole_275 rfl (lv_at hl 0 rfl) ?_
  refine r_get hC hw rk9 in_X9_doesWhole_9 0 (wMl 0 (by decide)) wM0 4 (by decide) lk_X9_doesWhole_16 (v := .ref (ad 3)) rfl dX9_doesWhole_276 ?_
  refine lv_aload_n hx hb dX9_doesWhole_279 rfl (lv_at hl 0 rfl) ?_
  refine r_get hC hw rk9 in_X9_doesWhole_9 0 (wMl 0 (by decide)) wM0 30 (by decide) lk_X9_doesWhole_142 (v := .int (t 0)) rfl dX9_doesWhole_280 ?_
  refine lv_aload_n hx hb dX9_doesWhole_283 rfl (lv_at hl 0 rfl) ?_
  refine r_get hC hw rk9 in_X9_doesWhole_9 0 (wMl 0 (by decide)) wM0 4 (by decide) lk_X9_doesWhole_16 (v := .ref (ad 3)) rfl dX9_doesWhole_284 ?_
  refine lv_aload_n hx hb dX9_doesWhole_287 rfl (lv_at hl 0 rfl) ?_
  refine r_get hC hw rk9 in_X9_doesWhole_9 0 (wMl 0 (by decide)) wM0 31 (by decide) lk_X9_doesWhole_126 (v := .int (t 1)) rfl dX9_doesWhole_288 ?_
  refine r_iald hC hw 3 (wMl 3 (by decide)) wM3 (by assumption) dX9_doesWhole_291 ?_
  refine lv_aload_n hx hb dX9_doesWhole_292 rfl (lv_at hl 0 rfl) ?_
  refine r_get hC hw rk9 in_X9_doesWhole_9 0 (wMl 0 (by decide)) wM0 4 (by decide) lk_X9_doesWhole_16 (v := .ref (ad 3)) rfl dX9_doesWhole_293 ?_
  refine lv_aload_n hx hb dX9_doesWhole_296 rfl (lv_at hl 0 rfl) ?_
  refine r_get hC hw rk9 in_X9_doesWhole_9 0 (wMl 0 (by decide)) wM0 32 (by decide) lk_X9_doesWhole_123 (v := .int (t 2)) rfl dX9_doesWhole_297 ?_
  refine r_iald hC hw 3 (wMl 3 (by decide)) wM3 (by assumption) dX9_doesWhole_300 ?_
  refine lv_irem hx hb dX9_doesWhole_301 hz ?_
  refine r_iast hC hw 3 (wMl 3 (by decide)) wM3 (by assumption) dX9_doesWhole_302 (fun H locs hw => ?_)
  replace hw := mS_words hw
  refine lv_goto (tgt := 509) hx hb dX9_doesWhole_303 (by decide) ?_
  exact r_vret hC hr hlk hw ((uA κ 2 (aN (t 0)) ((sA κ 2 (aN (t 1))) - (sA κ 2 (aN (t 1))) / (sA κ 2 (aN (t 2))) * (sA κ 2 (aN (t 2))))), t) rfl rfl (Nat.le_of_ble_eq_true rfl) (Nat.le_of_ble_eq_true rfl) dX9_doesWhole_509

set_option maxHeartbeats 4000000 in
set_option maxRecDepth 100000 in
theorem c_X9_doesWhole_9 (l : Launch) {D : va_G} {q : Nat → ClassId} {ad : Nat → Nat} {κ : KS} {t : Nat → Int32} (sz : Nat) (hs : okStep 9 (t 0) (t 1) (t 2)) (hW : WFm κ) (hy : why κ 9 (t 0) (t 1) (t 2) = 0) (hN : nnOp κ 9 (t 0) (t 1) (t 2)) (hc : vp_in (sI κ 6) 13) (hm : vp_in (sI κ 2) 61) (hT : ¬ sI κ 7 < 0) : Met l yX9_doesWhole wsX9_doesWhole (rmz 0 0) (va_Pc [.ref (ad 0), .int 9] (rPre D q (wM q ad κ t) sz)) (va_Qv (fun (u : KS × (Nat → Int32)) => u = (act κ (t 4) (t 5) 9 (t 0) (t 1) (t 2), t)) (fun (u : KS × (Nat → Int32)) tt => rPo D (rA (wM q ad κ t) sz) (wM q ad u.1 u.2) tt) (rA (wM q ad κ t) sz)) 0 0 (rA (wM q ad κ t) sz) := by
  have hi0 : vp_in (t 0) 4 := hs.1
  have hi1 : vp_in (t 1) 4 := hs.2.1
  have hi2 : vp_in (t 2) 4 := hs.2.2
  refine r_start (cc := cX9_doesWhole) (maxL := 2) (ret := none) (by decide) rfl (Nat.le_of_ble_eq_true rfl) ?_
  intro p e s m below meth c ls hC hr hlk hnm hsz hw hl
  have hx := hC.1
  have hb := hC.2.1
  have hl : lv_has ls 2 [(0, .ref (ad 0)), (1, .int 9)] := hl
  refine lv_iload_n hx hb dX9_doesWhole_0 rfl (lv_at hl 1 rfl) ?_
  refine lv_tableIn (tgt := 306) hx hb dX9_doesWhole_1 (by decide) (by decide) (by rfl) (by decide) ?_
  refine lv_aload_n hx hb dX9_doesWhole_306 rfl (lv_at hl 0 rfl) ?_
  refine r_get hC hw rk9 in_X9_doesWhole_9 0 (wMl 0 (by decide)) wM0 5 (by decide) lk_X9_doesWhole_19 (v := .ref (ad 4)) rfl dX9_doesWhole_307 ?_
  refine lv_aload_n hx hb dX9_doesWhole_310 rfl (lv_at hl 0 rfl) ?_
  refine r_get hC hw rk9 in_X9_doesWhole_9 0 (wMl 0 (by decide)) wM0 30 (by decide) lk_X9_doesWhole_142 (v := .int (t 0)) rfl dX9_doesWhole_311 ?_
  refine lv_aload_n hx hb dX9_doesWhole_314 rfl (lv_at hl 0 rfl) ?_
  refine r_get hC hw rk9 in_X9_doesWhole_9 0 (wMl 0 (by decide)) wM0 5 (by decide) lk_X9_doesWhole_19 (v := .ref (ad 4)) rfl dX9_doesWhole_315 ?_
  refine lv_aload_n hx hb dX9_doesWhole_318 rfl (lv_at hl 0 rfl) ?_
  refine r_get hC hw rk9 in_X9_doesWhole_9 0 (wMl 0 (by decide)) wM0 31 (by decide) lk_X9_doesWhole_126 (v := .int (t 1)) rfl dX9_doesWhole_319 ?_
  refine r_lald hC hw 4 (wMl 4 (by decide)) wM4 (by assumption) dX9_doesWhole_322 ?_
  refine lv_aload_n hx hb dX9_doesWhole_323 rfl (lv_at hl 0 rfl) ?_
  refine r_get hC hw rk9 in_X9_doesWhole_9 0 (wMl 0 (by decide)) wM0 5 (by decide) lk_X9_doesWhole_19 (v := .ref (ad 4)) rfl dX9_doesWhole_324 ?_
  refine lv_aload_n hx hb dX9_doesWhole_327 rfl (lv_at hl 0 rfl) ?_
  refine r_get hC hw rk9 in_X9_doesWhole_9 0 (wMl 0 (by decide)) wM0 32 (by decide) lk_X9_doesWhole_123 (v := .int (t 2)) rfl dX9_doesWhole_328 ?_
  refine r_lald hC hw 4 (wMl 4 (by decide)) wM4 (by assumption) dX9_doesWhole_331 ?_
  refine lv_ladd hx hb dX9_doesWhole_332 ?_
  refine r_last hC hw 4 (wMl 4 (by decide)) wM4 (by assumption) dX9_doesWhole_333 (fun H locs hw => ?_)
  replace hw := mS_wides hw
  refine lv_goto (tgt := 509) hx hb dX9_doesWhole_334 (by decide) ?_
  exact r_vret hC hr hlk hw ((uJ κ 0 (aN (t 0)) ((sJ κ 0 (aN (t 1))) + (sJ κ 0 (aN (t 2))))), t) rfl rfl (Nat.le_of_ble_eq_true rfl) (Nat.le_of_ble_eq_true rfl) dX9_doesWhole_509

set_option maxHeartbeats 4000000 in
set_option maxRecDepth 100000 in
theorem c_X9_doesWhole_10 (l : Launch) {D : va_G} {q : Nat → ClassId} {ad : Nat → Nat} {κ : KS} {t : Nat → Int32} (sz : Nat) (hs : okStep 10 (t 0) (t 1) (t 2)) (hW : WFm κ) (hy : why κ 10 (t 0) (t 1) (t 2) = 0) (hN : nnOp κ 10 (t 0) (t 1) (t 2)) (hc : vp_in (sI κ 6) 13) (hm : vp_in (sI κ 2) 61) (hT : ¬ sI κ 7 < 0) : Met l yX9_doesWhole wsX9_doesWhole (rmz 0 0) (va_Pc [.ref (ad 0), .int 10] (rPre D q (wM q ad κ t) sz)) (va_Qv (fun (u : KS × (Nat → Int32)) => u = (act κ (t 4) (t 5) 10 (t 0) (t 1) (t 2), t)) (fun (u : KS × (Nat → Int32)) tt => rPo D (rA (wM q ad κ t) sz) (wM q ad u.1 u.2) tt) (rA (wM q ad κ t) sz)) 0 0 (rA (wM q ad κ t) sz) := by
  have hi0 : vp_in (t 0) 4 := hs.1
  have hi1 : vp_in (t 1) 4 := hs.2.1
  have hi2 : vp_in (t 2) 4 := hs.2.2
  refine r_start (cc := cX9_doesWhole) (maxL := 2) (ret := none) (by decide) rfl (Nat.le_of_ble_eq_true rfl) ?_
  intro p e s m below meth c ls hC hr hlk hnm hsz hw hl
  have hx := hC.1
  have hb := hC.2.1
  have hl : lv_has ls 2 [(0, .ref (ad 0)), (1, .int 10)] := hl
  refine lv_iload_n hx hb dX9_doesWhole_0 rfl (lv_at hl 1 rfl) ?_
  refine lv_tableIn (tgt := 337) hx hb dX9_doesWhole_1 (by decide) (by decide) (by rfl) (by decide) ?_
  refine lv_aload_n hx hb dX9_doesWhole_337 rfl (lv_at hl 0 rfl) ?_
  refine r_get hC hw rk9 in_X9_doesWhole_9 0 (wMl 0 (by decide)) wM0 5 (by decide) lk_X9_doesWhole_19 (v := .ref (ad 4)) rfl dX9_doesWhole_338 ?_
  refine lv_aload_n hx hb dX9_doesWhole_341 rfl (lv_at hl 0 rfl) ?_
  refine r_get hC hw rk9 in_X9_doesWhole_9 0 (wMl 0 (by decide)) wM0 30 (by decide) lk_X9_doesWhole_142 (v := .int (t 0)) rfl dX9_doesWhole_342 ?_
  refine lv_aload_n hx hb dX9_doesWhole_345 rfl (lv_at hl 0 rfl) ?_
  refine r_get hC hw rk9 in_X9_doesWhole_9 0 (wMl 0 (by decide)) wM0 5 (by decide) lk_X9_doesWhole_19 (v := .ref (ad 4)) rfl dX9_doesWhole_346 ?_
  refine lv_aload_n hx hb dX9_doesWhole_349 rfl (lv_at hl 0 rfl) ?_
  refine r_get hC hw rk9 in_X9_doesWhole_9 0 (wMl 0 (by decide)) wM0 31 (by decide) lk_X9_doesWhole_126 (v := .int (t 1)) rfl dX9_doesWhole_350 ?_
  refine r_lald hC hw 4 (wMl 4 (by decide)) wM4 (by assumption) dX9_doesWhole_353 ?_
  refine lv_aload_n hx hb dX9_doesWhole_354 rfl (lv_at hl 0 rfl) ?_
  refine r_get hC hw rk9 in_X9_doesWhole_9 0 (wMl 0 (by decide)) wM0 5 (by decide) lk_X9_doesWhole_19 (v := .ref (ad 4)) rfl dX9_doesWhole_355 ?_
  refine lv_aload_n hx hb dX9_doesWhole_358 rfl (lv_at hl 0 rfl) ?_
  refine r_get hC hw rk9 in_X9_doesWhole_9 0 (wMl 0 (by decide)) wM0 32 (by decide) lk_X9_doesWhole_123 (v := .int (t 2)) rfl dX9_doesWhole_359 ?_
  refine r_lald hC hw 4 (wMl 4 (by decide)) wM4 (by assumption) dX9_doesWhole_362 ?_
  refine lv_lmul hx hb dX9_doesWhole_363 ?_
  refine r_last hC hw 4 (wMl 4 (by decide)) wM4 (by assumption) dX9_doesWhole_364 (fun H locs hw => ?_)
  replace hw := mS_wides hw
  refine lv_goto (tgt := 509) hx hb dX9_doesWhole_365 (by decide) ?_
  exact r_vret hC hr hlk hw ((uJ κ 0 (aN (t 0)) ((sJ κ 0 (aN (t 1))) * (sJ κ 0 (aN (t 2))))), t) rfl rfl (Nat.le_of_ble_eq_true rfl) (Nat.le_of_ble_eq_true rfl) dX9_doesWhole_509

set_option maxHeartbeats 4000000 in
set_option maxRecDepth 100000 in
theorem c_X9_doesWhole_11 (l : Launch) {D : va_G} {q : Nat → ClassId} {ad : Nat → Nat} {κ : KS} {t : Nat → Int32} (sz : Nat) (hs : okStep 11 (t 0) (t 1) (t 2)) (hW : WFm κ) (hy : why κ 11 (t 0) (t 1) (t 2) = 0) (hN : nnOp κ 11 (t 0) (t 1) (t 2)) (hc : vp_in (sI κ 6) 13) (hm : vp_in (sI κ 2) 61) (hT : ¬ sI κ 7 < 0) : Met l yX9_doesWhole wsX9_doesWhole (rmz 0 0) (va_Pc [.ref (ad 0), .int 11] (rPre D q (wM q ad κ t) sz)) (va_Qv (fun (u : KS × (Nat → Int32)) => u = (act κ (t 4) (t 5) 11 (t 0) (t 1) (t 2), t)) (fun (u : KS × (Nat → Int32)) tt => rPo D (rA (wM q ad κ t) sz) (wM q ad u.1 u.2) tt) (rA (wM q ad κ t) sz)) 0 0 (rA (wM q ad κ t) sz) := by
  have hi0 : vp_in (t 0) 4 := hs.1
  have hi1 : vp_in (t 1) 4 := hs.2.1
  have hi2 : vp_in (t 2) 4 := hs.2.2
  have hz := lg_ne (y6 hy).1
  refine r_start (cc := cX9_doesWhole) (maxL := 2) (ret := none) (by decide) rfl (Nat.le_of_ble_eq_true rfl) ?_
  intro p e s m below meth c ls hC hr hlk hnm hsz hw hl
  have hx := hC.1
  have hb := hC.2.1
  have hl : lv_has ls 2 [(0, .ref (ad 0)), (1, .int 11)] := hl
  refine lv_iload_n hx hb dX9_doesWhole_0 rfl (lv_at hl 1 rfl) ?_
  refine lv_tableIn (tgt := 368) hx hb dX9_doesWhole_1 (by decide) (by decide) (by rfl) (by decide) ?_
  refine lv_aload_n hx hb dX9_doesWhole_368 rfl (lv_at hl 0 rfl) ?_
  refine r_get hC hw rk9 in_X9_doesWhole_9 0 (wMl 0 (by decide)) wM0 5 (by decide) lk_X9_doesWhole_19 (v := .ref (ad 4)) rfl dX9_doesWhole_369 ?_
  refine lv_aload_n hx hb dX9_doesWhole_372 rfl (lv_at hl 0 rfl) ?_
  refine r_get hC hw rk9 in_X9_doesWhole_9 0 (wMl 0 (by decide)) wM0 30 (by decide) lk_X9_doesWhole_142 (v := .int (t 0)) rfl dX9_doesWhole_373 ?_
  refine lv_aload_n hx hb dX9_doesWhole_376 rfl (lv_at hl 0 rfl) ?_
  refine r_get hC hw rk9 in_X9_doesWhole_9 0 (wMl 0 (by decide)) wM0 5 (by decide) lk_X9_doesWhole_19 (v := .ref (ad 4)) rfl dX9_doesWhole_377 ?_
  refine lv_aload_n hx hb dX9_doesWhole_380 rfl (lv_at hl 0 rfl) ?_
  refine r_get hC hw rk9 in_X9_doesWhole_9 0 (wMl 0 (by decide)) wM0 31 (by decide) lk_X9_doesWhole_126 (v := .int (t 1)) rfl dX9_doesWhole_381 ?_
  refine r_lald hC hw 4 (wMl 4 (by decide)) wM4 (by assumption) dX9_doesWhole_384 ?_
  refine lv_aload_n hx hb dX9_doesWhole_385 rfl (lv_at hl 0 rfl) ?_
  refine r_get hC hw rk9 in_X9_doesWhole_9 0 (wMl 0 (by decide)) wM0 5 (by decide) lk_X9_doesWhole_19 (v := .ref (ad 4)) rfl dX9_doesWhole_386 ?_
  refine lv_aload_n hx hb dX9_doesWhole_389 rfl (lv_at hl 0 rfl) ?_
  refine r_get hC hw rk9 in_X9_doesWhole_9 0 (wMl 0 (by decide)) wM0 32 (by decide) lk_X9_doesWhole_123 (v := .int (t 2)) rfl dX9_doesWhole_390 ?_
  refine r_lald hC hw 4 (wMl 4 (by decide)) wM4 (by assumption) dX9_doesWhole_393 ?_
  refine lv_ldiv hx hb dX9_doesWhole_394 hz ?_
  refine r_last hC hw 4 (wMl 4 (by decide)) wM4 (by assumption) dX9_doesWhole_395 (fun H locs hw => ?_)
  replace hw := mS_wides hw
  refine lv_goto (tgt := 509) hx hb dX9_doesWhole_396 (by decide) ?_
  exact r_vret hC hr hlk hw ((uJ κ 0 (aN (t 0)) ((sJ κ 0 (aN (t 1))) / (sJ κ 0 (aN (t 2))))), t) rfl rfl (Nat.le_of_ble_eq_true rfl) (Nat.le_of_ble_eq_true rfl) dX9_doesWhole_509

set_option maxHeartbeats 4000000 in
set_option maxRecDepth 100000 in
theorem c_X9_doesWhole_12 (l : Launch) {D : va_G} {q : Nat → ClassId} {ad : Nat → Nat} {κ : KS} {t : Nat → Int32} (sz : Nat) (hs : okStep 12 (t 0) (t 1) (t 2)) (hW : WFm κ) (hy : why κ 12 (t 0) (t 1) (t 2) = 0) (hN : nnOp κ 12 (t 0) (t 1) (t 2)) (hc : vp_in (sI κ 6) 13) (hm : vp_in (sI κ 2) 61) (hT : ¬ sI κ 7 < 0) : Met l yX9_doesWhole wsX9_doesWhole (rmz 0 0) (va_Pc [.ref (ad 0), .int 12] (rPre D q (wM q ad κ t) sz)) (va_Qv (fun (u : KS × (Nat → Int32)) => u = (act κ (t 4) (t 5) 12 (t 0) (t 1) (t 2), t)) (fun (u : KS × (Nat → Int32)) tt => rPo D (rA (wM q ad κ t) sz) (wM q ad u.1 u.2) tt) (rA (wM q ad κ t) sz)) 0 0 (rA (wM q ad κ t) sz) := by
  have hi0 : vp_in (t 0) 4 := hs.1
  have hi1 : vp_in (t 1) 4 := hs.2.1
  have hi2 : vp_in (t 2) 4 := hs.2.2
  have hz := lg_ne (y6 hy).1
  refine r_start (cc := cX9_doesWhole) (maxL := 2) (ret := none) (by decide) rfl (Nat.le_of_ble_eq_true rfl) ?_
  intro p e s m below meth c ls hC hr hlk hnm hsz hw hl
  have hx := hC.1
  have hb := hC.2.1
  have hl : lv_has ls 2 [(0, .ref (ad 0)), (1, .int 12)] := hl
  refine lv_iload_n hx hb dX9_doesWhole_0 rfl (lv_at hl 1 rfl) ?_
  refine lv_tableIn (tgt := 399) hx hb dX9_doesWhole_1 (by decide) (by decide) (by rfl) (by decide) ?_
  refine lv_aload_n hx hb dX9_doesWhole_399 rfl (lv_at hl 0 rfl) ?_
  refine r_get hC hw rk9 in_X9_doesWhole_9 0 (wMl 0 (by decide)) wM0 5 (by decide) lk_X9_doesWhole_19 (v := .ref (ad 4)) rfl dX9_doesWhole_400 ?_
  refine lv_aload_n hx hb dX9_doesWhole_403 rfl (lv_at hl 0 rfl) ?_
  refine r_get hC hw rk9 in_X9_doesWhole_9 0 (wMl 0 (by decide)) wM0 30 (by decide) lk_X9_doesWhole_142 (v := .int (t 0)) rfl dX9_doesWhole_404 ?_
  refine lv_aload_n hx hb dX9_doesWhole_407 rfl (lv_at hl 0 rfl) ?_
  refine r_get hC hw rk9 in_X9_doesWhole_9 0 (wMl 0 (by decide)) wM0 5 (by decide) lk_X9_doesWhole_19 (v := .ref (ad 4)) rfl dX9_doesWhole_408 ?_
  refine lv_aload_n hx hb dX9_doesWhole_411 rfl (lv_at hl 0 rfl) ?_
  refine r_get hC hw rk9 in_X9_doesWhole_9 0 (wMl 0 (by decide)) wM0 31 (by decide) lk_X9_doesWhole_126 (v := .int (t 1)) rfl dX9_doesWhole_412 ?_
  refine r_lald hC hw 4 (wMl 4 (by decide)) wM4 (by assumption) dX9_doesWhole_415 ?_
  refine lv_aload_n hx hb dX9_doesWhole_416 rfl (lv_at hl 0 rfl) ?_
  refine r_get hC hw rk9 in_X9_doesWhole_9 0 (wMl 0 (by decide)) wM0 5 (by decide) lk_X9_doesWhole_19 (v := .ref (ad 4)) rfl dX9_doesWhole_417 ?_
  refine lv_aload_n hx hb dX9_doesWhole_420 rfl (lv_at hl 0 rfl) ?_
  refine r_get hC hw rk9 in_X9_doesWhole_9 0 (wMl 0 (by decide)) wM0 32 (by decide) lk_X9_doesWhole_123 (v := .int (t 2)) rfl dX9_doesWhole_421 ?_
  refine r_lald hC hw 4 (wMl 4 (by decide)) wM4 (by assumption) dX9_doesWhole_424 ?_
  refine lv_lrem hx hb dX9_doesWhole_425 hz ?_
  refine r_last hC hw 4 (wMl 4 (by decide)) wM4 (by assumption) dX9_doesWhole_426 (fun H locs hw => ?_)
  replace hw := mS_wides hw
  refine lv_goto (tgt := 509) hx hb dX9_doesWhole_427 (by decide) ?_
  exact r_vret hC hr hlk hw ((uJ κ 0 (aN (t 0)) ((sJ κ 0 (aN (t 1))) - (sJ κ 0 (aN (t 1))) / (sJ κ 0 (aN (t 2))) * (sJ κ 0 (aN (t 2))))), t) rfl rfl (Nat.le_of_ble_eq_true rfl) (Nat.le_of_ble_eq_true rfl) dX9_doesWhole_509

set_option maxHeartbeats 4000000 in
set_option maxRecDepth 100000 in
theorem c_X9_doesWhole_13 (l : Launch) {D : va_G} {q : Nat → ClassId} {ad : Nat → Nat} {κ : KS} {t : Nat → Int32} (sz : Nat) (hs : okStep 13 (t 0) (t 1) (t 2)) (hW : WFm κ) (hy : why κ 13 (t 0) (t 1) (t 2) = 0) (hN : nnOp κ 13 (t 0) (t 1) (t 2)) (hc : vp_in (sI κ 6) 13) (hm : vp_in (sI κ 2) 61) (hT : ¬ sI κ 7 < 0) : Met l yX9_doesWhole wsX9_doesWhole (rmz 0 0) (va_Pc [.ref (ad 0), .int 13] (rPre D q (wM q ad κ t) sz)) (va_Qv (fun (u : KS × (Nat → Int32)) => u = (act κ (t 4) (t 5) 13 (t 0) (t 1) (t 2), t)) (fun (u : KS × (Nat → Int32)) tt => rPo D (rA (wM q ad κ t) sz) (wM q ad u.1 u.2) tt) (rA (wM q ad κ t) sz)) 0 0 (rA (wM q ad κ t) sz) := by
  have hi0 : vp_in (t 0) 4 := hs.1
  have hi1 : vp_in (t 1) 8 := hs.2.1
  refine r_start (cc := cX9_doesWhole) (maxL := 2) (ret := none) (by decide) rfl (Nat.le_of_ble_eq_true rfl) ?_
  intro p e s m below meth c ls hC hr hlk hnm hsz hw hl
  have hx := hC.1
  have hb := hC.2.1
  have hl : lv_has ls 2 [(0, .ref (ad 0)), (1, .int 13)] := hl
  refine lv_iload_n hx hb dX9_doesWhole_0 rfl (lv_at hl 1 rfl) ?_
  refine lv_tableIn (tgt := 430) hx hb dX9_doesWhole_1 (by decide) (by decide) (by rfl) (by decide) ?_
  refine lv_aload_n hx hb dX9_doesWhole_430 rfl (lv_at hl 0 rfl) ?_
  refine r_get hC hw rk9 in_X9_doesWhole_9 0 (wMl 0 (by decide)) wM0 5 (by decide) lk_X9_doesWhole_19 (v := .ref (ad 4)) rfl dX9_doesWhole_431 ?_
  refine lv_aload_n hx hb dX9_doesWhole_434 rfl (lv_at hl 0 rfl) ?_
  refine r_get hC hw rk9 in_X9_doesWhole_9 0 (wMl 0 (by decide)) wM0 30 (by decide) lk_X9_doesWhole_142 (v := .int (t 0)) rfl dX9_doesWhole_435 ?_
  refine lv_aload_n hx hb dX9_doesWhole_438 rfl (lv_at hl 0 rfl) ?_
  refine r_get hC hw rk9 in_X9_doesWhole_9 0 (wMl 0 (by decide)) wM0 4 (by decide) lk_X9_doesWhole_16 (v := .ref (ad 3)) rfl dX9_doesWhole_439 ?_
  refine lv_aload_n hx hb dX9_doesWhole_442 rfl (lv_at hl 0 rfl) ?_
  refine r_get hC hw rk9 in_X9_doesWhole_9 0 (wMl 0 (by decide)) wM0 31 (by decide) lk_X9_doesWhole_126 (v := .int (t 1)) rfl dX9_doesWhole_443 ?_
  refine r_iald hC hw 3 (wMl 3 (by decide)) wM3 (by assumption) dX9_doesWhole_446 ?_
  refine lv_i2l (v := (sA κ 2 (aN (t 1))).toInt64) hx hb dX9_doesWhole_447 rfl ?_
  refine r_last hC hw 4 (wMl 4 (by decide)) wM4 (by assumption) dX9_doesWhole_448 (fun H locs hw => ?_)
  replace hw := mS_wides hw
  refine lv_goto (tgt := 509) hx hb dX9_doesWhole_449 (by decide) ?_
  exact r_vret hC hr hlk hw ((uJ κ 0 (aN (t 0)) ((sA κ 2 (aN (t 1))).toInt64)), t) rfl rfl (Nat.le_of_ble_eq_true rfl) (Nat.le_of_ble_eq_true rfl) dX9_doesWhole_509

set_option maxHeartbeats 4000000 in
set_option maxRecDepth 100000 in
theorem c_X9_doesWhole_14 (l : Launch) {D : va_G} {q : Nat → ClassId} {ad : Nat → Nat} {κ : KS} {t : Nat → Int32} (sz : Nat) (hs : okStep 14 (t 0) (t 1) (t 2)) (hW : WFm κ) (hy : why κ 14 (t 0) (t 1) (t 2) = 0) (hN : nnOp κ 14 (t 0) (t 1) (t 2)) (hc : vp_in (sI κ 6) 13) (hm : vp_in (sI κ 2) 61) (hT : ¬ sI κ 7 < 0) : Met l yX9_doesWhole wsX9_doesWhole (rmz 0 0) (va_Pc [.ref (ad 0), .int 14] (rPre D q (wM q ad κ t) sz)) (va_Qv (fun (u : KS × (Nat → Int32)) => u = (act κ (t 4) (t 5) 14 (t 0) (t 1) (t 2), t)) (fun (u : KS × (Nat → Int32)) tt => rPo D (rA (wM q ad κ t) sz) (wM q ad u.1 u.2) tt) (rA (wM q ad κ t) sz)) 0 0 (rA (wM q ad κ t) sz) := by
  have hi0 : vp_in (t 0) 8 := hs.1
  have hi1 : vp_in (t 1) 4 := hs.2.1
  refine r_start (cc := cX9_doesWhole) (maxL := 2) (ret := none) (by decide) rfl (Nat.le_of_ble_eq_true rfl) ?_
  intro p e s m below meth c ls hC hr hlk hnm hsz hw hl
  have hx := hC.1
  have hb := hC.2.1
  have hl : lv_has ls 2 [(0, .ref (ad 0)), (1, .int 14)] := hl
  refine lv_iload_n hx hb dX9_doesWhole_0 rfl (lv_at hl 1 rfl) ?_
  refine lv_tableIn (tgt := 452) hx hb dX9_doesWhole_1 (by decide) (by decide) (by rfl) (by decide) ?_
  refine lv_aload_n hx hb dX9_doesWhole_452 rfl (lv_at hl 0 rfl) ?_
  refine r_get hC hw rk9 in_X9_doesWhole_9 0 (wMl 0 (by decide)) wM0 4 (by decide) lk_X9_doesWhole_16 (v := .ref (ad 3)) rfl dX9_doesWhole_453 ?_
  refine lv_aload_n hx hb dX9_doesWhole_456 rfl (lv_at hl 0 rfl) ?_
  refine r_get hC hw rk9 in_X9_doesWhole_9 0 (wMl 0 (by decide)) wM0 30 (by decide) lk_X9_doesWhole_142 (v := .int (t 0)) rfl dX9_doesWhole_457 ?_
  refine lv_aload_n hx hb dX9_doesWhole_460 rfl (lv_at hl 0 rfl) ?_
  refine r_get hC hw rk9 in_X9_doesWhole_9 0 (wMl 0 (by decide)) wM0 5 (by decide) lk_X9_doesWhole_19 (v := .ref (ad 4)) rfl dX9_doesWhole_461 ?_
  refine lv_aload_n hx hb dX9_doesWhole_464 rfl (lv_at hl 0 rfl) ?_
  refine r_get hC hw rk9 in_X9_doesWhole_9 0 (wMl 0 (by decide)) wM0 31 (by decide) lk_X9_doesWhole_126 (v := .int (t 1)) rfl dX9_doesWhole_465 ?_
  refine r_lald hC hw 4 (wMl 4 (by decide)) wM4 (by assumption) dX9_doesWhole_468 ?_
  refine lv_l2i (v := (sJ κ 0 (aN (t 1))).toInt32) hx hb dX9_doesWhole_469 rfl ?_
  refine r_iast hC hw 3 (wMl 3 (by decide)) wM3 (by assumption) dX9_doesWhole_470 (fun H locs hw => ?_)
  replace hw := mS_words hw
  refine lv_goto (tgt := 509) hx hb dX9_doesWhole_471 (by decide) ?_
  exact r_vret hC hr hlk hw ((uA κ 2 (aN (t 0)) ((sJ κ 0 (aN (t 1))).toInt32)), t) rfl rfl (Nat.le_of_ble_eq_true rfl) (Nat.le_of_ble_eq_true rfl) dX9_doesWhole_509

set_option maxHeartbeats 4000000 in
set_option maxRecDepth 100000 in
theorem c_X9_doesWhole_25 (l : Launch) {D : va_G} {q : Nat → ClassId} {ad : Nat → Nat} {κ : KS} {t : Nat → Int32} (sz : Nat) (hs : okStep 25 (t 0) (t 1) (t 2)) (hW : WFm κ) (hy : why κ 25 (t 0) (t 1) (t 2) = 0) (hN : nnOp κ 25 (t 0) (t 1) (t 2)) (hc : vp_in (sI κ 6) 13) (hm : vp_in (sI κ 2) 61) (hT : ¬ sI κ 7 < 0) : Met l yX9_doesWhole wsX9_doesWhole (rmz 0 0) (va_Pc [.ref (ad 0), .int 25] (rPre D q (wM q ad κ t) sz)) (va_Qv (fun (u : KS × (Nat → Int32)) => u = (act κ (t 4) (t 5) 25 (t 0) (t 1) (t 2), t)) (fun (u : KS × (Nat → Int32)) tt => rPo D (rA (wM q ad κ t) sz) (wM q ad u.1 u.2) tt) (rA (wM q ad κ t) sz)) 0 0 (rA (wM q ad κ t) sz) := by
  have hi0 : vp_in (t 0) 8 := hs.1
  have hi1 : vp_in (t 1) 8 := hs.2.1
  have hi2 : vp_in (t 2) 8 := hs.2.2
  refine r_start (cc := cX9_doesWhole) (maxL := 2) (ret := none) (by decide) rfl (Nat.le_of_ble_eq_true rfl) ?_
  intro p e s m below meth c ls hC hr hlk hnm hsz hw hl
  have hx := hC.1
  have hb := hC.2.1
  have hl : lv_has ls 2 [(0, .ref (ad 0)), (1, .int 25)] := hl
  refine lv_iload_n hx hb dX9_doesWhole_0 rfl (lv_at hl 1 rfl) ?_
  refine lv_tableOut (tgt := 474) hx hb dX9_doesWhole_1 (by decide) (by decide) ?_
  refine lv_aload_n hx hb dX9_doesWhole_474 rfl (lv_at hl 0 rfl) ?_
  refine r_get hC hw rk9 in_X9_doesWhole_9 0 (wMl 0 (by decide)) wM0 4 (by decide) lk_X9_doesWhole_16 (v := .ref (ad 3)) rfl dX9_doesWhole_475 ?_
  refine lv_aload_n hx hb dX9_doesWhole_478 rfl (lv_at hl 0 rfl) ?_
  refine r_get hC hw rk9 in_X9_doesWhole_9 0 (wMl 0 (by decide)) wM0 30 (by decide) lk_X9_doesWhole_142 (v := .int (t 0)) rfl dX9_doesWhole_479 ?_
  refine lv_aload_n hx hb dX9_doesWhole_482 rfl (lv_at hl 0 rfl) ?_
  refine r_get hC hw rk9 in_X9_doesWhole_9 0 (wMl 0 (by decide)) wM0 4 (by decide) lk_X9_doesWhole_16 (v := .ref (ad 3)) rfl dX9_doesWhole_483 ?_
  refine lv_aload_n hx hb dX9_doesWhole_486 rfl (lv_at hl 0 rfl) ?_
  refine r_get hC hw rk9 in_X9_doesWhole_9 0 (wMl 0 (by decide)) wM0 31 (by decide) lk_X9_doesWhole_126 (v := .int (t 1)) rfl dX9_doesWhole_487 ?_
  refine r_iald hC hw 3 (wMl 3 (by decide)) wM3 (by assumption) dX9_doesWhole_490 ?_
  refine lv_aload_n hx hb dX9_doesWhole_491 rfl (lv_at hl 0 rfl) ?_
  refine r_get hC hw rk9 in_X9_doesWhole_9 0 (wMl 0 (by decide)) wM0 4 (by decide) lk_X9_doesWhole_16 (v := .ref (ad 3)) rfl dX9_doesWhole_492 ?_
  refine lv_aload_n hx hb dX9_doesWhole_495 rfl (lv_at hl 0 rfl) ?_
  refine r_get hC hw rk9 in_X9_doesWhole_9 0 (wMl 0 (by decide)) wM0 32 (by decide) lk_X9_doesWhole_123 (v := .int (t 2)) rfl dX9_doesWhole_496 ?_
  refine r_iald hC hw 3 (wMl 3 (by decide)) wM3 (by assumption) dX9_doesWhole_499 ?_
  refine lv_icmp_ge (tgt := 507) hx hb dX9_doesWhole_500 (by decide) (fun c_1 => ?_) (fun c_1 => ?_)
  · refine lv_iconst (v := 0) hx hb dX9_doesWhole_507 (by decide) ?_
    refine r_iast hC hw 3 (wMl 3 (by decide)) wM3 (by assumption) dX9_doesWhole_508 (fun H locs hw => ?_)
    replace hw := mS_words hw
    exact r_vret hC hr hlk hw ((uA κ 2 (aN (t 0)) 0), t) rfl (congrArg (fun z => (uA κ 2 (aN (t 0)) z, t)) (if_pos c_1).symm) (Nat.le_of_ble_eq_true rfl) (Nat.le_of_ble_eq_true rfl) dX9_doesWhole_509
  · refine lv_iconst (v := 1) hx hb dX9_doesWhole_503 (by decide) ?_
    refine lv_goto (tgt := 508) hx hb dX9_doesWhole_504 (by decide) ?_
    refine r_iast hC hw 3 (wMl 3 (by decide)) wM3 (by assumption) dX9_doesWhole_508 (fun H locs hw => ?_)
    replace hw := mS_words hw
    exact r_vret hC hr hlk hw ((uA κ 2 (aN (t 0)) 1), t) rfl (congrArg (fun z => (uA κ 2 (aN (t 0)) z, t)) (if_neg c_1).symm) (Nat.le_of_ble_eq_true rfl) (Nat.le_of_ble_eq_true rfl) dX9_doesWhole_509

set_option maxHeartbeats 4000000 in
set_option maxRecDepth 100000 in
theorem c_X9_doesPoint_15 (l : Launch) {D : va_G} {q : Nat → ClassId} {ad : Nat → Nat} {κ : KS} {t : Nat → Int32} (sz : Nat) (hs : okStep 15 (t 0) (t 1) (t 2)) (hW : WFm κ) (hy : why κ 15 (t 0) (t 1) (t 2) = 0) (hN : nnOp κ 15 (t 0) (t 1) (t 2)) (hc : vp_in (sI κ 6) 13) (hm : vp_in (sI κ 2) 61) (hT : ¬ sI κ 7 < 0) : Met l yX9_doesPoint wsX9_doesPoint (rmz 0 0) (va_Pc [.ref (ad 0), .int 15] (rPre D q (wM q ad κ t) sz)) (va_Qv (fun (u : KS × (Nat → Int32)) => u = (act κ (t 4) (t 5) 15 (t 0) (t 1) (t 2), t)) (fun (u : KS × (Nat → Int32)) tt => rPo D (rA (wM q ad κ t) sz) (wM q ad u.1 u.2) tt) (rA (wM q ad κ t) sz)) 0 0 (rA (wM q ad κ t) sz) := by
  have hi0 : vp_in (t 0) 4 := hs.1
  have hi1 : vp_in (t 1) 4 := hs.2.1
  refine r_start (cc := cX9_doesPoint) (maxL := 2) (ret := none) (by decide) rfl (Nat.le_of_ble_eq_true rfl) ?_
  intro p e s m below meth c ls hC hr hlk hnm hsz hw hl
  have hx := hC.1
  have hb := hC.2.1
  have hl : lv_has ls 2 [(0, .ref (ad 0)), (1, .int 15)] := hl
  refine lv_iload_n hx hb dX9_doesPoint_0 rfl (lv_at hl 1 rfl) ?_
  refine lv_tableIn (tgt := 56) hx hb dX9_doesPoint_1 (by decide) (by decide) (by rfl) (by decide) ?_
  refine lv_aload_n hx hb dX9_doesPoint_56 rfl (lv_at hl 0 rfl) ?_
  refine r_get hC hw rk9 in_X9_doesPoint_9 0 (wMl 0 (by decide)) wM0 6 (by decide) lk_X9_doesPoint_23 (v := .ref (ad 5)) rfl dX9_doesPoint_57 ?_
  refine lv_aload_n hx hb dX9_doesPoint_60 rfl (lv_at hl 0 rfl) ?_
  refine r_get hC hw rk9 in_X9_doesPoint_9 0 (wMl 0 (by decide)) wM0 30 (by decide) lk_X9_doesPoint_142 (v := .int (t 0)) rfl dX9_doesPoint_61 ?_
  refine lv_aload_n hx hb dX9_doesPoint_64 rfl (lv_at hl 0 rfl) ?_
  refine r_get hC hw rk9 in_X9_doesPoint_9 0 (wMl 0 (by decide)) wM0 5 (by decide) lk_X9_doesPoint_19 (v := .ref (ad 4)) rfl dX9_doesPoint_65 ?_
  refine lv_aload_n hx hb dX9_doesPoint_68 rfl (lv_at hl 0 rfl) ?_
  refine r_get hC hw rk9 in_X9_doesPoint_9 0 (wMl 0 (by decide)) wM0 31 (by decide) lk_X9_doesPoint_126 (v := .int (t 1)) rfl dX9_doesPoint_69 ?_
  refine r_lald hC hw 4 (wMl 4 (by decide)) wM4 (by assumption) dX9_doesPoint_72 ?_
  refine lv_l2f hx hb dX9_doesPoint_73 ?_
  refine r_fast hC hw 5 (wMl 5 (by decide)) wM5 (by assumption) dX9_doesPoint_74 (fun H locs hw => ?_)
  replace hw := mS_singles hw
  refine lv_goto (tgt := 334) hx hb dX9_doesPoint_75 (by decide) ?_
  exact r_vret hC hr hlk hw ((uF κ (aN (t 0)) (FP.l2f (sJ κ 0 (aN (t 1))))), t) rfl rfl (Nat.le_of_ble_eq_true rfl) (Nat.le_of_ble_eq_true rfl) dX9_doesPoint_334

set_option maxHeartbeats 4000000 in
set_option maxRecDepth 100000 in
theorem c_X9_doesPoint_16 (l : Launch) {D : va_G} {q : Nat → ClassId} {ad : Nat → Nat} {κ : KS} {t : Nat → Int32} (sz : Nat) (hs : okStep 16 (t 0) (t 1) (t 2)) (hW : WFm κ) (hy : why κ 16 (t 0) (t 1) (t 2) = 0) (hN : nnOp κ 16 (t 0) (t 1) (t 2)) (hc : vp_in (sI κ 6) 13) (hm : vp_in (sI κ 2) 61) (hT : ¬ sI κ 7 < 0) : Met l yX9_doesPoint wsX9_doesPoint (rmz 0 0) (va_Pc [.ref (ad 0), .int 16] (rPre D q (wM q ad κ t) sz)) (va_Qv (fun (u : KS × (Nat → Int32)) => u = (act κ (t 4) (t 5) 16 (t 0) (t 1) (t 2), t)) (fun (u : KS × (Nat → Int32)) tt => rPo D (rA (wM q ad κ t) sz) (wM q ad u.1 u.2) tt) (rA (wM q ad κ t) sz)) 0 0 (rA (wM q ad κ t) sz) := by
  have hi0 : vp_in (t 0) 4 := hs.1
  have hi1 : vp_in (t 1) 4 := hs.2.1
  refine r_start (cc := cX9_doesPoint) (maxL := 2) (ret := none) (by decide) rfl (Nat.le_of_ble_eq_true rfl) ?_
  intro p e s m below meth c ls hC hr hlk hnm hsz hw hl
  have hx := hC.1
  have hb := hC.2.1
  have hl : lv_has ls 2 [(0, .ref (ad 0)), (1, .int 16)] := hl
  refine lv_iload_n hx hb dX9_doesPoint_0 rfl (lv_at hl 1 rfl) ?_
  refine lv_tableIn (tgt := 78) hx hb dX9_doesPoint_1 (by decide) (by decide) (by rfl) (by decide) ?_
  refine lv_aload_n hx hb dX9_doesPoint_78 rfl (lv_at hl 0 rfl) ?_
  refine r_get hC hw rk9 in_X9_doesPoint_9 0 (wMl 0 (by decide)) wM0 7 (by decide) lk_X9_doesPoint_27 (v := .ref (ad 6)) rfl dX9_doesPoint_79 ?_
  refine lv_aload_n hx hb dX9_doesPoint_82 rfl (lv_at hl 0 rfl) ?_
  refine r_get hC hw rk9 in_X9_doesPoint_9 0 (wMl 0 (by decide)) wM0 30 (by decide) lk_X9_doesPoint_142 (v := .int (t 0)) rfl dX9_doesPoint_83 ?_
  refine lv_aload_n hx hb dX9_doesPoint_86 rfl (lv_at hl 0 rfl) ?_
  refine r_get hC hw rk9 in_X9_doesPoint_9 0 (wMl 0 (by decide)) wM0 5 (by decide) lk_X9_doesPoint_19 (v := .ref (ad 4)) rfl dX9_doesPoint_87 ?_
  refine lv_aload_n hx hb dX9_doesPoint_90 rfl (lv_at hl 0 rfl) ?_
  refine r_get hC hw rk9 in_X9_doesPoint_9 0 (wMl 0 (by decide)) wM0 31 (by decide) lk_X9_doesPoint_126 (v := .int (t 1)) rfl dX9_doesPoint_91 ?_
  refine r_lald hC hw 4 (wMl 4 (by decide)) wM4 (by assumption) dX9_doesPoint_94 ?_
  refine lv_l2d hx hb dX9_doesPoint_95 ?_
  refine r_dast hC hw 6 (wMl 6 (by decide)) wM6 (by assumption) dX9_doesPoint_96 (fun H locs hw => ?_)
  replace hw := mS_reals hw
  refine lv_goto (tgt := 334) hx hb dX9_doesPoint_97 (by decide) ?_
  exact r_vret hC hr hlk hw ((uD κ 0 (aN (t 0)) (FP.l2d (sJ κ 0 (aN (t 1))))), t) rfl rfl (Nat.le_of_ble_eq_true rfl) (Nat.le_of_ble_eq_true rfl) dX9_doesPoint_334

set_option maxHeartbeats 4000000 in
set_option maxRecDepth 100000 in
theorem c_X9_doesPoint_17 (l : Launch) {D : va_G} {q : Nat → ClassId} {ad : Nat → Nat} {κ : KS} {t : Nat → Int32} (sz : Nat) (hs : okStep 17 (t 0) (t 1) (t 2)) (hW : WFm κ) (hy : why κ 17 (t 0) (t 1) (t 2) = 0) (hN : nnOp κ 17 (t 0) (t 1) (t 2)) (hc : vp_in (sI κ 6) 13) (hm : vp_in (sI κ 2) 61) (hT : ¬ sI κ 7 < 0) : Met l yX9_doesPoint wsX9_doesPoint (rmz 0 0) (va_Pc [.ref (ad 0), .int 17] (rPre D q (wM q ad κ t) sz)) (va_Qv (fun (u : KS × (Nat → Int32)) => u = (act κ (t 4) (t 5) 17 (t 0) (t 1) (t 2), t)) (fun (u : KS × (Nat → Int32)) tt => rPo D (rA (wM q ad κ t) sz) (wM q ad u.1 u.2) tt) (rA (wM q ad κ t) sz)) 0 0 (rA (wM q ad κ t) sz) := by
  have hi0 : vp_in (t 0) 4 := hs.1
  have hi1 : vp_in (t 1) 4 := hs.2.1
  refine r_start (cc := cX9_doesPoint) (maxL := 2) (ret := none) (by decide) rfl (Nat.le_of_ble_eq_true rfl) ?_
  intro p e s m below meth c ls hC hr hlk hnm hsz hw hl
  have hx := hC.1
  have hb := hC.2.1
  have hl : lv_has ls 2 [(0, .ref (ad 0)), (1, .int 17)] := hl
  refine lv_iload_n hx hb dX9_doesPoint_0 rfl (lv_at hl 1 rfl) ?_
  refine lv_tableIn (tgt := 100) hx hb dX9_doesPoint_1 (by decide) (by decide) (by rfl) (by decide) ?_
  refine lv_aload_n hx hb dX9_doesPoint_100 rfl (lv_at hl 0 rfl) ?_
  refine r_get hC hw rk9 in_X9_doesPoint_9 0 (wMl 0 (by decide)) wM0 5 (by decide) lk_X9_doesPoint_19 (v := .ref (ad 4)) rfl dX9_doesPoint_101 ?_
  refine lv_aload_n hx hb dX9_doesPoint_104 rfl (lv_at hl 0 rfl) ?_
  refine r_get hC hw rk9 in_X9_doesPoint_9 0 (wMl 0 (by decide)) wM0 30 (by decide) lk_X9_doesPoint_142 (v := .int (t 0)) rfl dX9_doesPoint_105 ?_
  refine lv_aload_n hx hb dX9_doesPoint_108 rfl (lv_at hl 0 rfl) ?_
  refine r_get hC hw rk9 in_X9_doesPoint_9 0 (wMl 0 (by decide)) wM0 6 (by decide) lk_X9_doesPoint_23 (v := .ref (ad 5)) rfl dX9_doesPoint_109 ?_
  refine lv_aload_n hx hb dX9_doesPoint_112 rfl (lv_at hl 0 rfl) ?_
  refine r_get hC hw rk9 in_X9_doesPoint_9 0 (wMl 0 (by decide)) wM0 31 (by decide) lk_X9_doesPoint_126 (v := .int (t 1)) rfl dX9_doesPoint_113 ?_
  refine r_fald hC hw 5 (wMl 5 (by decide)) wM5 (by assumption) dX9_doesPoint_116 ?_
  refine lv_f2l hx hb dX9_doesPoint_117 ?_
  refine r_last hC hw 4 (wMl 4 (by decide)) wM4 (by assumption) dX9_doesPoint_118 (fun H locs hw => ?_)
  replace hw := mS_wides hw
  refine lv_goto (tgt := 334) hx hb dX9_doesPoint_119 (by decide) ?_
  exact r_vret hC hr hlk hw ((uJ κ 0 (aN (t 0)) (FP.f2l (sF κ (aN (t 1))))), t) rfl rfl (Nat.le_of_ble_eq_true rfl) (Nat.le_of_ble_eq_true rfl) dX9_doesPoint_334

set_option maxHeartbeats 4000000 in
set_option maxRecDepth 100000 in
theorem c_X9_doesPoint_18 (l : Launch) {D : va_G} {q : Nat → ClassId} {ad : Nat → Nat} {κ : KS} {t : Nat → Int32} (sz : Nat) (hs : okStep 18 (t 0) (t 1) (t 2)) (hW : WFm κ) (hy : why κ 18 (t 0) (t 1) (t 2) = 0) (hN : nnOp κ 18 (t 0) (t 1) (t 2)) (hc : vp_in (sI κ 6) 13) (hm : vp_in (sI κ 2) 61) (hT : ¬ sI κ 7 < 0) : Met l yX9_doesPoint wsX9_doesPoint (rmz 0 0) (va_Pc [.ref (ad 0), .int 18] (rPre D q (wM q ad κ t) sz)) (va_Qv (fun (u : KS × (Nat → Int32)) => u = (act κ (t 4) (t 5) 18 (t 0) (t 1) (t 2), t)) (fun (u : KS × (Nat → Int32)) tt => rPo D (rA (wM q ad κ t) sz) (wM q ad u.1 u.2) tt) (rA (wM q ad κ t) sz)) 0 0 (rA (wM q ad κ t) sz) := by
  have hi0 : vp_in (t 0) 8 := hs.1
  have hi1 : vp_in (t 1) 4 := hs.2.1
  refine r_start (cc := cX9_doesPoint) (maxL := 2) (ret := none) (by decide) rfl (Nat.le_of_ble_eq_true rfl) ?_
  intro p e s m below meth c ls hC hr hlk hnm hsz hw hl
  have hx := hC.1
  have hb := hC.2.1
  have hl : lv_has ls 2 [(0, .ref (ad 0)), (1, .int 18)] := hl
  refine lv_iload_n hx hb dX9_doesPoint_0 rfl (lv_at hl 1 rfl) ?_
  refine lv_tableIn (tgt := 122) hx hb dX9_doesPoint_1 (by decide) (by decide) (by rfl) (by decide) ?_
  refine lv_aload_n hx hb dX9_doesPoint_122 rfl (lv_at hl 0 rfl) ?_
  refine r_get hC hw rk9 in_X9_doesPoint_9 0 (wMl 0 (by decide)) wM0 4 (by decide) lk_X9_doesPoint_16 (v := .ref (ad 3)) rfl dX9_doesPoint_123 ?_
  refine lv_aload_n hx hb dX9_doesPoint_126 rfl (lv_at hl 0 rfl) ?_
  refine r_get hC hw rk9 in_X9_doesPoint_9 0 (wMl 0 (by decide)) wM0 30 (by decide) lk_X9_doesPoint_142 (v := .int (t 0)) rfl dX9_doesPoint_127 ?_
  refine lv_aload_n hx hb dX9_doesPoint_130 rfl (lv_at hl 0 rfl) ?_
  refine r_get hC hw rk9 in_X9_doesPoint_9 0 (wMl 0 (by decide)) wM0 7 (by decide) lk_X9_doesPoint_27 (v := .ref (ad 6)) rfl dX9_doesPoint_131 ?_
  refine lv_aload_n hx hb dX9_doesPoint_134 rfl (lv_at hl 0 rfl) ?_
  refine r_get hC hw rk9 in_X9_doesPoint_9 0 (wMl 0 (by decide)) wM0 31 (by decide) lk_X9_doesPoint_126 (v := .int (t 1)) rfl dX9_doesPoint_135 ?_
  refine r_dald hC hw 6 (wMl 6 (by decide)) wM6 (by assumption) dX9_doesPoint_138 ?_
  refine lv_d2i hx hb dX9_doesPoint_139 ?_
  refine r_iast hC hw 3 (wMl 3 (by decide)) wM3 (by assumption) dX9_doesPoint_140 (fun H locs hw => ?_)
  replace hw := mS_words hw
  refine lv_goto (tgt := 334) hx hb dX9_doesPoint_141 (by decide) ?_
  exact r_vret hC hr hlk hw ((uA κ 2 (aN (t 0)) (FP.d2i (sD κ 0 (aN (t 1))))), t) rfl rfl (Nat.le_of_ble_eq_true rfl) (Nat.le_of_ble_eq_true rfl) dX9_doesPoint_334

set_option maxHeartbeats 4000000 in
set_option maxRecDepth 100000 in
theorem c_X9_doesPoint_19 (l : Launch) {D : va_G} {q : Nat → ClassId} {ad : Nat → Nat} {κ : KS} {t : Nat → Int32} (sz : Nat) (hs : okStep 19 (t 0) (t 1) (t 2)) (hW : WFm κ) (hy : why κ 19 (t 0) (t 1) (t 2) = 0) (hN : nnOp κ 19 (t 0) (t 1) (t 2)) (hc : vp_in (sI κ 6) 13) (hm : vp_in (sI κ 2) 61) (hT : ¬ sI κ 7 < 0) : Met l yX9_doesPoint wsX9_doesPoint (rmz 0 0) (va_Pc [.ref (ad 0), .int 19] (rPre D q (wM q ad κ t) sz)) (va_Qv (fun (u : KS × (Nat → Int32)) => u = (act κ (t 4) (t 5) 19 (t 0) (t 1) (t 2), t)) (fun (u : KS × (Nat → Int32)) tt => rPo D (rA (wM q ad κ t) sz) (wM q ad u.1 u.2) tt) (rA (wM q ad κ t) sz)) 0 0 (rA (wM q ad κ t) sz) := by
  have hi0 : vp_in (t 0) 4 := hs.1
  have hi1 : vp_in (t 1) 4 := hs.2.1
  refine r_start (cc := cX9_doesPoint) (maxL := 2) (ret := none) (by decide) rfl (Nat.le_of_ble_eq_true rfl) ?_
  intro p e s m below meth c ls hC hr hlk hnm hsz hw hl
  have hx := hC.1
  have hb := hC.2.1
  have hl : lv_has ls 2 [(0, .ref (ad 0)), (1, .int 19)] := hl
  refine lv_iload_n hx hb dX9_doesPoint_0 rfl (lv_at hl 1 rfl) ?_
  refine lv_tableIn (tgt := 144) hx hb dX9_doesPoint_1 (by decide) (by decide) (by rfl) (by decide) ?_
  refine lv_aload_n hx hb dX9_doesPoint_144 rfl (lv_at hl 0 rfl) ?_
  refine r_get hC hw rk9 in_X9_doesPoint_9 0 (wMl 0 (by decide)) wM0 7 (by decide) lk_X9_doesPoint_27 (v := .ref (ad 6)) rfl dX9_doesPoint_145 ?_
  refine lv_aload_n hx hb dX9_doesPoint_148 rfl (lv_at hl 0 rfl) ?_
  refine r_get hC hw rk9 in_X9_doesPoint_9 0 (wMl 0 (by decide)) wM0 30 (by decide) lk_X9_doesPoint_142 (v := .int (t 0)) rfl dX9_doesPoint_149 ?_
  refine lv_aload_n hx hb dX9_doesPoint_152 rfl (lv_at hl 0 rfl) ?_
  refine r_get hC hw rk9 in_X9_doesPoint_9 0 (wMl 0 (by decide)) wM0 6 (by decide) lk_X9_doesPoint_23 (v := .ref (ad 5)) rfl dX9_doesPoint_153 ?_
  refine lv_aload_n hx hb dX9_doesPoint_156 rfl (lv_at hl 0 rfl) ?_
  refine r_get hC hw rk9 in_X9_doesPoint_9 0 (wMl 0 (by decide)) wM0 31 (by decide) lk_X9_doesPoint_126 (v := .int (t 1)) rfl dX9_doesPoint_157 ?_
  refine r_fald hC hw 5 (wMl 5 (by decide)) wM5 (by assumption) dX9_doesPoint_160 ?_
  refine lv_f2d hx hb dX9_doesPoint_161 hN ?_
  refine r_dast hC hw 6 (wMl 6 (by decide)) wM6 (by assumption) dX9_doesPoint_162 (fun H locs hw => ?_)
  replace hw := mS_reals hw
  refine lv_goto (tgt := 334) hx hb dX9_doesPoint_163 (by decide) ?_
  exact r_vret hC hr hlk hw ((uD κ 0 (aN (t 0)) (FP.f2d (sF κ (aN (t 1))))), t) rfl rfl (Nat.le_of_ble_eq_true rfl) (Nat.le_of_ble_eq_true rfl) dX9_doesPoint_334

set_option maxHeartbeats 4000000 in
set_option maxRecDepth 100000 in
theorem c_X9_doesPoint_20 (l : Launch) {D : va_G} {q : Nat → ClassId} {ad : Nat → Nat} {κ : KS} {t : Nat → Int32} (sz : Nat) (hs : okStep 20 (t 0) (t 1) (t 2)) (hW : WFm κ) (hy : why κ 20 (t 0) (t 1) (t 2) = 0) (hN : nnOp κ 20 (t 0) (t 1) (t 2)) (hc : vp_in (sI κ 6) 13) (hm : vp_in (sI κ 2) 61) (hT : ¬ sI κ 7 < 0) : Met l yX9_doesPoint wsX9_doesPoint (rmz 0 0) (va_Pc [.ref (ad 0), .int 20] (rPre D q (wM q ad κ t) sz)) (va_Qv (fun (u : KS × (Nat → Int32)) => u = (act κ (t 4) (t 5) 20 (t 0) (t 1) (t 2), t)) (fun (u : KS × (Nat → Int32)) tt => rPo D (rA (wM q ad κ t) sz) (wM q ad u.1 u.2) tt) (rA (wM q ad κ t) sz)) 0 0 (rA (wM q ad κ t) sz) := by
  have hi0 : vp_in (t 0) 4 := hs.1
  have hi1 : vp_in (t 1) 4 := hs.2.1
  refine r_start (cc := cX9_doesPoint) (maxL := 2) (ret := none) (by decide) rfl (Nat.le_of_ble_eq_true rfl) ?_
  intro p e s m below meth c ls hC hr hlk hnm hsz hw hl
  have hx := hC.1
  have hb := hC.2.1
  have hl : lv_has ls 2 [(0, .ref (ad 0)), (1, .int 20)] := hl
  refine lv_iload_n hx hb dX9_doesPoint_0 rfl (lv_at hl 1 rfl) ?_
  refine lv_tableIn (tgt := 166) hx hb dX9_doesPoint_1 (by decide) (by decide) (by rfl) (by decide) ?_
  refine lv_aload_n hx hb dX9_doesPoint_166 rfl (lv_at hl 0 rfl) ?_
  refine r_get hC hw rk9 in_X9_doesPoint_9 0 (wMl 0 (by decide)) wM0 6 (by decide) lk_X9_doesPoint_23 (v := .ref (ad 5)) rfl dX9_doesPoint_167 ?_
  refine lv_aload_n hx hb dX9_doesPoint_170 rfl (lv_at hl 0 rfl) ?_
  refine r_get hC hw rk9 in_X9_doesPoint_9 0 (wMl 0 (by decide)) wM0 30 (by decide) lk_X9_doesPoint_142 (v := .int (t 0)) rfl dX9_doesPoint_171 ?_
  refine lv_aload_n hx hb dX9_doesPoint_174 rfl (lv_at hl 0 rfl) ?_
  refine r_get hC hw rk9 in_X9_doesPoint_9 0 (wMl 0 (by decide)) wM0 7 (by decide) lk_X9_doesPoint_27 (v := .ref (ad 6)) rfl dX9_doesPoint_175 ?_
  refine lv_aload_n hx hb dX9_doesPoint_178 rfl (lv_at hl 0 rfl) ?_
  refine r_get hC hw rk9 in_X9_doesPoint_9 0 (wMl 0 (by decide)) wM0 31 (by decide) lk_X9_doesPoint_126 (v := .int (t 1)) rfl dX9_doesPoint_179 ?_
  refine r_dald hC hw 6 (wMl 6 (by decide)) wM6 (by assumption) dX9_doesPoint_182 ?_
  refine lv_d2f hx hb dX9_doesPoint_183 hN ?_
  refine r_fast hC hw 5 (wMl 5 (by decide)) wM5 (by assumption) dX9_doesPoint_184 (fun H locs hw => ?_)
  replace hw := mS_singles hw
  refine lv_goto (tgt := 334) hx hb dX9_doesPoint_185 (by decide) ?_
  exact r_vret hC hr hlk hw ((uF κ (aN (t 0)) (FP.d2f (sD κ 0 (aN (t 1))))), t) rfl rfl (Nat.le_of_ble_eq_true rfl) (Nat.le_of_ble_eq_true rfl) dX9_doesPoint_334

set_option maxHeartbeats 4000000 in
set_option maxRecDepth 100000 in
theorem c_X9_doesPoint_21 (l : Launch) {D : va_G} {q : Nat → ClassId} {ad : Nat → Nat} {κ : KS} {t : Nat → Int32} (sz : Nat) (hs : okStep 21 (t 0) (t 1) (t 2)) (hW : WFm κ) (hy : why κ 21 (t 0) (t 1) (t 2) = 0) (hN : nnOp κ 21 (t 0) (t 1) (t 2)) (hc : vp_in (sI κ 6) 13) (hm : vp_in (sI κ 2) 61) (hT : ¬ sI κ 7 < 0) : Met l yX9_doesPoint wsX9_doesPoint (rmz 0 0) (va_Pc [.ref (ad 0), .int 21] (rPre D q (wM q ad κ t) sz)) (va_Qv (fun (u : KS × (Nat → Int32)) => u = (act κ (t 4) (t 5) 21 (t 0) (t 1) (t 2), t)) (fun (u : KS × (Nat → Int32)) tt => rPo D (rA (wM q ad κ t) sz) (wM q ad u.1 u.2) tt) (rA (wM q ad κ t) sz)) 0 0 (rA (wM q ad κ t) sz) := by
  have hi0 : vp_in (t 0) 4 := hs.1
  have hi1 : vp_in (t 1) 4 := hs.2.1
  refine r_start (cc := cX9_doesPoint) (maxL := 2) (ret := none) (by decide) rfl (Nat.le_of_ble_eq_true rfl) ?_
  intro p e s m below meth c ls hC hr hlk hnm hsz hw hl
  have hx := hC.1
  have hb := hC.2.1
  have hl : lv_has ls 2 [(0, .ref (ad 0)), (1, .int 21)] := hl
  refine lv_iload_n hx hb dX9_doesPoint_0 rfl (lv_at hl 1 rfl) ?_
  refine lv_tableIn (tgt := 188) hx hb dX9_doesPoint_1 (by decide) (by decide) (by rfl) (by decide) ?_
  refine lv_aload_n hx hb dX9_doesPoint_188 rfl (lv_at hl 0 rfl) ?_
  refine r_get hC hw rk9 in_X9_doesPoint_9 0 (wMl 0 (by decide)) wM0 6 (by decide) lk_X9_doesPoint_23 (v := .ref (ad 5)) rfl dX9_doesPoint_189 ?_
  refine lv_aload_n hx hb dX9_doesPoint_192 rfl (lv_at hl 0 rfl) ?_
  refine r_get hC hw rk9 in_X9_doesPoint_9 0 (wMl 0 (by decide)) wM0 30 (by decide) lk_X9_doesPoint_142 (v := .int (t 0)) rfl dX9_doesPoint_193 ?_
  refine lv_aload_n hx hb dX9_doesPoint_196 rfl (lv_at hl 0 rfl) ?_
  refine r_get hC hw rk9 in_X9_doesPoint_9 0 (wMl 0 (by decide)) wM0 6 (by decide) lk_X9_doesPoint_23 (v := .ref (ad 5)) rfl dX9_doesPoint_197 ?_
  refine lv_aload_n hx hb dX9_doesPoint_200 rfl (lv_at hl 0 rfl) ?_
  refine r_get hC hw rk9 in_X9_doesPoint_9 0 (wMl 0 (by decide)) wM0 31 (by decide) lk_X9_doesPoint_126 (v := .int (t 1)) rfl dX9_doesPoint_201 ?_
  refine r_fald hC hw 5 (wMl 5 (by decide)) wM5 (by assumption) dX9_doesPoint_204 ?_
  refine lv_fconst2 hx hb dX9_doesPoint_205 ?_
  refine lv_fdiv hx hb dX9_doesPoint_206 hN ?_
  refine r_fast hC hw 5 (wMl 5 (by decide)) wM5 (by assumption) dX9_doesPoint_207 (fun H locs hw => ?_)
  replace hw := mS_singles hw
  refine lv_goto (tgt := 334) hx hb dX9_doesPoint_208 (by decide) ?_
  exact r_vret hC hr hlk hw ((uF κ (aN (t 0)) (FP.fdiv (sF κ (aN (t 1))) FP.fconst2)), t) rfl rfl (Nat.le_of_ble_eq_true rfl) (Nat.le_of_ble_eq_true rfl) dX9_doesPoint_334

set_option maxHeartbeats 4000000 in
set_option maxRecDepth 100000 in
theorem c_X9_doesPoint_22 (l : Launch) {D : va_G} {q : Nat → ClassId} {ad : Nat → Nat} {κ : KS} {t : Nat → Int32} (sz : Nat) (hs : okStep 22 (t 0) (t 1) (t 2)) (hW : WFm κ) (hy : why κ 22 (t 0) (t 1) (t 2) = 0) (hN : nnOp κ 22 (t 0) (t 1) (t 2)) (hc : vp_in (sI κ 6) 13) (hm : vp_in (sI κ 2) 61) (hT : ¬ sI κ 7 < 0) : Met l yX9_doesPoint wsX9_doesPoint (rmz 0 0) (va_Pc [.ref (ad 0), .int 22] (rPre D q (wM q ad κ t) sz)) (va_Qv (fun (u : KS × (Nat → Int32)) => u = (act κ (t 4) (t 5) 22 (t 0) (t 1) (t 2), t)) (fun (u : KS × (Nat → Int32)) tt => rPo D (rA (wM q ad κ t) sz) (wM q ad u.1 u.2) tt) (rA (wM q ad κ t) sz)) 0 0 (rA (wM q ad κ t) sz) := by
  have hi0 : vp_in (t 0) 4 := hs.1
  have hi1 : vp_in (t 1) 4 := hs.2.1
  refine r_start (cc := cX9_doesPoint) (maxL := 2) (ret := none) (by decide) rfl (Nat.le_of_ble_eq_true rfl) ?_
  intro p e s m below meth c ls hC hr hlk hnm hsz hw hl
  have hx := hC.1
  have hb := hC.2.1
  have hl : lv_has ls 2 [(0, .ref (ad 0)), (1, .int 22)] := hl
  refine lv_iload_n hx hb dX9_doesPoint_0 rfl (lv_at hl 1 rfl) ?_
  refine lv_tableIn (tgt := 211) hx hb dX9_doesPoint_1 (by decide) (by decide) (by rfl) (by decide) ?_
  refine lv_aload_n hx hb dX9_doesPoint_211 rfl (lv_at hl 0 rfl) ?_
  refine r_get hC hw rk9 in_X9_doesPoint_9 0 (wMl 0 (by decide)) wM0 7 (by decide) lk_X9_doesPoint_27 (v := .ref (ad 6)) rfl dX9_doesPoint_212 ?_
  refine lv_aload_n hx hb dX9_doesPoint_215 rfl (lv_at hl 0 rfl) ?_
  refine r_get hC hw rk9 in_X9_doesPoint_9 0 (wMl 0 (by decide)) wM0 30 (by decide) lk_X9_doesPoint_142 (v := .int (t 0)) rfl dX9_doesPoint_216 ?_
  refine lv_aload_n hx hb dX9_doesPoint_219 rfl (lv_at hl 0 rfl) ?_
  refine r_get hC hw rk9 in_X9_doesPoint_9 0 (wMl 0 (by decide)) wM0 7 (by decide) lk_X9_doesPoint_27 (v := .ref (ad 6)) rfl dX9_doesPoint_220 ?_
  refine lv_aload_n hx hb dX9_doesPoint_223 rfl (lv_at hl 0 rfl) ?_
  refine r_get hC hw rk9 in_X9_doesPoint_9 0 (wMl 0 (by decide)) wM0 31 (by decide) lk_X9_doesPoint_126 (v := .int (t 1)) rfl dX9_doesPoint_224 ?_
  refine r_dald hC hw 6 (wMl 6 (by decide)) wM6 (by assumption) dX9_doesPoint_227 ?_
  refine lv_ldc2d hx hb hC.2.2.2.1 (hC.2.2.2.2 _ lk_X9_doesPoint_172) dX9_doesPoint_228 ?_
  refine lv_ddiv hx hb dX9_doesPoint_231 hN ?_
  refine r_dast hC hw 6 (wMl 6 (by decide)) wM6 (by assumption) dX9_doesPoint_232 (fun H locs hw => ?_)
  replace hw := mS_reals hw
  refine lv_goto (tgt := 334) hx hb dX9_doesPoint_233 (by decide) ?_
  exact r_vret hC hr hlk hw ((uD κ 0 (aN (t 0)) (FP.ddiv (sD κ 0 (aN (t 1))) (4611686018427387904))), t) rfl rfl (Nat.le_of_ble_eq_true rfl) (Nat.le_of_ble_eq_true rfl) dX9_doesPoint_334

set_option maxHeartbeats 4000000 in
set_option maxRecDepth 100000 in
theorem c_X9_doesPoint_23 (l : Launch) {D : va_G} {q : Nat → ClassId} {ad : Nat → Nat} {κ : KS} {t : Nat → Int32} (sz : Nat) (hs : okStep 23 (t 0) (t 1) (t 2)) (hW : WFm κ) (hy : why κ 23 (t 0) (t 1) (t 2) = 0) (hN : nnOp κ 23 (t 0) (t 1) (t 2)) (hc : vp_in (sI κ 6) 13) (hm : vp_in (sI κ 2) 61) (hT : ¬ sI κ 7 < 0) : Met l yX9_doesPoint wsX9_doesPoint (rmz 0 0) (va_Pc [.ref (ad 0), .int 23] (rPre D q (wM q ad κ t) sz)) (va_Qv (fun (u : KS × (Nat → Int32)) => u = (act κ (t 4) (t 5) 23 (t 0) (t 1) (t 2), t)) (fun (u : KS × (Nat → Int32)) tt => rPo D (rA (wM q ad κ t) sz) (wM q ad u.1 u.2) tt) (rA (wM q ad κ t) sz)) 0 0 (rA (wM q ad κ t) sz) := by
  have hi0 : vp_in (t 0) 4 := hs.1
  have hi1 : vp_in (t 1) 4 := hs.2.1
  have hi2 : vp_in (t 2) 4 := hs.2.2
  refine r_start (cc := cX9_doesPoint) (maxL := 2) (ret := none) (by decide) rfl (Nat.le_of_ble_eq_true rfl) ?_
  intro p e s m below meth c ls hC hr hlk hnm hsz hw hl
  have hx := hC.1
  have hb := hC.2.1
  have hl : lv_has ls 2 [(0, .ref (ad 0)), (1, .int 23)] := hl
  refine lv_iload_n hx hb dX9_doesPoint_0 rfl (lv_at hl 1 rfl) ?_
  refine lv_tableIn (tgt := 236) hx hb dX9_doesPoint_1 (by decide) (by decide) (by rfl) (by decide) ?_
  refine lv_aload_n hx hb dX9_doesPoint_236 rfl (lv_at hl 0 rfl) ?_
  refine r_get hC hw rk9 in_X9_doesPoint_9 0 (wMl 0 (by decide)) wM0 6 (by decide) lk_X9_doesPoint_23 (v := .ref (ad 5)) rfl dX9_doesPoint_237 ?_
  refine lv_aload_n hx hb dX9_doesPoint_240 rfl (lv_at hl 0 rfl) ?_
  refine r_get hC hw rk9 in_X9_doesPoint_9 0 (wMl 0 (by decide)) wM0 30 (by decide) lk_X9_doesPoint_142 (v := .int (t 0)) rfl dX9_doesPoint_241 ?_
  refine lv_aload_n hx hb dX9_doesPoint_244 rfl (lv_at hl 0 rfl) ?_
  refine r_get hC hw rk9 in_X9_doesPoint_9 0 (wMl 0 (by decide)) wM0 6 (by decide) lk_X9_doesPoint_23 (v := .ref (ad 5)) rfl dX9_doesPoint_245 ?_
  refine lv_aload_n hx hb dX9_doesPoint_248 rfl (lv_at hl 0 rfl) ?_
  refine r_get hC hw rk9 in_X9_doesPoint_9 0 (wMl 0 (by decide)) wM0 31 (by decide) lk_X9_doesPoint_126 (v := .int (t 1)) rfl dX9_doesPoint_249 ?_
  refine r_fald hC hw 5 (wMl 5 (by decide)) wM5 (by assumption) dX9_doesPoint_252 ?_
  refine lv_aload_n hx hb dX9_doesPoint_253 rfl (lv_at hl 0 rfl) ?_
  refine r_get hC hw rk9 in_X9_doesPoint_9 0 (wMl 0 (by decide)) wM0 6 (by decide) lk_X9_doesPoint_23 (v := .ref (ad 5)) rfl dX9_doesPoint_254 ?_
  refine lv_aload_n hx hb dX9_doesPoint_257 rfl (lv_at hl 0 rfl) ?_
  refine r_get hC hw rk9 in_X9_doesPoint_9 0 (wMl 0 (by decide)) wM0 32 (by decide) lk_X9_doesPoint_123 (v := .int (t 2)) rfl dX9_doesPoint_258 ?_
  refine r_fald hC hw 5 (wMl 5 (by decide)) wM5 (by assumption) dX9_doesPoint_261 ?_
  refine lv_frem hx hb dX9_doesPoint_262 hN ?_
  refine r_fast hC hw 5 (wMl 5 (by decide)) wM5 (by assumption) dX9_doesPoint_263 (fun H locs hw => ?_)
  replace hw := mS_singles hw
  refine lv_goto (tgt := 334) hx hb dX9_doesPoint_264 (by decide) ?_
  exact r_vret hC hr hlk hw ((uF κ (aN (t 0)) (FP.frem (sF κ (aN (t 1))) (sF κ (aN (t 2))))), t) rfl rfl (Nat.le_of_ble_eq_true rfl) (Nat.le_of_ble_eq_true rfl) dX9_doesPoint_334

set_option maxHeartbeats 4000000 in
set_option maxRecDepth 100000 in
theorem c_X9_doesPoint_24 (l : Launch) {D : va_G} {q : Nat → ClassId} {ad : Nat → Nat} {κ : KS} {t : Nat → Int32} (sz : Nat) (hs : okStep 24 (t 0) (t 1) (t 2)) (hW : WFm κ) (hy : why κ 24 (t 0) (t 1) (t 2) = 0) (hN : nnOp κ 24 (t 0) (t 1) (t 2)) (hc : vp_in (sI κ 6) 13) (hm : vp_in (sI κ 2) 61) (hT : ¬ sI κ 7 < 0) : Met l yX9_doesPoint wsX9_doesPoint (rmz 0 0) (va_Pc [.ref (ad 0), .int 24] (rPre D q (wM q ad κ t) sz)) (va_Qv (fun (u : KS × (Nat → Int32)) => u = (act κ (t 4) (t 5) 24 (t 0) (t 1) (t 2), t)) (fun (u : KS × (Nat → Int32)) tt => rPo D (rA (wM q ad κ t) sz) (wM q ad u.1 u.2) tt) (rA (wM q ad κ t) sz)) 0 0 (rA (wM q ad κ t) sz) := by
  have hi0 : vp_in (t 0) 4 := hs.1
  have hi1 : vp_in (t 1) 4 := hs.2.1
  have hi2 : vp_in (t 2) 4 := hs.2.2
  refine r_start (cc := cX9_doesPoint) (maxL := 2) (ret := none) (by decide) rfl (Nat.le_of_ble_eq_true rfl) ?_
  intro p e s m below meth c ls hC hr hlk hnm hsz hw hl
  have hx := hC.1
  have hb := hC.2.1
  have hl : lv_has ls 2 [(0, .ref (ad 0)), (1, .int 24)] := hl
  refine lv_iload_n hx hb dX9_doesPoint_0 rfl (lv_at hl 1 rfl) ?_
  refine lv_tableIn (tgt := 267) hx hb dX9_doesPoint_1 (by decide) (by decide) (by rfl) (by decide) ?_
  refine lv_aload_n hx hb dX9_doesPoint_267 rfl (lv_at hl 0 rfl) ?_
  refine r_get hC hw rk9 in_X9_doesPoint_9 0 (wMl 0 (by decide)) wM0 7 (by decide) lk_X9_doesPoint_27 (v := .ref (ad 6)) rfl dX9_doesPoint_268 ?_
  refine lv_aload_n hx hb dX9_doesPoint_271 rfl (lv_at hl 0 rfl) ?_
  refine r_get hC hw rk9 in_X9_doesPoint_9 0 (wMl 0 (by decide)) wM0 30 (by decide) lk_X9_doesPoint_142 (v := .int (t 0)) rfl dX9_doesPoint_272 ?_
  refine lv_aload_n hx hb dX9_doesPoint_275 rfl (lv_at hl 0 rfl) ?_
  refine r_get hC hw rk9 in_X9_doesPoint_9 0 (wMl 0 (by decide)) wM0 7 (by decide) lk_X9_doesPoint_27 (v := .ref (ad 6)) rfl dX9_doesPoint_276 ?_
  refine lv_aload_n hx hb dX9_doesPoint_279 rfl (lv_at hl 0 rfl) ?_
  refine r_get hC hw rk9 in_X9_doesPoint_9 0 (wMl 0 (by decide)) wM0 31 (by decide) lk_X9_doesPoint_126 (v := .int (t 1)) rfl dX9_doesPoint_280 ?_
  refine r_dald hC hw 6 (wMl 6 (by decide)) wM6 (by assumption) dX9_doesPoint_283 ?_
  refine lv_aload_n hx hb dX9_doesPoint_284 rfl (lv_at hl 0 rfl) ?_
  refine r_get hC hw rk9 in_X9_doesPoint_9 0 (wMl 0 (by decide)) wM0 7 (by decide) lk_X9_doesPoint_27 (v := .ref (ad 6)) rfl dX9_doesPoint_285 ?_
  refine lv_aload_n hx hb dX9_doesPoint_288 rfl (lv_at hl 0 rfl) ?_
  refine r_get hC hw rk9 in_X9_doesPoint_9 0 (wMl 0 (by decide)) wM0 32 (by decide) lk_X9_doesPoint_123 (v := .int (t 2)) rfl dX9_doesPoint_289 ?_
  refine r_dald hC hw 6 (wMl 6 (by decide)) wM6 (by assumption) dX9_doesPoint_292 ?_
  refine lv_drem hx hb dX9_doesPoint_293 hN ?_
  refine r_dast hC hw 6 (wMl 6 (by decide)) wM6 (by assumption) dX9_doesPoint_294 (fun H locs hw => ?_)
  replace hw := mS_reals hw
  refine lv_goto (tgt := 334) hx hb dX9_doesPoint_295 (by decide) ?_
  exact r_vret hC hr hlk hw ((uD κ 0 (aN (t 0)) (FP.drem (sD κ 0 (aN (t 1))) (sD κ 0 (aN (t 2))))), t) rfl rfl (Nat.le_of_ble_eq_true rfl) (Nat.le_of_ble_eq_true rfl) dX9_doesPoint_334

set_option maxHeartbeats 4000000 in
set_option maxRecDepth 100000 in
theorem c_X9_doesPoint_26 (l : Launch) {D : va_G} {q : Nat → ClassId} {ad : Nat → Nat} {κ : KS} {t : Nat → Int32} (sz : Nat) (hs : okStep 26 (t 0) (t 1) (t 2)) (hW : WFm κ) (hy : why κ 26 (t 0) (t 1) (t 2) = 0) (hN : nnOp κ 26 (t 0) (t 1) (t 2)) (hc : vp_in (sI κ 6) 13) (hm : vp_in (sI κ 2) 61) (hT : ¬ sI κ 7 < 0) : Met l yX9_doesPoint wsX9_doesPoint (rmz 0 0) (va_Pc [.ref (ad 0), .int 26] (rPre D q (wM q ad κ t) sz)) (va_Qv (fun (u : KS × (Nat → Int32)) => u = (act κ (t 4) (t 5) 26 (t 0) (t 1) (t 2), t)) (fun (u : KS × (Nat → Int32)) tt => rPo D (rA (wM q ad κ t) sz) (wM q ad u.1 u.2) tt) (rA (wM q ad κ t) sz)) 0 0 (rA (wM q ad κ t) sz) := by
  have hi0 : vp_in (t 0) 8 := hs.1
  have hi1 : vp_in (t 1) 4 := hs.2.1
  have hi2 : vp_in (t 2) 4 := hs.2.2
  refine r_start (cc := cX9_doesPoint) (maxL := 2) (ret := none) (by decide) rfl (Nat.le_of_ble_eq_true rfl) ?_
  intro p e s m below meth c ls hC hr hlk hnm hsz hw hl
  have hx := hC.1
  have hb := hC.2.1
  have hl : lv_has ls 2 [(0, .ref (ad 0)), (1, .int 26)] := hl
  refine lv_iload_n hx hb dX9_doesPoint_0 rfl (lv_at hl 1 rfl) ?_
  refine lv_tableOut (tgt := 298) hx hb dX9_doesPoint_1 (by decide) (by decide) ?_
  refine lv_aload_n hx hb dX9_doesPoint_298 rfl (lv_at hl 0 rfl) ?_
  refine r_get hC hw rk9 in_X9_doesPoint_9 0 (wMl 0 (by decide)) wM0 4 (by decide) lk_X9_doesPoint_16 (v := .ref (ad 3)) rfl dX9_doesPoint_299 ?_
  refine lv_aload_n hx hb dX9_doesPoint_302 rfl (lv_at hl 0 rfl) ?_
  refine r_get hC hw rk9 in_X9_doesPoint_9 0 (wMl 0 (by decide)) wM0 30 (by decide) lk_X9_doesPoint_142 (v := .int (t 0)) rfl dX9_doesPoint_303 ?_
  refine lv_aload_n hx hb dX9_doesPoint_306 rfl (lv_at hl 0 rfl) ?_
  refine r_get hC hw rk9 in_X9_doesPoint_9 0 (wMl 0 (by decide)) wM0 7 (by decide) lk_X9_doesPoint_27 (v := .ref (ad 6)) rfl dX9_doesPoint_307 ?_
  refine lv_aload_n hx hb dX9_doesPoint_310 rfl (lv_at hl 0 rfl) ?_
  refine r_get hC hw rk9 in_X9_doesPoint_9 0 (wMl 0 (by decide)) wM0 31 (by decide) lk_X9_doesPoint_126 (v := .int (t 1)) rfl dX9_doesPoint_311 ?_
  refine r_dald hC hw 6 (wMl 6 (by decide)) wM6 (by assumption) dX9_doesPoint_314 ?_
  refine lv_aload_n hx hb dX9_doesPoint_315 rfl (lv_at hl 0 rfl) ?_
  refine r_get hC hw rk9 in_X9_doesPoint_9 0 (wMl 0 (by decide)) wM0 7 (by decide) lk_X9_doesPoint_27 (v := .ref (ad 6)) rfl dX9_doesPoint_316 ?_
  refine lv_aload_n hx hb dX9_doesPoint_319 rfl (lv_at hl 0 rfl) ?_
  refine r_get hC hw rk9 in_X9_doesPoint_9 0 (wMl 0 (by decide)) wM0 32 (by decide) lk_X9_doesPoint_123 (v := .int (t 2)) rfl dX9_doesPoint_320 ?_
  refine r_dald hC hw 6 (wMl 6 (by decide)) wM6 (by assumption) dX9_doesPoint_323 ?_
  refine lv_dcmp hx hb dX9_doesPoint_324 ?_
  refine lv_if_ge (tgt := 332) hx hb dX9_doesPoint_325 (by decide) (fun c_1 => ?_) (fun c_1 => ?_)
  · refine lv_iconst (v := 0) hx hb dX9_doesPoint_332 (by decide) ?_
    refine r_iast hC hw 3 (wMl 3 (by decide)) wM3 (by assumption) dX9_doesPoint_333 (fun H locs hw => ?_)
    replace hw := mS_words hw
    exact r_vret hC hr hlk hw ((uA κ 2 (aN (t 0)) 0), t) rfl (congrArg (fun z => (uA κ 2 (aN (t 0)) z, t)) (if_pos c_1).symm) (Nat.le_of_ble_eq_true rfl) (Nat.le_of_ble_eq_true rfl) dX9_doesPoint_334
  · refine lv_iconst (v := 1) hx hb dX9_doesPoint_328 (by decide) ?_
    refine lv_goto (tgt := 333) hx hb dX9_doesPoint_329 (by decide) ?_
    refine r_iast hC hw 3 (wMl 3 (by decide)) wM3 (by assumption) dX9_doesPoint_333 (fun H locs hw => ?_)
    replace hw := mS_words hw
    exact r_vret hC hr hlk hw ((uA κ 2 (aN (t 0)) 1), t) rfl (congrArg (fun z => (uA κ 2 (aN (t 0)) z, t)) (if_neg c_1).symm) (Nat.le_of_ble_eq_true rfl) (Nat.le_of_ble_eq_true rfl) dX9_doesPoint_334

set_option maxHeartbeats 4000000 in
set_option maxRecDepth 100000 in
theorem c_X9_doesWay_27 (l : Launch) {D : va_G} {q : Nat → ClassId} {ad : Nat → Nat} {κ : KS} {t : Nat → Int32} (sz : Nat) (hs : okStep 27 (t 0) (t 1) (t 2)) (hW : WFm κ) (hy : why κ 27 (t 0) (t 1) (t 2) = 0) (hN : nnOp κ 27 (t 0) (t 1) (t 2)) (hc : vp_in (sI κ 6) 13) (hm : vp_in (sI κ 2) 61) (hT : ¬ sI κ 7 < 0) : Met l yX9_doesWay wsX9_doesWay (rmz 0 0) (va_Pc [.ref (ad 0), .int 27] (rPre D q (wM q ad κ t) sz)) (va_Qv (fun (u : KS × (Nat → Int32)) => u = (act κ (t 4) (t 5) 27 (t 0) (t 1) (t 2), va_up t 3 (nxt κ 27 (t 0) (t 1) (t 3)))) (fun (u : KS × (Nat → Int32)) tt => rPo D (rA (wM q ad κ t) sz) (wM q ad u.1 u.2) tt) (rA (wM q ad κ t) sz)) 0 0 (rA (wM q ad κ t) sz) := by
  have hi0 : vp_in (t 0) 200 := hs.1
  refine r_start (cc := cX9_doesWay) (maxL := 2) (ret := none) (by decide) rfl (Nat.le_of_ble_eq_true rfl) ?_
  intro p e s m below meth c ls hC hr hlk hnm hsz hw hl
  have hx := hC.1
  have hb := hC.2.1
  have hl : lv_has ls 2 [(0, .ref (ad 0)), (1, .int 27)] := hl
  refine lv_iload_n hx hb dX9_doesWay_0 rfl (lv_at hl 1 rfl) ?_
  refine lv_bipush (v := 27) hx hb dX9_doesWay_1 (by decide) ?_
  refine lv_icmp_ne (tgt := 17) hx hb dX9_doesWay_3 (by decide) (fun c_ => absurd (by decide) c_) (fun _ => ?_)
  refine lv_aload_n hx hb dX9_doesWay_6 rfl (lv_at hl 0 rfl) ?_
  refine lv_aload_n hx hb dX9_doesWay_7 rfl (lv_at hl 0 rfl) ?_
  refine r_get hC hw rk9 in_X9_doesWay_9 0 (wMl 0 (by decide)) wM0 30 (by decide) lk_X9_doesWay_142 (v := .int (t 0)) rfl dX9_doesWay_8 ?_
  refine r_put hC hw rk9 in_X9_doesWay_9 0 (wMl 0 (by decide)) wM0 33 (by decide) lk_X9_doesWay_174 rfl rfl rfl (Nat.le_of_ble_eq_true rfl) dX9_doesWay_11 (fun H locs hw => ?_)
  replace hw := mP_after hw
  refine lv_goto (tgt := 133) hx hb dX9_doesWay_14 (by decide) ?_
  exact r_vret hC hr hlk hw (κ, (va_up t 3 (t 0))) rfl rfl (Nat.le_of_ble_eq_true rfl) (Nat.le_of_ble_eq_true rfl) dX9_doesWay_133

set_option maxHeartbeats 4000000 in
set_option maxRecDepth 100000 in
theorem c_X9_doesWay_28 (l : Launch) {D : va_G} {q : Nat → ClassId} {ad : Nat → Nat} {κ : KS} {t : Nat → Int32} (sz : Nat) (hs : okStep 28 (t 0) (t 1) (t 2)) (hW : WFm κ) (hy : why κ 28 (t 0) (t 1) (t 2) = 0) (hN : nnOp κ 28 (t 0) (t 1) (t 2)) (hc : vp_in (sI κ 6) 13) (hm : vp_in (sI κ 2) 61) (hT : ¬ sI κ 7 < 0) : Met l yX9_doesWay wsX9_doesWay (rmz 0 0) (va_Pc [.ref (ad 0), .int 28] (rPre D q (wM q ad κ t) sz)) (va_Qv (fun (u : KS × (Nat → Int32)) => u = (act κ (t 4) (t 5) 28 (t 0) (t 1) (t 2), va_up t 3 (nxt κ 28 (t 0) (t 1) (t 3)))) (fun (u : KS × (Nat → Int32)) tt => rPo D (rA (wM q ad κ t) sz) (wM q ad u.1 u.2) tt) (rA (wM q ad κ t) sz)) 0 0 (rA (wM q ad κ t) sz) := by
  have hi0 : vp_in (t 0) 8 := hs.1
  have hi1 : vp_in (t 1) 200 := hs.2.1
  refine r_start (cc := cX9_doesWay) (maxL := 2) (ret := none) (by decide) rfl (Nat.le_of_ble_eq_true rfl) ?_
  intro p e s m below meth c ls hC hr hlk hnm hsz hw hl
  have hx := hC.1
  have hb := hC.2.1
  have hl : lv_has ls 2 [(0, .ref (ad 0)), (1, .int 28)] := hl
  refine lv_iload_n hx hb dX9_doesWay_0 rfl (lv_at hl 1 rfl) ?_
  refine lv_bipush (v := 27) hx hb dX9_doesWay_1 (by decide) ?_
  refine lv_icmp_ne (tgt := 17) hx hb dX9_doesWay_3 (by decide) (fun _ => ?_) (fun c_ => absurd c_ (by decide))
  refine lv_iload_n hx hb dX9_doesWay_17 rfl (lv_at hl 1 rfl) ?_
  refine lv_bipush (v := 28) hx hb dX9_doesWay_18 (by decide) ?_
  refine lv_icmp_ne (tgt := 53) hx hb dX9_doesWay_20 (by decide) (fun c_ => absurd (by decide) c_) (fun _ => ?_)
  refine lv_aload_n hx hb dX9_doesWay_23 rfl (lv_at hl 0 rfl) ?_
  refine lv_aload_n hx hb dX9_doesWay_24 rfl (lv_at hl 0 rfl) ?_
  refine r_get hC hw rk9 in_X9_doesWay_9 0 (wMl 0 (by decide)) wM0 4 (by decide) lk_X9_doesWay_16 (v := .ref (ad 3)) rfl dX9_doesWay_25 ?_
  refine lv_aload_n hx hb dX9_doesWay_28 rfl (lv_at hl 0 rfl) ?_
  refine r_get hC hw rk9 in_X9_doesWay_9 0 (wMl 0 (by decide)) wM0 30 (by decide) lk_X9_doesWay_142 (v := .int (t 0)) rfl dX9_doesWay_29 ?_
  refine r_iald hC hw 3 (wMl 3 (by decide)) wM3 (by assumption) dX9_doesWay_32 ?_
  refine lv_if_ne (tgt := 43) hx hb dX9_doesWay_33 (by decide) (fun c_1 => ?_) (fun c_1 => ?_)
  · refine lv_aload_n hx hb dX9_doesWay_43 rfl (lv_at hl 0 rfl) ?_
    refine r_get hC hw rk9 in_X9_doesWay_9 0 (wMl 0 (by decide)) wM0 33 (by decide) lk_X9_doesWay_174 (v := .int (t 3)) rfl dX9_doesWay_44 ?_
    refine r_put hC hw rk9 in_X9_doesWay_9 0 (wMl 0 (by decide)) wM0 33 (by decide) lk_X9_doesWay_174 rfl rfl rfl (Nat.le_of_ble_eq_true rfl) dX9_doesWay_47 (fun H locs hw => ?_)
    replace hw := mP_after hw
    refine lv_goto (tgt := 133) hx hb dX9_doesWay_50 (by decide) ?_
    exact r_vret hC hr hlk hw (κ, (va_up t 3 (t 3))) rfl (congrArg (fun z => (κ, va_up t 3 z)) (if_neg c_1).symm) (Nat.le_of_ble_eq_true rfl) (Nat.le_of_ble_eq_true rfl) dX9_doesWay_133
  · refine lv_aload_n hx hb dX9_doesWay_36 rfl (lv_at hl 0 rfl) ?_
    refine r_get hC hw rk9 in_X9_doesWay_9 0 (wMl 0 (by decide)) wM0 31 (by decide) lk_X9_doesWay_126 (v := .int (t 1)) rfl dX9_doesWay_37 ?_
    refine lv_goto (tgt := 47) hx hb dX9_doesWay_40 (by decide) ?_
    refine r_put hC hw rk9 in_X9_doesWay_9 0 (wMl 0 (by decide)) wM0 33 (by decide) lk_X9_doesWay_174 rfl rfl rfl (Nat.le_of_ble_eq_true rfl) dX9_doesWay_47 (fun H locs hw => ?_)
    replace hw := mP_after hw
    refine lv_goto (tgt := 133) hx hb dX9_doesWay_50 (by decide) ?_
    exact r_vret hC hr hlk hw (κ, (va_up t 3 (t 1))) rfl (congrArg (fun z => (κ, va_up t 3 z)) (if_pos c_1).symm) (Nat.le_of_ble_eq_true rfl) (Nat.le_of_ble_eq_true rfl) dX9_doesWay_133

set_option maxHeartbeats 4000000 in
set_option maxRecDepth 100000 in
theorem c_X9_doesWay_29 (l : Launch) {D : va_G} {q : Nat → ClassId} {ad : Nat → Nat} {κ : KS} {t : Nat → Int32} (sz : Nat) (hs : okStep 29 (t 0) (t 1) (t 2)) (hW : WFm κ) (hy : why κ 29 (t 0) (t 1) (t 2) = 0) (hN : nnOp κ 29 (t 0) (t 1) (t 2)) (hc : vp_in (sI κ 6) 13) (hm : vp_in (sI κ 2) 61) (hT : ¬ sI κ 7 < 0) : Met l yX9_doesWay wsX9_doesWay (rmz 0 0) (va_Pc [.ref (ad 0), .int 29] (rPre D q (wM q ad κ t) sz)) (va_Qv (fun (u : KS × (Nat → Int32)) => u = (act κ (t 4) (t 5) 29 (t 0) (t 1) (t 2), va_up t 3 (nxt κ 29 (t 0) (t 1) (t 3)))) (fun (u : KS × (Nat → Int32)) tt => rPo D (rA (wM q ad κ t) sz) (wM q ad u.1 u.2) tt) (rA (wM q ad κ t) sz)) 0 0 (rA (wM q ad κ t) sz) := by
  have hi0 : vp_in (t 0) 200 := hs.1
  have hk := in12 hc (y7 hy).1
  refine r_start (cc := cX9_doesWay) (maxL := 2) (ret := none) (by decide) rfl (Nat.le_of_ble_eq_true rfl) ?_
  intro p e s m below meth c ls hC hr hlk hnm hsz hw hl
  have hx := hC.1
  have hb := hC.2.1
  have hl : lv_has ls 2 [(0, .ref (ad 0)), (1, .int 29)] := hl
  refine lv_iload_n hx hb dX9_doesWay_0 rfl (lv_at hl 1 rfl) ?_
  refine lv_bipush (v := 27) hx hb dX9_doesWay_1 (by decide) ?_
  refine lv_icmp_ne (tgt := 17) hx hb dX9_doesWay_3 (by decide) (fun _ => ?_) (fun c_ => absurd c_ (by decide))
  refine lv_iload_n hx hb dX9_doesWay_17 rfl (lv_at hl 1 rfl) ?_
  refine lv_bipush (v := 28) hx hb dX9_doesWay_18 (by decide) ?_
  refine lv_icmp_ne (tgt := 53) hx hb dX9_doesWay_20 (by decide) (fun _ => ?_) (fun c_ => absurd c_ (by decide))
  refine lv_iload_n hx hb dX9_doesWay_53 rfl (lv_at hl 1 rfl) ?_
  refine lv_bipush (v := 29) hx hb dX9_doesWay_54 (by decide) ?_
  refine lv_icmp_ne (tgt := 93) hx hb dX9_doesWay_56 (by decide) (fun c_ => absurd (by decide) c_) (fun _ => ?_)
  refine lv_aload_n hx hb dX9_doesWay_59 rfl (lv_at hl 0 rfl) ?_
  refine r_get hC hw rk9 in_X9_doesWay_9 0 (wMl 0 (by decide)) wM0 21 (by decide) lk_X9_doesWay_58 (v := .ref (ad 16)) rfl dX9_doesWay_60 ?_
  refine lv_aload_n hx hb dX9_doesWay_63 rfl (lv_at hl 0 rfl) ?_
  refine r_get hC hw rk9 in_X9_doesWay_9 0 (wMl 0 (by decide)) wM0 22 (by decide) lk_X9_doesWay_98 (v := .int (sI κ 6)) rfl dX9_doesWay_64 ?_
  refine lv_aload_n hx hb dX9_doesWay_67 rfl (lv_at hl 0 rfl) ?_
  refine r_get hC hw rk9 in_X9_doesWay_9 0 (wMl 0 (by decide)) wM0 19 (by decide) lk_X9_doesWay_92 (v := .int (sI κ 4)) rfl dX9_doesWay_68 ?_
  refine r_iast hC hw 16 (wMl 16 (by decide)) wM16 hk dX9_doesWay_71 (fun H locs hw => ?_)
  replace hw := mS_callPlaces hw
  refine lv_aload_n hx hb dX9_doesWay_72 rfl (lv_at hl 0 rfl) ?_
  refine lv_dup hx hb dX9_doesWay_73 rfl ?_
  refine r_get hC hw rk9 in_X9_doesWay_9 0 (wMl 0 (by decide)) wM0 22 (by decide) lk_X9_doesWay_98 (v := .int (sI κ 6)) rfl dX9_doesWay_74 ?_
  refine lv_iconst (v := 1) hx hb dX9_doesWay_77 (by decide) ?_
  refine lv_iadd hx hb dX9_doesWay_78 ?_
  refine r_put hC hw rk9 in_X9_doesWay_9 0 (wMl 0 (by decide)) wM0 22 (by decide) lk_X9_doesWay_98 rfl rfl rfl (Nat.le_of_ble_eq_true rfl) dX9_doesWay_79 (fun H locs hw => ?_)
  replace hw := mP_calls hw
  refine lv_aload_n hx hb dX9_doesWay_82 rfl (lv_at hl 0 rfl) ?_
  refine lv_aload_n hx hb dX9_doesWay_83 rfl (lv_at hl 0 rfl) ?_
  refine r_get hC hw rk9 in_X9_doesWay_9 0 (wMl 0 (by decide)) wM0 30 (by decide) lk_X9_doesWay_142 (v := .int (t 0)) rfl dX9_doesWay_84 ?_
  refine r_put hC hw rk9 in_X9_doesWay_9 0 (wMl 0 (by decide)) wM0 33 (by decide) lk_X9_doesWay_174 rfl rfl rfl (Nat.le_of_ble_eq_true rfl) dX9_doesWay_87 (fun H locs hw => ?_)
  replace hw := mP_after hw
  refine lv_goto (tgt := 133) hx hb dX9_doesWay_90 (by decide) ?_
  exact r_vret hC hr hlk hw ((uI (uA κ 9 (aN (sI κ 6)) (sI κ 4)) 6 ((sI κ 6) + 1)), (va_up t 3 (t 0))) rfl rfl (Nat.le_of_ble_eq_true rfl) (Nat.le_of_ble_eq_true rfl) dX9_doesWay_133

set_option maxHeartbeats 4000000 in
set_option maxRecDepth 100000 in
theorem c_X9_doesWay_30 (l : Launch) {D : va_G} {q : Nat → ClassId} {ad : Nat → Nat} {κ : KS} {t : Nat → Int32} (sz : Nat) (hs : okStep 30 (t 0) (t 1) (t 2)) (hW : WFm κ) (hy : why κ 30 (t 0) (t 1) (t 2) = 0) (hN : nnOp κ 30 (t 0) (t 1) (t 2)) (hc : vp_in (sI κ 6) 13) (hm : vp_in (sI κ 2) 61) (hT : ¬ sI κ 7 < 0) : Met l yX9_doesWay wsX9_doesWay (rmz 0 0) (va_Pc [.ref (ad 0), .int 30] (rPre D q (wM q ad κ t) sz)) (va_Qv (fun (u : KS × (Nat → Int32)) => u = (act κ (t 4) (t 5) 30 (t 0) (t 1) (t 2), if sI κ 6 = 0 then t else va_up t 3 (nxt κ 30 (t 0) (t 1) (t 3)))) (fun (u : KS × (Nat → Int32)) tt => rPo D (rA (wM q ad κ t) sz) (wM q ad u.1 u.2) tt) (rA (wM q ad κ t) sz)) 0 0 (rA (wM q ad κ t) sz) := by
  refine r_start (cc := cX9_doesWay) (maxL := 2) (ret := none) (by decide) rfl (Nat.le_of_ble_eq_true rfl) ?_
  intro p e s m below meth c ls hC hr hlk hnm hsz hw hl
  have hx := hC.1
  have hb := hC.2.1
  have hl : lv_has ls 2 [(0, .ref (ad 0)), (1, .int 30)] := hl
  refine lv_iload_n hx hb dX9_doesWay_0 rfl (lv_at hl 1 rfl) ?_
  refine lv_bipush (v := 27) hx hb dX9_doesWay_1 (by decide) ?_
  refine lv_icmp_ne (tgt := 17) hx hb dX9_doesWay_3 (by decide) (fun _ => ?_) (fun c_ => absurd c_ (by decide))
  refine lv_iload_n hx hb dX9_doesWay_17 rfl (lv_at hl 1 rfl) ?_
  refine lv_bipush (v := 28) hx hb dX9_doesWay_18 (by decide) ?_
  refine lv_icmp_ne (tgt := 53) hx hb dX9_doesWay_20 (by decide) (fun _ => ?_) (fun c_ => absurd c_ (by decide))
  refine lv_iload_n hx hb dX9_doesWay_53 rfl (lv_at hl 1 rfl) ?_
  refine lv_bipush (v := 29) hx hb dX9_doesWay_54 (by decide) ?_
  refine lv_icmp_ne (tgt := 93) hx hb dX9_doesWay_56 (by decide) (fun _ => ?_) (fun c_ => absurd c_ (by decide))
  refine lv_aload_n hx hb dX9_doesWay_93 rfl (lv_at hl 0 rfl) ?_
  refine r_get hC hw rk9 in_X9_doesWay_9 0 (wMl 0 (by decide)) wM0 22 (by decide) lk_X9_doesWay_98 (v := .int (sI κ 6)) rfl dX9_doesWay_94 ?_
  refine lv_if_ne (tgt := 108) hx hb dX9_doesWay_97 (by decide) (fun c_1 => ?_) (fun c_1 => ?_)
  · refine lv_aload_n hx hb dX9_doesWay_108 rfl (lv_at hl 0 rfl) ?_
    refine lv_dup hx hb dX9_doesWay_109 rfl ?_
    refine r_get hC hw rk9 in_X9_doesWay_9 0 (wMl 0 (by decide)) wM0 22 (by decide) lk_X9_doesWay_98 (v := .int (sI κ 6)) rfl dX9_doesWay_110 ?_
    refine lv_iconst (v := 1) hx hb dX9_doesWay_113 (by decide) ?_
    refine lv_isub hx hb dX9_doesWay_114 ?_
    refine r_put hC hw rk9 in_X9_doesWay_9 0 (wMl 0 (by decide)) wM0 22 (by decide) lk_X9_doesWay_98 rfl rfl rfl (Nat.le_of_ble_eq_true rfl) dX9_doesWay_115 (fun H locs hw => ?_)
    replace hw := mP_calls hw
    refine lv_aload_n hx hb dX9_doesWay_118 rfl (lv_at hl 0 rfl) ?_
    refine lv_aload_n hx hb dX9_doesWay_119 rfl (lv_at hl 0 rfl) ?_
    refine r_get hC hw rk9 in_X9_doesWay_9 0 (wMl 0 (by decide)) wM0 21 (by decide) lk_X9_doesWay_58 (v := .ref (ad 16)) rfl dX9_doesWay_120 ?_
    refine lv_aload_n hx hb dX9_doesWay_123 rfl (lv_at hl 0 rfl) ?_
    refine r_get hC hw rk9 in_X9_doesWay_9 0 (wMl 0 (by decide)) wM0 22 (by decide) lk_X9_doesWay_98 (v := .int ((sI κ 6) - 1)) rfl dX9_doesWay_124 ?_
    refine r_iald hC hw 16 (wMl 16 (by decide)) wM16 (in12p hc (by assumption)) dX9_doesWay_127 ?_
    refine r_topi (y := sA κ 9 (aN ((sI κ 6) - 1))) (by rfl) ?_
    refine lv_iconst (v := 1) hx hb dX9_doesWay_128 (by decide) ?_
    refine lv_iadd hx hb dX9_doesWay_129 ?_
    refine r_put hC hw rk9 in_X9_doesWay_9 0 (wMl 0 (by decide)) wM0 33 (by decide) lk_X9_doesWay_174 rfl rfl rfl (Nat.le_of_ble_eq_true rfl) dX9_doesWay_130 (fun H locs hw => ?_)
    replace hw := mP_after hw
    exact r_vret hC hr hlk hw ((uI κ 6 ((sI κ 6) - 1)), (va_up t 3 ((sA κ 9 (aN ((sI κ 6) - 1))) + 1))) rfl (by simp [act, nxt, c_1]) (Nat.le_of_ble_eq_true rfl) (Nat.le_of_ble_eq_true rfl) dX9_doesWay_133
  · refine lv_aload_n hx hb dX9_doesWay_100 rfl (lv_at hl 0 rfl) ?_
    refine lv_iconst (v := 2) hx hb dX9_doesWay_101 (by decide) ?_
    refine r_put hC hw rk9 in_X9_doesWay_9 0 (wMl 0 (by decide)) wM0 18 (by decide) lk_X9_doesWay_83 rfl rfl rfl (Nat.le_of_ble_eq_true rfl) dX9_doesWay_102 (fun H locs hw => ?_)
    replace hw := mP_status hw
    refine lv_goto (tgt := 133) hx hb dX9_doesWay_105 (by decide) ?_
    exact r_vret hC hr hlk hw ((uI κ 3 2), t) rfl (by simp [act, nxt, c_1]) (Nat.le_of_ble_eq_true rfl) (Nat.le_of_ble_eq_true rfl) dX9_doesWay_133

set_option maxHeartbeats 4000000 in
set_option maxRecDepth 100000 in
theorem c_X9_doesThing_34 (l : Launch) {D : va_G} {q : Nat → ClassId} {ad : Nat → Nat} {κ : KS} {t : Nat → Int32} (sz : Nat) (hs : okStep 34 (t 0) (t 1) (t 2)) (hW : WFm κ) (hy : why κ 34 (t 0) (t 1) (t 2) = 0) (hN : nnOp κ 34 (t 0) (t 1) (t 2)) (hc : vp_in (sI κ 6) 13) (hm : vp_in (sI κ 2) 61) (hT : ¬ sI κ 7 < 0) : Met l yX9_doesThing wsX9_doesThing (rmz 2 41) (va_Pc [.ref (ad 0), .int 34] (rPre D q (wM q ad κ t) sz)) (va_Qv (fun (u : KS × (Nat → Int32)) => u = (act κ (t 4) (t 5) 34 (t 0) (t 1) (t 2), t)) (fun (u : KS × (Nat → Int32)) tt => rPo D (rA (wM q ad κ t) sz) (wM q ad u.1 u.2) tt) (rA (wM q ad κ t) sz)) 0 0 (rA (wM q ad κ t) sz) := by
  have hi0 : vp_in (t 0) 8 := hs.1
  have hi1 : vp_in (t 1) 8 := hs.2.1
  refine r_start (cc := cX9_doesThing) (maxL := 7) (ret := none) (by decide) rfl (Nat.le_of_ble_eq_true rfl) ?_
  intro p e s m below meth c ls hC hr hlk hnm hsz hw hl
  have hx := hC.1
  have hb := hC.2.1
  have hl : lv_has ls 7 [(0, .ref (ad 0)), (1, .int 34)] := hl
  refine lv_iload_n hx hb dX9_doesThing_0 rfl (lv_at hl 1 rfl) ?_
  refine lv_tableIn (tgt := 200) hx hb dX9_doesThing_1 (by decide) (by decide) (by rfl) (by decide) ?_
  refine lv_aload_n hx hb dX9_doesThing_200 rfl (lv_at hl 0 rfl) ?_
  refine r_get hC hw rk9 in_X9_doesThing_9 0 (wMl 0 (by decide)) wM0 8 (by decide) lk_X9_doesThing_31 (v := .ref (ad 7)) rfl dX9_doesThing_201 ?_
  refine lv_aload_n hx hb dX9_doesThing_204 rfl (lv_at hl 0 rfl) ?_
  refine r_get hC hw rk9 in_X9_doesThing_9 0 (wMl 0 (by decide)) wM0 30 (by decide) lk_X9_doesThing_142 (v := .int (t 0)) rfl dX9_doesThing_205 ?_
  refine lv_aload_n hx hb dX9_doesThing_208 rfl (lv_at hl 0 rfl) ?_
  refine r_get hC hw rk9 in_X9_doesThing_9 0 (wMl 0 (by decide)) wM0 8 (by decide) lk_X9_doesThing_31 (v := .ref (ad 7)) rfl dX9_doesThing_209 ?_
  refine lv_aload_n hx hb dX9_doesThing_212 rfl (lv_at hl 0 rfl) ?_
  refine r_get hC hw rk9 in_X9_doesThing_9 0 (wMl 0 (by decide)) wM0 31 (by decide) lk_X9_doesThing_126 (v := .int (t 1)) rfl dX9_doesThing_213 ?_
  refine r_iald hC hw 7 (wMl 7 (by decide)) wM7 (by assumption) dX9_doesThing_216 ?_
  refine r_iast hC hw 7 (wMl 7 (by decide)) wM7 (by assumption) dX9_doesThing_217 (fun H locs hw => ?_)
  replace hw := mS_refs hw
  refine lv_goto (tgt := 360) hx hb dX9_doesThing_218 (by decide) ?_
  exact r_vret hC hr hlk hw ((uA κ 3 (aN (t 0)) (sA κ 3 (aN (t 1)))), t) rfl rfl (Nat.le_of_ble_eq_true rfl) (Nat.le_of_ble_eq_true rfl) dX9_doesThing_360

set_option maxHeartbeats 4000000 in
set_option maxRecDepth 100000 in
theorem c_X9_doesThing_35 (l : Launch) {D : va_G} {q : Nat → ClassId} {ad : Nat → Nat} {κ : KS} {t : Nat → Int32} (sz : Nat) (hs : okStep 35 (t 0) (t 1) (t 2)) (hW : WFm κ) (hy : why κ 35 (t 0) (t 1) (t 2) = 0) (hN : nnOp κ 35 (t 0) (t 1) (t 2)) (hc : vp_in (sI κ 6) 13) (hm : vp_in (sI κ 2) 61) (hT : ¬ sI κ 7 < 0) : Met l yX9_doesThing wsX9_doesThing (rmz 2 41) (va_Pc [.ref (ad 0), .int 35] (rPre D q (wM q ad κ t) sz)) (va_Qv (fun (u : KS × (Nat → Int32)) => u = (act κ (t 4) (t 5) 35 (t 0) (t 1) (t 2), t)) (fun (u : KS × (Nat → Int32)) tt => rPo D (rA (wM q ad κ t) sz) (wM q ad u.1 u.2) tt) (rA (wM q ad κ t) sz)) 0 0 (rA (wM q ad κ t) sz) := by
  have hi0 : vp_in (t 0) 8 := hs.1
  refine r_start (cc := cX9_doesThing) (maxL := 7) (ret := none) (by decide) rfl (Nat.le_of_ble_eq_true rfl) ?_
  intro p e s m below meth c ls hC hr hlk hnm hsz hw hl
  have hx := hC.1
  have hb := hC.2.1
  have hl : lv_has ls 7 [(0, .ref (ad 0)), (1, .int 35)] := hl
  refine lv_iload_n hx hb dX9_doesThing_0 rfl (lv_at hl 1 rfl) ?_
  refine lv_tableIn (tgt := 221) hx hb dX9_doesThing_1 (by decide) (by decide) (by rfl) (by decide) ?_
  refine lv_aload_n hx hb dX9_doesThing_221 rfl (lv_at hl 0 rfl) ?_
  refine r_get hC hw rk9 in_X9_doesThing_9 0 (wMl 0 (by decide)) wM0 8 (by decide) lk_X9_doesThing_31 (v := .ref (ad 7)) rfl dX9_doesThing_222 ?_
  refine lv_aload_n hx hb dX9_doesThing_225 rfl (lv_at hl 0 rfl) ?_
  refine r_get hC hw rk9 in_X9_doesThing_9 0 (wMl 0 (by decide)) wM0 30 (by decide) lk_X9_doesThing_142 (v := .int (t 0)) rfl dX9_doesThing_226 ?_
  refine lv_iconst (v := 0) hx hb dX9_doesThing_229 (by decide) ?_
  refine r_iast hC hw 7 (wMl 7 (by decide)) wM7 (by assumption) dX9_doesThing_230 (fun H locs hw => ?_)
  replace hw := mS_refs hw
  refine lv_goto (tgt := 360) hx hb dX9_doesThing_231 (by decide) ?_
  exact r_vret hC hr hlk hw ((uA κ 3 (aN (t 0)) 0), t) rfl rfl (Nat.le_of_ble_eq_true rfl) (Nat.le_of_ble_eq_true rfl) dX9_doesThing_360

set_option maxHeartbeats 4000000 in
set_option maxRecDepth 100000 in
theorem c_X9_doesThing_36 (l : Launch) {D : va_G} {q : Nat → ClassId} {ad : Nat → Nat} {κ : KS} {t : Nat → Int32} (sz : Nat) (hs : okStep 36 (t 0) (t 1) (t 2)) (hW : WFm κ) (hy : why κ 36 (t 0) (t 1) (t 2) = 0) (hN : nnOp κ 36 (t 0) (t 1) (t 2)) (hc : vp_in (sI κ 6) 13) (hm : vp_in (sI κ 2) 61) (hT : ¬ sI κ 7 < 0) : Met l yX9_doesThing wsX9_doesThing (rmz 2 41) (va_Pc [.ref (ad 0), .int 36] (rPre D q (wM q ad κ t) sz)) (va_Qv (fun (u : KS × (Nat → Int32)) => u = (act κ (t 4) (t 5) 36 (t 0) (t 1) (t 2), t)) (fun (u : KS × (Nat → Int32)) tt => rPo D (rA (wM q ad κ t) sz) (wM q ad u.1 u.2) tt) (rA (wM q ad κ t) sz)) 0 0 (rA (wM q ad κ t) sz) := by
  have hi0 : vp_in (t 0) 8 := hs.1
  have hi1 : vp_in (t 1) 8 := hs.2.1
  have hi2 : vp_in (t 2) 8 := hs.2.2
  refine r_start (cc := cX9_doesThing) (maxL := 7) (ret := none) (by decide) rfl (Nat.le_of_ble_eq_true rfl) ?_
  intro p e s m below meth c ls hC hr hlk hnm hsz hw hl
  have hx := hC.1
  have hb := hC.2.1
  have hl : lv_has ls 7 [(0, .ref (ad 0)), (1, .int 36)] := hl
  refine lv_iload_n hx hb dX9_doesThing_0 rfl (lv_at hl 1 rfl) ?_
  refine lv_tableIn (tgt := 234) hx hb dX9_doesThing_1 (by decide) (by decide) (by rfl) (by decide) ?_
  refine lv_aload_n hx hb dX9_doesThing_234 rfl (lv_at hl 0 rfl) ?_
  refine r_get hC hw rk9 in_X9_doesThing_9 0 (wMl 0 (by decide)) wM0 4 (by decide) lk_X9_doesThing_16 (v := .ref (ad 3)) rfl dX9_doesThing_235 ?_
  refine lv_aload_n hx hb dX9_doesThing_238 rfl (lv_at hl 0 rfl) ?_
  refine r_get hC hw rk9 in_X9_doesThing_9 0 (wMl 0 (by decide)) wM0 30 (by decide) lk_X9_doesThing_142 (v := .int (t 0)) rfl dX9_doesThing_239 ?_
  refine lv_aload_n hx hb dX9_doesThing_242 rfl (lv_at hl 0 rfl) ?_
  refine r_get hC hw rk9 in_X9_doesThing_9 0 (wMl 0 (by decide)) wM0 8 (by decide) lk_X9_doesThing_31 (v := .ref (ad 7)) rfl dX9_doesThing_243 ?_
  refine lv_aload_n hx hb dX9_doesThing_246 rfl (lv_at hl 0 rfl) ?_
  refine r_get hC hw rk9 in_X9_doesThing_9 0 (wMl 0 (by decide)) wM0 31 (by decide) lk_X9_doesThing_126 (v := .int (t 1)) rfl dX9_doesThing_247 ?_
  refine r_iald hC hw 7 (wMl 7 (by decide)) wM7 (by assumption) dX9_doesThing_250 ?_
  refine lv_aload_n hx hb dX9_doesThing_251 rfl (lv_at hl 0 rfl) ?_
  refine r_get hC hw rk9 in_X9_doesThing_9 0 (wMl 0 (by decide)) wM0 8 (by decide) lk_X9_doesThing_31 (v := .ref (ad 7)) rfl dX9_doesThing_252 ?_
  refine lv_aload_n hx hb dX9_doesThing_255 rfl (lv_at hl 0 rfl) ?_
  refine r_get hC hw rk9 in_X9_doesThing_9 0 (wMl 0 (by decide)) wM0 32 (by decide) lk_X9_doesThing_123 (v := .int (t 2)) rfl dX9_doesThing_256 ?_
  refine r_iald hC hw 7 (wMl 7 (by decide)) wM7 (by assumption) dX9_doesThing_259 ?_
  refine lv_icmp_ne (tgt := 267) hx hb dX9_doesThing_260 (by decide) (fun c_1 => ?_) (fun c_1 => ?_)
  · refine lv_iconst (v := 0) hx hb dX9_doesThing_267 (by decide) ?_
    refine r_iast hC hw 3 (wMl 3 (by decide)) wM3 (by assumption) dX9_doesThing_268 (fun H locs hw => ?_)
    replace hw := mS_words hw
    refine lv_goto (tgt := 360) hx hb dX9_doesThing_269 (by decide) ?_
    exact r_vret hC hr hlk hw ((uA κ 2 (aN (t 0)) 0), t) rfl (congrArg (fun z => (uA κ 2 (aN (t 0)) z, t)) (if_neg c_1).symm) (Nat.le_of_ble_eq_true rfl) (Nat.le_of_ble_eq_true rfl) dX9_doesThing_360
  · refine lv_iconst (v := 1) hx hb dX9_doesThing_263 (by decide) ?_
    refine lv_goto (tgt := 268) hx hb dX9_doesThing_264 (by decide) ?_
    refine r_iast hC hw 3 (wMl 3 (by decide)) wM3 (by assumption) dX9_doesThing_268 (fun H locs hw => ?_)
    replace hw := mS_words hw
    refine lv_goto (tgt := 360) hx hb dX9_doesThing_269 (by decide) ?_
    exact r_vret hC hr hlk hw ((uA κ 2 (aN (t 0)) 1), t) rfl (congrArg (fun z => (uA κ 2 (aN (t 0)) z, t)) (if_pos c_1).symm) (Nat.le_of_ble_eq_true rfl) (Nat.le_of_ble_eq_true rfl) dX9_doesThing_360

set_option maxHeartbeats 4000000 in
set_option maxRecDepth 100000 in
theorem c_X9_doesThing_37 (l : Launch) {D : va_G} {q : Nat → ClassId} {ad : Nat → Nat} {κ : KS} {t : Nat → Int32} (sz : Nat) (hs : okStep 37 (t 0) (t 1) (t 2)) (hW : WFm κ) (hy : why κ 37 (t 0) (t 1) (t 2) = 0) (hN : nnOp κ 37 (t 0) (t 1) (t 2)) (hc : vp_in (sI κ 6) 13) (hm : vp_in (sI κ 2) 61) (hT : ¬ sI κ 7 < 0) : Met l yX9_doesThing wsX9_doesThing (rmz 2 41) (va_Pc [.ref (ad 0), .int 37] (rPre D q (wM q ad κ t) sz)) (va_Qv (fun (u : KS × (Nat → Int32)) => u = (act κ (t 4) (t 5) 37 (t 0) (t 1) (t 2), t)) (fun (u : KS × (Nat → Int32)) tt => rPo D (rA (wM q ad κ t) sz) (wM q ad u.1 u.2) tt) (rA (wM q ad κ t) sz)) 0 0 (rA (wM q ad κ t) sz) := by
  have hi0 : vp_in (t 0) 8 := hs.1
  have hi1 : vp_in (t 1) 8 := hs.2.1
  have hi2 : vp_in (t 2) 17 := hs.2.2
  refine r_start (cc := cX9_doesThing) (maxL := 7) (ret := none) (by decide) rfl (Nat.le_of_ble_eq_true rfl) ?_
  intro p e s m below meth c ls hC hr hlk hnm hsz hw hl
  have hx := hC.1
  have hb := hC.2.1
  have hl : lv_has ls 7 [(0, .ref (ad 0)), (1, .int 37)] := hl
  refine lv_iload_n hx hb dX9_doesThing_0 rfl (lv_at hl 1 rfl) ?_
  refine lv_tableIn (tgt := 272) hx hb dX9_doesThing_1 (by decide) (by decide) (by rfl) (by decide) ?_
  refine lv_aload_n hx hb dX9_doesThing_272 rfl (lv_at hl 0 rfl) ?_
  refine r_get hC hw rk9 in_X9_doesThing_9 0 (wMl 0 (by decide)) wM0 8 (by decide) lk_X9_doesThing_31 (v := .ref (ad 7)) rfl dX9_doesThing_273 ?_
  refine lv_aload_n hx hb dX9_doesThing_276 rfl (lv_at hl 0 rfl) ?_
  refine r_get hC hw rk9 in_X9_doesThing_9 0 (wMl 0 (by decide)) wM0 31 (by decide) lk_X9_doesThing_126 (v := .int (t 1)) rfl dX9_doesThing_277 ?_
  refine r_iald hC hw 7 (wMl 7 (by decide)) wM7 (by assumption) dX9_doesThing_280 ?_
  refine lv_if_ne (tgt := 288) hx hb dX9_doesThing_281 (by decide) (fun c_1 => ?_) (fun c_1 => ?_)
  · refine lv_aload_n hx hb dX9_doesThing_288 rfl (lv_at hl 0 rfl) ?_
    refine r_get hC hw rk9 in_X9_doesThing_9 0 (wMl 0 (by decide)) wM0 9 (by decide) lk_X9_doesThing_34 (v := .ref (ad 8)) rfl dX9_doesThing_289 ?_
    refine lv_aload_n hx hb dX9_doesThing_292 rfl (lv_at hl 0 rfl) ?_
    refine r_get hC hw rk9 in_X9_doesThing_9 0 (wMl 0 (by decide)) wM0 8 (by decide) lk_X9_doesThing_31 (v := .ref (ad 7)) rfl dX9_doesThing_293 ?_
    refine lv_aload_n hx hb dX9_doesThing_296 rfl (lv_at hl 0 rfl) ?_
    refine r_get hC hw rk9 in_X9_doesThing_9 0 (wMl 0 (by decide)) wM0 31 (by decide) lk_X9_doesThing_126 (v := .int (t 1)) rfl dX9_doesThing_297 ?_
    refine r_iald hC hw 7 (wMl 7 (by decide)) wM7 (by assumption) dX9_doesThing_300 ?_
    refine lv_iconst (v := 1) hx hb dX9_doesThing_301 (by decide) ?_
    refine lv_isub hx hb dX9_doesThing_302 ?_
    refine r_iald hC hw 8 (wMl 8 (by decide)) wM8 (wf_ref hW (by assumption) (by assumption)) dX9_doesThing_303 ?_
    refine lv_aload_n hx hb dX9_doesThing_304 rfl (lv_at hl 0 rfl) ?_
    refine r_get hC hw rk9 in_X9_doesThing_9 0 (wMl 0 (by decide)) wM0 32 (by decide) lk_X9_doesThing_123 (v := .int (t 2)) rfl dX9_doesThing_305 ?_
    refine r_ki hw (r_runS (rest := []) hC hw (c_X9_isOf l _ _ (sA κ 4 (aN ((sA κ 3 (aN (t 1))) - 1))) (t 2) (by assumption)) 2 gX9_doesThing_X9_isOf rfl rfl rfl (by decide +kernel) ⟨Nat.le_of_ble_eq_true rfl, Nat.le_of_ble_eq_true rfl⟩ rfl hl.1 rfl (Nat.le_of_ble_eq_true rfl) dX9_doesThing_308 ⟨Nat.le_of_ble_eq_true rfl, Nat.le_of_ble_eq_true rfl⟩) (fun r_3 u_4 H locs h_2 hw => ?_)
    by_cases c_5 : pOf (sA κ 4 (aN ((sA κ 3 (aN (t 1))) - 1))) (t 2)
    · rw [if_pos c_5] at h_2
      subst h_2
      refine lv_if_eq (tgt := 318) hx hb dX9_doesThing_311 (by decide) (fun c_ => absurd c_ (by decide)) (fun _ => ?_)
      refine lv_iconst (v := 1) hx hb dX9_doesThing_314 (by decide) ?_
      refine lv_goto (tgt := 319) hx hb dX9_doesThing_315 (by decide) ?_
      refine lv_istore_n (lv' := [(2, .int 1), (0, .ref (ad 0)), (1, .int 37)]) hx hb dX9_doesThing_319 rfl hl (by decide) rfl (fun ls hl => ?_)
      refine lv_aload_n hx hb dX9_doesThing_320 rfl (lv_at hl 1 rfl) ?_
      refine r_get hC hw rk9 in_X9_doesThing_9 0 (wMl 0 (by decide)) wM0 4 (by decide) lk_X9_doesThing_16 (v := .ref (ad 3)) rfl dX9_doesThing_321 ?_
      refine lv_aload_n hx hb dX9_doesThing_324 rfl (lv_at hl 1 rfl) ?_
      refine r_get hC hw rk9 in_X9_doesThing_9 0 (wMl 0 (by decide)) wM0 30 (by decide) lk_X9_doesThing_142 (v := .int (t 0)) rfl dX9_doesThing_325 ?_
      refine lv_iload_n hx hb dX9_doesThing_328 rfl (lv_at hl 0 rfl) ?_
      refine r_iast hC hw 3 (wMl 3 (by decide)) wM3 (by assumption) dX9_doesThing_329 (fun H locs hw => ?_)
      replace hw := mS_words hw
      refine lv_goto (tgt := 360) hx hb dX9_doesThing_330 (by decide) ?_
      exact r_vret hC hr hlk hw ((uA κ 2 (aN (t 0)) 1), t) rfl (congrArg (fun z => (uA κ 2 (aN (t 0)) z, t)) ((if_neg c_1).trans (if_pos c_5)).symm) (Nat.le_of_ble_eq_true rfl) (Nat.le_of_ble_eq_true rfl) dX9_doesThing_360
    · rw [if_neg c_5] at h_2
      subst h_2
      refine lv_if_eq (tgt := 318) hx hb dX9_doesThing_311 (by decide) (fun _ => ?_) (fun c_ => absurd (by decide) c_)
      refine lv_iconst (v := 0) hx hb dX9_doesThing_318 (by decide) ?_
      refine lv_istore_n (lv' := [(2, .int 0), (0, .ref (ad 0)), (1, .int 37)]) hx hb dX9_doesThing_319 rfl hl (by decide) rfl (fun ls hl => ?_)
      refine lv_aload_n hx hb dX9_doesThing_320 rfl (lv_at hl 1 rfl) ?_
      refine r_get hC hw rk9 in_X9_doesThing_9 0 (wMl 0 (by decide)) wM0 4 (by decide) lk_X9_doesThing_16 (v := .ref (ad 3)) rfl dX9_doesThing_321 ?_
      refine lv_aload_n hx hb dX9_doesThing_324 rfl (lv_at hl 1 rfl) ?_
      refine r_get hC hw rk9 in_X9_doesThing_9 0 (wMl 0 (by decide)) wM0 30 (by decide) lk_X9_doesThing_142 (v := .int (t 0)) rfl dX9_doesThing_325 ?_
      refine lv_iload_n hx hb dX9_doesThing_328 rfl (lv_at hl 0 rfl) ?_
      refine r_iast hC hw 3 (wMl 3 (by decide)) wM3 (by assumption) dX9_doesThing_329 (fun H locs hw => ?_)
      replace hw := mS_words hw
      refine lv_goto (tgt := 360) hx hb dX9_doesThing_330 (by decide) ?_
      exact r_vret hC hr hlk hw ((uA κ 2 (aN (t 0)) 0), t) rfl (congrArg (fun z => (uA κ 2 (aN (t 0)) z, t)) ((if_neg c_1).trans (if_neg c_5)).symm) (Nat.le_of_ble_eq_true rfl) (Nat.le_of_ble_eq_true rfl) dX9_doesThing_360
  · refine lv_iconst (v := 0) hx hb dX9_doesThing_284 (by decide) ?_
    refine lv_goto (tgt := 319) hx hb dX9_doesThing_285 (by decide) ?_
    refine lv_istore_n (lv' := [(2, .int 0), (0, .ref (ad 0)), (1, .int 37)]) hx hb dX9_doesThing_319 rfl hl (by decide) rfl (fun ls hl => ?_)
    refine lv_aload_n hx hb dX9_doesThing_320 rfl (lv_at hl 1 rfl) ?_
    refine r_get hC hw rk9 in_X9_doesThing_9 0 (wMl 0 (by decide)) wM0 4 (by decide) lk_X9_doesThing_16 (v := .ref (ad 3)) rfl dX9_doesThing_321 ?_
    refine lv_aload_n hx hb dX9_doesThing_324 rfl (lv_at hl 1 rfl) ?_
    refine r_get hC hw rk9 in_X9_doesThing_9 0 (wMl 0 (by decide)) wM0 30 (by decide) lk_X9_doesThing_142 (v := .int (t 0)) rfl dX9_doesThing_325 ?_
    refine lv_iload_n hx hb dX9_doesThing_328 rfl (lv_at hl 0 rfl) ?_
    refine r_iast hC hw 3 (wMl 3 (by decide)) wM3 (by assumption) dX9_doesThing_329 (fun H locs hw => ?_)
    replace hw := mS_words hw
    refine lv_goto (tgt := 360) hx hb dX9_doesThing_330 (by decide) ?_
    exact r_vret hC hr hlk hw ((uA κ 2 (aN (t 0)) 0), t) rfl (congrArg (fun z => (uA κ 2 (aN (t 0)) z, t)) (if_pos c_1).symm) (Nat.le_of_ble_eq_true rfl) (Nat.le_of_ble_eq_true rfl) dX9_doesThing_360

set_option maxHeartbeats 4000000 in
set_option maxRecDepth 100000 in
theorem c_X9_doesThing_38 (l : Launch) {D : va_G} {q : Nat → ClassId} {ad : Nat → Nat} {κ : KS} {t : Nat → Int32} (sz : Nat) (hs : okStep 38 (t 0) (t 1) (t 2)) (hW : WFm κ) (hy : why κ 38 (t 0) (t 1) (t 2) = 0) (hN : nnOp κ 38 (t 0) (t 1) (t 2)) (hc : vp_in (sI κ 6) 13) (hm : vp_in (sI κ 2) 61) (hT : ¬ sI κ 7 < 0) : Met l yX9_doesThing wsX9_doesThing (rmz 2 41) (va_Pc [.ref (ad 0), .int 38] (rPre D q (wM q ad κ t) sz)) (va_Qv (fun (u : KS × (Nat → Int32)) => u = (act κ (t 4) (t 5) 38 (t 0) (t 1) (t 2), t)) (fun (u : KS × (Nat → Int32)) tt => rPo D (rA (wM q ad κ t) sz) (wM q ad u.1 u.2) tt) (rA (wM q ad κ t) sz)) 0 0 (rA (wM q ad κ t) sz) := by
  have hi0 : vp_in (t 0) 8 := hs.1
  have hi1 : vp_in (t 1) 8 := hs.2.1
  have hn1 := (y1 hy).1
  refine r_start (cc := cX9_doesThing) (maxL := 7) (ret := none) (by decide) rfl (Nat.le_of_ble_eq_true rfl) ?_
  intro p e s m below meth c ls hC hr hlk hnm hsz hw hl
  have hx := hC.1
  have hb := hC.2.1
  have hl : lv_has ls 7 [(0, .ref (ad 0)), (1, .int 38)] := hl
  refine lv_iload_n hx hb dX9_doesThing_0 rfl (lv_at hl 1 rfl) ?_
  refine lv_tableOut (tgt := 333) hx hb dX9_doesThing_1 (by decide) (by decide) ?_
  refine lv_aload_n hx hb dX9_doesThing_333 rfl (lv_at hl 0 rfl) ?_
  refine r_get hC hw rk9 in_X9_doesThing_9 0 (wMl 0 (by decide)) wM0 10 (by decide) lk_X9_doesThing_37 (v := .ref (ad 9)) rfl dX9_doesThing_334 ?_
  refine lv_aload_n hx hb dX9_doesThing_337 rfl (lv_at hl 0 rfl) ?_
  refine r_get hC hw rk9 in_X9_doesThing_9 0 (wMl 0 (by decide)) wM0 8 (by decide) lk_X9_doesThing_31 (v := .ref (ad 7)) rfl dX9_doesThing_338 ?_
  refine lv_aload_n hx hb dX9_doesThing_341 rfl (lv_at hl 0 rfl) ?_
  refine r_get hC hw rk9 in_X9_doesThing_9 0 (wMl 0 (by decide)) wM0 31 (by decide) lk_X9_doesThing_126 (v := .int (t 1)) rfl dX9_doesThing_342 ?_
  refine r_iald hC hw 7 (wMl 7 (by decide)) wM7 (by assumption) dX9_doesThing_345 ?_
  refine lv_iconst (v := 1) hx hb dX9_doesThing_346 (by decide) ?_
  refine lv_isub hx hb dX9_doesThing_347 ?_
  refine r_iald hC hw 9 (wMl 9 (by decide)) wM9 (wf_ref hW (by assumption) (by assumption)) dX9_doesThing_348 ?_
  refine lv_istore_n (lv' := [(2, .int (sA κ 5 (aN ((sA κ 3 (aN (t 1))) - 1)))), (0, .ref (ad 0)), (1, .int 38)]) hx hb dX9_doesThing_349 rfl hl (by decide) rfl (fun ls hl => ?_)
  refine lv_aload_n hx hb dX9_doesThing_350 rfl (lv_at hl 1 rfl) ?_
  refine r_get hC hw rk9 in_X9_doesThing_9 0 (wMl 0 (by decide)) wM0 4 (by decide) lk_X9_doesThing_16 (v := .ref (ad 3)) rfl dX9_doesThing_351 ?_
  refine lv_aload_n hx hb dX9_doesThing_354 rfl (lv_at hl 1 rfl) ?_
  refine r_get hC hw rk9 in_X9_doesThing_9 0 (wMl 0 (by decide)) wM0 30 (by decide) lk_X9_doesThing_142 (v := .int (t 0)) rfl dX9_doesThing_355 ?_
  refine lv_iload_n hx hb dX9_doesThing_358 rfl (lv_at hl 0 rfl) ?_
  refine r_iast hC hw 3 (wMl 3 (by decide)) wM3 (by assumption) dX9_doesThing_359 (fun H locs hw => ?_)
  replace hw := mS_words hw
  exact r_vret hC hr hlk hw ((uA κ 2 (aN (t 0)) (sA κ 5 (aN ((sA κ 3 (aN (t 1))) - 1)))), t) rfl rfl (Nat.le_of_ble_eq_true rfl) (Nat.le_of_ble_eq_true rfl) dX9_doesThing_360

set_option maxHeartbeats 4000000 in
set_option maxRecDepth 100000 in
theorem c_X9_gets_0 (l : Launch) {D : va_G} {q : Nat → ClassId} {ad : Nat → Nat} {κ : KS} {t : Nat → Int32} (sz : Nat) (hs : okStep 39 (t 0) (t 1) (t 2)) (hW : WFm κ) (hy : why κ 39 (t 0) (t 1) (t 2) = 0) (hN : nnOp κ 39 (t 0) (t 1) (t 2)) (hc : vp_in (sI κ 6) 13) (hm : vp_in (sI κ 2) 61) (hT : ¬ sI κ 7 < 0) : Met l yX9_gets wsX9_gets (rmz 0 0) (va_Pc [.ref (ad 0), .int 0] (rPre D q (wM q ad κ t) sz)) (va_Qv (fun (u : KS × (Nat → Int32)) => u = (act κ (t 4) (t 5) 39 (t 0) (t 1) (t 2), t)) (fun (u : KS × (Nat → Int32)) tt => rPo D (rA (wM q ad κ t) sz) (wM q ad u.1 u.2) tt) (rA (wM q ad κ t) sz)) 0 0 (rA (wM q ad κ t) sz) := by
  have hi0 : vp_in (t 0) 8 := hs.1
  have hi1 : vp_in (t 1) 8 := hs.2.1
  have hi2 : vp_in (t 2) 8 := hs.2.2
  obtain ⟨-, hn1, hpin, -⟩ := yG hy
  have hix := wf_ix hW hi1 hn1 hpin
  refine r_start (cc := cX9_gets) (maxL := 3) (ret := none) (by decide) rfl (Nat.le_of_ble_eq_true rfl) ?_
  intro p e s m below meth c ls hC hr hlk hnm hsz hw hl
  have hx := hC.1
  have hb := hC.2.1
  have hl : lv_has ls 3 [(0, .ref (ad 0)), (1, .int 0)] := hl
  refine lv_bipush (v := 12) hx hb dX9_gets_0 (by decide) ?_
  refine lv_aload_n hx hb dX9_gets_2 rfl (lv_at hl 0 rfl) ?_
  refine r_get hC hw rk9 in_X9_gets_9 0 (wMl 0 (by decide)) wM0 8 (by decide) lk_X9_gets_31 (v := .ref (ad 7)) rfl dX9_gets_3 ?_
  refine lv_aload_n hx hb dX9_gets_6 rfl (lv_at hl 0 rfl) ?_
  refine r_get hC hw rk9 in_X9_gets_9 0 (wMl 0 (by decide)) wM0 31 (by decide) lk_X9_gets_126 (v := .int (t 1)) rfl dX9_gets_7 ?_
  refine r_iald hC hw 7 (wMl 7 (by decide)) wM7 (by assumption) dX9_gets_10 ?_
  refine lv_iconst (v := 1) hx hb dX9_gets_11 (by decide) ?_
  refine lv_isub hx hb dX9_gets_12 ?_
  refine lv_imul hx hb dX9_gets_13 ?_
  refine lv_aload_n hx hb dX9_gets_14 rfl (lv_at hl 0 rfl) ?_
  refine r_get hC hw rk9 in_X9_gets_9 0 (wMl 0 (by decide)) wM0 4 (by decide) lk_X9_gets_16 (v := .ref (ad 3)) rfl dX9_gets_15 ?_
  refine lv_aload_n hx hb dX9_gets_18 rfl (lv_at hl 0 rfl) ?_
  refine r_get hC hw rk9 in_X9_gets_9 0 (wMl 0 (by decide)) wM0 32 (by decide) lk_X9_gets_123 (v := .int (t 2)) rfl dX9_gets_19 ?_
  refine r_iald hC hw 3 (wMl 3 (by decide)) wM3 (by assumption) dX9_gets_22 ?_
  refine lv_iadd hx hb dX9_gets_23 ?_
  refine lv_istore_n (lv' := [(2, .int ((12 * ((sA κ 3 (aN (t 1))) - 1)) + (sA κ 2 (aN (t 2))))), (0, .ref (ad 0)), (1, .int 0)]) hx hb dX9_gets_24 rfl hl (by decide) rfl (fun ls hl => ?_)
  refine lv_iload_n hx hb dX9_gets_25 rfl (lv_at hl 2 rfl) ?_
  refine lv_iconst (v := 5) hx hb dX9_gets_26 (by decide) ?_
  refine lv_icmp_ge (tgt := 49) hx hb dX9_gets_27 (by decide) (fun c_ => absurd c_ (by decide)) (fun _ => ?_)
  refine lv_aload_n hx hb dX9_gets_30 rfl (lv_at hl 1 rfl) ?_
  refine r_get hC hw rk9 in_X9_gets_9 0 (wMl 0 (by decide)) wM0 4 (by decide) lk_X9_gets_16 (v := .ref (ad 3)) rfl dX9_gets_31 ?_
  refine lv_aload_n hx hb dX9_gets_34 rfl (lv_at hl 1 rfl) ?_
  refine r_get hC hw rk9 in_X9_gets_9 0 (wMl 0 (by decide)) wM0 30 (by decide) lk_X9_gets_142 (v := .int (t 0)) rfl dX9_gets_35 ?_
  refine lv_aload_n hx hb dX9_gets_38 rfl (lv_at hl 1 rfl) ?_
  refine r_get hC hw rk9 in_X9_gets_9 0 (wMl 0 (by decide)) wM0 11 (by decide) lk_X9_gets_40 (v := .ref (ad 10)) rfl dX9_gets_39 ?_
  refine lv_iload_n hx hb dX9_gets_42 rfl (lv_at hl 0 rfl) ?_
  refine r_lald hC hw 10 (wMl 10 (by decide)) wM10 hix dX9_gets_43 ?_
  refine lv_l2i (v := (sJ κ 1 (aN ((12 * ((sA κ 3 (aN (t 1))) - 1)) + (sA κ 2 (aN (t 2)))))).toInt32) hx hb dX9_gets_44 rfl ?_
  refine r_iast hC hw 3 (wMl 3 (by decide)) wM3 (by assumption) dX9_gets_45 (fun H locs hw => ?_)
  replace hw := mS_words hw
  refine lv_goto (tgt := 136) hx hb dX9_gets_46 (by decide) ?_
  exact r_vret hC hr hlk hw ((uA κ 2 (aN (t 0)) ((sJ κ 1 (aN ((12 * ((sA κ 3 (aN (t 1))) - 1)) + (sA κ 2 (aN (t 2)))))).toInt32)), t) rfl rfl (Nat.le_of_ble_eq_true rfl) (Nat.le_of_ble_eq_true rfl) dX9_gets_136

set_option maxHeartbeats 4000000 in
set_option maxRecDepth 100000 in
theorem c_X9_gets_1 (l : Launch) {D : va_G} {q : Nat → ClassId} {ad : Nat → Nat} {κ : KS} {t : Nat → Int32} (sz : Nat) (hs : okStep 40 (t 0) (t 1) (t 2)) (hW : WFm κ) (hy : why κ 40 (t 0) (t 1) (t 2) = 0) (hN : nnOp κ 40 (t 0) (t 1) (t 2)) (hc : vp_in (sI κ 6) 13) (hm : vp_in (sI κ 2) 61) (hT : ¬ sI κ 7 < 0) : Met l yX9_gets wsX9_gets (rmz 0 0) (va_Pc [.ref (ad 0), .int 1] (rPre D q (wM q ad κ t) sz)) (va_Qv (fun (u : KS × (Nat → Int32)) => u = (act κ (t 4) (t 5) 40 (t 0) (t 1) (t 2), t)) (fun (u : KS × (Nat → Int32)) tt => rPo D (rA (wM q ad κ t) sz) (wM q ad u.1 u.2) tt) (rA (wM q ad κ t) sz)) 0 0 (rA (wM q ad κ t) sz) := by
  have hi0 : vp_in (t 0) 8 := hs.1
  have hi1 : vp_in (t 1) 8 := hs.2.1
  have hi2 : vp_in (t 2) 8 := hs.2.2
  obtain ⟨-, hn1, hpin, -⟩ := yG hy
  have hix := wf_ix hW hi1 hn1 hpin
  refine r_start (cc := cX9_gets) (maxL := 3) (ret := none) (by decide) rfl (Nat.le_of_ble_eq_true rfl) ?_
  intro p e s m below meth c ls hC hr hlk hnm hsz hw hl
  have hx := hC.1
  have hb := hC.2.1
  have hl : lv_has ls 3 [(0, .ref (ad 0)), (1, .int 1)] := hl
  refine lv_bipush (v := 12) hx hb dX9_gets_0 (by decide) ?_
  refine lv_aload_n hx hb dX9_gets_2 rfl (lv_at hl 0 rfl) ?_
  refine r_get hC hw rk9 in_X9_gets_9 0 (wMl 0 (by decide)) wM0 8 (by decide) lk_X9_gets_31 (v := .ref (ad 7)) rfl dX9_gets_3 ?_
  refine lv_aload_n hx hb dX9_gets_6 rfl (lv_at hl 0 rfl) ?_
  refine r_get hC hw rk9 in_X9_gets_9 0 (wMl 0 (by decide)) wM0 31 (by decide) lk_X9_gets_126 (v := .int (t 1)) rfl dX9_gets_7 ?_
  refine r_iald hC hw 7 (wMl 7 (by decide)) wM7 (by assumption) dX9_gets_10 ?_
  refine lv_iconst (v := 1) hx hb dX9_gets_11 (by decide) ?_
  refine lv_isub hx hb dX9_gets_12 ?_
  refine lv_imul hx hb dX9_gets_13 ?_
  refine lv_aload_n hx hb dX9_gets_14 rfl (lv_at hl 0 rfl) ?_
  refine r_get hC hw rk9 in_X9_gets_9 0 (wMl 0 (by decide)) wM0 4 (by decide) lk_X9_gets_16 (v := .ref (ad 3)) rfl dX9_gets_15 ?_
  refine lv_aload_n hx hb dX9_gets_18 rfl (lv_at hl 0 rfl) ?_
  refine r_get hC hw rk9 in_X9_gets_9 0 (wMl 0 (by decide)) wM0 32 (by decide) lk_X9_gets_123 (v := .int (t 2)) rfl dX9_gets_19 ?_
  refine r_iald hC hw 3 (wMl 3 (by decide)) wM3 (by assumption) dX9_gets_22 ?_
  refine lv_iadd hx hb dX9_gets_23 ?_
  refine lv_istore_n (lv' := [(2, .int ((12 * ((sA κ 3 (aN (t 1))) - 1)) + (sA κ 2 (aN (t 2))))), (0, .ref (ad 0)), (1, .int 1)]) hx hb dX9_gets_24 rfl hl (by decide) rfl (fun ls hl => ?_)
  refine lv_iload_n hx hb dX9_gets_25 rfl (lv_at hl 2 rfl) ?_
  refine lv_iconst (v := 5) hx hb dX9_gets_26 (by decide) ?_
  refine lv_icmp_ge (tgt := 49) hx hb dX9_gets_27 (by decide) (fun c_ => absurd c_ (by decide)) (fun _ => ?_)
  refine lv_aload_n hx hb dX9_gets_30 rfl (lv_at hl 1 rfl) ?_
  refine r_get hC hw rk9 in_X9_gets_9 0 (wMl 0 (by decide)) wM0 4 (by decide) lk_X9_gets_16 (v := .ref (ad 3)) rfl dX9_gets_31 ?_
  refine lv_aload_n hx hb dX9_gets_34 rfl (lv_at hl 1 rfl) ?_
  refine r_get hC hw rk9 in_X9_gets_9 0 (wMl 0 (by decide)) wM0 30 (by decide) lk_X9_gets_142 (v := .int (t 0)) rfl dX9_gets_35 ?_
  refine lv_aload_n hx hb dX9_gets_38 rfl (lv_at hl 1 rfl) ?_
  refine r_get hC hw rk9 in_X9_gets_9 0 (wMl 0 (by decide)) wM0 11 (by decide) lk_X9_gets_40 (v := .ref (ad 10)) rfl dX9_gets_39 ?_
  refine lv_iload_n hx hb dX9_gets_42 rfl (lv_at hl 0 rfl) ?_
  refine r_lald hC hw 10 (wMl 10 (by decide)) wM10 hix dX9_gets_43 ?_
  refine lv_l2i (v := (sJ κ 1 (aN ((12 * ((sA κ 3 (aN (t 1))) - 1)) + (sA κ 2 (aN (t 2)))))).toInt32) hx hb dX9_gets_44 rfl ?_
  refine r_iast hC hw 3 (wMl 3 (by decide)) wM3 (by assumption) dX9_gets_45 (fun H locs hw => ?_)
  replace hw := mS_words hw
  refine lv_goto (tgt := 136) hx hb dX9_gets_46 (by decide) ?_
  exact r_vret hC hr hlk hw ((uA κ 2 (aN (t 0)) ((sJ κ 1 (aN ((12 * ((sA κ 3 (aN (t 1))) - 1)) + (sA κ 2 (aN (t 2)))))).toInt32)), t) rfl rfl (Nat.le_of_ble_eq_true rfl) (Nat.le_of_ble_eq_true rfl) dX9_gets_136

set_option maxHeartbeats 4000000 in
set_option maxRecDepth 100000 in
theorem c_X9_gets_2 (l : Launch) {D : va_G} {q : Nat → ClassId} {ad : Nat → Nat} {κ : KS} {t : Nat → Int32} (sz : Nat) (hs : okStep 41 (t 0) (t 1) (t 2)) (hW : WFm κ) (hy : why κ 41 (t 0) (t 1) (t 2) = 0) (hN : nnOp κ 41 (t 0) (t 1) (t 2)) (hc : vp_in (sI κ 6) 13) (hm : vp_in (sI κ 2) 61) (hT : ¬ sI κ 7 < 0) : Met l yX9_gets wsX9_gets (rmz 0 0) (va_Pc [.ref (ad 0), .int 2] (rPre D q (wM q ad κ t) sz)) (va_Qv (fun (u : KS × (Nat → Int32)) => u = (act κ (t 4) (t 5) 41 (t 0) (t 1) (t 2), t)) (fun (u : KS × (Nat → Int32)) tt => rPo D (rA (wM q ad κ t) sz) (wM q ad u.1 u.2) tt) (rA (wM q ad κ t) sz)) 0 0 (rA (wM q ad κ t) sz) := by
  have hi0 : vp_in (t 0) 8 := hs.1
  have hi1 : vp_in (t 1) 8 := hs.2.1
  have hi2 : vp_in (t 2) 8 := hs.2.2
  obtain ⟨-, hn1, hpin, -⟩ := yG hy
  have hix := wf_ix hW hi1 hn1 hpin
  refine r_start (cc := cX9_gets) (maxL := 3) (ret := none) (by decide) rfl (Nat.le_of_ble_eq_true rfl) ?_
  intro p e s m below meth c ls hC hr hlk hnm hsz hw hl
  have hx := hC.1
  have hb := hC.2.1
  have hl : lv_has ls 3 [(0, .ref (ad 0)), (1, .int 2)] := hl
  refine lv_bipush (v := 12) hx hb dX9_gets_0 (by decide) ?_
  refine lv_aload_n hx hb dX9_gets_2 rfl (lv_at hl 0 rfl) ?_
  refine r_get hC hw rk9 in_X9_gets_9 0 (wMl 0 (by decide)) wM0 8 (by decide) lk_X9_gets_31 (v := .ref (ad 7)) rfl dX9_gets_3 ?_
  refine lv_aload_n hx hb dX9_gets_6 rfl (lv_at hl 0 rfl) ?_
  refine r_get hC hw rk9 in_X9_gets_9 0 (wMl 0 (by decide)) wM0 31 (by decide) lk_X9_gets_126 (v := .int (t 1)) rfl dX9_gets_7 ?_
  refine r_iald hC hw 7 (wMl 7 (by decide)) wM7 (by assumption) dX9_gets_10 ?_
  refine lv_iconst (v := 1) hx hb dX9_gets_11 (by decide) ?_
  refine lv_isub hx hb dX9_gets_12 ?_
  refine lv_imul hx hb dX9_gets_13 ?_
  refine lv_aload_n hx hb dX9_gets_14 rfl (lv_at hl 0 rfl) ?_
  refine r_get hC hw rk9 in_X9_gets_9 0 (wMl 0 (by decide)) wM0 4 (by decide) lk_X9_gets_16 (v := .ref (ad 3)) rfl dX9_gets_15 ?_
  refine lv_aload_n hx hb dX9_gets_18 rfl (lv_at hl 0 rfl) ?_
  refine r_get hC hw rk9 in_X9_gets_9 0 (wMl 0 (by decide)) wM0 32 (by decide) lk_X9_gets_123 (v := .int (t 2)) rfl dX9_gets_19 ?_
  refine r_iald hC hw 3 (wMl 3 (by decide)) wM3 (by assumption) dX9_gets_22 ?_
  refine lv_iadd hx hb dX9_gets_23 ?_
  refine lv_istore_n (lv' := [(2, .int ((12 * ((sA κ 3 (aN (t 1))) - 1)) + (sA κ 2 (aN (t 2))))), (0, .ref (ad 0)), (1, .int 2)]) hx hb dX9_gets_24 rfl hl (by decide) rfl (fun ls hl => ?_)
  refine lv_iload_n hx hb dX9_gets_25 rfl (lv_at hl 2 rfl) ?_
  refine lv_iconst (v := 5) hx hb dX9_gets_26 (by decide) ?_
  refine lv_icmp_ge (tgt := 49) hx hb dX9_gets_27 (by decide) (fun c_ => absurd c_ (by decide)) (fun _ => ?_)
  refine lv_aload_n hx hb dX9_gets_30 rfl (lv_at hl 1 rfl) ?_
  refine r_get hC hw rk9 in_X9_gets_9 0 (wMl 0 (by decide)) wM0 4 (by decide) lk_X9_gets_16 (v := .ref (ad 3)) rfl dX9_gets_31 ?_
  refine lv_aload_n hx hb dX9_gets_34 rfl (lv_at hl 1 rfl) ?_
  refine r_get hC hw rk9 in_X9_gets_9 0 (wMl 0 (by decide)) wM0 30 (by decide) lk_X9_gets_142 (v := .int (t 0)) rfl dX9_gets_35 ?_
  refine lv_aload_n hx hb dX9_gets_38 rfl (lv_at hl 1 rfl) ?_
  refine r_get hC hw rk9 in_X9_gets_9 0 (wMl 0 (by decide)) wM0 11 (by decide) lk_X9_gets_40 (v := .ref (ad 10)) rfl dX9_gets_39 ?_
  refine lv_iload_n hx hb dX9_gets_42 rfl (lv_at hl 0 rfl) ?_
  refine r_lald hC hw 10 (wMl 10 (by decide)) wM10 hix dX9_gets_43 ?_
  refine lv_l2i (v := (sJ κ 1 (aN ((12 * ((sA κ 3 (aN (t 1))) - 1)) + (sA κ 2 (aN (t 2)))))).toInt32) hx hb dX9_gets_44 rfl ?_
  refine r_iast hC hw 3 (wMl 3 (by decide)) wM3 (by assumption) dX9_gets_45 (fun H locs hw => ?_)
  replace hw := mS_words hw
  refine lv_goto (tgt := 136) hx hb dX9_gets_46 (by decide) ?_
  exact r_vret hC hr hlk hw ((uA κ 2 (aN (t 0)) ((sJ κ 1 (aN ((12 * ((sA κ 3 (aN (t 1))) - 1)) + (sA κ 2 (aN (t 2)))))).toInt32)), t) rfl rfl (Nat.le_of_ble_eq_true rfl) (Nat.le_of_ble_eq_true rfl) dX9_gets_136

set_option maxHeartbeats 4000000 in
set_option maxRecDepth 100000 in
theorem c_X9_gets_3 (l : Launch) {D : va_G} {q : Nat → ClassId} {ad : Nat → Nat} {κ : KS} {t : Nat → Int32} (sz : Nat) (hs : okStep 42 (t 0) (t 1) (t 2)) (hW : WFm κ) (hy : why κ 42 (t 0) (t 1) (t 2) = 0) (hN : nnOp κ 42 (t 0) (t 1) (t 2)) (hc : vp_in (sI κ 6) 13) (hm : vp_in (sI κ 2) 61) (hT : ¬ sI κ 7 < 0) : Met l yX9_gets wsX9_gets (rmz 0 0) (va_Pc [.ref (ad 0), .int 3] (rPre D q (wM q ad κ t) sz)) (va_Qv (fun (u : KS × (Nat → Int32)) => u = (act κ (t 4) (t 5) 42 (t 0) (t 1) (t 2), t)) (fun (u : KS × (Nat → Int32)) tt => rPo D (rA (wM q ad κ t) sz) (wM q ad u.1 u.2) tt) (rA (wM q ad κ t) sz)) 0 0 (rA (wM q ad κ t) sz) := by
  have hi0 : vp_in (t 0) 8 := hs.1
  have hi1 : vp_in (t 1) 8 := hs.2.1
  have hi2 : vp_in (t 2) 8 := hs.2.2
  obtain ⟨-, hn1, hpin, -⟩ := yG hy
  have hix := wf_ix hW hi1 hn1 hpin
  refine r_start (cc := cX9_gets) (maxL := 3) (ret := none) (by decide) rfl (Nat.le_of_ble_eq_true rfl) ?_
  intro p e s m below meth c ls hC hr hlk hnm hsz hw hl
  have hx := hC.1
  have hb := hC.2.1
  have hl : lv_has ls 3 [(0, .ref (ad 0)), (1, .int 3)] := hl
  refine lv_bipush (v := 12) hx hb dX9_gets_0 (by decide) ?_
  refine lv_aload_n hx hb dX9_gets_2 rfl (lv_at hl 0 rfl) ?_
  refine r_get hC hw rk9 in_X9_gets_9 0 (wMl 0 (by decide)) wM0 8 (by decide) lk_X9_gets_31 (v := .ref (ad 7)) rfl dX9_gets_3 ?_
  refine lv_aload_n hx hb dX9_gets_6 rfl (lv_at hl 0 rfl) ?_
  refine r_get hC hw rk9 in_X9_gets_9 0 (wMl 0 (by decide)) wM0 31 (by decide) lk_X9_gets_126 (v := .int (t 1)) rfl dX9_gets_7 ?_
  refine r_iald hC hw 7 (wMl 7 (by decide)) wM7 (by assumption) dX9_gets_10 ?_
  refine lv_iconst (v := 1) hx hb dX9_gets_11 (by decide) ?_
  refine lv_isub hx hb dX9_gets_12 ?_
  refine lv_imul hx hb dX9_gets_13 ?_
  refine lv_aload_n hx hb dX9_gets_14 rfl (lv_at hl 0 rfl) ?_
  refine r_get hC hw rk9 in_X9_gets_9 0 (wMl 0 (by decide)) wM0 4 (by decide) lk_X9_gets_16 (v := .ref (ad 3)) rfl dX9_gets_15 ?_
  refine lv_aload_n hx hb dX9_gets_18 rfl (lv_at hl 0 rfl) ?_
  refine r_get hC hw rk9 in_X9_gets_9 0 (wMl 0 (by decide)) wM0 32 (by decide) lk_X9_gets_123 (v := .int (t 2)) rfl dX9_gets_19 ?_
  refine r_iald hC hw 3 (wMl 3 (by decide)) wM3 (by assumption) dX9_gets_22 ?_
  refine lv_iadd hx hb dX9_gets_23 ?_
  refine lv_istore_n (lv' := [(2, .int ((12 * ((sA κ 3 (aN (t 1))) - 1)) + (sA κ 2 (aN (t 2))))), (0, .ref (ad 0)), (1, .int 3)]) hx hb dX9_gets_24 rfl hl (by decide) rfl (fun ls hl => ?_)
  refine lv_iload_n hx hb dX9_gets_25 rfl (lv_at hl 2 rfl) ?_
  refine lv_iconst (v := 5) hx hb dX9_gets_26 (by decide) ?_
  refine lv_icmp_ge (tgt := 49) hx hb dX9_gets_27 (by decide) (fun c_ => absurd c_ (by decide)) (fun _ => ?_)
  refine lv_aload_n hx hb dX9_gets_30 rfl (lv_at hl 1 rfl) ?_
  refine r_get hC hw rk9 in_X9_gets_9 0 (wMl 0 (by decide)) wM0 4 (by decide) lk_X9_gets_16 (v := .ref (ad 3)) rfl dX9_gets_31 ?_
  refine lv_aload_n hx hb dX9_gets_34 rfl (lv_at hl 1 rfl) ?_
  refine r_get hC hw rk9 in_X9_gets_9 0 (wMl 0 (by decide)) wM0 30 (by decide) lk_X9_gets_142 (v := .int (t 0)) rfl dX9_gets_35 ?_
  refine lv_aload_n hx hb dX9_gets_38 rfl (lv_at hl 1 rfl) ?_
  refine r_get hC hw rk9 in_X9_gets_9 0 (wMl 0 (by decide)) wM0 11 (by decide) lk_X9_gets_40 (v := .ref (ad 10)) rfl dX9_gets_39 ?_
  refine lv_iload_n hx hb dX9_gets_42 rfl (lv_at hl 0 rfl) ?_
  refine r_lald hC hw 10 (wMl 10 (by decide)) wM10 hix dX9_gets_43 ?_
  refine lv_l2i (v := (sJ κ 1 (aN ((12 * ((sA κ 3 (aN (t 1))) - 1)) + (sA κ 2 (aN (t 2)))))).toInt32) hx hb dX9_gets_44 rfl ?_
  refine r_iast hC hw 3 (wMl 3 (by decide)) wM3 (by assumption) dX9_gets_45 (fun H locs hw => ?_)
  replace hw := mS_words hw
  refine lv_goto (tgt := 136) hx hb dX9_gets_46 (by decide) ?_
  exact r_vret hC hr hlk hw ((uA κ 2 (aN (t 0)) ((sJ κ 1 (aN ((12 * ((sA κ 3 (aN (t 1))) - 1)) + (sA κ 2 (aN (t 2)))))).toInt32)), t) rfl rfl (Nat.le_of_ble_eq_true rfl) (Nat.le_of_ble_eq_true rfl) dX9_gets_136

set_option maxHeartbeats 4000000 in
set_option maxRecDepth 100000 in
theorem c_X9_gets_4 (l : Launch) {D : va_G} {q : Nat → ClassId} {ad : Nat → Nat} {κ : KS} {t : Nat → Int32} (sz : Nat) (hs : okStep 43 (t 0) (t 1) (t 2)) (hW : WFm κ) (hy : why κ 43 (t 0) (t 1) (t 2) = 0) (hN : nnOp κ 43 (t 0) (t 1) (t 2)) (hc : vp_in (sI κ 6) 13) (hm : vp_in (sI κ 2) 61) (hT : ¬ sI κ 7 < 0) : Met l yX9_gets wsX9_gets (rmz 0 0) (va_Pc [.ref (ad 0), .int 4] (rPre D q (wM q ad κ t) sz)) (va_Qv (fun (u : KS × (Nat → Int32)) => u = (act κ (t 4) (t 5) 43 (t 0) (t 1) (t 2), t)) (fun (u : KS × (Nat → Int32)) tt => rPo D (rA (wM q ad κ t) sz) (wM q ad u.1 u.2) tt) (rA (wM q ad κ t) sz)) 0 0 (rA (wM q ad κ t) sz) := by
  have hi0 : vp_in (t 0) 8 := hs.1
  have hi1 : vp_in (t 1) 8 := hs.2.1
  have hi2 : vp_in (t 2) 8 := hs.2.2
  obtain ⟨-, hn1, hpin, -⟩ := yG hy
  have hix := wf_ix hW hi1 hn1 hpin
  refine r_start (cc := cX9_gets) (maxL := 3) (ret := none) (by decide) rfl (Nat.le_of_ble_eq_true rfl) ?_
  intro p e s m below meth c ls hC hr hlk hnm hsz hw hl
  have hx := hC.1
  have hb := hC.2.1
  have hl : lv_has ls 3 [(0, .ref (ad 0)), (1, .int 4)] := hl
  refine lv_bipush (v := 12) hx hb dX9_gets_0 (by decide) ?_
  refine lv_aload_n hx hb dX9_gets_2 rfl (lv_at hl 0 rfl) ?_
  refine r_get hC hw rk9 in_X9_gets_9 0 (wMl 0 (by decide)) wM0 8 (by decide) lk_X9_gets_31 (v := .ref (ad 7)) rfl dX9_gets_3 ?_
  refine lv_aload_n hx hb dX9_gets_6 rfl (lv_at hl 0 rfl) ?_
  refine r_get hC hw rk9 in_X9_gets_9 0 (wMl 0 (by decide)) wM0 31 (by decide) lk_X9_gets_126 (v := .int (t 1)) rfl dX9_gets_7 ?_
  refine r_iald hC hw 7 (wMl 7 (by decide)) wM7 (by assumption) dX9_gets_10 ?_
  refine lv_iconst (v := 1) hx hb dX9_gets_11 (by decide) ?_
  refine lv_isub hx hb dX9_gets_12 ?_
  refine lv_imul hx hb dX9_gets_13 ?_
  refine lv_aload_n hx hb dX9_gets_14 rfl (lv_at hl 0 rfl) ?_
  refine r_get hC hw rk9 in_X9_gets_9 0 (wMl 0 (by decide)) wM0 4 (by decide) lk_X9_gets_16 (v := .ref (ad 3)) rfl dX9_gets_15 ?_
  refine lv_aload_n hx hb dX9_gets_18 rfl (lv_at hl 0 rfl) ?_
  refine r_get hC hw rk9 in_X9_gets_9 0 (wMl 0 (by decide)) wM0 32 (by decide) lk_X9_gets_123 (v := .int (t 2)) rfl dX9_gets_19 ?_
  refine r_iald hC hw 3 (wMl 3 (by decide)) wM3 (by assumption) dX9_gets_22 ?_
  refine lv_iadd hx hb dX9_gets_23 ?_
  refine lv_istore_n (lv' := [(2, .int ((12 * ((sA κ 3 (aN (t 1))) - 1)) + (sA κ 2 (aN (t 2))))), (0, .ref (ad 0)), (1, .int 4)]) hx hb dX9_gets_24 rfl hl (by decide) rfl (fun ls hl => ?_)
  refine lv_iload_n hx hb dX9_gets_25 rfl (lv_at hl 2 rfl) ?_
  refine lv_iconst (v := 5) hx hb dX9_gets_26 (by decide) ?_
  refine lv_icmp_ge (tgt := 49) hx hb dX9_gets_27 (by decide) (fun c_ => absurd c_ (by decide)) (fun _ => ?_)
  refine lv_aload_n hx hb dX9_gets_30 rfl (lv_at hl 1 rfl) ?_
  refine r_get hC hw rk9 in_X9_gets_9 0 (wMl 0 (by decide)) wM0 4 (by decide) lk_X9_gets_16 (v := .ref (ad 3)) rfl dX9_gets_31 ?_
  refine lv_aload_n hx hb dX9_gets_34 rfl (lv_at hl 1 rfl) ?_
  refine r_get hC hw rk9 in_X9_gets_9 0 (wMl 0 (by decide)) wM0 30 (by decide) lk_X9_gets_142 (v := .int (t 0)) rfl dX9_gets_35 ?_
  refine lv_aload_n hx hb dX9_gets_38 rfl (lv_at hl 1 rfl) ?_
  refine r_get hC hw rk9 in_X9_gets_9 0 (wMl 0 (by decide)) wM0 11 (by decide) lk_X9_gets_40 (v := .ref (ad 10)) rfl dX9_gets_39 ?_
  refine lv_iload_n hx hb dX9_gets_42 rfl (lv_at hl 0 rfl) ?_
  refine r_lald hC hw 10 (wMl 10 (by decide)) wM10 hix dX9_gets_43 ?_
  refine lv_l2i (v := (sJ κ 1 (aN ((12 * ((sA κ 3 (aN (t 1))) - 1)) + (sA κ 2 (aN (t 2)))))).toInt32) hx hb dX9_gets_44 rfl ?_
  refine r_iast hC hw 3 (wMl 3 (by decide)) wM3 (by assumption) dX9_gets_45 (fun H locs hw => ?_)
  replace hw := mS_words hw
  refine lv_goto (tgt := 136) hx hb dX9_gets_46 (by decide) ?_
  exact r_vret hC hr hlk hw ((uA κ 2 (aN (t 0)) ((sJ κ 1 (aN ((12 * ((sA κ 3 (aN (t 1))) - 1)) + (sA κ 2 (aN (t 2)))))).toInt32)), t) rfl rfl (Nat.le_of_ble_eq_true rfl) (Nat.le_of_ble_eq_true rfl) dX9_gets_136

set_option maxHeartbeats 4000000 in
set_option maxRecDepth 100000 in
theorem c_X9_gets_5 (l : Launch) {D : va_G} {q : Nat → ClassId} {ad : Nat → Nat} {κ : KS} {t : Nat → Int32} (sz : Nat) (hs : okStep 44 (t 0) (t 1) (t 2)) (hW : WFm κ) (hy : why κ 44 (t 0) (t 1) (t 2) = 0) (hN : nnOp κ 44 (t 0) (t 1) (t 2)) (hc : vp_in (sI κ 6) 13) (hm : vp_in (sI κ 2) 61) (hT : ¬ sI κ 7 < 0) : Met l yX9_gets wsX9_gets (rmz 0 0) (va_Pc [.ref (ad 0), .int 5] (rPre D q (wM q ad κ t) sz)) (va_Qv (fun (u : KS × (Nat → Int32)) => u = (act κ (t 4) (t 5) 44 (t 0) (t 1) (t 2), t)) (fun (u : KS × (Nat → Int32)) tt => rPo D (rA (wM q ad κ t) sz) (wM q ad u.1 u.2) tt) (rA (wM q ad κ t) sz)) 0 0 (rA (wM q ad κ t) sz) := by
  have hi0 : vp_in (t 0) 4 := hs.1
  have hi1 : vp_in (t 1) 8 := hs.2.1
  have hi2 : vp_in (t 2) 8 := hs.2.2
  obtain ⟨-, hn1, hpin, -⟩ := yG hy
  have hix := wf_ix hW hi1 hn1 hpin
  refine r_start (cc := cX9_gets) (maxL := 3) (ret := none) (by decide) rfl (Nat.le_of_ble_eq_true rfl) ?_
  intro p e s m below meth c ls hC hr hlk hnm hsz hw hl
  have hx := hC.1
  have hb := hC.2.1
  have hl : lv_has ls 3 [(0, .ref (ad 0)), (1, .int 5)] := hl
  refine lv_bipush (v := 12) hx hb dX9_gets_0 (by decide) ?_
  refine lv_aload_n hx hb dX9_gets_2 rfl (lv_at hl 0 rfl) ?_
  refine r_get hC hw rk9 in_X9_gets_9 0 (wMl 0 (by decide)) wM0 8 (by decide) lk_X9_gets_31 (v := .ref (ad 7)) rfl dX9_gets_3 ?_
  refine lv_aload_n hx hb dX9_gets_6 rfl (lv_at hl 0 rfl) ?_
  refine r_get hC hw rk9 in_X9_gets_9 0 (wMl 0 (by decide)) wM0 31 (by decide) lk_X9_gets_126 (v := .int (t 1)) rfl dX9_gets_7 ?_
  refine r_iald hC hw 7 (wMl 7 (by decide)) wM7 (by assumption) dX9_gets_10 ?_
  refine lv_iconst (v := 1) hx hb dX9_gets_11 (by decide) ?_
  refine lv_isub hx hb dX9_gets_12 ?_
  refine lv_imul hx hb dX9_gets_13 ?_
  refine lv_aload_n hx hb dX9_gets_14 rfl (lv_at hl 0 rfl) ?_
  refine r_get hC hw rk9 in_X9_gets_9 0 (wMl 0 (by decide)) wM0 4 (by decide) lk_X9_gets_16 (v := .ref (ad 3)) rfl dX9_gets_15 ?_
  refine lv_aload_n hx hb dX9_gets_18 rfl (lv_at hl 0 rfl) ?_
  refine r_get hC hw rk9 in_X9_gets_9 0 (wMl 0 (by decide)) wM0 32 (by decide) lk_X9_gets_123 (v := .int (t 2)) rfl dX9_gets_19 ?_
  refine r_iald hC hw 3 (wMl 3 (by decide)) wM3 (by assumption) dX9_gets_22 ?_
  refine lv_iadd hx hb dX9_gets_23 ?_
  refine lv_istore_n (lv' := [(2, .int ((12 * ((sA κ 3 (aN (t 1))) - 1)) + (sA κ 2 (aN (t 2))))), (0, .ref (ad 0)), (1, .int 5)]) hx hb dX9_gets_24 rfl hl (by decide) rfl (fun ls hl => ?_)
  refine lv_iload_n hx hb dX9_gets_25 rfl (lv_at hl 2 rfl) ?_
  refine lv_iconst (v := 5) hx hb dX9_gets_26 (by decide) ?_
  refine lv_icmp_ge (tgt := 49) hx hb dX9_gets_27 (by decide) (fun _ => ?_) (fun c_ => absurd (by decide) c_)
  refine lv_iload_n hx hb dX9_gets_49 rfl (lv_at hl 2 rfl) ?_
  refine lv_iconst (v := 5) hx hb dX9_gets_50 (by decide) ?_
  refine lv_icmp_ne (tgt := 72) hx hb dX9_gets_51 (by decide) (fun c_ => absurd (by decide) c_) (fun _ => ?_)
  refine lv_aload_n hx hb dX9_gets_54 rfl (lv_at hl 1 rfl) ?_
  refine r_get hC hw rk9 in_X9_gets_9 0 (wMl 0 (by decide)) wM0 5 (by decide) lk_X9_gets_19 (v := .ref (ad 4)) rfl dX9_gets_55 ?_
  refine lv_aload_n hx hb dX9_gets_58 rfl (lv_at hl 1 rfl) ?_
  refine r_get hC hw rk9 in_X9_gets_9 0 (wMl 0 (by decide)) wM0 30 (by decide) lk_X9_gets_142 (v := .int (t 0)) rfl dX9_gets_59 ?_
  refine lv_aload_n hx hb dX9_gets_62 rfl (lv_at hl 1 rfl) ?_
  refine r_get hC hw rk9 in_X9_gets_9 0 (wMl 0 (by decide)) wM0 11 (by decide) lk_X9_gets_40 (v := .ref (ad 10)) rfl dX9_gets_63 ?_
  refine lv_iload_n hx hb dX9_gets_66 rfl (lv_at hl 0 rfl) ?_
  refine r_lald hC hw 10 (wMl 10 (by decide)) wM10 hix dX9_gets_67 ?_
  refine r_last hC hw 4 (wMl 4 (by decide)) wM4 (by assumption) dX9_gets_68 (fun H locs hw => ?_)
  replace hw := mS_wides hw
  refine lv_goto (tgt := 136) hx hb dX9_gets_69 (by decide) ?_
  exact r_vret hC hr hlk hw ((uJ κ 0 (aN (t 0)) (sJ κ 1 (aN ((12 * ((sA κ 3 (aN (t 1))) - 1)) + (sA κ 2 (aN (t 2))))))), t) rfl rfl (Nat.le_of_ble_eq_true rfl) (Nat.le_of_ble_eq_true rfl) dX9_gets_136

set_option maxHeartbeats 4000000 in
set_option maxRecDepth 100000 in
theorem c_X9_gets_6 (l : Launch) {D : va_G} {q : Nat → ClassId} {ad : Nat → Nat} {κ : KS} {t : Nat → Int32} (sz : Nat) (hs : okStep 45 (t 0) (t 1) (t 2)) (hW : WFm κ) (hy : why κ 45 (t 0) (t 1) (t 2) = 0) (hN : nnOp κ 45 (t 0) (t 1) (t 2)) (hc : vp_in (sI κ 6) 13) (hm : vp_in (sI κ 2) 61) (hT : ¬ sI κ 7 < 0) : Met l yX9_gets wsX9_gets (rmz 0 0) (va_Pc [.ref (ad 0), .int 6] (rPre D q (wM q ad κ t) sz)) (va_Qv (fun (u : KS × (Nat → Int32)) => u = (act κ (t 4) (t 5) 45 (t 0) (t 1) (t 2), t)) (fun (u : KS × (Nat → Int32)) tt => rPo D (rA (wM q ad κ t) sz) (wM q ad u.1 u.2) tt) (rA (wM q ad κ t) sz)) 0 0 (rA (wM q ad κ t) sz) := by
  have hi0 : vp_in (t 0) 4 := hs.1
  have hi1 : vp_in (t 1) 8 := hs.2.1
  have hi2 : vp_in (t 2) 8 := hs.2.2
  obtain ⟨-, hn1, hpin, -⟩ := yG hy
  have hix := wf_ix hW hi1 hn1 hpin
  refine r_start (cc := cX9_gets) (maxL := 3) (ret := none) (by decide) rfl (Nat.le_of_ble_eq_true rfl) ?_
  intro p e s m below meth c ls hC hr hlk hnm hsz hw hl
  have hx := hC.1
  have hb := hC.2.1
  have hl : lv_has ls 3 [(0, .ref (ad 0)), (1, .int 6)] := hl
  refine lv_bipush (v := 12) hx hb dX9_gets_0 (by decide) ?_
  refine lv_aload_n hx hb dX9_gets_2 rfl (lv_at hl 0 rfl) ?_
  refine r_get hC hw rk9 in_X9_gets_9 0 (wMl 0 (by decide)) wM0 8 (by decide) lk_X9_gets_31 (v := .ref (ad 7)) rfl dX9_gets_3 ?_
  refine lv_aload_n hx hb dX9_gets_6 rfl (lv_at hl 0 rfl) ?_
  refine r_get hC hw rk9 in_X9_gets_9 0 (wMl 0 (by decide)) wM0 31 (by decide) lk_X9_gets_126 (v := .int (t 1)) rfl dX9_gets_7 ?_
  refine r_iald hC hw 7 (wMl 7 (by decide)) wM7 (by assumption) dX9_gets_10 ?_
  refine lv_iconst (v := 1) hx hb dX9_gets_11 (by decide) ?_
  refine lv_isub hx hb dX9_gets_12 ?_
  refine lv_imul hx hb dX9_gets_13 ?_
  refine lv_aload_n hx hb dX9_gets_14 rfl (lv_at hl 0 rfl) ?_
  refine r_get hC hw rk9 in_X9_gets_9 0 (wMl 0 (by decide)) wM0 4 (by decide) lk_X9_gets_16 (v := .ref (ad 3)) rfl dX9_gets_15 ?_
  refine lv_aload_n hx hb dX9_gets_18 rfl (lv_at hl 0 rfl) ?_
  refine r_get hC hw rk9 in_X9_gets_9 0 (wMl 0 (by decide)) wM0 32 (by decide) lk_X9_gets_123 (v := .int (t 2)) rfl dX9_gets_19 ?_
  refine r_iald hC hw 3 (wMl 3 (by decide)) wM3 (by assumption) dX9_gets_22 ?_
  refine lv_iadd hx hb dX9_gets_23 ?_
  refine lv_istore_n (lv' := [(2, .int ((12 * ((sA κ 3 (aN (t 1))) - 1)) + (sA κ 2 (aN (t 2))))), (0, .ref (ad 0)), (1, .int 6)]) hx hb dX9_gets_24 rfl hl (by decide) rfl (fun ls hl => ?_)
  refine lv_iload_n hx hb dX9_gets_25 rfl (lv_at hl 2 rfl) ?_
  refine lv_iconst (v := 5) hx hb dX9_gets_26 (by decide) ?_
  refine lv_icmp_ge (tgt := 49) hx hb dX9_gets_27 (by decide) (fun _ => ?_) (fun c_ => absurd (by decide) c_)
  refine lv_iload_n hx hb dX9_gets_49 rfl (lv_at hl 2 rfl) ?_
  refine lv_iconst (v := 5) hx hb dX9_gets_50 (by decide) ?_
  refine lv_icmp_ne (tgt := 72) hx hb dX9_gets_51 (by decide) (fun _ => ?_) (fun c_ => absurd c_ (by decide))
  refine lv_iload_n hx hb dX9_gets_72 rfl (lv_at hl 2 rfl) ?_
  refine lv_bipush (v := 6) hx hb dX9_gets_73 (by decide) ?_
  refine lv_icmp_ne (tgt := 97) hx hb dX9_gets_75 (by decide) (fun c_ => absurd (by decide) c_) (fun _ => ?_)
  refine lv_aload_n hx hb dX9_gets_78 rfl (lv_at hl 1 rfl) ?_
  refine r_get hC hw rk9 in_X9_gets_9 0 (wMl 0 (by decide)) wM0 6 (by decide) lk_X9_gets_23 (v := .ref (ad 5)) rfl dX9_gets_79 ?_
  refine lv_aload_n hx hb dX9_gets_82 rfl (lv_at hl 1 rfl) ?_
  refine r_get hC hw rk9 in_X9_gets_9 0 (wMl 0 (by decide)) wM0 30 (by decide) lk_X9_gets_142 (v := .int (t 0)) rfl dX9_gets_83 ?_
  refine lv_aload_n hx hb dX9_gets_86 rfl (lv_at hl 1 rfl) ?_
  refine r_get hC hw rk9 in_X9_gets_9 0 (wMl 0 (by decide)) wM0 12 (by decide) lk_X9_gets_43 (v := .ref (ad 11)) rfl dX9_gets_87 ?_
  refine lv_iload_n hx hb dX9_gets_90 rfl (lv_at hl 0 rfl) ?_
  refine r_dald hC hw 11 (wMl 11 (by decide)) wM11 hix dX9_gets_91 ?_
  refine lv_d2f hx hb dX9_gets_92 hN ?_
  refine r_fast hC hw 5 (wMl 5 (by decide)) wM5 (by assumption) dX9_gets_93 (fun H locs hw => ?_)
  replace hw := mS_singles hw
  refine lv_goto (tgt := 136) hx hb dX9_gets_94 (by decide) ?_
  exact r_vret hC hr hlk hw ((uF κ (aN (t 0)) (FP.d2f (sD κ 1 (aN ((12 * ((sA κ 3 (aN (t 1))) - 1)) + (sA κ 2 (aN (t 2)))))))), t) rfl rfl (Nat.le_of_ble_eq_true rfl) (Nat.le_of_ble_eq_true rfl) dX9_gets_136

set_option maxHeartbeats 4000000 in
set_option maxRecDepth 100000 in
theorem c_X9_gets_7 (l : Launch) {D : va_G} {q : Nat → ClassId} {ad : Nat → Nat} {κ : KS} {t : Nat → Int32} (sz : Nat) (hs : okStep 46 (t 0) (t 1) (t 2)) (hW : WFm κ) (hy : why κ 46 (t 0) (t 1) (t 2) = 0) (hN : nnOp κ 46 (t 0) (t 1) (t 2)) (hc : vp_in (sI κ 6) 13) (hm : vp_in (sI κ 2) 61) (hT : ¬ sI κ 7 < 0) : Met l yX9_gets wsX9_gets (rmz 0 0) (va_Pc [.ref (ad 0), .int 7] (rPre D q (wM q ad κ t) sz)) (va_Qv (fun (u : KS × (Nat → Int32)) => u = (act κ (t 4) (t 5) 46 (t 0) (t 1) (t 2), t)) (fun (u : KS × (Nat → Int32)) tt => rPo D (rA (wM q ad κ t) sz) (wM q ad u.1 u.2) tt) (rA (wM q ad κ t) sz)) 0 0 (rA (wM q ad κ t) sz) := by
  have hi0 : vp_in (t 0) 4 := hs.1
  have hi1 : vp_in (t 1) 8 := hs.2.1
  have hi2 : vp_in (t 2) 8 := hs.2.2
  obtain ⟨-, hn1, hpin, -⟩ := yG hy
  have hix := wf_ix hW hi1 hn1 hpin
  refine r_start (cc := cX9_gets) (maxL := 3) (ret := none) (by decide) rfl (Nat.le_of_ble_eq_true rfl) ?_
  intro p e s m below meth c ls hC hr hlk hnm hsz hw hl
  have hx := hC.1
  have hb := hC.2.1
  have hl : lv_has ls 3 [(0, .ref (ad 0)), (1, .int 7)] := hl
  refine lv_bipush (v := 12) hx hb dX9_gets_0 (by decide) ?_
  refine lv_aload_n hx hb dX9_gets_2 rfl (lv_at hl 0 rfl) ?_
  refine r_get hC hw rk9 in_X9_gets_9 0 (wMl 0 (by decide)) wM0 8 (by decide) lk_X9_gets_31 (v := .ref (ad 7)) rfl dX9_gets_3 ?_
  refine lv_aload_n hx hb dX9_gets_6 rfl (lv_at hl 0 rfl) ?_
  refine r_get hC hw rk9 in_X9_gets_9 0 (wMl 0 (by decide)) wM0 31 (by decide) lk_X9_gets_126 (v := .int (t 1)) rfl dX9_gets_7 ?_
  refine r_iald hC hw 7 (wMl 7 (by decide)) wM7 (by assumption) dX9_gets_10 ?_
  refine lv_iconst (v := 1) hx hb dX9_gets_11 (by decide) ?_
  refine lv_isub hx hb dX9_gets_12 ?_
  refine lv_imul hx hb dX9_gets_13 ?_
  refine lv_aload_n hx hb dX9_gets_14 rfl (lv_at hl 0 rfl) ?_
  refine r_get hC hw rk9 in_X9_gets_9 0 (wMl 0 (by decide)) wM0 4 (by decide) lk_X9_gets_16 (v := .ref (ad 3)) rfl dX9_gets_15 ?_
  refine lv_aload_n hx hb dX9_gets_18 rfl (lv_at hl 0 rfl) ?_
  refine r_get hC hw rk9 in_X9_gets_9 0 (wMl 0 (by decide)) wM0 32 (by decide) lk_X9_gets_123 (v := .int (t 2)) rfl dX9_gets_19 ?_
  refine r_iald hC hw 3 (wMl 3 (by decide)) wM3 (by assumption) dX9_gets_22 ?_
  refine lv_iadd hx hb dX9_gets_23 ?_
  refine lv_istore_n (lv' := [(2, .int ((12 * ((sA κ 3 (aN (t 1))) - 1)) + (sA κ 2 (aN (t 2))))), (0, .ref (ad 0)), (1, .int 7)]) hx hb dX9_gets_24 rfl hl (by decide) rfl (fun ls hl => ?_)
  refine lv_iload_n hx hb dX9_gets_25 rfl (lv_at hl 2 rfl) ?_
  refine lv_iconst (v := 5) hx hb dX9_gets_26 (by decide) ?_
  refine lv_icmp_ge (tgt := 49) hx hb dX9_gets_27 (by decide) (fun _ => ?_) (fun c_ => absurd (by decide) c_)
  refine lv_iload_n hx hb dX9_gets_49 rfl (lv_at hl 2 rfl) ?_
  refine lv_iconst (v := 5) hx hb dX9_gets_50 (by decide) ?_
  refine lv_icmp_ne (tgt := 72) hx hb dX9_gets_51 (by decide) (fun _ => ?_) (fun c_ => absurd c_ (by decide))
  refine lv_iload_n hx hb dX9_gets_72 rfl (lv_at hl 2 rfl) ?_
  refine lv_bipush (v := 6) hx hb dX9_gets_73 (by decide) ?_
  refine lv_icmp_ne (tgt := 97) hx hb dX9_gets_75 (by decide) (fun _ => ?_) (fun c_ => absurd c_ (by decide))
  refine lv_iload_n hx hb dX9_gets_97 rfl (lv_at hl 2 rfl) ?_
  refine lv_bipush (v := 7) hx hb dX9_gets_98 (by decide) ?_
  refine lv_icmp_ne (tgt := 121) hx hb dX9_gets_100 (by decide) (fun c_ => absurd (by decide) c_) (fun _ => ?_)
  refine lv_aload_n hx hb dX9_gets_103 rfl (lv_at hl 1 rfl) ?_
  refine r_get hC hw rk9 in_X9_gets_9 0 (wMl 0 (by decide)) wM0 7 (by decide) lk_X9_gets_27 (v := .ref (ad 6)) rfl dX9_gets_104 ?_
  refine lv_aload_n hx hb dX9_gets_107 rfl (lv_at hl 1 rfl) ?_
  refine r_get hC hw rk9 in_X9_gets_9 0 (wMl 0 (by decide)) wM0 30 (by decide) lk_X9_gets_142 (v := .int (t 0)) rfl dX9_gets_108 ?_
  refine lv_aload_n hx hb dX9_gets_111 rfl (lv_at hl 1 rfl) ?_
  refine r_get hC hw rk9 in_X9_gets_9 0 (wMl 0 (by decide)) wM0 12 (by decide) lk_X9_gets_43 (v := .ref (ad 11)) rfl dX9_gets_112 ?_
  refine lv_iload_n hx hb dX9_gets_115 rfl (lv_at hl 0 rfl) ?_
  refine r_dald hC hw 11 (wMl 11 (by decide)) wM11 hix dX9_gets_116 ?_
  refine r_dast hC hw 6 (wMl 6 (by decide)) wM6 (by assumption) dX9_gets_117 (fun H locs hw => ?_)
  replace hw := mS_reals hw
  refine lv_goto (tgt := 136) hx hb dX9_gets_118 (by decide) ?_
  exact r_vret hC hr hlk hw ((uD κ 0 (aN (t 0)) (sD κ 1 (aN ((12 * ((sA κ 3 (aN (t 1))) - 1)) + (sA κ 2 (aN (t 2))))))), t) rfl rfl (Nat.le_of_ble_eq_true rfl) (Nat.le_of_ble_eq_true rfl) dX9_gets_136

set_option maxHeartbeats 4000000 in
set_option maxRecDepth 100000 in
theorem c_X9_gets_8 (l : Launch) {D : va_G} {q : Nat → ClassId} {ad : Nat → Nat} {κ : KS} {t : Nat → Int32} (sz : Nat) (hs : okStep 47 (t 0) (t 1) (t 2)) (hW : WFm κ) (hy : why κ 47 (t 0) (t 1) (t 2) = 0) (hN : nnOp κ 47 (t 0) (t 1) (t 2)) (hc : vp_in (sI κ 6) 13) (hm : vp_in (sI κ 2) 61) (hT : ¬ sI κ 7 < 0) : Met l yX9_gets wsX9_gets (rmz 0 0) (va_Pc [.ref (ad 0), .int 8] (rPre D q (wM q ad κ t) sz)) (va_Qv (fun (u : KS × (Nat → Int32)) => u = (act κ (t 4) (t 5) 47 (t 0) (t 1) (t 2), t)) (fun (u : KS × (Nat → Int32)) tt => rPo D (rA (wM q ad κ t) sz) (wM q ad u.1 u.2) tt) (rA (wM q ad κ t) sz)) 0 0 (rA (wM q ad κ t) sz) := by
  have hi0 : vp_in (t 0) 8 := hs.1
  have hi1 : vp_in (t 1) 8 := hs.2.1
  have hi2 : vp_in (t 2) 8 := hs.2.2
  obtain ⟨-, hn1, hpin, -⟩ := yG hy
  have hix := wf_ix hW hi1 hn1 hpin
  refine r_start (cc := cX9_gets) (maxL := 3) (ret := none) (by decide) rfl (Nat.le_of_ble_eq_true rfl) ?_
  intro p e s m below meth c ls hC hr hlk hnm hsz hw hl
  have hx := hC.1
  have hb := hC.2.1
  have hl : lv_has ls 3 [(0, .ref (ad 0)), (1, .int 8)] := hl
  refine lv_bipush (v := 12) hx hb dX9_gets_0 (by decide) ?_
  refine lv_aload_n hx hb dX9_gets_2 rfl (lv_at hl 0 rfl) ?_
  refine r_get hC hw rk9 in_X9_gets_9 0 (wMl 0 (by decide)) wM0 8 (by decide) lk_X9_gets_31 (v := .ref (ad 7)) rfl dX9_gets_3 ?_
  refine lv_aload_n hx hb dX9_gets_6 rfl (lv_at hl 0 rfl) ?_
  refine r_get hC hw rk9 in_X9_gets_9 0 (wMl 0 (by decide)) wM0 31 (by decide) lk_X9_gets_126 (v := .int (t 1)) rfl dX9_gets_7 ?_
  refine r_iald hC hw 7 (wMl 7 (by decide)) wM7 (by assumption) dX9_gets_10 ?_
  refine lv_iconst (v := 1) hx hb dX9_gets_11 (by decide) ?_
  refine lv_isub hx hb dX9_gets_12 ?_
  refine lv_imul hx hb dX9_gets_13 ?_
  refine lv_aload_n hx hb dX9_gets_14 rfl (lv_at hl 0 rfl) ?_
  refine r_get hC hw rk9 in_X9_gets_9 0 (wMl 0 (by decide)) wM0 4 (by decide) lk_X9_gets_16 (v := .ref (ad 3)) rfl dX9_gets_15 ?_
  refine lv_aload_n hx hb dX9_gets_18 rfl (lv_at hl 0 rfl) ?_
  refine r_get hC hw rk9 in_X9_gets_9 0 (wMl 0 (by decide)) wM0 32 (by decide) lk_X9_gets_123 (v := .int (t 2)) rfl dX9_gets_19 ?_
  refine r_iald hC hw 3 (wMl 3 (by decide)) wM3 (by assumption) dX9_gets_22 ?_
  refine lv_iadd hx hb dX9_gets_23 ?_
  refine lv_istore_n (lv' := [(2, .int ((12 * ((sA κ 3 (aN (t 1))) - 1)) + (sA κ 2 (aN (t 2))))), (0, .ref (ad 0)), (1, .int 8)]) hx hb dX9_gets_24 rfl hl (by decide) rfl (fun ls hl => ?_)
  refine lv_iload_n hx hb dX9_gets_25 rfl (lv_at hl 2 rfl) ?_
  refine lv_iconst (v := 5) hx hb dX9_gets_26 (by decide) ?_
  refine lv_icmp_ge (tgt := 49) hx hb dX9_gets_27 (by decide) (fun _ => ?_) (fun c_ => absurd (by decide) c_)
  refine lv_iload_n hx hb dX9_gets_49 rfl (lv_at hl 2 rfl) ?_
  refine lv_iconst (v := 5) hx hb dX9_gets_50 (by decide) ?_
  refine lv_icmp_ne (tgt := 72) hx hb dX9_gets_51 (by decide) (fun _ => ?_) (fun c_ => absurd c_ (by decide))
  refine lv_iload_n hx hb dX9_gets_72 rfl (lv_at hl 2 rfl) ?_
  refine lv_bipush (v := 6) hx hb dX9_gets_73 (by decide) ?_
  refine lv_icmp_ne (tgt := 97) hx hb dX9_gets_75 (by decide) (fun _ => ?_) (fun c_ => absurd c_ (by decide))
  refine lv_iload_n hx hb dX9_gets_97 rfl (lv_at hl 2 rfl) ?_
  refine lv_bipush (v := 7) hx hb dX9_gets_98 (by decide) ?_
  refine lv_icmp_ne (tgt := 121) hx hb dX9_gets_100 (by decide) (fun _ => ?_) (fun c_ => absurd c_ (by decide))
  refine lv_aload_n hx hb dX9_gets_121 rfl (lv_at hl 1 rfl) ?_
  refine r_get hC hw rk9 in_X9_gets_9 0 (wMl 0 (by decide)) wM0 8 (by decide) lk_X9_gets_31 (v := .ref (ad 7)) rfl dX9_gets_122 ?_
  refine lv_aload_n hx hb dX9_gets_125 rfl (lv_at hl 1 rfl) ?_
  refine r_get hC hw rk9 in_X9_gets_9 0 (wMl 0 (by decide)) wM0 30 (by decide) lk_X9_gets_142 (v := .int (t 0)) rfl dX9_gets_126 ?_
  refine lv_aload_n hx hb dX9_gets_129 rfl (lv_at hl 1 rfl) ?_
  refine r_get hC hw rk9 in_X9_gets_9 0 (wMl 0 (by decide)) wM0 13 (by decide) lk_X9_gets_46 (v := .ref (ad 12)) rfl dX9_gets_130 ?_
  refine lv_iload_n hx hb dX9_gets_133 rfl (lv_at hl 0 rfl) ?_
  refine r_iald hC hw 12 (wMl 12 (by decide)) wM12 hix dX9_gets_134 ?_
  refine r_iast hC hw 7 (wMl 7 (by decide)) wM7 (by assumption) dX9_gets_135 (fun H locs hw => ?_)
  replace hw := mS_refs hw
  exact r_vret hC hr hlk hw ((uA κ 3 (aN (t 0)) (sA κ 6 (aN ((12 * ((sA κ 3 (aN (t 1))) - 1)) + (sA κ 2 (aN (t 2))))))), t) rfl rfl (Nat.le_of_ble_eq_true rfl) (Nat.le_of_ble_eq_true rfl) dX9_gets_136

set_option maxHeartbeats 4000000 in
set_option maxRecDepth 100000 in
theorem c_X9_gets_9 (l : Launch) {D : va_G} {q : Nat → ClassId} {ad : Nat → Nat} {κ : KS} {t : Nat → Int32} (sz : Nat) (hs : okStep 48 (t 0) (t 1) (t 2)) (hW : WFm κ) (hy : why κ 48 (t 0) (t 1) (t 2) = 0) (hN : nnOp κ 48 (t 0) (t 1) (t 2)) (hc : vp_in (sI κ 6) 13) (hm : vp_in (sI κ 2) 61) (hT : ¬ sI κ 7 < 0) : Met l yX9_gets wsX9_gets (rmz 0 0) (va_Pc [.ref (ad 0), .int 9] (rPre D q (wM q ad κ t) sz)) (va_Qv (fun (u : KS × (Nat → Int32)) => u = (act κ (t 4) (t 5) 48 (t 0) (t 1) (t 2), t)) (fun (u : KS × (Nat → Int32)) tt => rPo D (rA (wM q ad κ t) sz) (wM q ad u.1 u.2) tt) (rA (wM q ad κ t) sz)) 0 0 (rA (wM q ad κ t) sz) := by
  have hi0 : vp_in (t 0) 8 := hs.1
  have hi1 : vp_in (t 1) 8 := hs.2.1
  have hi2 : vp_in (t 2) 8 := hs.2.2
  obtain ⟨-, hn1, hpin, -⟩ := yG hy
  have hix := wf_ix hW hi1 hn1 hpin
  refine r_start (cc := cX9_gets) (maxL := 3) (ret := none) (by decide) rfl (Nat.le_of_ble_eq_true rfl) ?_
  intro p e s m below meth c ls hC hr hlk hnm hsz hw hl
  have hx := hC.1
  have hb := hC.2.1
  have hl : lv_has ls 3 [(0, .ref (ad 0)), (1, .int 9)] := hl
  refine lv_bipush (v := 12) hx hb dX9_gets_0 (by decide) ?_
  refine lv_aload_n hx hb dX9_gets_2 rfl (lv_at hl 0 rfl) ?_
  refine r_get hC hw rk9 in_X9_gets_9 0 (wMl 0 (by decide)) wM0 8 (by decide) lk_X9_gets_31 (v := .ref (ad 7)) rfl dX9_gets_3 ?_
  refine lv_aload_n hx hb dX9_gets_6 rfl (lv_at hl 0 rfl) ?_
  refine r_get hC hw rk9 in_X9_gets_9 0 (wMl 0 (by decide)) wM0 31 (by decide) lk_X9_gets_126 (v := .int (t 1)) rfl dX9_gets_7 ?_
  refine r_iald hC hw 7 (wMl 7 (by decide)) wM7 (by assumption) dX9_gets_10 ?_
  refine lv_iconst (v := 1) hx hb dX9_gets_11 (by decide) ?_
  refine lv_isub hx hb dX9_gets_12 ?_
  refine lv_imul hx hb dX9_gets_13 ?_
  refine lv_aload_n hx hb dX9_gets_14 rfl (lv_at hl 0 rfl) ?_
  refine r_get hC hw rk9 in_X9_gets_9 0 (wMl 0 (by decide)) wM0 4 (by decide) lk_X9_gets_16 (v := .ref (ad 3)) rfl dX9_gets_15 ?_
  refine lv_aload_n hx hb dX9_gets_18 rfl (lv_at hl 0 rfl) ?_
  refine r_get hC hw rk9 in_X9_gets_9 0 (wMl 0 (by decide)) wM0 32 (by decide) lk_X9_gets_123 (v := .int (t 2)) rfl dX9_gets_19 ?_
  refine r_iald hC hw 3 (wMl 3 (by decide)) wM3 (by assumption) dX9_gets_22 ?_
  refine lv_iadd hx hb dX9_gets_23 ?_
  refine lv_istore_n (lv' := [(2, .int ((12 * ((sA κ 3 (aN (t 1))) - 1)) + (sA κ 2 (aN (t 2))))), (0, .ref (ad 0)), (1, .int 9)]) hx hb dX9_gets_24 rfl hl (by decide) rfl (fun ls hl => ?_)
  refine lv_iload_n hx hb dX9_gets_25 rfl (lv_at hl 2 rfl) ?_
  refine lv_iconst (v := 5) hx hb dX9_gets_26 (by decide) ?_
  refine lv_icmp_ge (tgt := 49) hx hb dX9_gets_27 (by decide) (fun _ => ?_) (fun c_ => absurd (by decide) c_)
  refine lv_iload_n hx hb dX9_gets_49 rfl (lv_at hl 2 rfl) ?_
  refine lv_iconst (v := 5) hx hb dX9_gets_50 (by decide) ?_
  refine lv_icmp_ne (tgt := 72) hx hb dX9_gets_51 (by decide) (fun _ => ?_) (fun c_ => absurd c_ (by decide))
  refine lv_iload_n hx hb dX9_gets_72 rfl (lv_at hl 2 rfl) ?_
  refine lv_bipush (v := 6) hx hb dX9_gets_73 (by decide) ?_
  refine lv_icmp_ne (tgt := 97) hx hb dX9_gets_75 (by decide) (fun _ => ?_) (fun c_ => absurd c_ (by decide))
  refine lv_iload_n hx hb dX9_gets_97 rfl (lv_at hl 2 rfl) ?_
  refine lv_bipush (v := 7) hx hb dX9_gets_98 (by decide) ?_
  refine lv_icmp_ne (tgt := 121) hx hb dX9_gets_100 (by decide) (fun _ => ?_) (fun c_ => absurd c_ (by decide))
  refine lv_aload_n hx hb dX9_gets_121 rfl (lv_at hl 1 rfl) ?_
  refine r_get hC hw rk9 in_X9_gets_9 0 (wMl 0 (by decide)) wM0 8 (by decide) lk_X9_gets_31 (v := .ref (ad 7)) rfl dX9_gets_122 ?_
  refine lv_aload_n hx hb dX9_gets_125 rfl (lv_at hl 1 rfl) ?_
  refine r_get hC hw rk9 in_X9_gets_9 0 (wMl 0 (by decide)) wM0 30 (by decide) lk_X9_gets_142 (v := .int (t 0)) rfl dX9_gets_126 ?_
  refine lv_aload_n hx hb dX9_gets_129 rfl (lv_at hl 1 rfl) ?_
  refine r_get hC hw rk9 in_X9_gets_9 0 (wMl 0 (by decide)) wM0 13 (by decide) lk_X9_gets_46 (v := .ref (ad 12)) rfl dX9_gets_130 ?_
  refine lv_iload_n hx hb dX9_gets_133 rfl (lv_at hl 0 rfl) ?_
  refine r_iald hC hw 12 (wMl 12 (by decide)) wM12 hix dX9_gets_134 ?_
  refine r_iast hC hw 7 (wMl 7 (by decide)) wM7 (by assumption) dX9_gets_135 (fun H locs hw => ?_)
  replace hw := mS_refs hw
  exact r_vret hC hr hlk hw ((uA κ 3 (aN (t 0)) (sA κ 6 (aN ((12 * ((sA κ 3 (aN (t 1))) - 1)) + (sA κ 2 (aN (t 2))))))), t) rfl rfl (Nat.le_of_ble_eq_true rfl) (Nat.le_of_ble_eq_true rfl) dX9_gets_136

set_option maxHeartbeats 4000000 in
set_option maxRecDepth 100000 in
theorem c_X9_puts_0 (l : Launch) {D : va_G} {q : Nat → ClassId} {ad : Nat → Nat} {κ : KS} {t : Nat → Int32} (sz : Nat) (hs : okStep 49 (t 0) (t 1) (t 2)) (hW : WFm κ) (hy : why κ 49 (t 0) (t 1) (t 2) = 0) (hN : nnOp κ 49 (t 0) (t 1) (t 2)) (hc : vp_in (sI κ 6) 13) (hm : vp_in (sI κ 2) 61) (hT : ¬ sI κ 7 < 0) : Met l yX9_puts wsX9_puts (rmz 0 0) (va_Pc [.ref (ad 0), .int 0] (rPre D q (wM q ad κ t) sz)) (va_Qv (fun (u : KS × (Nat → Int32)) => u = (act κ (t 4) (t 5) 49 (t 0) (t 1) (t 2), t)) (fun (u : KS × (Nat → Int32)) tt => rPo D (rA (wM q ad κ t) sz) (wM q ad u.1 u.2) tt) (rA (wM q ad κ t) sz)) 0 0 (rA (wM q ad κ t) sz) := by
  have hi0 : vp_in (t 0) 8 := hs.1
  have hi1 : vp_in (t 1) 8 := hs.2.1
  have hi2 : vp_in (t 2) 8 := hs.2.2
  obtain ⟨-, hn1, hpin, -⟩ := yG hy
  have hix := wf_ix hW hi1 hn1 hpin
  refine r_start (cc := cX9_puts) (maxL := 3) (ret := none) (by decide) rfl (Nat.le_of_ble_eq_true rfl) ?_
  intro p e s m below meth c ls hC hr hlk hnm hsz hw hl
  have hx := hC.1
  have hb := hC.2.1
  have hl : lv_has ls 3 [(0, .ref (ad 0)), (1, .int 0)] := hl
  refine lv_bipush (v := 12) hx hb dX9_puts_0 (by decide) ?_
  refine lv_aload_n hx hb dX9_puts_2 rfl (lv_at hl 0 rfl) ?_
  refine r_get hC hw rk9 in_X9_puts_9 0 (wMl 0 (by decide)) wM0 8 (by decide) lk_X9_puts_31 (v := .ref (ad 7)) rfl dX9_puts_3 ?_
  refine lv_aload_n hx hb dX9_puts_6 rfl (lv_at hl 0 rfl) ?_
  refine r_get hC hw rk9 in_X9_puts_9 0 (wMl 0 (by decide)) wM0 31 (by decide) lk_X9_puts_126 (v := .int (t 1)) rfl dX9_puts_7 ?_
  refine r_iald hC hw 7 (wMl 7 (by decide)) wM7 (by assumption) dX9_puts_10 ?_
  refine lv_iconst (v := 1) hx hb dX9_puts_11 (by decide) ?_
  refine lv_isub hx hb dX9_puts_12 ?_
  refine lv_imul hx hb dX9_puts_13 ?_
  refine lv_aload_n hx hb dX9_puts_14 rfl (lv_at hl 0 rfl) ?_
  refine r_get hC hw rk9 in_X9_puts_9 0 (wMl 0 (by decide)) wM0 4 (by decide) lk_X9_puts_16 (v := .ref (ad 3)) rfl dX9_puts_15 ?_
  refine lv_aload_n hx hb dX9_puts_18 rfl (lv_at hl 0 rfl) ?_
  refine r_get hC hw rk9 in_X9_puts_9 0 (wMl 0 (by decide)) wM0 32 (by decide) lk_X9_puts_123 (v := .int (t 2)) rfl dX9_puts_19 ?_
  refine r_iald hC hw 3 (wMl 3 (by decide)) wM3 (by assumption) dX9_puts_22 ?_
  refine lv_iadd hx hb dX9_puts_23 ?_
  refine lv_istore_n (lv' := [(2, .int ((12 * ((sA κ 3 (aN (t 1))) - 1)) + (sA κ 2 (aN (t 2))))), (0, .ref (ad 0)), (1, .int 0)]) hx hb dX9_puts_24 rfl hl (by decide) rfl (fun ls hl => ?_)
  refine lv_iload_n hx hb dX9_puts_25 rfl (lv_at hl 2 rfl) ?_
  refine lv_tableIn (tgt := 72) hx hb dX9_puts_26 (by decide) (by decide) (by rfl) (by decide) ?_
  refine lv_aload_n hx hb dX9_puts_72 rfl (lv_at hl 1 rfl) ?_
  refine r_get hC hw rk9 in_X9_puts_9 0 (wMl 0 (by decide)) wM0 11 (by decide) lk_X9_puts_40 (v := .ref (ad 10)) rfl dX9_puts_73 ?_
  refine lv_iload_n hx hb dX9_puts_76 rfl (lv_at hl 0 rfl) ?_
  refine lv_aload_n hx hb dX9_puts_77 rfl (lv_at hl 1 rfl) ?_
  refine r_get hC hw rk9 in_X9_puts_9 0 (wMl 0 (by decide)) wM0 4 (by decide) lk_X9_puts_16 (v := .ref (ad 3)) rfl dX9_puts_78 ?_
  refine lv_aload_n hx hb dX9_puts_81 rfl (lv_at hl 1 rfl) ?_
  refine r_get hC hw rk9 in_X9_puts_9 0 (wMl 0 (by decide)) wM0 30 (by decide) lk_X9_puts_142 (v := .int (t 0)) rfl dX9_puts_82 ?_
  refine r_iald hC hw 3 (wMl 3 (by decide)) wM3 (by assumption) dX9_puts_85 ?_
  refine lv_iconst (v := 1) hx hb dX9_puts_86 (by decide) ?_
  refine lv_iand hx hb dX9_puts_87 ?_
  refine lv_i2l (v := ((sA κ 2 (aN (t 0))) &&& 1).toInt64) hx hb dX9_puts_88 rfl ?_
  refine r_last hC hw 10 (wMl 10 (by decide)) wM10 hix dX9_puts_89 (fun H locs hw => ?_)
  replace hw := mS_cells hw
  refine lv_goto (tgt := 244) hx hb dX9_puts_90 (by decide) ?_
  exact r_vret hC hr hlk hw ((uJ κ 1 (aN ((12 * ((sA κ 3 (aN (t 1))) - 1)) + (sA κ 2 (aN (t 2))))) (((sA κ 2 (aN (t 0))) &&& 1).toInt64)), t) rfl rfl (Nat.le_of_ble_eq_true rfl) (Nat.le_of_ble_eq_true rfl) dX9_puts_244

set_option maxHeartbeats 4000000 in
set_option maxRecDepth 100000 in
theorem c_X9_puts_1 (l : Launch) {D : va_G} {q : Nat → ClassId} {ad : Nat → Nat} {κ : KS} {t : Nat → Int32} (sz : Nat) (hs : okStep 50 (t 0) (t 1) (t 2)) (hW : WFm κ) (hy : why κ 50 (t 0) (t 1) (t 2) = 0) (hN : nnOp κ 50 (t 0) (t 1) (t 2)) (hc : vp_in (sI κ 6) 13) (hm : vp_in (sI κ 2) 61) (hT : ¬ sI κ 7 < 0) : Met l yX9_puts wsX9_puts (rmz 0 0) (va_Pc [.ref (ad 0), .int 1] (rPre D q (wM q ad κ t) sz)) (va_Qv (fun (u : KS × (Nat → Int32)) => u = (act κ (t 4) (t 5) 50 (t 0) (t 1) (t 2), t)) (fun (u : KS × (Nat → Int32)) tt => rPo D (rA (wM q ad κ t) sz) (wM q ad u.1 u.2) tt) (rA (wM q ad κ t) sz)) 0 0 (rA (wM q ad κ t) sz) := by
  have hi0 : vp_in (t 0) 8 := hs.1
  have hi1 : vp_in (t 1) 8 := hs.2.1
  have hi2 : vp_in (t 2) 8 := hs.2.2
  obtain ⟨-, hn1, hpin, -⟩ := yG hy
  have hix := wf_ix hW hi1 hn1 hpin
  refine r_start (cc := cX9_puts) (maxL := 3) (ret := none) (by decide) rfl (Nat.le_of_ble_eq_true rfl) ?_
  intro p e s m below meth c ls hC hr hlk hnm hsz hw hl
  have hx := hC.1
  have hb := hC.2.1
  have hl : lv_has ls 3 [(0, .ref (ad 0)), (1, .int 1)] := hl
  refine lv_bipush (v := 12) hx hb dX9_puts_0 (by decide) ?_
  refine lv_aload_n hx hb dX9_puts_2 rfl (lv_at hl 0 rfl) ?_
  refine r_get hC hw rk9 in_X9_puts_9 0 (wMl 0 (by decide)) wM0 8 (by decide) lk_X9_puts_31 (v := .ref (ad 7)) rfl dX9_puts_3 ?_
  refine lv_aload_n hx hb dX9_puts_6 rfl (lv_at hl 0 rfl) ?_
  refine r_get hC hw rk9 in_X9_puts_9 0 (wMl 0 (by decide)) wM0 31 (by decide) lk_X9_puts_126 (v := .int (t 1)) rfl dX9_puts_7 ?_
  refine r_iald hC hw 7 (wMl 7 (by decide)) wM7 (by assumption) dX9_puts_10 ?_
  refine lv_iconst (v := 1) hx hb dX9_puts_11 (by decide) ?_
  refine lv_isub hx hb dX9_puts_12 ?_
  refine lv_imul hx hb dX9_puts_13 ?_
  refine lv_aload_n hx hb dX9_puts_14 rfl (lv_at hl 0 rfl) ?_
  refine r_get hC hw rk9 in_X9_puts_9 0 (wMl 0 (by decide)) wM0 4 (by decide) lk_X9_puts_16 (v := .ref (ad 3)) rfl dX9_puts_15 ?_
  refine lv_aload_n hx hb dX9_puts_18 rfl (lv_at hl 0 rfl) ?_
  refine r_get hC hw rk9 in_X9_puts_9 0 (wMl 0 (by decide)) wM0 32 (by decide) lk_X9_puts_123 (v := .int (t 2)) rfl dX9_puts_19 ?_
  refine r_iald hC hw 3 (wMl 3 (by decide)) wM3 (by assumption) dX9_puts_22 ?_
  refine lv_iadd hx hb dX9_puts_23 ?_
  refine lv_istore_n (lv' := [(2, .int ((12 * ((sA κ 3 (aN (t 1))) - 1)) + (sA κ 2 (aN (t 2))))), (0, .ref (ad 0)), (1, .int 1)]) hx hb dX9_puts_24 rfl hl (by decide) rfl (fun ls hl => ?_)
  refine lv_iload_n hx hb dX9_puts_25 rfl (lv_at hl 2 rfl) ?_
  refine lv_tableIn (tgt := 93) hx hb dX9_puts_26 (by decide) (by decide) (by rfl) (by decide) ?_
  refine lv_aload_n hx hb dX9_puts_93 rfl (lv_at hl 1 rfl) ?_
  refine r_get hC hw rk9 in_X9_puts_9 0 (wMl 0 (by decide)) wM0 11 (by decide) lk_X9_puts_40 (v := .ref (ad 10)) rfl dX9_puts_94 ?_
  refine lv_iload_n hx hb dX9_puts_97 rfl (lv_at hl 0 rfl) ?_
  refine lv_aload_n hx hb dX9_puts_98 rfl (lv_at hl 1 rfl) ?_
  refine r_get hC hw rk9 in_X9_puts_9 0 (wMl 0 (by decide)) wM0 4 (by decide) lk_X9_puts_16 (v := .ref (ad 3)) rfl dX9_puts_99 ?_
  refine lv_aload_n hx hb dX9_puts_102 rfl (lv_at hl 1 rfl) ?_
  refine r_get hC hw rk9 in_X9_puts_9 0 (wMl 0 (by decide)) wM0 30 (by decide) lk_X9_puts_142 (v := .int (t 0)) rfl dX9_puts_103 ?_
  refine r_iald hC hw 3 (wMl 3 (by decide)) wM3 (by assumption) dX9_puts_106 ?_
  refine lv_i2b (v := (sA κ 2 (aN (t 0))).toInt8.toInt32) hx hb dX9_puts_107 rfl ?_
  refine lv_i2l (v := ((sA κ 2 (aN (t 0))).toInt8.toInt32).toInt64) hx hb dX9_puts_108 rfl ?_
  refine r_last hC hw 10 (wMl 10 (by decide)) wM10 hix dX9_puts_109 (fun H locs hw => ?_)
  replace hw := mS_cells hw
  refine lv_goto (tgt := 244) hx hb dX9_puts_110 (by decide) ?_
  exact r_vret hC hr hlk hw ((uJ κ 1 (aN ((12 * ((sA κ 3 (aN (t 1))) - 1)) + (sA κ 2 (aN (t 2))))) (((sA κ 2 (aN (t 0))).toInt8.toInt32).toInt64)), t) rfl rfl (Nat.le_of_ble_eq_true rfl) (Nat.le_of_ble_eq_true rfl) dX9_puts_244

set_option maxHeartbeats 4000000 in
set_option maxRecDepth 100000 in
theorem c_X9_puts_2 (l : Launch) {D : va_G} {q : Nat → ClassId} {ad : Nat → Nat} {κ : KS} {t : Nat → Int32} (sz : Nat) (hs : okStep 51 (t 0) (t 1) (t 2)) (hW : WFm κ) (hy : why κ 51 (t 0) (t 1) (t 2) = 0) (hN : nnOp κ 51 (t 0) (t 1) (t 2)) (hc : vp_in (sI κ 6) 13) (hm : vp_in (sI κ 2) 61) (hT : ¬ sI κ 7 < 0) : Met l yX9_puts wsX9_puts (rmz 0 0) (va_Pc [.ref (ad 0), .int 2] (rPre D q (wM q ad κ t) sz)) (va_Qv (fun (u : KS × (Nat → Int32)) => u = (act κ (t 4) (t 5) 51 (t 0) (t 1) (t 2), t)) (fun (u : KS × (Nat → Int32)) tt => rPo D (rA (wM q ad κ t) sz) (wM q ad u.1 u.2) tt) (rA (wM q ad κ t) sz)) 0 0 (rA (wM q ad κ t) sz) := by
  have hi0 : vp_in (t 0) 8 := hs.1
  have hi1 : vp_in (t 1) 8 := hs.2.1
  have hi2 : vp_in (t 2) 8 := hs.2.2
  obtain ⟨-, hn1, hpin, -⟩ := yG hy
  have hix := wf_ix hW hi1 hn1 hpin
  refine r_start (cc := cX9_puts) (maxL := 3) (ret := none) (by decide) rfl (Nat.le_of_ble_eq_true rfl) ?_
  intro p e s m below meth c ls hC hr hlk hnm hsz hw hl
  have hx := hC.1
  have hb := hC.2.1
  have hl : lv_has ls 3 [(0, .ref (ad 0)), (1, .int 2)] := hl
  refine lv_bipush (v := 12) hx hb dX9_puts_0 (by decide) ?_
  refine lv_aload_n hx hb dX9_puts_2 rfl (lv_at hl 0 rfl) ?_
  refine r_get hC hw rk9 in_X9_puts_9 0 (wMl 0 (by decide)) wM0 8 (by decide) lk_X9_puts_31 (v := .ref (ad 7)) rfl dX9_puts_3 ?_
  refine lv_aload_n hx hb dX9_puts_6 rfl (lv_at hl 0 rfl) ?_
  refine r_get hC hw rk9 in_X9_puts_9 0 (wMl 0 (by decide)) wM0 31 (by decide) lk_X9_puts_126 (v := .int (t 1)) rfl dX9_puts_7 ?_
  refine r_iald hC hw 7 (wMl 7 (by decide)) wM7 (by assumption) dX9_puts_10 ?_
  refine lv_iconst (v := 1) hx hb dX9_puts_11 (by decide) ?_
  refine lv_isub hx hb dX9_puts_12 ?_
  refine lv_imul hx hb dX9_puts_13 ?_
  refine lv_aload_n hx hb dX9_puts_14 rfl (lv_at hl 0 rfl) ?_
  refine r_get hC hw rk9 in_X9_puts_9 0 (wMl 0 (by decide)) wM0 4 (by decide) lk_X9_puts_16 (v := .ref (ad 3)) rfl dX9_puts_15 ?_
  refine lv_aload_n hx hb dX9_puts_18 rfl (lv_at hl 0 rfl) ?_
  refine r_get hC hw rk9 in_X9_puts_9 0 (wMl 0 (by decide)) wM0 32 (by decide) lk_X9_puts_123 (v := .int (t 2)) rfl dX9_puts_19 ?_
  refine r_iald hC hw 3 (wMl 3 (by decide)) wM3 (by assumption) dX9_puts_22 ?_
  refine lv_iadd hx hb dX9_puts_23 ?_
  refine lv_istore_n (lv' := [(2, .int ((12 * ((sA κ 3 (aN (t 1))) - 1)) + (sA κ 2 (aN (t 2))))), (0, .ref (ad 0)), (1, .int 2)]) hx hb dX9_puts_24 rfl hl (by decide) rfl (fun ls hl => ?_)
  refine lv_iload_n hx hb dX9_puts_25 rfl (lv_at hl 2 rfl) ?_
  refine lv_tableIn (tgt := 113) hx hb dX9_puts_26 (by decide) (by decide) (by rfl) (by decide) ?_
  refine lv_aload_n hx hb dX9_puts_113 rfl (lv_at hl 1 rfl) ?_
  refine r_get hC hw rk9 in_X9_puts_9 0 (wMl 0 (by decide)) wM0 11 (by decide) lk_X9_puts_40 (v := .ref (ad 10)) rfl dX9_puts_114 ?_
  refine lv_iload_n hx hb dX9_puts_117 rfl (lv_at hl 0 rfl) ?_
  refine lv_aload_n hx hb dX9_puts_118 rfl (lv_at hl 1 rfl) ?_
  refine r_get hC hw rk9 in_X9_puts_9 0 (wMl 0 (by decide)) wM0 4 (by decide) lk_X9_puts_16 (v := .ref (ad 3)) rfl dX9_puts_119 ?_
  refine lv_aload_n hx hb dX9_puts_122 rfl (lv_at hl 1 rfl) ?_
  refine r_get hC hw rk9 in_X9_puts_9 0 (wMl 0 (by decide)) wM0 30 (by decide) lk_X9_puts_142 (v := .int (t 0)) rfl dX9_puts_123 ?_
  refine r_iald hC hw 3 (wMl 3 (by decide)) wM3 (by assumption) dX9_puts_126 ?_
  refine lv_ldc hx hb hC.2.2.2.1 (hC.2.2.2.2 _ lk_X9_puts_180) dX9_puts_127 ?_
  refine lv_iand hx hb dX9_puts_129 ?_
  refine lv_i2l (v := ((sA κ 2 (aN (t 0))) &&& 65535).toInt64) hx hb dX9_puts_130 rfl ?_
  refine r_last hC hw 10 (wMl 10 (by decide)) wM10 hix dX9_puts_131 (fun H locs hw => ?_)
  replace hw := mS_cells hw
  refine lv_goto (tgt := 244) hx hb dX9_puts_132 (by decide) ?_
  exact r_vret hC hr hlk hw ((uJ κ 1 (aN ((12 * ((sA κ 3 (aN (t 1))) - 1)) + (sA κ 2 (aN (t 2))))) (((sA κ 2 (aN (t 0))) &&& 65535).toInt64)), t) rfl rfl (Nat.le_of_ble_eq_true rfl) (Nat.le_of_ble_eq_true rfl) dX9_puts_244

set_option maxHeartbeats 4000000 in
set_option maxRecDepth 100000 in
theorem c_X9_puts_3 (l : Launch) {D : va_G} {q : Nat → ClassId} {ad : Nat → Nat} {κ : KS} {t : Nat → Int32} (sz : Nat) (hs : okStep 52 (t 0) (t 1) (t 2)) (hW : WFm κ) (hy : why κ 52 (t 0) (t 1) (t 2) = 0) (hN : nnOp κ 52 (t 0) (t 1) (t 2)) (hc : vp_in (sI κ 6) 13) (hm : vp_in (sI κ 2) 61) (hT : ¬ sI κ 7 < 0) : Met l yX9_puts wsX9_puts (rmz 0 0) (va_Pc [.ref (ad 0), .int 3] (rPre D q (wM q ad κ t) sz)) (va_Qv (fun (u : KS × (Nat → Int32)) => u = (act κ (t 4) (t 5) 52 (t 0) (t 1) (t 2), t)) (fun (u : KS × (Nat → Int32)) tt => rPo D (rA (wM q ad κ t) sz) (wM q ad u.1 u.2) tt) (rA (wM q ad κ t) sz)) 0 0 (rA (wM q ad κ t) sz) := by
  have hi0 : vp_in (t 0) 8 := hs.1
  have hi1 : vp_in (t 1) 8 := hs.2.1
  have hi2 : vp_in (t 2) 8 := hs.2.2
  obtain ⟨-, hn1, hpin, -⟩ := yG hy
  have hix := wf_ix hW hi1 hn1 hpin
  refine r_start (cc := cX9_puts) (maxL := 3) (ret := none) (by decide) rfl (Nat.le_of_ble_eq_true rfl) ?_
  intro p e s m below meth c ls hC hr hlk hnm hsz hw hl
  have hx := hC.1
  have hb := hC.2.1
  have hl : lv_has ls 3 [(0, .ref (ad 0)), (1, .int 3)] := hl
  refine lv_bipush (v := 12) hx hb dX9_puts_0 (by decide) ?_
  refine lv_aload_n hx hb dX9_puts_2 rfl (lv_at hl 0 rfl) ?_
  refine r_get hC hw rk9 in_X9_puts_9 0 (wMl 0 (by decide)) wM0 8 (by decide) lk_X9_puts_31 (v := .ref (ad 7)) rfl dX9_puts_3 ?_
  refine lv_aload_n hx hb dX9_puts_6 rfl (lv_at hl 0 rfl) ?_
  refine r_get hC hw rk9 in_X9_puts_9 0 (wMl 0 (by decide)) wM0 31 (by decide) lk_X9_puts_126 (v := .int (t 1)) rfl dX9_puts_7 ?_
  refine r_iald hC hw 7 (wMl 7 (by decide)) wM7 (by assumption) dX9_puts_10 ?_
  refine lv_iconst (v := 1) hx hb dX9_puts_11 (by decide) ?_
  refine lv_isub hx hb dX9_puts_12 ?_
  refine lv_imul hx hb dX9_puts_13 ?_
  refine lv_aload_n hx hb dX9_puts_14 rfl (lv_at hl 0 rfl) ?_
  refine r_get hC hw rk9 in_X9_puts_9 0 (wMl 0 (by decide)) wM0 4 (by decide) lk_X9_puts_16 (v := .ref (ad 3)) rfl dX9_puts_15 ?_
  refine lv_aload_n hx hb dX9_puts_18 rfl (lv_at hl 0 rfl) ?_
  refine r_get hC hw rk9 in_X9_puts_9 0 (wMl 0 (by decide)) wM0 32 (by decide) lk_X9_puts_123 (v := .int (t 2)) rfl dX9_puts_19 ?_
  refine r_iald hC hw 3 (wMl 3 (by decide)) wM3 (by assumption) dX9_puts_22 ?_
  refine lv_iadd hx hb dX9_puts_23 ?_
  refine lv_istore_n (lv' := [(2, .int ((12 * ((sA κ 3 (aN (t 1))) - 1)) + (sA κ 2 (aN (t 2))))), (0, .ref (ad 0)), (1, .int 3)]) hx hb dX9_puts_24 rfl hl (by decide) rfl (fun ls hl => ?_)
  refine lv_iload_n hx hb dX9_puts_25 rfl (lv_at hl 2 rfl) ?_
  refine lv_tableIn (tgt := 135) hx hb dX9_puts_26 (by decide) (by decide) (by rfl) (by decide) ?_
  refine lv_aload_n hx hb dX9_puts_135 rfl (lv_at hl 1 rfl) ?_
  refine r_get hC hw rk9 in_X9_puts_9 0 (wMl 0 (by decide)) wM0 11 (by decide) lk_X9_puts_40 (v := .ref (ad 10)) rfl dX9_puts_136 ?_
  refine lv_iload_n hx hb dX9_puts_139 rfl (lv_at hl 0 rfl) ?_
  refine lv_aload_n hx hb dX9_puts_140 rfl (lv_at hl 1 rfl) ?_
  refine r_get hC hw rk9 in_X9_puts_9 0 (wMl 0 (by decide)) wM0 4 (by decide) lk_X9_puts_16 (v := .ref (ad 3)) rfl dX9_puts_141 ?_
  refine lv_aload_n hx hb dX9_puts_144 rfl (lv_at hl 1 rfl) ?_
  refine r_get hC hw rk9 in_X9_puts_9 0 (wMl 0 (by decide)) wM0 30 (by decide) lk_X9_puts_142 (v := .int (t 0)) rfl dX9_puts_145 ?_
  refine r_iald hC hw 3 (wMl 3 (by decide)) wM3 (by assumption) dX9_puts_148 ?_
  refine lv_i2s (v := (sA κ 2 (aN (t 0))).toInt16.toInt32) hx hb dX9_puts_149 rfl ?_
  refine lv_i2l (v := ((sA κ 2 (aN (t 0))).toInt16.toInt32).toInt64) hx hb dX9_puts_150 rfl ?_
  refine r_last hC hw 10 (wMl 10 (by decide)) wM10 hix dX9_puts_151 (fun H locs hw => ?_)
  replace hw := mS_cells hw
  refine lv_goto (tgt := 244) hx hb dX9_puts_152 (by decide) ?_
  exact r_vret hC hr hlk hw ((uJ κ 1 (aN ((12 * ((sA κ 3 (aN (t 1))) - 1)) + (sA κ 2 (aN (t 2))))) (((sA κ 2 (aN (t 0))).toInt16.toInt32).toInt64)), t) rfl rfl (Nat.le_of_ble_eq_true rfl) (Nat.le_of_ble_eq_true rfl) dX9_puts_244

set_option maxHeartbeats 4000000 in
set_option maxRecDepth 100000 in
theorem c_X9_puts_4 (l : Launch) {D : va_G} {q : Nat → ClassId} {ad : Nat → Nat} {κ : KS} {t : Nat → Int32} (sz : Nat) (hs : okStep 53 (t 0) (t 1) (t 2)) (hW : WFm κ) (hy : why κ 53 (t 0) (t 1) (t 2) = 0) (hN : nnOp κ 53 (t 0) (t 1) (t 2)) (hc : vp_in (sI κ 6) 13) (hm : vp_in (sI κ 2) 61) (hT : ¬ sI κ 7 < 0) : Met l yX9_puts wsX9_puts (rmz 0 0) (va_Pc [.ref (ad 0), .int 4] (rPre D q (wM q ad κ t) sz)) (va_Qv (fun (u : KS × (Nat → Int32)) => u = (act κ (t 4) (t 5) 53 (t 0) (t 1) (t 2), t)) (fun (u : KS × (Nat → Int32)) tt => rPo D (rA (wM q ad κ t) sz) (wM q ad u.1 u.2) tt) (rA (wM q ad κ t) sz)) 0 0 (rA (wM q ad κ t) sz) := by
  have hi0 : vp_in (t 0) 8 := hs.1
  have hi1 : vp_in (t 1) 8 := hs.2.1
  have hi2 : vp_in (t 2) 8 := hs.2.2
  obtain ⟨-, hn1, hpin, -⟩ := yG hy
  have hix := wf_ix hW hi1 hn1 hpin
  refine r_start (cc := cX9_puts) (maxL := 3) (ret := none) (by decide) rfl (Nat.le_of_ble_eq_true rfl) ?_
  intro p e s m below meth c ls hC hr hlk hnm hsz hw hl
  have hx := hC.1
  have hb := hC.2.1
  have hl : lv_has ls 3 [(0, .ref (ad 0)), (1, .int 4)] := hl
  refine lv_bipush (v := 12) hx hb dX9_puts_0 (by decide) ?_
  refine lv_aload_n hx hb dX9_puts_2 rfl (lv_at hl 0 rfl) ?_
  refine r_get hC hw rk9 in_X9_puts_9 0 (wMl 0 (by decide)) wM0 8 (by decide) lk_X9_puts_31 (v := .ref (ad 7)) rfl dX9_puts_3 ?_
  refine lv_aload_n hx hb dX9_puts_6 rfl (lv_at hl 0 rfl) ?_
  refine r_get hC hw rk9 in_X9_puts_9 0 (wMl 0 (by decide)) wM0 31 (by decide) lk_X9_puts_126 (v := .int (t 1)) rfl dX9_puts_7 ?_
  refine r_iald hC hw 7 (wMl 7 (by decide)) wM7 (by assumption) dX9_puts_10 ?_
  refine lv_iconst (v := 1) hx hb dX9_puts_11 (by decide) ?_
  refine lv_isub hx hb dX9_puts_12 ?_
  refine lv_imul hx hb dX9_puts_13 ?_
  refine lv_aload_n hx hb dX9_puts_14 rfl (lv_at hl 0 rfl) ?_
  refine r_get hC hw rk9 in_X9_puts_9 0 (wMl 0 (by decide)) wM0 4 (by decide) lk_X9_puts_16 (v := .ref (ad 3)) rfl dX9_puts_15 ?_
  refine lv_aload_n hx hb dX9_puts_18 rfl (lv_at hl 0 rfl) ?_
  refine r_get hC hw rk9 in_X9_puts_9 0 (wMl 0 (by decide)) wM0 32 (by decide) lk_X9_puts_123 (v := .int (t 2)) rfl dX9_puts_19 ?_
  refine r_iald hC hw 3 (wMl 3 (by decide)) wM3 (by assumption) dX9_puts_22 ?_
  refine lv_iadd hx hb dX9_puts_23 ?_
  refine lv_istore_n (lv' := [(2, .int ((12 * ((sA κ 3 (aN (t 1))) - 1)) + (sA κ 2 (aN (t 2))))), (0, .ref (ad 0)), (1, .int 4)]) hx hb dX9_puts_24 rfl hl (by decide) rfl (fun ls hl => ?_)
  refine lv_iload_n hx hb dX9_puts_25 rfl (lv_at hl 2 rfl) ?_
  refine lv_tableIn (tgt := 155) hx hb dX9_puts_26 (by decide) (by decide) (by rfl) (by decide) ?_
  refine lv_aload_n hx hb dX9_puts_155 rfl (lv_at hl 1 rfl) ?_
  refine r_get hC hw rk9 in_X9_puts_9 0 (wMl 0 (by decide)) wM0 11 (by decide) lk_X9_puts_40 (v := .ref (ad 10)) rfl dX9_puts_156 ?_
  refine lv_iload_n hx hb dX9_puts_159 rfl (lv_at hl 0 rfl) ?_
  refine lv_aload_n hx hb dX9_puts_160 rfl (lv_at hl 1 rfl) ?_
  refine r_get hC hw rk9 in_X9_puts_9 0 (wMl 0 (by decide)) wM0 4 (by decide) lk_X9_puts_16 (v := .ref (ad 3)) rfl dX9_puts_161 ?_
  refine lv_aload_n hx hb dX9_puts_164 rfl (lv_at hl 1 rfl) ?_
  refine r_get hC hw rk9 in_X9_puts_9 0 (wMl 0 (by decide)) wM0 30 (by decide) lk_X9_puts_142 (v := .int (t 0)) rfl dX9_puts_165 ?_
  refine r_iald hC hw 3 (wMl 3 (by decide)) wM3 (by assumption) dX9_puts_168 ?_
  refine lv_i2l (v := (sA κ 2 (aN (t 0))).toInt64) hx hb dX9_puts_169 rfl ?_
  refine r_last hC hw 10 (wMl 10 (by decide)) wM10 hix dX9_puts_170 (fun H locs hw => ?_)
  replace hw := mS_cells hw
  refine lv_goto (tgt := 244) hx hb dX9_puts_171 (by decide) ?_
  exact r_vret hC hr hlk hw ((uJ κ 1 (aN ((12 * ((sA κ 3 (aN (t 1))) - 1)) + (sA κ 2 (aN (t 2))))) ((sA κ 2 (aN (t 0))).toInt64)), t) rfl rfl (Nat.le_of_ble_eq_true rfl) (Nat.le_of_ble_eq_true rfl) dX9_puts_244

set_option maxHeartbeats 4000000 in
set_option maxRecDepth 100000 in
theorem c_X9_puts_5 (l : Launch) {D : va_G} {q : Nat → ClassId} {ad : Nat → Nat} {κ : KS} {t : Nat → Int32} (sz : Nat) (hs : okStep 54 (t 0) (t 1) (t 2)) (hW : WFm κ) (hy : why κ 54 (t 0) (t 1) (t 2) = 0) (hN : nnOp κ 54 (t 0) (t 1) (t 2)) (hc : vp_in (sI κ 6) 13) (hm : vp_in (sI κ 2) 61) (hT : ¬ sI κ 7 < 0) : Met l yX9_puts wsX9_puts (rmz 0 0) (va_Pc [.ref (ad 0), .int 5] (rPre D q (wM q ad κ t) sz)) (va_Qv (fun (u : KS × (Nat → Int32)) => u = (act κ (t 4) (t 5) 54 (t 0) (t 1) (t 2), t)) (fun (u : KS × (Nat → Int32)) tt => rPo D (rA (wM q ad κ t) sz) (wM q ad u.1 u.2) tt) (rA (wM q ad κ t) sz)) 0 0 (rA (wM q ad κ t) sz) := by
  have hi0 : vp_in (t 0) 4 := hs.1
  have hi1 : vp_in (t 1) 8 := hs.2.1
  have hi2 : vp_in (t 2) 8 := hs.2.2
  obtain ⟨-, hn1, hpin, -⟩ := yG hy
  have hix := wf_ix hW hi1 hn1 hpin
  refine r_start (cc := cX9_puts) (maxL := 3) (ret := none) (by decide) rfl (Nat.le_of_ble_eq_true rfl) ?_
  intro p e s m below meth c ls hC hr hlk hnm hsz hw hl
  have hx := hC.1
  have hb := hC.2.1
  have hl : lv_has ls 3 [(0, .ref (ad 0)), (1, .int 5)] := hl
  refine lv_bipush (v := 12) hx hb dX9_puts_0 (by decide) ?_
  refine lv_aload_n hx hb dX9_puts_2 rfl (lv_at hl 0 rfl) ?_
  refine r_get hC hw rk9 in_X9_puts_9 0 (wMl 0 (by decide)) wM0 8 (by decide) lk_X9_puts_31 (v := .ref (ad 7)) rfl dX9_puts_3 ?_
  refine lv_aload_n hx hb dX9_puts_6 rfl (lv_at hl 0 rfl) ?_
  refine r_get hC hw rk9 in_X9_puts_9 0 (wMl 0 (by decide)) wM0 31 (by decide) lk_X9_puts_126 (v := .int (t 1)) rfl dX9_puts_7 ?_
  refine r_iald hC hw 7 (wMl 7 (by decide)) wM7 (by assumption) dX9_puts_10 ?_
  refine lv_iconst (v := 1) hx hb dX9_puts_11 (by decide) ?_
  refine lv_isub hx hb dX9_puts_12 ?_
  refine lv_imul hx hb dX9_puts_13 ?_
  refine lv_aload_n hx hb dX9_puts_14 rfl (lv_at hl 0 rfl) ?_
  refine r_get hC hw rk9 in_X9_puts_9 0 (wMl 0 (by decide)) wM0 4 (by decide) lk_X9_puts_16 (v := .ref (ad 3)) rfl dX9_puts_15 ?_
  refine lv_aload_n hx hb dX9_puts_18 rfl (lv_at hl 0 rfl) ?_
  refine r_get hC hw rk9 in_X9_puts_9 0 (wMl 0 (by decide)) wM0 32 (by decide) lk_X9_puts_123 (v := .int (t 2)) rfl dX9_puts_19 ?_
  refine r_iald hC hw 3 (wMl 3 (by decide)) wM3 (by assumption) dX9_puts_22 ?_
  refine lv_iadd hx hb dX9_puts_23 ?_
  refine lv_istore_n (lv' := [(2, .int ((12 * ((sA κ 3 (aN (t 1))) - 1)) + (sA κ 2 (aN (t 2))))), (0, .ref (ad 0)), (1, .int 5)]) hx hb dX9_puts_24 rfl hl (by decide) rfl (fun ls hl => ?_)
  refine lv_iload_n hx hb dX9_puts_25 rfl (lv_at hl 2 rfl) ?_
  refine lv_tableIn (tgt := 174) hx hb dX9_puts_26 (by decide) (by decide) (by rfl) (by decide) ?_
  refine lv_aload_n hx hb dX9_puts_174 rfl (lv_at hl 1 rfl) ?_
  refine r_get hC hw rk9 in_X9_puts_9 0 (wMl 0 (by decide)) wM0 11 (by decide) lk_X9_puts_40 (v := .ref (ad 10)) rfl dX9_puts_175 ?_
  refine lv_iload_n hx hb dX9_puts_178 rfl (lv_at hl 0 rfl) ?_
  refine lv_aload_n hx hb dX9_puts_179 rfl (lv_at hl 1 rfl) ?_
  refine r_get hC hw rk9 in_X9_puts_9 0 (wMl 0 (by decide)) wM0 5 (by decide) lk_X9_puts_19 (v := .ref (ad 4)) rfl dX9_puts_180 ?_
  refine lv_aload_n hx hb dX9_puts_183 rfl (lv_at hl 1 rfl) ?_
  refine r_get hC hw rk9 in_X9_puts_9 0 (wMl 0 (by decide)) wM0 30 (by decide) lk_X9_puts_142 (v := .int (t 0)) rfl dX9_puts_184 ?_
  refine r_lald hC hw 4 (wMl 4 (by decide)) wM4 (by assumption) dX9_puts_187 ?_
  refine r_last hC hw 10 (wMl 10 (by decide)) wM10 hix dX9_puts_188 (fun H locs hw => ?_)
  replace hw := mS_cells hw
  refine lv_goto (tgt := 244) hx hb dX9_puts_189 (by decide) ?_
  exact r_vret hC hr hlk hw ((uJ κ 1 (aN ((12 * ((sA κ 3 (aN (t 1))) - 1)) + (sA κ 2 (aN (t 2))))) (sJ κ 0 (aN (t 0)))), t) rfl rfl (Nat.le_of_ble_eq_true rfl) (Nat.le_of_ble_eq_true rfl) dX9_puts_244

set_option maxHeartbeats 4000000 in
set_option maxRecDepth 100000 in
theorem c_X9_puts_6 (l : Launch) {D : va_G} {q : Nat → ClassId} {ad : Nat → Nat} {κ : KS} {t : Nat → Int32} (sz : Nat) (hs : okStep 55 (t 0) (t 1) (t 2)) (hW : WFm κ) (hy : why κ 55 (t 0) (t 1) (t 2) = 0) (hN : nnOp κ 55 (t 0) (t 1) (t 2)) (hc : vp_in (sI κ 6) 13) (hm : vp_in (sI κ 2) 61) (hT : ¬ sI κ 7 < 0) : Met l yX9_puts wsX9_puts (rmz 0 0) (va_Pc [.ref (ad 0), .int 6] (rPre D q (wM q ad κ t) sz)) (va_Qv (fun (u : KS × (Nat → Int32)) => u = (act κ (t 4) (t 5) 55 (t 0) (t 1) (t 2), t)) (fun (u : KS × (Nat → Int32)) tt => rPo D (rA (wM q ad κ t) sz) (wM q ad u.1 u.2) tt) (rA (wM q ad κ t) sz)) 0 0 (rA (wM q ad κ t) sz) := by
  have hi0 : vp_in (t 0) 4 := hs.1
  have hi1 : vp_in (t 1) 8 := hs.2.1
  have hi2 : vp_in (t 2) 8 := hs.2.2
  obtain ⟨-, hn1, hpin, -⟩ := yG hy
  have hix := wf_ix hW hi1 hn1 hpin
  refine r_start (cc := cX9_puts) (maxL := 3) (ret := none) (by decide) rfl (Nat.le_of_ble_eq_true rfl) ?_
  intro p e s m below meth c ls hC hr hlk hnm hsz hw hl
  have hx := hC.1
  have hb := hC.2.1
  have hl : lv_has ls 3 [(0, .ref (ad 0)), (1, .int 6)] := hl
  refine lv_bipush (v := 12) hx hb dX9_puts_0 (by decide) ?_
  refine lv_aload_n hx hb dX9_puts_2 rfl (lv_at hl 0 rfl) ?_
  refine r_get hC hw rk9 in_X9_puts_9 0 (wMl 0 (by decide)) wM0 8 (by decide) lk_X9_puts_31 (v := .ref (ad 7)) rfl dX9_puts_3 ?_
  refine lv_aload_n hx hb dX9_puts_6 rfl (lv_at hl 0 rfl) ?_
  refine r_get hC hw rk9 in_X9_puts_9 0 (wMl 0 (by decide)) wM0 31 (by decide) lk_X9_puts_126 (v := .int (t 1)) rfl dX9_puts_7 ?_
  refine r_iald hC hw 7 (wMl 7 (by decide)) wM7 (by assumption) dX9_puts_10 ?_
  refine lv_iconst (v := 1) hx hb dX9_puts_11 (by decide) ?_
  refine lv_isub hx hb dX9_puts_12 ?_
  refine lv_imul hx hb dX9_puts_13 ?_
  refine lv_aload_n hx hb dX9_puts_14 rfl (lv_at hl 0 rfl) ?_
  refine r_get hC hw rk9 in_X9_puts_9 0 (wMl 0 (by decide)) wM0 4 (by decide) lk_X9_puts_16 (v := .ref (ad 3)) rfl dX9_puts_15 ?_
  refine lv_aload_n hx hb dX9_puts_18 rfl (lv_at hl 0 rfl) ?_
  refine r_get hC hw rk9 in_X9_puts_9 0 (wMl 0 (by decide)) wM0 32 (by decide) lk_X9_puts_123 (v := .int (t 2)) rfl dX9_puts_19 ?_
  refine r_iald hC hw 3 (wMl 3 (by decide)) wM3 (by assumption) dX9_puts_22 ?_
  refine lv_iadd hx hb dX9_puts_23 ?_
  refine lv_istore_n (lv' := [(2, .int ((12 * ((sA κ 3 (aN (t 1))) - 1)) + (sA κ 2 (aN (t 2))))), (0, .ref (ad 0)), (1, .int 6)]) hx hb dX9_puts_24 rfl hl (by decide) rfl (fun ls hl => ?_)
  refine lv_iload_n hx hb dX9_puts_25 rfl (lv_at hl 2 rfl) ?_
  refine lv_tableIn (tgt := 192) hx hb dX9_puts_26 (by decide) (by decide) (by rfl) (by decide) ?_
  refine lv_aload_n hx hb dX9_puts_192 rfl (lv_at hl 1 rfl) ?_
  refine r_get hC hw rk9 in_X9_puts_9 0 (wMl 0 (by decide)) wM0 12 (by decide) lk_X9_puts_43 (v := .ref (ad 11)) rfl dX9_puts_193 ?_
  refine lv_iload_n hx hb dX9_puts_196 rfl (lv_at hl 0 rfl) ?_
  refine lv_aload_n hx hb dX9_puts_197 rfl (lv_at hl 1 rfl) ?_
  refine r_get hC hw rk9 in_X9_puts_9 0 (wMl 0 (by decide)) wM0 6 (by decide) lk_X9_puts_23 (v := .ref (ad 5)) rfl dX9_puts_198 ?_
  refine lv_aload_n hx hb dX9_puts_201 rfl (lv_at hl 1 rfl) ?_
  refine r_get hC hw rk9 in_X9_puts_9 0 (wMl 0 (by decide)) wM0 30 (by decide) lk_X9_puts_142 (v := .int (t 0)) rfl dX9_puts_202 ?_
  refine r_fald hC hw 5 (wMl 5 (by decide)) wM5 (by assumption) dX9_puts_205 ?_
  refine lv_f2d hx hb dX9_puts_206 hN ?_
  refine r_dast hC hw 11 (wMl 11 (by decide)) wM11 hix dX9_puts_207 (fun H locs hw => ?_)
  replace hw := mS_points hw
  refine lv_goto (tgt := 244) hx hb dX9_puts_208 (by decide) ?_
  exact r_vret hC hr hlk hw ((uD κ 1 (aN ((12 * ((sA κ 3 (aN (t 1))) - 1)) + (sA κ 2 (aN (t 2))))) (FP.f2d (sF κ (aN (t 0))))), t) rfl rfl (Nat.le_of_ble_eq_true rfl) (Nat.le_of_ble_eq_true rfl) dX9_puts_244

set_option maxHeartbeats 4000000 in
set_option maxRecDepth 100000 in
theorem c_X9_puts_7 (l : Launch) {D : va_G} {q : Nat → ClassId} {ad : Nat → Nat} {κ : KS} {t : Nat → Int32} (sz : Nat) (hs : okStep 56 (t 0) (t 1) (t 2)) (hW : WFm κ) (hy : why κ 56 (t 0) (t 1) (t 2) = 0) (hN : nnOp κ 56 (t 0) (t 1) (t 2)) (hc : vp_in (sI κ 6) 13) (hm : vp_in (sI κ 2) 61) (hT : ¬ sI κ 7 < 0) : Met l yX9_puts wsX9_puts (rmz 0 0) (va_Pc [.ref (ad 0), .int 7] (rPre D q (wM q ad κ t) sz)) (va_Qv (fun (u : KS × (Nat → Int32)) => u = (act κ (t 4) (t 5) 56 (t 0) (t 1) (t 2), t)) (fun (u : KS × (Nat → Int32)) tt => rPo D (rA (wM q ad κ t) sz) (wM q ad u.1 u.2) tt) (rA (wM q ad κ t) sz)) 0 0 (rA (wM q ad κ t) sz) := by
  have hi0 : vp_in (t 0) 4 := hs.1
  have hi1 : vp_in (t 1) 8 := hs.2.1
  have hi2 : vp_in (t 2) 8 := hs.2.2
  obtain ⟨-, hn1, hpin, -⟩ := yG hy
  have hix := wf_ix hW hi1 hn1 hpin
  refine r_start (cc := cX9_puts) (maxL := 3) (ret := none) (by decide) rfl (Nat.le_of_ble_eq_true rfl) ?_
  intro p e s m below meth c ls hC hr hlk hnm hsz hw hl
  have hx := hC.1
  have hb := hC.2.1
  have hl : lv_has ls 3 [(0, .ref (ad 0)), (1, .int 7)] := hl
  refine lv_bipush (v := 12) hx hb dX9_puts_0 (by decide) ?_
  refine lv_aload_n hx hb dX9_puts_2 rfl (lv_at hl 0 rfl) ?_
  refine r_get hC hw rk9 in_X9_puts_9 0 (wMl 0 (by decide)) wM0 8 (by decide) lk_X9_puts_31 (v := .ref (ad 7)) rfl dX9_puts_3 ?_
  refine lv_aload_n hx hb dX9_puts_6 rfl (lv_at hl 0 rfl) ?_
  refine r_get hC hw rk9 in_X9_puts_9 0 (wMl 0 (by decide)) wM0 31 (by decide) lk_X9_puts_126 (v := .int (t 1)) rfl dX9_puts_7 ?_
  refine r_iald hC hw 7 (wMl 7 (by decide)) wM7 (by assumption) dX9_puts_10 ?_
  refine lv_iconst (v := 1) hx hb dX9_puts_11 (by decide) ?_
  refine lv_isub hx hb dX9_puts_12 ?_
  refine lv_imul hx hb dX9_puts_13 ?_
  refine lv_aload_n hx hb dX9_puts_14 rfl (lv_at hl 0 rfl) ?_
  refine r_get hC hw rk9 in_X9_puts_9 0 (wMl 0 (by decide)) wM0 4 (by decide) lk_X9_puts_16 (v := .ref (ad 3)) rfl dX9_puts_15 ?_
  refine lv_aload_n hx hb dX9_puts_18 rfl (lv_at hl 0 rfl) ?_
  refine r_get hC hw rk9 in_X9_puts_9 0 (wMl 0 (by decide)) wM0 32 (by decide) lk_X9_puts_123 (v := .int (t 2)) rfl dX9_puts_19 ?_
  refine r_iald hC hw 3 (wMl 3 (by decide)) wM3 (by assumption) dX9_puts_22 ?_
  refine lv_iadd hx hb dX9_puts_23 ?_
  refine lv_istore_n (lv' := [(2, .int ((12 * ((sA κ 3 (aN (t 1))) - 1)) + (sA κ 2 (aN (t 2))))), (0, .ref (ad 0)), (1, .int 7)]) hx hb dX9_puts_24 rfl hl (by decide) rfl (fun ls hl => ?_)
  refine lv_iload_n hx hb dX9_puts_25 rfl (lv_at hl 2 rfl) ?_
  refine lv_tableIn (tgt := 211) hx hb dX9_puts_26 (by decide) (by decide) (by rfl) (by decide) ?_
  refine lv_aload_n hx hb dX9_puts_211 rfl (lv_at hl 1 rfl) ?_
  refine r_get hC hw rk9 in_X9_puts_9 0 (wMl 0 (by decide)) wM0 12 (by decide) lk_X9_puts_43 (v := .ref (ad 11)) rfl dX9_puts_212 ?_
  refine lv_iload_n hx hb dX9_puts_215 rfl (lv_at hl 0 rfl) ?_
  refine lv_aload_n hx hb dX9_puts_216 rfl (lv_at hl 1 rfl) ?_
  refine r_get hC hw rk9 in_X9_puts_9 0 (wMl 0 (by decide)) wM0 7 (by decide) lk_X9_puts_27 (v := .ref (ad 6)) rfl dX9_puts_217 ?_
  refine lv_aload_n hx hb dX9_puts_220 rfl (lv_at hl 1 rfl) ?_
  refine r_get hC hw rk9 in_X9_puts_9 0 (wMl 0 (by decide)) wM0 30 (by decide) lk_X9_puts_142 (v := .int (t 0)) rfl dX9_puts_221 ?_
  refine r_dald hC hw 6 (wMl 6 (by decide)) wM6 (by assumption) dX9_puts_224 ?_
  refine r_dast hC hw 11 (wMl 11 (by decide)) wM11 hix dX9_puts_225 (fun H locs hw => ?_)
  replace hw := mS_points hw
  refine lv_goto (tgt := 244) hx hb dX9_puts_226 (by decide) ?_
  exact r_vret hC hr hlk hw ((uD κ 1 (aN ((12 * ((sA κ 3 (aN (t 1))) - 1)) + (sA κ 2 (aN (t 2))))) (sD κ 0 (aN (t 0)))), t) rfl rfl (Nat.le_of_ble_eq_true rfl) (Nat.le_of_ble_eq_true rfl) dX9_puts_244

set_option maxHeartbeats 4000000 in
set_option maxRecDepth 100000 in
theorem c_X9_puts_8 (l : Launch) {D : va_G} {q : Nat → ClassId} {ad : Nat → Nat} {κ : KS} {t : Nat → Int32} (sz : Nat) (hs : okStep 57 (t 0) (t 1) (t 2)) (hW : WFm κ) (hy : why κ 57 (t 0) (t 1) (t 2) = 0) (hN : nnOp κ 57 (t 0) (t 1) (t 2)) (hc : vp_in (sI κ 6) 13) (hm : vp_in (sI κ 2) 61) (hT : ¬ sI κ 7 < 0) : Met l yX9_puts wsX9_puts (rmz 0 0) (va_Pc [.ref (ad 0), .int 8] (rPre D q (wM q ad κ t) sz)) (va_Qv (fun (u : KS × (Nat → Int32)) => u = (act κ (t 4) (t 5) 57 (t 0) (t 1) (t 2), t)) (fun (u : KS × (Nat → Int32)) tt => rPo D (rA (wM q ad κ t) sz) (wM q ad u.1 u.2) tt) (rA (wM q ad κ t) sz)) 0 0 (rA (wM q ad κ t) sz) := by
  have hi0 : vp_in (t 0) 8 := hs.1
  have hi1 : vp_in (t 1) 8 := hs.2.1
  have hi2 : vp_in (t 2) 8 := hs.2.2
  obtain ⟨-, q2⟩ := y4 hy
  obtain ⟨-, q3⟩ := y4 q2
  obtain ⟨hn1, q4⟩ := y1 q3
  obtain ⟨hpin, -⟩ := yE (by decide) q4
  have hix := wf_ix hW hi1 hn1 hpin
  refine r_start (cc := cX9_puts) (maxL := 3) (ret := none) (by decide) rfl (Nat.le_of_ble_eq_true rfl) ?_
  intro p e s m below meth c ls hC hr hlk hnm hsz hw hl
  have hx := hC.1
  have hb := hC.2.1
  have hl : lv_has ls 3 [(0, .ref (ad 0)), (1, .int 8)] := hl
  refine lv_bipush (v := 12) hx hb dX9_puts_0 (by decide) ?_
  refine lv_aload_n hx hb dX9_puts_2 rfl (lv_at hl 0 rfl) ?_
  refine r_get hC hw rk9 in_X9_puts_9 0 (wMl 0 (by decide)) wM0 8 (by decide) lk_X9_puts_31 (v := .ref (ad 7)) rfl dX9_puts_3 ?_
  refine lv_aload_n hx hb dX9_puts_6 rfl (lv_at hl 0 rfl) ?_
  refine r_get hC hw rk9 in_X9_puts_9 0 (wMl 0 (by decide)) wM0 31 (by decide) lk_X9_puts_126 (v := .int (t 1)) rfl dX9_puts_7 ?_
  refine r_iald hC hw 7 (wMl 7 (by decide)) wM7 (by assumption) dX9_puts_10 ?_
  refine lv_iconst (v := 1) hx hb dX9_puts_11 (by decide) ?_
  refine lv_isub hx hb dX9_puts_12 ?_
  refine lv_imul hx hb dX9_puts_13 ?_
  refine lv_aload_n hx hb dX9_puts_14 rfl (lv_at hl 0 rfl) ?_
  refine r_get hC hw rk9 in_X9_puts_9 0 (wMl 0 (by decide)) wM0 4 (by decide) lk_X9_puts_16 (v := .ref (ad 3)) rfl dX9_puts_15 ?_
  refine lv_aload_n hx hb dX9_puts_18 rfl (lv_at hl 0 rfl) ?_
  refine r_get hC hw rk9 in_X9_puts_9 0 (wMl 0 (by decide)) wM0 32 (by decide) lk_X9_puts_123 (v := .int (t 2)) rfl dX9_puts_19 ?_
  refine r_iald hC hw 3 (wMl 3 (by decide)) wM3 (by assumption) dX9_puts_22 ?_
  refine lv_iadd hx hb dX9_puts_23 ?_
  refine lv_istore_n (lv' := [(2, .int ((12 * ((sA κ 3 (aN (t 1))) - 1)) + (sA κ 2 (aN (t 2))))), (0, .ref (ad 0)), (1, .int 8)]) hx hb dX9_puts_24 rfl hl (by decide) rfl (fun ls hl => ?_)
  refine lv_iload_n hx hb dX9_puts_25 rfl (lv_at hl 2 rfl) ?_
  refine lv_tableOut (tgt := 229) hx hb dX9_puts_26 (by decide) (by decide) ?_
  refine lv_aload_n hx hb dX9_puts_229 rfl (lv_at hl 1 rfl) ?_
  refine r_get hC hw rk9 in_X9_puts_9 0 (wMl 0 (by decide)) wM0 13 (by decide) lk_X9_puts_46 (v := .ref (ad 12)) rfl dX9_puts_230 ?_
  refine lv_iload_n hx hb dX9_puts_233 rfl (lv_at hl 0 rfl) ?_
  refine lv_aload_n hx hb dX9_puts_234 rfl (lv_at hl 1 rfl) ?_
  refine r_get hC hw rk9 in_X9_puts_9 0 (wMl 0 (by decide)) wM0 8 (by decide) lk_X9_puts_31 (v := .ref (ad 7)) rfl dX9_puts_235 ?_
  refine lv_aload_n hx hb dX9_puts_238 rfl (lv_at hl 1 rfl) ?_
  refine r_get hC hw rk9 in_X9_puts_9 0 (wMl 0 (by decide)) wM0 30 (by decide) lk_X9_puts_142 (v := .int (t 0)) rfl dX9_puts_239 ?_
  refine r_iald hC hw 7 (wMl 7 (by decide)) wM7 (by assumption) dX9_puts_242 ?_
  refine r_iast hC hw 12 (wMl 12 (by decide)) wM12 hix dX9_puts_243 (fun H locs hw => ?_)
  replace hw := mS_inner hw
  exact r_vret hC hr hlk hw ((uA κ 6 (aN ((12 * ((sA κ 3 (aN (t 1))) - 1)) + (sA κ 2 (aN (t 2))))) (sA κ 3 (aN (t 0)))), t) rfl rfl (Nat.le_of_ble_eq_true rfl) (Nat.le_of_ble_eq_true rfl) dX9_puts_244

set_option maxHeartbeats 4000000 in
set_option maxRecDepth 100000 in
theorem c_X9_puts_9 (l : Launch) {D : va_G} {q : Nat → ClassId} {ad : Nat → Nat} {κ : KS} {t : Nat → Int32} (sz : Nat) (hs : okStep 58 (t 0) (t 1) (t 2)) (hW : WFm κ) (hy : why κ 58 (t 0) (t 1) (t 2) = 0) (hN : nnOp κ 58 (t 0) (t 1) (t 2)) (hc : vp_in (sI κ 6) 13) (hm : vp_in (sI κ 2) 61) (hT : ¬ sI κ 7 < 0) : Met l yX9_puts wsX9_puts (rmz 0 0) (va_Pc [.ref (ad 0), .int 9] (rPre D q (wM q ad κ t) sz)) (va_Qv (fun (u : KS × (Nat → Int32)) => u = (act κ (t 4) (t 5) 58 (t 0) (t 1) (t 2), t)) (fun (u : KS × (Nat → Int32)) tt => rPo D (rA (wM q ad κ t) sz) (wM q ad u.1 u.2) tt) (rA (wM q ad κ t) sz)) 0 0 (rA (wM q ad κ t) sz) := by
  have hi0 : vp_in (t 0) 8 := hs.1
  have hi1 : vp_in (t 1) 8 := hs.2.1
  have hi2 : vp_in (t 2) 8 := hs.2.2
  obtain ⟨-, q2⟩ := y4 hy
  obtain ⟨-, q3⟩ := y4 q2
  obtain ⟨hn1, q4⟩ := y1 q3
  obtain ⟨hpin, -⟩ := yE (by decide) q4
  have hix := wf_ix hW hi1 hn1 hpin
  refine r_start (cc := cX9_puts) (maxL := 3) (ret := none) (by decide) rfl (Nat.le_of_ble_eq_true rfl) ?_
  intro p e s m below meth c ls hC hr hlk hnm hsz hw hl
  have hx := hC.1
  have hb := hC.2.1
  have hl : lv_has ls 3 [(0, .ref (ad 0)), (1, .int 9)] := hl
  refine lv_bipush (v := 12) hx hb dX9_puts_0 (by decide) ?_
  refine lv_aload_n hx hb dX9_puts_2 rfl (lv_at hl 0 rfl) ?_
  refine r_get hC hw rk9 in_X9_puts_9 0 (wMl 0 (by decide)) wM0 8 (by decide) lk_X9_puts_31 (v := .ref (ad 7)) rfl dX9_puts_3 ?_
  refine lv_aload_n hx hb dX9_puts_6 rfl (lv_at hl 0 rfl) ?_
  refine r_get hC hw rk9 in_X9_puts_9 0 (wMl 0 (by decide)) wM0 31 (by decide) lk_X9_puts_126 (v := .int (t 1)) rfl dX9_puts_7 ?_
  refine r_iald hC hw 7 (wMl 7 (by decide)) wM7 (by assumption) dX9_puts_10 ?_
  refine lv_iconst (v := 1) hx hb dX9_puts_11 (by decide) ?_
  refine lv_isub hx hb dX9_puts_12 ?_
  refine lv_imul hx hb dX9_puts_13 ?_
  refine lv_aload_n hx hb dX9_puts_14 rfl (lv_at hl 0 rfl) ?_
  refine r_get hC hw rk9 in_X9_puts_9 0 (wMl 0 (by decide)) wM0 4 (by decide) lk_X9_puts_16 (v := .ref (ad 3)) rfl dX9_puts_15 ?_
  refine lv_aload_n hx hb dX9_puts_18 rfl (lv_at hl 0 rfl) ?_
  refine r_get hC hw rk9 in_X9_puts_9 0 (wMl 0 (by decide)) wM0 32 (by decide) lk_X9_puts_123 (v := .int (t 2)) rfl dX9_puts_19 ?_
  refine r_iald hC hw 3 (wMl 3 (by decide)) wM3 (by assumption) dX9_puts_22 ?_
  refine lv_iadd hx hb dX9_puts_23 ?_
  refine lv_istore_n (lv' := [(2, .int ((12 * ((sA κ 3 (aN (t 1))) - 1)) + (sA κ 2 (aN (t 2))))), (0, .ref (ad 0)), (1, .int 9)]) hx hb dX9_puts_24 rfl hl (by decide) rfl (fun ls hl => ?_)
  refine lv_iload_n hx hb dX9_puts_25 rfl (lv_at hl 2 rfl) ?_
  refine lv_tableOut (tgt := 229) hx hb dX9_puts_26 (by decide) (by decide) ?_
  refine lv_aload_n hx hb dX9_puts_229 rfl (lv_at hl 1 rfl) ?_
  refine r_get hC hw rk9 in_X9_puts_9 0 (wMl 0 (by decide)) wM0 13 (by decide) lk_X9_puts_46 (v := .ref (ad 12)) rfl dX9_puts_230 ?_
  refine lv_iload_n hx hb dX9_puts_233 rfl (lv_at hl 0 rfl) ?_
  refine lv_aload_n hx hb dX9_puts_234 rfl (lv_at hl 1 rfl) ?_
  refine r_get hC hw rk9 in_X9_puts_9 0 (wMl 0 (by decide)) wM0 8 (by decide) lk_X9_puts_31 (v := .ref (ad 7)) rfl dX9_puts_235 ?_
  refine lv_aload_n hx hb dX9_puts_238 rfl (lv_at hl 1 rfl) ?_
  refine r_get hC hw rk9 in_X9_puts_9 0 (wMl 0 (by decide)) wM0 30 (by decide) lk_X9_puts_142 (v := .int (t 0)) rfl dX9_puts_239 ?_
  refine r_iald hC hw 7 (wMl 7 (by decide)) wM7 (by assumption) dX9_puts_242 ?_
  refine r_iast hC hw 12 (wMl 12 (by decide)) wM12 hix dX9_puts_243 (fun H locs hw => ?_)
  replace hw := mS_inner hw
  exact r_vret hC hr hlk hw ((uA κ 6 (aN ((12 * ((sA κ 3 (aN (t 1))) - 1)) + (sA κ 2 (aN (t 2))))) (sA κ 3 (aN (t 0)))), t) rfl rfl (Nat.le_of_ble_eq_true rfl) (Nat.le_of_ble_eq_true rfl) dX9_puts_244

set_option maxHeartbeats 4000000 in
set_option maxRecDepth 100000 in
theorem c_X9_doesKnot_59 (l : Launch) {D : va_G} {q : Nat → ClassId} {ad : Nat → Nat} {κ : KS} {t : Nat → Int32} (sz : Nat) (hs : okStep 59 (t 0) (t 1) (t 2)) (hW : WFm κ) (hy : why κ 59 (t 0) (t 1) (t 2) = 0) (hN : nnOp κ 59 (t 0) (t 1) (t 2)) (hc : vp_in (sI κ 6) 13) (hm : vp_in (sI κ 2) 61) (hT : ¬ sI κ 7 < 0) : Met l yX9_doesKnot wsX9_doesKnot (rmz 1 23) (va_Pc [.ref (ad 0), .int 59] (rPre D q (wM q ad κ t) sz)) (va_Qv (fun (u : KS × (Nat → Int32)) => u = (act κ (t 4) (t 5) 59 (t 0) (t 1) (t 2), t)) (fun (u : KS × (Nat → Int32)) tt => rPo D (rA (wM q ad κ t) sz) (wM q ad u.1 u.2) tt) (rA (wM q ad κ t) sz)) 0 0 (rA (wM q ad κ t) sz) := by
  have hi0 : vp_in (t 0) 8 := hs.1
  have hi1 : vp_in (t 1) 8 := hs.2.1
  obtain ⟨-, hn1⟩ := yK hy
  refine r_start (cc := cX9_doesKnot) (maxL := 3) (ret := none) (by decide) rfl (Nat.le_of_ble_eq_true rfl) ?_
  intro p e s m below meth c ls hC hr hlk hnm hsz hw hl
  have hx := hC.1
  have hb := hC.2.1
  have hl : lv_has ls 3 [(0, .ref (ad 0)), (1, .int 59)] := hl
  refine lv_aload_n hx hb dX9_doesKnot_0 rfl (lv_at hl 0 rfl) ?_
  refine r_get hC hw rk9 in_X9_doesKnot_9 0 (wMl 0 (by decide)) wM0 8 (by decide) lk_X9_doesKnot_31 (v := .ref (ad 7)) rfl dX9_doesKnot_1 ?_
  refine lv_aload_n hx hb dX9_doesKnot_4 rfl (lv_at hl 0 rfl) ?_
  refine r_get hC hw rk9 in_X9_doesKnot_9 0 (wMl 0 (by decide)) wM0 31 (by decide) lk_X9_doesKnot_126 (v := .int (t 1)) rfl dX9_doesKnot_5 ?_
  refine r_iald hC hw 7 (wMl 7 (by decide)) wM7 (by assumption) dX9_doesKnot_8 ?_
  refine lv_iconst (v := 1) hx hb dX9_doesKnot_9 (by decide) ?_
  refine lv_isub hx hb dX9_doesKnot_10 ?_
  refine lv_istore_n (lv' := [(2, .int ((sA κ 3 (aN (t 1))) - 1)), (0, .ref (ad 0)), (1, .int 59)]) hx hb dX9_doesKnot_11 rfl hl (by decide) rfl (fun ls hl => ?_)
  refine lv_iload_n hx hb dX9_doesKnot_12 rfl (lv_at hl 2 rfl) ?_
  refine lv_tableIn (tgt := 52) hx hb dX9_doesKnot_13 (by decide) (by decide) (by rfl) (by decide) ?_
  refine lv_aload_n hx hb dX9_doesKnot_52 rfl (lv_at hl 1 rfl) ?_
  refine r_get hC hw rk9 in_X9_doesKnot_9 0 (wMl 0 (by decide)) wM0 4 (by decide) lk_X9_doesKnot_16 (v := .ref (ad 3)) rfl dX9_doesKnot_53 ?_
  refine lv_aload_n hx hb dX9_doesKnot_56 rfl (lv_at hl 1 rfl) ?_
  refine r_get hC hw rk9 in_X9_doesKnot_9 0 (wMl 0 (by decide)) wM0 30 (by decide) lk_X9_doesKnot_142 (v := .int (t 0)) rfl dX9_doesKnot_57 ?_
  refine lv_aload_n hx hb dX9_doesKnot_60 rfl (lv_at hl 1 rfl) ?_
  refine r_get hC hw rk9 in_X9_doesKnot_9 0 (wMl 0 (by decide)) wM0 14 (by decide) lk_X9_doesKnot_49 (v := .ref (ad 13)) rfl dX9_doesKnot_61 ?_
  refine lv_iload_n hx hb dX9_doesKnot_64 rfl (lv_at hl 0 rfl) ?_
  refine r_iald hC hw 13 (wMl 13 (by decide)) wM13 (wf_ref hW (by assumption) (by assumption)) dX9_doesKnot_65 ?_
  refine r_iast hC hw 3 (wMl 3 (by decide)) wM3 (by assumption) dX9_doesKnot_66 (fun H locs hw => ?_)
  replace hw := mS_words hw
  refine lv_goto (tgt := 193) hx hb dX9_doesKnot_67 (by decide) ?_
  exact r_vret hC hr hlk hw ((uA κ 2 (aN (t 0)) (sA κ 7 (aN ((sA κ 3 (aN (t 1))) - 1)))), t) rfl rfl (Nat.le_of_ble_eq_true rfl) (Nat.le_of_ble_eq_true rfl) dX9_doesKnot_193

set_option maxHeartbeats 4000000 in
set_option maxRecDepth 100000 in
theorem c_X9_doesKnot_60 (l : Launch) {D : va_G} {q : Nat → ClassId} {ad : Nat → Nat} {κ : KS} {t : Nat → Int32} (sz : Nat) (hs : okStep 60 (t 0) (t 1) (t 2)) (hW : WFm κ) (hy : why κ 60 (t 0) (t 1) (t 2) = 0) (hN : nnOp κ 60 (t 0) (t 1) (t 2)) (hc : vp_in (sI κ 6) 13) (hm : vp_in (sI κ 2) 61) (hT : ¬ sI κ 7 < 0) : Met l yX9_doesKnot wsX9_doesKnot (rmz 1 23) (va_Pc [.ref (ad 0), .int 60] (rPre D q (wM q ad κ t) sz)) (va_Qv (fun (u : KS × (Nat → Int32)) => u = (act κ (t 4) (t 5) 60 (t 0) (t 1) (t 2), t)) (fun (u : KS × (Nat → Int32)) tt => rPo D (rA (wM q ad κ t) sz) (wM q ad u.1 u.2) tt) (rA (wM q ad κ t) sz)) 0 0 (rA (wM q ad κ t) sz) := by
  have hi0 : vp_in (t 0) 8 := hs.1
  have hi1 : vp_in (t 1) 8 := hs.2.1
  obtain ⟨-, hn1⟩ := yK hy
  refine r_start (cc := cX9_doesKnot) (maxL := 3) (ret := none) (by decide) rfl (Nat.le_of_ble_eq_true rfl) ?_
  intro p e s m below meth c ls hC hr hlk hnm hsz hw hl
  have hx := hC.1
  have hb := hC.2.1
  have hl : lv_has ls 3 [(0, .ref (ad 0)), (1, .int 60)] := hl
  refine lv_aload_n hx hb dX9_doesKnot_0 rfl (lv_at hl 0 rfl) ?_
  refine r_get hC hw rk9 in_X9_doesKnot_9 0 (wMl 0 (by decide)) wM0 8 (by decide) lk_X9_doesKnot_31 (v := .ref (ad 7)) rfl dX9_doesKnot_1 ?_
  refine lv_aload_n hx hb dX9_doesKnot_4 rfl (lv_at hl 0 rfl) ?_
  refine r_get hC hw rk9 in_X9_doesKnot_9 0 (wMl 0 (by decide)) wM0 31 (by decide) lk_X9_doesKnot_126 (v := .int (t 1)) rfl dX9_doesKnot_5 ?_
  refine r_iald hC hw 7 (wMl 7 (by decide)) wM7 (by assumption) dX9_doesKnot_8 ?_
  refine lv_iconst (v := 1) hx hb dX9_doesKnot_9 (by decide) ?_
  refine lv_isub hx hb dX9_doesKnot_10 ?_
  refine lv_istore_n (lv' := [(2, .int ((sA κ 3 (aN (t 1))) - 1)), (0, .ref (ad 0)), (1, .int 60)]) hx hb dX9_doesKnot_11 rfl hl (by decide) rfl (fun ls hl => ?_)
  refine lv_iload_n hx hb dX9_doesKnot_12 rfl (lv_at hl 2 rfl) ?_
  refine lv_tableIn (tgt := 70) hx hb dX9_doesKnot_13 (by decide) (by decide) (by rfl) (by decide) ?_
  refine lv_aload_n hx hb dX9_doesKnot_70 rfl (lv_at hl 1 rfl) ?_
  refine r_get hC hw rk9 in_X9_doesKnot_9 0 (wMl 0 (by decide)) wM0 14 (by decide) lk_X9_doesKnot_49 (v := .ref (ad 13)) rfl dX9_doesKnot_71 ?_
  refine lv_iload_n hx hb dX9_doesKnot_74 rfl (lv_at hl 0 rfl) ?_
  refine lv_aload_n hx hb dX9_doesKnot_75 rfl (lv_at hl 1 rfl) ?_
  refine r_get hC hw rk9 in_X9_doesKnot_9 0 (wMl 0 (by decide)) wM0 4 (by decide) lk_X9_doesKnot_16 (v := .ref (ad 3)) rfl dX9_doesKnot_76 ?_
  refine lv_aload_n hx hb dX9_doesKnot_79 rfl (lv_at hl 1 rfl) ?_
  refine r_get hC hw rk9 in_X9_doesKnot_9 0 (wMl 0 (by decide)) wM0 30 (by decide) lk_X9_doesKnot_142 (v := .int (t 0)) rfl dX9_doesKnot_80 ?_
  refine r_iald hC hw 3 (wMl 3 (by decide)) wM3 (by assumption) dX9_doesKnot_83 ?_
  refine r_iast hC hw 13 (wMl 13 (by decide)) wM13 (wf_ref hW (by assumption) (by assumption)) dX9_doesKnot_84 (fun H locs hw => ?_)
  replace hw := mS_tags hw
  refine lv_goto (tgt := 193) hx hb dX9_doesKnot_85 (by decide) ?_
  exact r_vret hC hr hlk hw ((uA κ 7 (aN ((sA κ 3 (aN (t 1))) - 1)) (sA κ 2 (aN (t 0)))), t) rfl rfl (Nat.le_of_ble_eq_true rfl) (Nat.le_of_ble_eq_true rfl) dX9_doesKnot_193

set_option maxHeartbeats 4000000 in
set_option maxRecDepth 100000 in
theorem c_X9_doesKnot_61 (l : Launch) {D : va_G} {q : Nat → ClassId} {ad : Nat → Nat} {κ : KS} {t : Nat → Int32} (sz : Nat) (hs : okStep 61 (t 0) (t 1) (t 2)) (hW : WFm κ) (hy : why κ 61 (t 0) (t 1) (t 2) = 0) (hN : nnOp κ 61 (t 0) (t 1) (t 2)) (hc : vp_in (sI κ 6) 13) (hm : vp_in (sI κ 2) 61) (hT : ¬ sI κ 7 < 0) : Met l yX9_doesKnot wsX9_doesKnot (rmz 1 23) (va_Pc [.ref (ad 0), .int 61] (rPre D q (wM q ad κ t) sz)) (va_Qv (fun (u : KS × (Nat → Int32)) => u = (act κ (t 4) (t 5) 61 (t 0) (t 1) (t 2), t)) (fun (u : KS × (Nat → Int32)) tt => rPo D (rA (wM q ad κ t) sz) (wM q ad u.1 u.2) tt) (rA (wM q ad κ t) sz)) 0 0 (rA (wM q ad κ t) sz) := by
  have hi0 : vp_in (t 0) 4 := hs.1
  have hi1 : vp_in (t 1) 8 := hs.2.1
  obtain ⟨-, hn1⟩ := yK hy
  refine r_start (cc := cX9_doesKnot) (maxL := 3) (ret := none) (by decide) rfl (Nat.le_of_ble_eq_true rfl) ?_
  intro p e s m below meth c ls hC hr hlk hnm hsz hw hl
  have hx := hC.1
  have hb := hC.2.1
  have hl : lv_has ls 3 [(0, .ref (ad 0)), (1, .int 61)] := hl
  refine lv_aload_n hx hb dX9_doesKnot_0 rfl (lv_at hl 0 rfl) ?_
  refine r_get hC hw rk9 in_X9_doesKnot_9 0 (wMl 0 (by decide)) wM0 8 (by decide) lk_X9_doesKnot_31 (v := .ref (ad 7)) rfl dX9_doesKnot_1 ?_
  refine lv_aload_n hx hb dX9_doesKnot_4 rfl (lv_at hl 0 rfl) ?_
  refine r_get hC hw rk9 in_X9_doesKnot_9 0 (wMl 0 (by decide)) wM0 31 (by decide) lk_X9_doesKnot_126 (v := .int (t 1)) rfl dX9_doesKnot_5 ?_
  refine r_iald hC hw 7 (wMl 7 (by decide)) wM7 (by assumption) dX9_doesKnot_8 ?_
  refine lv_iconst (v := 1) hx hb dX9_doesKnot_9 (by decide) ?_
  refine lv_isub hx hb dX9_doesKnot_10 ?_
  refine lv_istore_n (lv' := [(2, .int ((sA κ 3 (aN (t 1))) - 1)), (0, .ref (ad 0)), (1, .int 61)]) hx hb dX9_doesKnot_11 rfl hl (by decide) rfl (fun ls hl => ?_)
  refine lv_iload_n hx hb dX9_doesKnot_12 rfl (lv_at hl 2 rfl) ?_
  refine lv_tableIn (tgt := 88) hx hb dX9_doesKnot_13 (by decide) (by decide) (by rfl) (by decide) ?_
  refine lv_aload_n hx hb dX9_doesKnot_88 rfl (lv_at hl 1 rfl) ?_
  refine r_get hC hw rk9 in_X9_doesKnot_9 0 (wMl 0 (by decide)) wM0 5 (by decide) lk_X9_doesKnot_19 (v := .ref (ad 4)) rfl dX9_doesKnot_89 ?_
  refine lv_aload_n hx hb dX9_doesKnot_92 rfl (lv_at hl 1 rfl) ?_
  refine r_get hC hw rk9 in_X9_doesKnot_9 0 (wMl 0 (by decide)) wM0 30 (by decide) lk_X9_doesKnot_142 (v := .int (t 0)) rfl dX9_doesKnot_93 ?_
  refine lv_aload_n hx hb dX9_doesKnot_96 rfl (lv_at hl 1 rfl) ?_
  refine r_get hC hw rk9 in_X9_doesKnot_9 0 (wMl 0 (by decide)) wM0 15 (by decide) lk_X9_doesKnot_52 (v := .ref (ad 14)) rfl dX9_doesKnot_97 ?_
  refine lv_iload_n hx hb dX9_doesKnot_100 rfl (lv_at hl 0 rfl) ?_
  refine r_lald hC hw 14 (wMl 14 (by decide)) wM14 (wf_ref hW (by assumption) (by assumption)) dX9_doesKnot_101 ?_
  refine r_last hC hw 4 (wMl 4 (by decide)) wM4 (by assumption) dX9_doesKnot_102 (fun H locs hw => ?_)
  replace hw := mS_wides hw
  refine lv_goto (tgt := 193) hx hb dX9_doesKnot_103 (by decide) ?_
  exact r_vret hC hr hlk hw ((uJ κ 0 (aN (t 0)) (sJ κ 2 (aN ((sA κ 3 (aN (t 1))) - 1)))), t) rfl rfl (Nat.le_of_ble_eq_true rfl) (Nat.le_of_ble_eq_true rfl) dX9_doesKnot_193

set_option maxHeartbeats 4000000 in
set_option maxRecDepth 100000 in
theorem c_X9_doesKnot_62 (l : Launch) {D : va_G} {q : Nat → ClassId} {ad : Nat → Nat} {κ : KS} {t : Nat → Int32} (sz : Nat) (hs : okStep 62 (t 0) (t 1) (t 2)) (hW : WFm κ) (hy : why κ 62 (t 0) (t 1) (t 2) = 0) (hN : nnOp κ 62 (t 0) (t 1) (t 2)) (hc : vp_in (sI κ 6) 13) (hm : vp_in (sI κ 2) 61) (hT : ¬ sI κ 7 < 0) : Met l yX9_doesKnot wsX9_doesKnot (rmz 1 23) (va_Pc [.ref (ad 0), .int 62] (rPre D q (wM q ad κ t) sz)) (va_Qv (fun (u : KS × (Nat → Int32)) => u = (act κ (t 4) (t 5) 62 (t 0) (t 1) (t 2), t)) (fun (u : KS × (Nat → Int32)) tt => rPo D (rA (wM q ad κ t) sz) (wM q ad u.1 u.2) tt) (rA (wM q ad κ t) sz)) 0 0 (rA (wM q ad κ t) sz) := by
  have hi0 : vp_in (t 0) 4 := hs.1
  have hi1 : vp_in (t 1) 8 := hs.2.1
  obtain ⟨-, hn1⟩ := yK hy
  refine r_start (cc := cX9_doesKnot) (maxL := 3) (ret := none) (by decide) rfl (Nat.le_of_ble_eq_true rfl) ?_
  intro p e s m below meth c ls hC hr hlk hnm hsz hw hl
  have hx := hC.1
  have hb := hC.2.1
  have hl : lv_has ls 3 [(0, .ref (ad 0)), (1, .int 62)] := hl
  refine lv_aload_n hx hb dX9_doesKnot_0 rfl (lv_at hl 0 rfl) ?_
  refine r_get hC hw rk9 in_X9_doesKnot_9 0 (wMl 0 (by decide)) wM0 8 (by decide) lk_X9_doesKnot_31 (v := .ref (ad 7)) rfl dX9_doesKnot_1 ?_
  refine lv_aload_n hx hb dX9_doesKnot_4 rfl (lv_at hl 0 rfl) ?_
  refine r_get hC hw rk9 in_X9_doesKnot_9 0 (wMl 0 (by decide)) wM0 31 (by decide) lk_X9_doesKnot_126 (v := .int (t 1)) rfl dX9_doesKnot_5 ?_
  refine r_iald hC hw 7 (wMl 7 (by decide)) wM7 (by assumption) dX9_doesKnot_8 ?_
  refine lv_iconst (v := 1) hx hb dX9_doesKnot_9 (by decide) ?_
  refine lv_isub hx hb dX9_doesKnot_10 ?_
  refine lv_istore_n (lv' := [(2, .int ((sA κ 3 (aN (t 1))) - 1)), (0, .ref (ad 0)), (1, .int 62)]) hx hb dX9_doesKnot_11 rfl hl (by decide) rfl (fun ls hl => ?_)
  refine lv_iload_n hx hb dX9_doesKnot_12 rfl (lv_at hl 2 rfl) ?_
  refine lv_tableIn (tgt := 106) hx hb dX9_doesKnot_13 (by decide) (by decide) (by rfl) (by decide) ?_
  refine lv_aload_n hx hb dX9_doesKnot_106 rfl (lv_at hl 1 rfl) ?_
  refine r_get hC hw rk9 in_X9_doesKnot_9 0 (wMl 0 (by decide)) wM0 15 (by decide) lk_X9_doesKnot_52 (v := .ref (ad 14)) rfl dX9_doesKnot_107 ?_
  refine lv_iload_n hx hb dX9_doesKnot_110 rfl (lv_at hl 0 rfl) ?_
  refine lv_aload_n hx hb dX9_doesKnot_111 rfl (lv_at hl 1 rfl) ?_
  refine r_get hC hw rk9 in_X9_doesKnot_9 0 (wMl 0 (by decide)) wM0 5 (by decide) lk_X9_doesKnot_19 (v := .ref (ad 4)) rfl dX9_doesKnot_112 ?_
  refine lv_aload_n hx hb dX9_doesKnot_115 rfl (lv_at hl 1 rfl) ?_
  refine r_get hC hw rk9 in_X9_doesKnot_9 0 (wMl 0 (by decide)) wM0 30 (by decide) lk_X9_doesKnot_142 (v := .int (t 0)) rfl dX9_doesKnot_116 ?_
  refine r_lald hC hw 4 (wMl 4 (by decide)) wM4 (by assumption) dX9_doesKnot_119 ?_
  refine r_last hC hw 14 (wMl 14 (by decide)) wM14 (wf_ref hW (by assumption) (by assumption)) dX9_doesKnot_120 (fun H locs hw => ?_)
  replace hw := mS_weights hw
  refine lv_goto (tgt := 193) hx hb dX9_doesKnot_121 (by decide) ?_
  exact r_vret hC hr hlk hw ((uJ κ 2 (aN ((sA κ 3 (aN (t 1))) - 1)) (sJ κ 0 (aN (t 0)))), t) rfl rfl (Nat.le_of_ble_eq_true rfl) (Nat.le_of_ble_eq_true rfl) dX9_doesKnot_193

set_option maxHeartbeats 4000000 in
set_option maxRecDepth 100000 in
theorem c_X9_doesKnot_63 (l : Launch) {D : va_G} {q : Nat → ClassId} {ad : Nat → Nat} {κ : KS} {t : Nat → Int32} (sz : Nat) (hs : okStep 63 (t 0) (t 1) (t 2)) (hW : WFm κ) (hy : why κ 63 (t 0) (t 1) (t 2) = 0) (hN : nnOp κ 63 (t 0) (t 1) (t 2)) (hc : vp_in (sI κ 6) 13) (hm : vp_in (sI κ 2) 61) (hT : ¬ sI κ 7 < 0) : Met l yX9_doesKnot wsX9_doesKnot (rmz 1 23) (va_Pc [.ref (ad 0), .int 63] (rPre D q (wM q ad κ t) sz)) (va_Qv (fun (u : KS × (Nat → Int32)) => u = (act κ (t 4) (t 5) 63 (t 0) (t 1) (t 2), t)) (fun (u : KS × (Nat → Int32)) tt => rPo D (rA (wM q ad κ t) sz) (wM q ad u.1 u.2) tt) (rA (wM q ad κ t) sz)) 0 0 (rA (wM q ad κ t) sz) := by
  have hi0 : vp_in (t 0) 8 := hs.1
  have hi1 : vp_in (t 1) 8 := hs.2.1
  obtain ⟨-, hn1⟩ := yK hy
  refine r_start (cc := cX9_doesKnot) (maxL := 3) (ret := none) (by decide) rfl (Nat.le_of_ble_eq_true rfl) ?_
  intro p e s m below meth c ls hC hr hlk hnm hsz hw hl
  have hx := hC.1
  have hb := hC.2.1
  have hl : lv_has ls 3 [(0, .ref (ad 0)), (1, .int 63)] := hl
  refine lv_aload_n hx hb dX9_doesKnot_0 rfl (lv_at hl 0 rfl) ?_
  refine r_get hC hw rk9 in_X9_doesKnot_9 0 (wMl 0 (by decide)) wM0 8 (by decide) lk_X9_doesKnot_31 (v := .ref (ad 7)) rfl dX9_doesKnot_1 ?_
  refine lv_aload_n hx hb dX9_doesKnot_4 rfl (lv_at hl 0 rfl) ?_
  refine r_get hC hw rk9 in_X9_doesKnot_9 0 (wMl 0 (by decide)) wM0 31 (by decide) lk_X9_doesKnot_126 (v := .int (t 1)) rfl dX9_doesKnot_5 ?_
  refine r_iald hC hw 7 (wMl 7 (by decide)) wM7 (by assumption) dX9_doesKnot_8 ?_
  refine lv_iconst (v := 1) hx hb dX9_doesKnot_9 (by decide) ?_
  refine lv_isub hx hb dX9_doesKnot_10 ?_
  refine lv_istore_n (lv' := [(2, .int ((sA κ 3 (aN (t 1))) - 1)), (0, .ref (ad 0)), (1, .int 63)]) hx hb dX9_doesKnot_11 rfl hl (by decide) rfl (fun ls hl => ?_)
  refine lv_iload_n hx hb dX9_doesKnot_12 rfl (lv_at hl 2 rfl) ?_
  refine lv_tableIn (tgt := 124) hx hb dX9_doesKnot_13 (by decide) (by decide) (by rfl) (by decide) ?_
  refine lv_aload_n hx hb dX9_doesKnot_124 rfl (lv_at hl 1 rfl) ?_
  refine r_get hC hw rk9 in_X9_doesKnot_9 0 (wMl 0 (by decide)) wM0 8 (by decide) lk_X9_doesKnot_31 (v := .ref (ad 7)) rfl dX9_doesKnot_125 ?_
  refine lv_aload_n hx hb dX9_doesKnot_128 rfl (lv_at hl 1 rfl) ?_
  refine r_get hC hw rk9 in_X9_doesKnot_9 0 (wMl 0 (by decide)) wM0 30 (by decide) lk_X9_doesKnot_142 (v := .int (t 0)) rfl dX9_doesKnot_129 ?_
  refine lv_aload_n hx hb dX9_doesKnot_132 rfl (lv_at hl 1 rfl) ?_
  refine r_get hC hw rk9 in_X9_doesKnot_9 0 (wMl 0 (by decide)) wM0 16 (by decide) lk_X9_doesKnot_55 (v := .ref (ad 15)) rfl dX9_doesKnot_133 ?_
  refine lv_iload_n hx hb dX9_doesKnot_136 rfl (lv_at hl 0 rfl) ?_
  refine r_iald hC hw 15 (wMl 15 (by decide)) wM15 (wf_ref hW (by assumption) (by assumption)) dX9_doesKnot_137 ?_
  refine r_iast hC hw 7 (wMl 7 (by decide)) wM7 (by assumption) dX9_doesKnot_138 (fun H locs hw => ?_)
  replace hw := mS_refs hw
  refine lv_goto (tgt := 193) hx hb dX9_doesKnot_139 (by decide) ?_
  exact r_vret hC hr hlk hw ((uA κ 3 (aN (t 0)) (sA κ 8 (aN ((sA κ 3 (aN (t 1))) - 1)))), t) rfl rfl (Nat.le_of_ble_eq_true rfl) (Nat.le_of_ble_eq_true rfl) dX9_doesKnot_193

set_option maxHeartbeats 4000000 in
set_option maxRecDepth 100000 in
theorem c_X9_doesKnot_64 (l : Launch) {D : va_G} {q : Nat → ClassId} {ad : Nat → Nat} {κ : KS} {t : Nat → Int32} (sz : Nat) (hs : okStep 64 (t 0) (t 1) (t 2)) (hW : WFm κ) (hy : why κ 64 (t 0) (t 1) (t 2) = 0) (hN : nnOp κ 64 (t 0) (t 1) (t 2)) (hc : vp_in (sI κ 6) 13) (hm : vp_in (sI κ 2) 61) (hT : ¬ sI κ 7 < 0) : Met l yX9_doesKnot wsX9_doesKnot (rmz 1 23) (va_Pc [.ref (ad 0), .int 64] (rPre D q (wM q ad κ t) sz)) (va_Qv (fun (u : KS × (Nat → Int32)) => u = (act κ (t 4) (t 5) 64 (t 0) (t 1) (t 2), t)) (fun (u : KS × (Nat → Int32)) tt => rPo D (rA (wM q ad κ t) sz) (wM q ad u.1 u.2) tt) (rA (wM q ad κ t) sz)) 0 0 (rA (wM q ad κ t) sz) := by
  have hi0 : vp_in (t 0) 8 := hs.1
  have hi1 : vp_in (t 1) 8 := hs.2.1
  obtain ⟨-, q2⟩ := y4 hy
  obtain ⟨-, hn1⟩ := yK q2
  refine r_start (cc := cX9_doesKnot) (maxL := 3) (ret := none) (by decide) rfl (Nat.le_of_ble_eq_true rfl) ?_
  intro p e s m below meth c ls hC hr hlk hnm hsz hw hl
  have hx := hC.1
  have hb := hC.2.1
  have hl : lv_has ls 3 [(0, .ref (ad 0)), (1, .int 64)] := hl
  refine lv_aload_n hx hb dX9_doesKnot_0 rfl (lv_at hl 0 rfl) ?_
  refine r_get hC hw rk9 in_X9_doesKnot_9 0 (wMl 0 (by decide)) wM0 8 (by decide) lk_X9_doesKnot_31 (v := .ref (ad 7)) rfl dX9_doesKnot_1 ?_
  refine lv_aload_n hx hb dX9_doesKnot_4 rfl (lv_at hl 0 rfl) ?_
  refine r_get hC hw rk9 in_X9_doesKnot_9 0 (wMl 0 (by decide)) wM0 31 (by decide) lk_X9_doesKnot_126 (v := .int (t 1)) rfl dX9_doesKnot_5 ?_
  refine r_iald hC hw 7 (wMl 7 (by decide)) wM7 (by assumption) dX9_doesKnot_8 ?_
  refine lv_iconst (v := 1) hx hb dX9_doesKnot_9 (by decide) ?_
  refine lv_isub hx hb dX9_doesKnot_10 ?_
  refine lv_istore_n (lv' := [(2, .int ((sA κ 3 (aN (t 1))) - 1)), (0, .ref (ad 0)), (1, .int 64)]) hx hb dX9_doesKnot_11 rfl hl (by decide) rfl (fun ls hl => ?_)
  refine lv_iload_n hx hb dX9_doesKnot_12 rfl (lv_at hl 2 rfl) ?_
  refine lv_tableIn (tgt := 142) hx hb dX9_doesKnot_13 (by decide) (by decide) (by rfl) (by decide) ?_
  refine lv_aload_n hx hb dX9_doesKnot_142 rfl (lv_at hl 1 rfl) ?_
  refine r_get hC hw rk9 in_X9_doesKnot_9 0 (wMl 0 (by decide)) wM0 16 (by decide) lk_X9_doesKnot_55 (v := .ref (ad 15)) rfl dX9_doesKnot_143 ?_
  refine lv_iload_n hx hb dX9_doesKnot_146 rfl (lv_at hl 0 rfl) ?_
  refine lv_aload_n hx hb dX9_doesKnot_147 rfl (lv_at hl 1 rfl) ?_
  refine r_get hC hw rk9 in_X9_doesKnot_9 0 (wMl 0 (by decide)) wM0 8 (by decide) lk_X9_doesKnot_31 (v := .ref (ad 7)) rfl dX9_doesKnot_148 ?_
  refine lv_aload_n hx hb dX9_doesKnot_151 rfl (lv_at hl 1 rfl) ?_
  refine r_get hC hw rk9 in_X9_doesKnot_9 0 (wMl 0 (by decide)) wM0 30 (by decide) lk_X9_doesKnot_142 (v := .int (t 0)) rfl dX9_doesKnot_152 ?_
  refine r_iald hC hw 7 (wMl 7 (by decide)) wM7 (by assumption) dX9_doesKnot_155 ?_
  refine r_iast hC hw 15 (wMl 15 (by decide)) wM15 (wf_ref hW (by assumption) (by assumption)) dX9_doesKnot_156 (fun H locs hw => ?_)
  replace hw := mS_nexts hw
  refine lv_goto (tgt := 193) hx hb dX9_doesKnot_157 (by decide) ?_
  exact r_vret hC hr hlk hw ((uA κ 8 (aN ((sA κ 3 (aN (t 1))) - 1)) (sA κ 3 (aN (t 0)))), t) rfl rfl (Nat.le_of_ble_eq_true rfl) (Nat.le_of_ble_eq_true rfl) dX9_doesKnot_193

set_option maxHeartbeats 4000000 in
set_option maxRecDepth 100000 in
theorem c_X9_doesKnot_65 (l : Launch) {D : va_G} {q : Nat → ClassId} {ad : Nat → Nat} {κ : KS} {t : Nat → Int32} (sz : Nat) (hs : okStep 65 (t 0) (t 1) (t 2)) (hW : WFm κ) (hy : why κ 65 (t 0) (t 1) (t 2) = 0) (hN : nnOp κ 65 (t 0) (t 1) (t 2)) (hc : vp_in (sI κ 6) 13) (hm : vp_in (sI κ 2) 61) (hT : ¬ sI κ 7 < 0) : Met l yX9_doesKnot wsX9_doesKnot (rmz 1 23) (va_Pc [.ref (ad 0), .int 65] (rPre D q (wM q ad κ t) sz)) (va_Qv (fun (u : KS × (Nat → Int32)) => u = (act κ (t 4) (t 5) 65 (t 0) (t 1) (t 2), t)) (fun (u : KS × (Nat → Int32)) tt => rPo D (rA (wM q ad κ t) sz) (wM q ad u.1 u.2) tt) (rA (wM q ad κ t) sz)) 0 0 (rA (wM q ad κ t) sz) := by
  have hi0 : vp_in (t 0) 8 := hs.1
  have hi1 : vp_in (t 1) 8 := hs.2.1
  have hi2 : vp_in (t 2) 8 := hs.2.2
  obtain ⟨-, hn1⟩ := yK hy
  refine r_start (cc := cX9_doesKnot) (maxL := 3) (ret := none) (by decide) rfl (Nat.le_of_ble_eq_true rfl) ?_
  intro p e s m below meth c ls hC hr hlk hnm hsz hw hl
  have hx := hC.1
  have hb := hC.2.1
  have hl : lv_has ls 3 [(0, .ref (ad 0)), (1, .int 65)] := hl
  refine lv_aload_n hx hb dX9_doesKnot_0 rfl (lv_at hl 0 rfl) ?_
  refine r_get hC hw rk9 in_X9_doesKnot_9 0 (wMl 0 (by decide)) wM0 8 (by decide) lk_X9_doesKnot_31 (v := .ref (ad 7)) rfl dX9_doesKnot_1 ?_
  refine lv_aload_n hx hb dX9_doesKnot_4 rfl (lv_at hl 0 rfl) ?_
  refine r_get hC hw rk9 in_X9_doesKnot_9 0 (wMl 0 (by decide)) wM0 31 (by decide) lk_X9_doesKnot_126 (v := .int (t 1)) rfl dX9_doesKnot_5 ?_
  refine r_iald hC hw 7 (wMl 7 (by decide)) wM7 (by assumption) dX9_doesKnot_8 ?_
  refine lv_iconst (v := 1) hx hb dX9_doesKnot_9 (by decide) ?_
  refine lv_isub hx hb dX9_doesKnot_10 ?_
  refine lv_istore_n (lv' := [(2, .int ((sA κ 3 (aN (t 1))) - 1)), (0, .ref (ad 0)), (1, .int 65)]) hx hb dX9_doesKnot_11 rfl hl (by decide) rfl (fun ls hl => ?_)
  refine lv_iload_n hx hb dX9_doesKnot_12 rfl (lv_at hl 2 rfl) ?_
  refine lv_tableOut (tgt := 160) hx hb dX9_doesKnot_13 (by decide) (by decide) ?_
  refine lv_aload_n hx hb dX9_doesKnot_160 rfl (lv_at hl 1 rfl) ?_
  refine r_get hC hw rk9 in_X9_doesKnot_9 0 (wMl 0 (by decide)) wM0 4 (by decide) lk_X9_doesKnot_16 (v := .ref (ad 3)) rfl dX9_doesKnot_161 ?_
  refine lv_aload_n hx hb dX9_doesKnot_164 rfl (lv_at hl 1 rfl) ?_
  refine r_get hC hw rk9 in_X9_doesKnot_9 0 (wMl 0 (by decide)) wM0 30 (by decide) lk_X9_doesKnot_142 (v := .int (t 0)) rfl dX9_doesKnot_165 ?_
  refine lv_aload_n hx hb dX9_doesKnot_168 rfl (lv_at hl 1 rfl) ?_
  refine r_get hC hw rk9 in_X9_doesKnot_9 0 (wMl 0 (by decide)) wM0 9 (by decide) lk_X9_doesKnot_34 (v := .ref (ad 8)) rfl dX9_doesKnot_169 ?_
  refine lv_iload_n hx hb dX9_doesKnot_172 rfl (lv_at hl 0 rfl) ?_
  refine r_iald hC hw 8 (wMl 8 (by decide)) wM8 (wf_ref hW (by assumption) (by assumption)) dX9_doesKnot_173 ?_
  refine lv_aload_n hx hb dX9_doesKnot_174 rfl (lv_at hl 1 rfl) ?_
  refine r_get hC hw rk9 in_X9_doesKnot_9 0 (wMl 0 (by decide)) wM0 14 (by decide) lk_X9_doesKnot_49 (v := .ref (ad 13)) rfl dX9_doesKnot_175 ?_
  refine lv_iload_n hx hb dX9_doesKnot_178 rfl (lv_at hl 0 rfl) ?_
  refine r_iald hC hw 13 (wMl 13 (by decide)) wM13 (wf_ref hW (by assumption) (by assumption)) dX9_doesKnot_179 ?_
  refine lv_aload_n hx hb dX9_doesKnot_180 rfl (lv_at hl 1 rfl) ?_
  refine r_get hC hw rk9 in_X9_doesKnot_9 0 (wMl 0 (by decide)) wM0 4 (by decide) lk_X9_doesKnot_16 (v := .ref (ad 3)) rfl dX9_doesKnot_181 ?_
  refine lv_aload_n hx hb dX9_doesKnot_184 rfl (lv_at hl 1 rfl) ?_
  refine r_get hC hw rk9 in_X9_doesKnot_9 0 (wMl 0 (by decide)) wM0 32 (by decide) lk_X9_doesKnot_123 (v := .int (t 2)) rfl dX9_doesKnot_185 ?_
  refine r_iald hC hw 3 (wMl 3 (by decide)) wM3 (by assumption) dX9_doesKnot_188 ?_
  refine r_ki hw (r_runS (rest := [.int (t 0), .ref (ad 3)]) hC hw (c_X9_turn l _ _ (sA κ 4 (aN ((sA κ 3 (aN (t 1))) - 1))) (sA κ 7 (aN ((sA κ 3 (aN (t 1))) - 1))) (sA κ 2 (aN (t 2)))) 3 gX9_doesKnot_X9_turn rfl rfl rfl (by decide +kernel) ⟨Nat.le_of_ble_eq_true rfl, Nat.le_of_ble_eq_true rfl⟩ rfl hl.1 rfl (Nat.le_of_ble_eq_true rfl) dX9_doesKnot_189 ⟨Nat.le_of_ble_eq_true rfl, Nat.le_of_ble_eq_true rfl⟩) (fun r_2 u_3 H locs h_1 hw => ?_)
  subst h_1
  refine r_iast hC hw 3 (wMl 3 (by decide)) wM3 (by assumption) dX9_doesKnot_192 (fun H locs hw => ?_)
  replace hw := mS_words hw
  exact r_vret hC hr hlk hw ((uA κ 2 (aN (t 0)) (pTurn (sA κ 4 (aN ((sA κ 3 (aN (t 1))) - 1))) (sA κ 7 (aN ((sA κ 3 (aN (t 1))) - 1))) (sA κ 2 (aN (t 2))))), t) rfl rfl (Nat.le_of_ble_eq_true rfl) (Nat.le_of_ble_eq_true rfl) dX9_doesKnot_193

set_option maxHeartbeats 4000000 in
set_option maxRecDepth 100000 in
theorem c_X9_doesKnot_66 (l : Launch) {D : va_G} {q : Nat → ClassId} {ad : Nat → Nat} {κ : KS} {t : Nat → Int32} (sz : Nat) (hs : okStep 66 (t 0) (t 1) (t 2)) (hW : WFm κ) (hy : why κ 66 (t 0) (t 1) (t 2) = 0) (hN : nnOp κ 66 (t 0) (t 1) (t 2)) (hc : vp_in (sI κ 6) 13) (hm : vp_in (sI κ 2) 61) (hT : ¬ sI κ 7 < 0) : Met l yX9_doesKnot wsX9_doesKnot (rmz 1 23) (va_Pc [.ref (ad 0), .int 66] (rPre D q (wM q ad κ t) sz)) (va_Qv (fun (u : KS × (Nat → Int32)) => u = (act κ (t 4) (t 5) 66 (t 0) (t 1) (t 2), t)) (fun (u : KS × (Nat → Int32)) tt => rPo D (rA (wM q ad κ t) sz) (wM q ad u.1 u.2) tt) (rA (wM q ad κ t) sz)) 0 0 (rA (wM q ad κ t) sz) := by
  have hi0 : vp_in (t 0) 8 := hs.1
  have hi1 : vp_in (t 1) 8 := hs.2.1
  have hi2 : vp_in (t 2) 8 := hs.2.2
  obtain ⟨-, hn1⟩ := yK hy
  refine r_start (cc := cX9_doesKnot) (maxL := 3) (ret := none) (by decide) rfl (Nat.le_of_ble_eq_true rfl) ?_
  intro p e s m below meth c ls hC hr hlk hnm hsz hw hl
  have hx := hC.1
  have hb := hC.2.1
  have hl : lv_has ls 3 [(0, .ref (ad 0)), (1, .int 66)] := hl
  refine lv_aload_n hx hb dX9_doesKnot_0 rfl (lv_at hl 0 rfl) ?_
  refine r_get hC hw rk9 in_X9_doesKnot_9 0 (wMl 0 (by decide)) wM0 8 (by decide) lk_X9_doesKnot_31 (v := .ref (ad 7)) rfl dX9_doesKnot_1 ?_
  refine lv_aload_n hx hb dX9_doesKnot_4 rfl (lv_at hl 0 rfl) ?_
  refine r_get hC hw rk9 in_X9_doesKnot_9 0 (wMl 0 (by decide)) wM0 31 (by decide) lk_X9_doesKnot_126 (v := .int (t 1)) rfl dX9_doesKnot_5 ?_
  refine r_iald hC hw 7 (wMl 7 (by decide)) wM7 (by assumption) dX9_doesKnot_8 ?_
  refine lv_iconst (v := 1) hx hb dX9_doesKnot_9 (by decide) ?_
  refine lv_isub hx hb dX9_doesKnot_10 ?_
  refine lv_istore_n (lv' := [(2, .int ((sA κ 3 (aN (t 1))) - 1)), (0, .ref (ad 0)), (1, .int 66)]) hx hb dX9_doesKnot_11 rfl hl (by decide) rfl (fun ls hl => ?_)
  refine lv_iload_n hx hb dX9_doesKnot_12 rfl (lv_at hl 2 rfl) ?_
  refine lv_tableOut (tgt := 160) hx hb dX9_doesKnot_13 (by decide) (by decide) ?_
  refine lv_aload_n hx hb dX9_doesKnot_160 rfl (lv_at hl 1 rfl) ?_
  refine r_get hC hw rk9 in_X9_doesKnot_9 0 (wMl 0 (by decide)) wM0 4 (by decide) lk_X9_doesKnot_16 (v := .ref (ad 3)) rfl dX9_doesKnot_161 ?_
  refine lv_aload_n hx hb dX9_doesKnot_164 rfl (lv_at hl 1 rfl) ?_
  refine r_get hC hw rk9 in_X9_doesKnot_9 0 (wMl 0 (by decide)) wM0 30 (by decide) lk_X9_doesKnot_142 (v := .int (t 0)) rfl dX9_doesKnot_165 ?_
  refine lv_aload_n hx hb dX9_doesKnot_168 rfl (lv_at hl 1 rfl) ?_
  refine r_get hC hw rk9 in_X9_doesKnot_9 0 (wMl 0 (by decide)) wM0 9 (by decide) lk_X9_doesKnot_34 (v := .ref (ad 8)) rfl dX9_doesKnot_169 ?_
  refine lv_iload_n hx hb dX9_doesKnot_172 rfl (lv_at hl 0 rfl) ?_
  refine r_iald hC hw 8 (wMl 8 (by decide)) wM8 (wf_ref hW (by assumption) (by assumption)) dX9_doesKnot_173 ?_
  refine lv_aload_n hx hb dX9_doesKnot_174 rfl (lv_at hl 1 rfl) ?_
  refine r_get hC hw rk9 in_X9_doesKnot_9 0 (wMl 0 (by decide)) wM0 14 (by decide) lk_X9_doesKnot_49 (v := .ref (ad 13)) rfl dX9_doesKnot_175 ?_
  refine lv_iload_n hx hb dX9_doesKnot_178 rfl (lv_at hl 0 rfl) ?_
  refine r_iald hC hw 13 (wMl 13 (by decide)) wM13 (wf_ref hW (by assumption) (by assumption)) dX9_doesKnot_179 ?_
  refine lv_aload_n hx hb dX9_doesKnot_180 rfl (lv_at hl 1 rfl) ?_
  refine r_get hC hw rk9 in_X9_doesKnot_9 0 (wMl 0 (by decide)) wM0 4 (by decide) lk_X9_doesKnot_16 (v := .ref (ad 3)) rfl dX9_doesKnot_181 ?_
  refine lv_aload_n hx hb dX9_doesKnot_184 rfl (lv_at hl 1 rfl) ?_
  refine r_get hC hw rk9 in_X9_doesKnot_9 0 (wMl 0 (by decide)) wM0 32 (by decide) lk_X9_doesKnot_123 (v := .int (t 2)) rfl dX9_doesKnot_185 ?_
  refine r_iald hC hw 3 (wMl 3 (by decide)) wM3 (by assumption) dX9_doesKnot_188 ?_
  refine r_ki hw (r_runS (rest := [.int (t 0), .ref (ad 3)]) hC hw (c_X9_turn l _ _ (sA κ 4 (aN ((sA κ 3 (aN (t 1))) - 1))) (sA κ 7 (aN ((sA κ 3 (aN (t 1))) - 1))) (sA κ 2 (aN (t 2)))) 3 gX9_doesKnot_X9_turn rfl rfl rfl (by decide +kernel) ⟨Nat.le_of_ble_eq_true rfl, Nat.le_of_ble_eq_true rfl⟩ rfl hl.1 rfl (Nat.le_of_ble_eq_true rfl) dX9_doesKnot_189 ⟨Nat.le_of_ble_eq_true rfl, Nat.le_of_ble_eq_true rfl⟩) (fun r_2 u_3 H locs h_1 hw => ?_)
  subst h_1
  refine r_iast hC hw 3 (wMl 3 (by decide)) wM3 (by assumption) dX9_doesKnot_192 (fun H locs hw => ?_)
  replace hw := mS_words hw
  exact r_vret hC hr hlk hw ((uA κ 2 (aN (t 0)) (pTurn (sA κ 4 (aN ((sA κ 3 (aN (t 1))) - 1))) (sA κ 7 (aN ((sA κ 3 (aN (t 1))) - 1))) (sA κ 2 (aN (t 2))))), t) rfl rfl (Nat.le_of_ble_eq_true rfl) (Nat.le_of_ble_eq_true rfl) dX9_doesKnot_193

set_option maxHeartbeats 4000000 in
set_option maxRecDepth 100000 in
theorem c_X9_doesFault_69 (l : Launch) {D : va_G} {q : Nat → ClassId} {ad : Nat → Nat} {κ : KS} {t : Nat → Int32} (sz : Nat) (hs : okStep 69 (t 0) (t 1) (t 2)) (hW : WFm κ) (hy : why κ 69 (t 0) (t 1) (t 2) = 0) (hN : nnOp κ 69 (t 0) (t 1) (t 2)) (hc : vp_in (sI κ 6) 13) (hm : vp_in (sI κ 2) 61) (hT : ¬ sI κ 7 < 0) : Met l yX9_doesFault wsX9_doesFault (rmz 1 23) (va_Pc [.ref (ad 0), .int 69] (rPre D q (wM q ad κ t) sz)) (va_Qv (fun (u : KS × (Nat → Int32)) => u = (act κ (t 4) (t 5) 69 (t 0) (t 1) (t 2), t)) (fun (u : KS × (Nat → Int32)) tt => rPo D (rA (wM q ad κ t) sz) (wM q ad u.1 u.2) tt) (rA (wM q ad κ t) sz)) 0 0 (rA (wM q ad κ t) sz) := by
  have hi0 : vp_in (t 0) 8 := hs.1
  refine r_start (cc := cX9_doesFault) (maxL := 4) (ret := none) (by decide) rfl (Nat.le_of_ble_eq_true rfl) ?_
  intro p e s m below meth c ls hC hr hlk hnm hsz hw hl
  have hx := hC.1
  have hb := hC.2.1
  have hl : lv_has ls 4 [(0, .ref (ad 0)), (1, .int 69)] := hl
  refine lv_iload_n hx hb dX9_doesFault_0 rfl (lv_at hl 1 rfl) ?_
  refine lv_tableIn (tgt := 119) hx hb dX9_doesFault_1 (by decide) (by decide) (by rfl) (by decide) ?_
  refine lv_aload_n hx hb dX9_doesFault_119 rfl (lv_at hl 0 rfl) ?_
  refine r_get hC hw rk9 in_X9_doesFault_9 0 (wMl 0 (by decide)) wM0 8 (by decide) lk_X9_doesFault_31 (v := .ref (ad 7)) rfl dX9_doesFault_120 ?_
  refine lv_aload_n hx hb dX9_doesFault_123 rfl (lv_at hl 0 rfl) ?_
  refine r_get hC hw rk9 in_X9_doesFault_9 0 (wMl 0 (by decide)) wM0 30 (by decide) lk_X9_doesFault_142 (v := .int (t 0)) rfl dX9_doesFault_124 ?_
  refine lv_aload_n hx hb dX9_doesFault_127 rfl (lv_at hl 0 rfl) ?_
  refine r_get hC hw rk9 in_X9_doesFault_9 0 (wMl 0 (by decide)) wM0 29 (by decide) lk_X9_doesFault_113 (v := .int (t 5)) rfl dX9_doesFault_128 ?_
  refine r_iast hC hw 7 (wMl 7 (by decide)) wM7 (by assumption) dX9_doesFault_131 (fun H locs hw => ?_)
  replace hw := mS_refs hw
  refine lv_goto (tgt := 245) hx hb dX9_doesFault_132 (by decide) ?_
  exact r_vret hC hr hlk hw ((uA κ 3 (aN (t 0)) (t 5)), t) rfl rfl (Nat.le_of_ble_eq_true rfl) (Nat.le_of_ble_eq_true rfl) dX9_doesFault_245

set_option maxHeartbeats 4000000 in
set_option maxRecDepth 100000 in
theorem c_X9_doesFault_70 (l : Launch) {D : va_G} {q : Nat → ClassId} {ad : Nat → Nat} {κ : KS} {t : Nat → Int32} (sz : Nat) (hs : okStep 70 (t 0) (t 1) (t 2)) (hW : WFm κ) (hy : why κ 70 (t 0) (t 1) (t 2) = 0) (hN : nnOp κ 70 (t 0) (t 1) (t 2)) (hc : vp_in (sI κ 6) 13) (hm : vp_in (sI κ 2) 61) (hT : ¬ sI κ 7 < 0) : Met l yX9_doesFault wsX9_doesFault (rmz 1 23) (va_Pc [.ref (ad 0), .int 70] (rPre D q (wM q ad κ t) sz)) (va_Qv (fun (u : KS × (Nat → Int32)) => u = (act κ (t 4) (t 5) 70 (t 0) (t 1) (t 2), t)) (fun (u : KS × (Nat → Int32)) tt => rPo D (rA (wM q ad κ t) sz) (wM q ad u.1 u.2) tt) (rA (wM q ad κ t) sz)) 0 0 (rA (wM q ad κ t) sz) := by
  have hi0 : vp_in (t 0) 8 := hs.1
  have hi1 : vp_in (t 1) 8 := hs.2.1
  have hn1 := (y1 hy).1
  refine r_start (cc := cX9_doesFault) (maxL := 4) (ret := none) (by decide) rfl (Nat.le_of_ble_eq_true rfl) ?_
  intro p e s m below meth c ls hC hr hlk hnm hsz hw hl
  have hx := hC.1
  have hb := hC.2.1
  have hl : lv_has ls 4 [(0, .ref (ad 0)), (1, .int 70)] := hl
  refine lv_iload_n hx hb dX9_doesFault_0 rfl (lv_at hl 1 rfl) ?_
  refine lv_tableIn (tgt := 135) hx hb dX9_doesFault_1 (by decide) (by decide) (by rfl) (by decide) ?_
  refine lv_aload_n hx hb dX9_doesFault_135 rfl (lv_at hl 0 rfl) ?_
  refine r_get hC hw rk9 in_X9_doesFault_9 0 (wMl 0 (by decide)) wM0 4 (by decide) lk_X9_doesFault_16 (v := .ref (ad 3)) rfl dX9_doesFault_136 ?_
  refine lv_aload_n hx hb dX9_doesFault_139 rfl (lv_at hl 0 rfl) ?_
  refine r_get hC hw rk9 in_X9_doesFault_9 0 (wMl 0 (by decide)) wM0 30 (by decide) lk_X9_doesFault_142 (v := .int (t 0)) rfl dX9_doesFault_140 ?_
  refine lv_aload_n hx hb dX9_doesFault_143 rfl (lv_at hl 0 rfl) ?_
  refine r_get hC hw rk9 in_X9_doesFault_9 0 (wMl 0 (by decide)) wM0 14 (by decide) lk_X9_doesFault_49 (v := .ref (ad 13)) rfl dX9_doesFault_144 ?_
  refine lv_aload_n hx hb dX9_doesFault_147 rfl (lv_at hl 0 rfl) ?_
  refine r_get hC hw rk9 in_X9_doesFault_9 0 (wMl 0 (by decide)) wM0 8 (by decide) lk_X9_doesFault_31 (v := .ref (ad 7)) rfl dX9_doesFault_148 ?_
  refine lv_aload_n hx hb dX9_doesFault_151 rfl (lv_at hl 0 rfl) ?_
  refine r_get hC hw rk9 in_X9_doesFault_9 0 (wMl 0 (by decide)) wM0 31 (by decide) lk_X9_doesFault_126 (v := .int (t 1)) rfl dX9_doesFault_152 ?_
  refine r_iald hC hw 7 (wMl 7 (by decide)) wM7 (by assumption) dX9_doesFault_155 ?_
  refine lv_iconst (v := 1) hx hb dX9_doesFault_156 (by decide) ?_
  refine lv_isub hx hb dX9_doesFault_157 ?_
  refine r_iald hC hw 13 (wMl 13 (by decide)) wM13 (wf_ref hW (by assumption) (by assumption)) dX9_doesFault_158 ?_
  refine r_iast hC hw 3 (wMl 3 (by decide)) wM3 (by assumption) dX9_doesFault_159 (fun H locs hw => ?_)
  replace hw := mS_words hw
  refine lv_goto (tgt := 245) hx hb dX9_doesFault_160 (by decide) ?_
  exact r_vret hC hr hlk hw ((uA κ 2 (aN (t 0)) (sA κ 7 (aN ((sA κ 3 (aN (t 1))) - 1)))), t) rfl rfl (Nat.le_of_ble_eq_true rfl) (Nat.le_of_ble_eq_true rfl) dX9_doesFault_245

set_option maxHeartbeats 4000000 in
set_option maxRecDepth 100000 in
theorem c_X9_doesFault_71 (l : Launch) {D : va_G} {q : Nat → ClassId} {ad : Nat → Nat} {κ : KS} {t : Nat → Int32} (sz : Nat) (hs : okStep 71 (t 0) (t 1) (t 2)) (hW : WFm κ) (hy : why κ 71 (t 0) (t 1) (t 2) = 0) (hN : nnOp κ 71 (t 0) (t 1) (t 2)) (hc : vp_in (sI κ 6) 13) (hm : vp_in (sI κ 2) 61) (hT : ¬ sI κ 7 < 0) : Met l yX9_doesFault wsX9_doesFault (rmz 1 23) (va_Pc [.ref (ad 0), .int 71] (rPre D q (wM q ad κ t) sz)) (va_Qv (fun (u : KS × (Nat → Int32)) => u = (act κ (t 4) (t 5) 71 (t 0) (t 1) (t 2), t)) (fun (u : KS × (Nat → Int32)) tt => rPo D (rA (wM q ad κ t) sz) (wM q ad u.1 u.2) tt) (rA (wM q ad κ t) sz)) 0 0 (rA (wM q ad κ t) sz) := by
  have hi0 : vp_in (t 0) 8 := hs.1
  have hi1 : vp_in (t 1) 8 := hs.2.1
  have hn1 := (y1 hy).1
  refine r_start (cc := cX9_doesFault) (maxL := 4) (ret := none) (by decide) rfl (Nat.le_of_ble_eq_true rfl) ?_
  intro p e s m below meth c ls hC hr hlk hnm hsz hw hl
  have hx := hC.1
  have hb := hC.2.1
  have hl : lv_has ls 4 [(0, .ref (ad 0)), (1, .int 71)] := hl
  refine lv_iload_n hx hb dX9_doesFault_0 rfl (lv_at hl 1 rfl) ?_
  refine lv_tableIn (tgt := 163) hx hb dX9_doesFault_1 (by decide) (by decide) (by rfl) (by decide) ?_
  refine lv_aload_n hx hb dX9_doesFault_163 rfl (lv_at hl 0 rfl) ?_
  refine r_get hC hw rk9 in_X9_doesFault_9 0 (wMl 0 (by decide)) wM0 8 (by decide) lk_X9_doesFault_31 (v := .ref (ad 7)) rfl dX9_doesFault_164 ?_
  refine lv_aload_n hx hb dX9_doesFault_167 rfl (lv_at hl 0 rfl) ?_
  refine r_get hC hw rk9 in_X9_doesFault_9 0 (wMl 0 (by decide)) wM0 30 (by decide) lk_X9_doesFault_142 (v := .int (t 0)) rfl dX9_doesFault_168 ?_
  refine lv_aload_n hx hb dX9_doesFault_171 rfl (lv_at hl 0 rfl) ?_
  refine r_get hC hw rk9 in_X9_doesFault_9 0 (wMl 0 (by decide)) wM0 16 (by decide) lk_X9_doesFault_55 (v := .ref (ad 15)) rfl dX9_doesFault_172 ?_
  refine lv_aload_n hx hb dX9_doesFault_175 rfl (lv_at hl 0 rfl) ?_
  refine r_get hC hw rk9 in_X9_doesFault_9 0 (wMl 0 (by decide)) wM0 8 (by decide) lk_X9_doesFault_31 (v := .ref (ad 7)) rfl dX9_doesFault_176 ?_
  refine lv_aload_n hx hb dX9_doesFault_179 rfl (lv_at hl 0 rfl) ?_
  refine r_get hC hw rk9 in_X9_doesFault_9 0 (wMl 0 (by decide)) wM0 31 (by decide) lk_X9_doesFault_126 (v := .int (t 1)) rfl dX9_doesFault_180 ?_
  refine r_iald hC hw 7 (wMl 7 (by decide)) wM7 (by assumption) dX9_doesFault_183 ?_
  refine lv_iconst (v := 1) hx hb dX9_doesFault_184 (by decide) ?_
  refine lv_isub hx hb dX9_doesFault_185 ?_
  refine r_iald hC hw 15 (wMl 15 (by decide)) wM15 (wf_ref hW (by assumption) (by assumption)) dX9_doesFault_186 ?_
  refine r_iast hC hw 7 (wMl 7 (by decide)) wM7 (by assumption) dX9_doesFault_187 (fun H locs hw => ?_)
  replace hw := mS_refs hw
  refine lv_goto (tgt := 245) hx hb dX9_doesFault_188 (by decide) ?_
  exact r_vret hC hr hlk hw ((uA κ 3 (aN (t 0)) (sA κ 8 (aN ((sA κ 3 (aN (t 1))) - 1)))), t) rfl rfl (Nat.le_of_ble_eq_true rfl) (Nat.le_of_ble_eq_true rfl) dX9_doesFault_245

set_option maxHeartbeats 4000000 in
set_option maxRecDepth 100000 in
theorem c_X9_doesFault_72 (l : Launch) {D : va_G} {q : Nat → ClassId} {ad : Nat → Nat} {κ : KS} {t : Nat → Int32} (sz : Nat) (hs : okStep 72 (t 0) (t 1) (t 2)) (hW : WFm κ) (hy : why κ 72 (t 0) (t 1) (t 2) = 0) (hN : nnOp κ 72 (t 0) (t 1) (t 2)) (hc : vp_in (sI κ 6) 13) (hm : vp_in (sI κ 2) 61) (hT : ¬ sI κ 7 < 0) : Met l yX9_doesFault wsX9_doesFault (rmz 1 23) (va_Pc [.ref (ad 0), .int 72] (rPre D q (wM q ad κ t) sz)) (va_Qv (fun (u : KS × (Nat → Int32)) => u = (act κ (t 4) (t 5) 72 (t 0) (t 1) (t 2), t)) (fun (u : KS × (Nat → Int32)) tt => rPo D (rA (wM q ad κ t) sz) (wM q ad u.1 u.2) tt) (rA (wM q ad κ t) sz)) 0 0 (rA (wM q ad κ t) sz) := by
  have hi0 : vp_in (t 0) 8 := hs.1
  refine r_start (cc := cX9_doesFault) (maxL := 4) (ret := none) (by decide) rfl (Nat.le_of_ble_eq_true rfl) ?_
  intro p e s m below meth c ls hC hr hlk hnm hsz hw hl
  have hx := hC.1
  have hb := hC.2.1
  have hl : lv_has ls 4 [(0, .ref (ad 0)), (1, .int 72)] := hl
  refine lv_iload_n hx hb dX9_doesFault_0 rfl (lv_at hl 1 rfl) ?_
  refine lv_tableIn (tgt := 191) hx hb dX9_doesFault_1 (by decide) (by decide) (by rfl) (by decide) ?_
  refine lv_aload_n hx hb dX9_doesFault_191 rfl (lv_at hl 0 rfl) ?_
  refine r_get hC hw rk9 in_X9_doesFault_9 0 (wMl 0 (by decide)) wM0 4 (by decide) lk_X9_doesFault_16 (v := .ref (ad 3)) rfl dX9_doesFault_192 ?_
  refine lv_aload_n hx hb dX9_doesFault_195 rfl (lv_at hl 0 rfl) ?_
  refine r_get hC hw rk9 in_X9_doesFault_9 0 (wMl 0 (by decide)) wM0 30 (by decide) lk_X9_doesFault_142 (v := .int (t 0)) rfl dX9_doesFault_196 ?_
  refine lv_aload_n hx hb dX9_doesFault_199 rfl (lv_at hl 0 rfl) ?_
  refine r_get hC hw rk9 in_X9_doesFault_9 0 (wMl 0 (by decide)) wM0 28 (by decide) lk_X9_doesFault_110 (v := .int (t 4)) rfl dX9_doesFault_200 ?_
  refine r_iast hC hw 3 (wMl 3 (by decide)) wM3 (by assumption) dX9_doesFault_203 (fun H locs hw => ?_)
  replace hw := mS_words hw
  refine lv_goto (tgt := 245) hx hb dX9_doesFault_204 (by decide) ?_
  exact r_vret hC hr hlk hw ((uA κ 2 (aN (t 0)) (t 4)), t) rfl rfl (Nat.le_of_ble_eq_true rfl) (Nat.le_of_ble_eq_true rfl) dX9_doesFault_245

set_option maxHeartbeats 4000000 in
set_option maxRecDepth 100000 in
theorem c_X9_doesFault_73 (l : Launch) {D : va_G} {q : Nat → ClassId} {ad : Nat → Nat} {κ : KS} {t : Nat → Int32} (sz : Nat) (hs : okStep 73 (t 0) (t 1) (t 2)) (hW : WFm κ) (hy : why κ 73 (t 0) (t 1) (t 2) = 0) (hN : nnOp κ 73 (t 0) (t 1) (t 2)) (hc : vp_in (sI κ 6) 13) (hm : vp_in (sI κ 2) 61) (hT : ¬ sI κ 7 < 0) : Met l yX9_doesFault wsX9_doesFault (rmz 1 23) (va_Pc [.ref (ad 0), .int 73] (rPre D q (wM q ad κ t) sz)) (va_Qv (fun (u : KS × (Nat → Int32)) => u = (act κ (t 4) (t 5) 73 (t 0) (t 1) (t 2), t)) (fun (u : KS × (Nat → Int32)) tt => rPo D (rA (wM q ad κ t) sz) (wM q ad u.1 u.2) tt) (rA (wM q ad κ t) sz)) 0 0 (rA (wM q ad κ t) sz) := by
  have hi0 : vp_in (t 0) 8 := hs.1
  refine r_start (cc := cX9_doesFault) (maxL := 4) (ret := none) (by decide) rfl (Nat.le_of_ble_eq_true rfl) ?_
  intro p e s m below meth c ls hC hr hlk hnm hsz hw hl
  have hx := hC.1
  have hb := hC.2.1
  have hl : lv_has ls 4 [(0, .ref (ad 0)), (1, .int 73)] := hl
  refine lv_iload_n hx hb dX9_doesFault_0 rfl (lv_at hl 1 rfl) ?_
  refine lv_tableOut (tgt := 207) hx hb dX9_doesFault_1 (by decide) (by decide) ?_
  refine lv_aload_n hx hb dX9_doesFault_207 rfl (lv_at hl 0 rfl) ?_
  refine r_get hC hw rk9 in_X9_doesFault_9 0 (wMl 0 (by decide)) wM0 24 (by decide) lk_X9_doesFault_101 (v := .int (sI κ 7)) rfl dX9_doesFault_208 ?_
  refine lv_sipush (v := 200) hx hb dX9_doesFault_211 (by decide) ?_
  refine lv_icmp_ge (tgt := 235) hx hb dX9_doesFault_214 (by decide) (fun c_1 => ?_) (fun c_1 => ?_)
  · refine lv_aload_n hx hb dX9_doesFault_235 rfl (lv_at hl 0 rfl) ?_
    refine lv_dup hx hb dX9_doesFault_236 rfl ?_
    refine r_get hC hw rk9 in_X9_doesFault_9 0 (wMl 0 (by decide)) wM0 24 (by decide) lk_X9_doesFault_101 (v := .int (sI κ 7)) rfl dX9_doesFault_237 ?_
    refine lv_iconst (v := 1) hx hb dX9_doesFault_240 (by decide) ?_
    refine lv_iadd hx hb dX9_doesFault_241 ?_
    refine r_put hC hw rk9 in_X9_doesFault_9 0 (wMl 0 (by decide)) wM0 24 (by decide) lk_X9_doesFault_101 rfl rfl rfl (Nat.le_of_ble_eq_true rfl) dX9_doesFault_242 (fun H locs hw => ?_)
    replace hw := mP_toldMany hw
    exact r_vret hC hr hlk hw ((uI κ 7 ((sI κ 7) + 1)), t) rfl (congrArg (fun z => (uI z 7 (sI κ 7 + 1), t)) (if_pos c_1).symm) (Nat.le_of_ble_eq_true rfl) (Nat.le_of_ble_eq_true rfl) dX9_doesFault_245
  · refine lv_aload_n hx hb dX9_doesFault_217 rfl (lv_at hl 0 rfl) ?_
    refine r_get hC hw rk9 in_X9_doesFault_9 0 (wMl 0 (by decide)) wM0 23 (by decide) lk_X9_doesFault_61 (v := .ref (ad 17)) rfl dX9_doesFault_218 ?_
    refine lv_aload_n hx hb dX9_doesFault_221 rfl (lv_at hl 0 rfl) ?_
    refine r_get hC hw rk9 in_X9_doesFault_9 0 (wMl 0 (by decide)) wM0 24 (by decide) lk_X9_doesFault_101 (v := .int (sI κ 7)) rfl dX9_doesFault_222 ?_
    refine lv_aload_n hx hb dX9_doesFault_225 rfl (lv_at hl 0 rfl) ?_
    refine r_get hC hw rk9 in_X9_doesFault_9 0 (wMl 0 (by decide)) wM0 4 (by decide) lk_X9_doesFault_16 (v := .ref (ad 3)) rfl dX9_doesFault_226 ?_
    refine lv_aload_n hx hb dX9_doesFault_229 rfl (lv_at hl 0 rfl) ?_
    refine r_get hC hw rk9 in_X9_doesFault_9 0 (wMl 0 (by decide)) wM0 30 (by decide) lk_X9_doesFault_142 (v := .int (t 0)) rfl dX9_doesFault_230 ?_
    refine r_iald hC hw 3 (wMl 3 (by decide)) wM3 (by assumption) dX9_doesFault_233 ?_
    refine r_iast hC hw 17 (wMl 17 (by decide)) wM17 (in200 hT (by assumption)) dX9_doesFault_234 (fun H locs hw => ?_)
    replace hw := mS_tolds hw
    refine lv_aload_n hx hb dX9_doesFault_235 rfl (lv_at hl 0 rfl) ?_
    refine lv_dup hx hb dX9_doesFault_236 rfl ?_
    refine r_get hC hw rk9 in_X9_doesFault_9 0 (wMl 0 (by decide)) wM0 24 (by decide) lk_X9_doesFault_101 (v := .int (sI κ 7)) rfl dX9_doesFault_237 ?_
    refine lv_iconst (v := 1) hx hb dX9_doesFault_240 (by decide) ?_
    refine lv_iadd hx hb dX9_doesFault_241 ?_
    refine r_put hC hw rk9 in_X9_doesFault_9 0 (wMl 0 (by decide)) wM0 24 (by decide) lk_X9_doesFault_101 rfl rfl rfl (Nat.le_of_ble_eq_true rfl) dX9_doesFault_242 (fun H locs hw => ?_)
    replace hw := mP_toldMany hw
    exact r_vret hC hr hlk hw ((uI (uA κ 10 (aN (sI κ 7)) (sA κ 2 (aN (t 0)))) 7 ((sI κ 7) + 1)), t) rfl (congrArg (fun z => (uI z 7 (sI κ 7 + 1), t)) (if_neg c_1).symm) (Nat.le_of_ble_eq_true rfl) (Nat.le_of_ble_eq_true rfl) dX9_doesFault_245

