theorem h64 {K : Int32} {k : Nat} (hK : K = nI k) (hk : k < 16) : vp_in (4 * K) 64 ∧ vp_in (4 * K + 1) 64 ∧ vp_in (4 * K + 2) 64 ∧ vp_in (4 * K + 3) 64 := by
  subst hK
  rw [show (4 : Int32) = nI 4 from rfl, show (1 : Int32) = nI 1 from rfl, show (2 : Int32) = nI 2 from rfl, show (3 : Int32) = nI 3 from rfl, pk_mul, nI_add, nI_add, nI_add]
  exact ⟨vp_in_nI (by omega) (by decide), vp_in_nI (by omega) (by decide), vp_in_nI (by omega) (by decide), vp_in_nI (by omega) (by decide)⟩
theorem hSeek_uI (κ : KS) (k : Nat) (v p f : Int32) : ∀ (n : Nat) (K : Int32), hSeek (uI κ k v) p f n K = hSeek κ p f n K
  | 0, _ => rfl
  | n + 1, K => by
    show (if hit κ p f K then K else hSeek (uI κ k v) p f n (K + 1)) = _
    rw [hSeek_uI κ k v p f n (K + 1)]
    rfl
set_option maxHeartbeats 4000000 in
set_option maxRecDepth 100000 in
theorem lp_X9_handlerOf {p : Program} {l : Launch} {e : Env} {R : Room} {s : State} {m : MethodId} {args : Array Value} {below : List Frame} {meth : Method} {c : Code} {H : Heap} {locs : List Loc} {cells slots : Nat} {Q : State → Prop} {D : va_G} {q : Nat → ClassId} {A : Nat → Prop} {H0 : Heap} {ad : Nat → Nat} {κ : KS} {t : Nat → Int32} (hC : CallFix p m c cX9_handlerOf 4 s args wsX9_handlerOf RX9) (hw : rX D q A H0 s (wM q ad κ t) H locs) (pl f : Int32) (hm : Nat) (hh : sI κ 1 = nI hm) (h16 : hm ≤ 16) (kk : ∀ (pc : Nat) (ls : Array Slot) (r : Int32), decode cX9_handlerOf pc = .ok (.ireturn, 1) → r = hSeek κ pl f hm 0 → W p l e R s m args below meth c H locs cells slots Q (F0 m pc ls [.int r])) : ∀ (n : Nat) (k : Nat) (K : Int32) (ls : Array Slot), K = nI k → k + n = hm → hSeek κ pl f n K = hSeek κ pl f hm 0 → lv_has ls 4 [(3, .int K), (0, .ref (ad 0)), (1, .int pl), (2, .int f)] → W p l e R s m args below meth c H locs cells slots Q (F0 m 2 ls []) := by
  have hx := hC.1
  have hb := hC.2.1
  intro n
  induction n with
  | zero =>
    intro k K ls hK hk hs hl
    refine lv_iload_n hx hb dX9_handlerOf_2 rfl (lv_at hl 0 rfl) ?_
    refine lv_aload_n hx hb dX9_handlerOf_3 rfl (lv_at hl 1 rfl) ?_
    refine r_get hC hw rk9 in_X9_handlerOf_9 0 (wMl 0 (by decide)) wM0 3 (by decide) lk_X9_handlerOf_86 (v := .int (sI κ 1)) rfl dX9_handlerOf_4 ?_
    refine lv_icmp_ge (tgt := 62) hx hb dX9_handlerOf_7 (by decide) (fun _ => ?_) (fun c_ => absurd (by rw [hh, hK]; exact nI_le (by omega) (by omega)) c_)
    refine lv_iconst (v := (-1)) hx hb dX9_handlerOf_62 (by decide) ?_
    exact kk _ _ _ dX9_handlerOf_63 hs
  | succ n ih =>
    intro k K ls hK hk hs hl
    have h64k := h64 (K := K) (k := k) hK (by omega)
    refine lv_iload_n hx hb dX9_handlerOf_2 rfl (lv_at hl 0 rfl) ?_
    refine lv_aload_n hx hb dX9_handlerOf_3 rfl (lv_at hl 1 rfl) ?_
    refine r_get hC hw rk9 in_X9_handlerOf_9 0 (wMl 0 (by decide)) wM0 3 (by decide) lk_X9_handlerOf_86 (v := .int (sI κ 1)) rfl dX9_handlerOf_4 ?_
    refine lv_icmp_ge (tgt := 62) hx hb dX9_handlerOf_7 (by decide) (fun c_ => absurd c_ (by rw [hh, hK]; exact nI_ge (by omega) (by omega))) (fun _ => ?_)
    refine lv_iload_n hx hb dX9_handlerOf_10 rfl (lv_at hl 2 rfl) ?_
    refine lv_aload_n hx hb dX9_handlerOf_11 rfl (lv_at hl 1 rfl) ?_
    refine r_get hC hw rk9 in_X9_handlerOf_9 0 (wMl 0 (by decide)) wM0 2 (by decide) lk_X9_handlerOf_13 (v := .ref (ad 2)) rfl dX9_handlerOf_12 ?_
    refine lv_iconst (v := 4) hx hb dX9_handlerOf_15 (by decide) ?_
    refine lv_iload_n hx hb dX9_handlerOf_16 rfl (lv_at hl 0 rfl) ?_
    refine lv_imul hx hb dX9_handlerOf_17 ?_
    refine r_iald hC hw 2 (wMl 2 (by decide)) wM2 h64k.1 dX9_handlerOf_18 ?_
    refine lv_icmp_lt (tgt := 56) hx hb dX9_handlerOf_19 (by decide) (fun c_1 => ?_) (fun c_1 => ?_)
    · refine lv_iinc (v := K + 1) (lv' := [(3, .int (K + 1)), (0, .ref (ad 0)), (1, .int pl), (2, .int f)]) hx hb dX9_handlerOf_56 hl (k := 0) rfl (by first | rfl | decide) (by decide) rfl (fun ls hl => ?_)
      refine lv_goto (tgt := 2) hx hb dX9_handlerOf_59 (by decide) ?_
      exact ih (k + 1) (K + 1) ls (by rw [hK]; exact nI_1 k) (by omega) ((if_neg (fun h => Int32.not_lt.mpr h.1 c_1)).symm.trans hs) (lv_sub hl [0, 1, 2, 3] rfl)
    · refine lv_iload_n hx hb dX9_handlerOf_22 rfl (lv_at hl 2 rfl) ?_
      refine lv_aload_n hx hb dX9_handlerOf_23 rfl (lv_at hl 1 rfl) ?_
      refine r_get hC hw rk9 in_X9_handlerOf_9 0 (wMl 0 (by decide)) wM0 2 (by decide) lk_X9_handlerOf_13 (v := .ref (ad 2)) rfl dX9_handlerOf_24 ?_
      refine lv_iconst (v := 4) hx hb dX9_handlerOf_27 (by decide) ?_
      refine lv_iload_n hx hb dX9_handlerOf_28 rfl (lv_at hl 0 rfl) ?_
      refine lv_imul hx hb dX9_handlerOf_29 ?_
      refine lv_iconst (v := 1) hx hb dX9_handlerOf_30 (by decide) ?_
      refine lv_iadd hx hb dX9_handlerOf_31 ?_
      refine r_iald hC hw 2 (wMl 2 (by decide)) wM2 h64k.2.1 dX9_handlerOf_32 ?_
      refine lv_icmp_ge (tgt := 56) hx hb dX9_handlerOf_33 (by decide) (fun c_2 => ?_) (fun c_2 => ?_)
      · refine lv_iinc (v := K + 1) (lv' := [(3, .int (K + 1)), (0, .ref (ad 0)), (1, .int pl), (2, .int f)]) hx hb dX9_handlerOf_56 hl (k := 0) rfl (by first | rfl | decide) (by decide) rfl (fun ls hl => ?_)
        refine lv_goto (tgt := 2) hx hb dX9_handlerOf_59 (by decide) ?_
        exact ih (k + 1) (K + 1) ls (by rw [hK]; exact nI_1 k) (by omega) ((if_neg (fun h => h.2.1 c_2)).symm.trans hs) (lv_sub hl [0, 1, 2, 3] rfl)
      · refine lv_aload_n hx hb dX9_handlerOf_36 rfl (lv_at hl 1 rfl) ?_
        refine r_get hC hw rk9 in_X9_handlerOf_9 0 (wMl 0 (by decide)) wM0 2 (by decide) lk_X9_handlerOf_13 (v := .ref (ad 2)) rfl dX9_handlerOf_37 ?_
        refine lv_iconst (v := 4) hx hb dX9_handlerOf_40 (by decide) ?_
        refine lv_iload_n hx hb dX9_handlerOf_41 rfl (lv_at hl 0 rfl) ?_
        refine lv_imul hx hb dX9_handlerOf_42 ?_
        refine lv_iconst (v := 2) hx hb dX9_handlerOf_43 (by decide) ?_
        refine lv_iadd hx hb dX9_handlerOf_44 ?_
        refine r_iald hC hw 2 (wMl 2 (by decide)) wM2 h64k.2.2.1 dX9_handlerOf_45 ?_
        refine lv_iload_n hx hb dX9_handlerOf_46 rfl (lv_at hl 3 rfl) ?_
        refine lv_ishr hx hb dX9_handlerOf_47 ?_
        refine lv_iconst (v := 1) hx hb dX9_handlerOf_48 (by decide) ?_
        refine lv_iand hx hb dX9_handlerOf_49 ?_
        refine lv_iconst (v := 1) hx hb dX9_handlerOf_50 (by decide) ?_
        refine lv_icmp_ne (tgt := 56) hx hb dX9_handlerOf_51 (by decide) (fun c_3 => ?_) (fun c_3 => ?_)
        · refine lv_iinc (v := K + 1) (lv' := [(3, .int (K + 1)), (0, .ref (ad 0)), (1, .int pl), (2, .int f)]) hx hb dX9_handlerOf_56 hl (k := 0) rfl (by first | rfl | decide) (by decide) rfl (fun ls hl => ?_)
          refine lv_goto (tgt := 2) hx hb dX9_handlerOf_59 (by decide) ?_
          exact ih (k + 1) (K + 1) ls (by rw [hK]; exact nI_1 k) (by omega) ((if_neg (fun h => c_3 h.2.2)).symm.trans hs) (lv_sub hl [0, 1, 2, 3] rfl)
        · refine lv_iload_n hx hb dX9_handlerOf_54 rfl (lv_at hl 0 rfl) ?_
          exact kk _ _ _ dX9_handlerOf_55 ((if_pos ⟨Int32.not_lt.mp c_1, c_2, c_3⟩).symm.trans hs)

set_option maxHeartbeats 4000000 in
set_option maxRecDepth 100000 in
theorem c_X9_handlerOf (l : Launch) {D : va_G} {q : Nat → ClassId} {ad : Nat → Nat} {κ : KS} {t : Nat → Int32} (sz : Nat) (pl f : Int32) (hm : Nat) (hh : sI κ 1 = nI hm) (h16 : hm ≤ 16) : Met l yX9_handlerOf wsX9_handlerOf (rmz 0 0) (va_Pc [.ref (ad 0), .int pl, .int f] (rPre D q (wM q ad κ t) sz)) (va_Qi (fun (r : Int32) (u : Unit) => r = hSeek κ pl f hm 0) (fun (u : Unit) tt => rPo D (rA (wM q ad κ t) sz) (wM q ad κ t) tt) (rA (wM q ad κ t) sz)) 0 0 (rA (wM q ad κ t) sz) := by
  refine r_start (cc := cX9_handlerOf) (maxL := 4) (ret := (some .int)) (by decide) rfl (Nat.le_of_ble_eq_true rfl) ?_
  intro p e s m below meth c ls hC hr hlk hnm hsz hw hl
  have hx := hC.1
  have hb := hC.2.1
  have hl : lv_has ls 4 [(0, .ref (ad 0)), (1, .int pl), (2, .int f)] := hl
  refine lv_iconst (v := 0) hx hb dX9_handlerOf_0 (by decide) ?_
  refine lv_istore_n (lv' := [(3, .int 0), (0, .ref (ad 0)), (1, .int pl), (2, .int f)]) hx hb dX9_handlerOf_1 rfl hl (by decide) rfl (fun ls hl => ?_)
  exact lp_X9_handlerOf hC hw pl f hm hh h16 (fun pc ls r hd hq => r_iret hC hr hlk hw () rfl hq (Nat.le_of_ble_eq_true rfl) (Nat.le_of_ble_eq_true rfl) hd) hm 0 0 ls nI_0.symm (by omega) rfl (lv_sub hl [0, 1, 2, 3] rfl)

set_option maxHeartbeats 4000000 in
set_option maxRecDepth 100000 in
theorem lp_X9_fails {p : Program} {l : Launch} {e : Env} {R : Room} {s : State} {m : MethodId} {args : Array Value} {below : List Frame} {meth : Method} {c : Code} {cells slots : Nat} {Q : State → Prop} {D : va_G} {q : Nat → ClassId} {A : Nat → Prop} {H0 : Heap} {ad : Nat → Nat} {κ : KS} {t : Nat → Int32} (hC : CallFix p m c cX9_fails 4 s args wsX9_fails RX9) (hR : R = rmz 1 23) (h00 : cells = 0 ∧ slots = 0) (op f : Int32) (hm : Nat) (hh : sI κ 1 = nI hm) (h16 : hm ≤ 16) (kk : ∀ (n : Nat) (fd : Int32) (H : Heap) (locs : List Loc) (ls : Array Slot), (fd, n) = fR κ f → rX D q A H0 s (wM q ad (uI (fK κ f) 6 (nI n)) t) H locs → lv_has ls 4 [(3, .int fd), (0, .ref (ad 0)), (1, .int op), (2, .int f)] → W p l e R s m args below meth c H locs cells slots Q (F0 m 72 ls [])) : ∀ (n : Nat) (fd : Int32) (H : Heap) (locs : List Loc) (ls : Array Slot), n ≤ 12 → fSeek κ f hm n fd = fR κ f → rX D q A H0 s (wM q ad (uI (fK κ f) 6 (nI n)) t) H locs → lv_has ls 4 [(3, .int fd), (0, .ref (ad 0)), (1, .int op), (2, .int f)] → W p l e R s m args below meth c H locs cells slots Q (F0 m 33 ls []) := by
  subst hR
  obtain ⟨rfl, rfl⟩ := h00
  have hx := hC.1
  have hb := hC.2.1
  intro n
  induction n with
  | zero =>
    intro fd H locs ls h12 hs hw hl
    refine lv_iload_n hx hb dX9_fails_33 rfl (lv_at hl 0 rfl) ?_
    refine lv_if_ge (tgt := 72) hx hb dX9_fails_34 (by decide) (fun c_1 => ?_) (fun c_1 => ?_)
    · exact kk _ _ _ _ _ hs hw hl
    · refine lv_aload_n hx hb dX9_fails_37 rfl (lv_at hl 1 rfl) ?_
      refine r_get hC hw rk9 in_X9_fails_9 0 (wMl 0 (by decide)) wM0 22 (by decide) lk_X9_fails_98 (v := .int (nI 0)) rfl dX9_fails_38 ?_
      refine lv_if_le (tgt := 72) hx hb dX9_fails_41 (by decide) (fun _ => ?_) (fun c_ => absurd (by rw [nI_0]; exact Int32.le_refl _) c_)
      exact kk _ _ _ _ _ hs hw hl
  | succ n ih =>
    intro fd H locs ls h12 hs hw hl
    refine lv_iload_n hx hb dX9_fails_33 rfl (lv_at hl 0 rfl) ?_
    refine lv_if_ge (tgt := 72) hx hb dX9_fails_34 (by decide) (fun c_1 => ?_) (fun c_1 => ?_)
    · exact kk _ _ _ _ _ ((if_pos c_1).symm.trans hs) hw hl
    · refine lv_aload_n hx hb dX9_fails_37 rfl (lv_at hl 1 rfl) ?_
      refine r_get hC hw rk9 in_X9_fails_9 0 (wMl 0 (by decide)) wM0 22 (by decide) lk_X9_fails_98 (v := .int (nI (n + 1))) rfl dX9_fails_38 ?_
      refine lv_if_le (tgt := 72) hx hb dX9_fails_41 (by decide) (fun c_ => absurd c_ (nI_nle (by omega) (by omega))) (fun _ => ?_)
      refine lv_aload_n hx hb dX9_fails_44 rfl (lv_at hl 1 rfl) ?_
      refine lv_dup hx hb dX9_fails_45 rfl ?_
      refine r_get hC hw rk9 in_X9_fails_9 0 (wMl 0 (by decide)) wM0 22 (by decide) lk_X9_fails_98 (v := .int (nI (n + 1))) rfl dX9_fails_46 ?_
      refine lv_iconst (v := 1) hx hb dX9_fails_49 (by decide) ?_
      refine lv_isub hx hb dX9_fails_50 ?_
      refine r_topi (y := nI n) (nI_pred n) ?_
      refine r_put hC hw rk9 in_X9_fails_9 0 (wMl 0 (by decide)) wM0 22 (by decide) lk_X9_fails_98 rfl rfl rfl (Nat.le_of_ble_eq_true rfl) dX9_fails_51 (fun H locs hw => ?_)
      replace hw := mP_calls hw
      rw [uI_uI] at hw
      refine lv_aload_n hx hb dX9_fails_54 rfl (lv_at hl 1 rfl) ?_
      refine lv_aload_n hx hb dX9_fails_55 rfl (lv_at hl 1 rfl) ?_
      refine r_get hC hw rk9 in_X9_fails_9 0 (wMl 0 (by decide)) wM0 21 (by decide) lk_X9_fails_58 (v := .ref (ad 16)) rfl dX9_fails_56 ?_
      refine lv_aload_n hx hb dX9_fails_59 rfl (lv_at hl 1 rfl) ?_
      refine r_get hC hw rk9 in_X9_fails_9 0 (wMl 0 (by decide)) wM0 22 (by decide) lk_X9_fails_98 (v := .int (nI n)) rfl dX9_fails_60 ?_
      refine r_iald hC hw 16 (wMl 16 (by decide)) wM16 (vp_in_nI (by omega) (by decide)) dX9_fails_63 ?_
      refine r_topi (y := sA κ 9 n) (by rw [nI_clamp (by omega)]; rfl) ?_
      refine lv_iload_n hx hb dX9_fails_64 rfl (lv_at hl 3 rfl) ?_
      refine r_ki hw (r_runV (rest := []) hC hw 0 (c_X9_handlerOf (ad := ad) l _ (sA κ 9 n) f hm (by exact hh) h16) rk9 (wMl 0 (by decide)) wM0 2 gX9_fails_X9_handlerOf rfl rfl rfl (by decide +kernel) ⟨Nat.le_of_ble_eq_true rfl, Nat.le_of_ble_eq_true rfl⟩ rfl hl.1 rfl (Nat.le_of_ble_eq_true rfl) dX9_fails_65 ⟨Nat.le_of_ble_eq_true rfl, Nat.le_of_ble_eq_true rfl⟩) (fun r_3 u_4 H locs h_2 hw => ?_)
      rw [fK, hSeek_uI, hSeek_uI, hSeek_uI, hSeek_uI] at h_2
      subst h_2
      refine lv_istore_n (lv' := [(3, .int (hSeek κ (sA κ 9 n) f hm 0)), (0, .ref (ad 0)), (1, .int op), (2, .int f)]) hx hb dX9_fails_68 rfl hl (by decide) rfl (fun ls hl => ?_)
      refine lv_goto (tgt := 33) hx hb dX9_fails_69 (by decide) ?_
      exact ih _ H locs ls (by omega) ((if_neg c_1).symm.trans hs) hw (lv_sub hl [0, 1, 2, 3] rfl)

set_option maxHeartbeats 4000000 in
set_option maxRecDepth 100000 in
theorem c_X9_fails (l : Launch) {D : va_G} {q : Nat → ClassId} {ad : Nat → Nat} {κ : KS} {t : Nat → Int32} (sz : Nat) (op f : Int32) (hm cn : Nat) (hh : sI κ 1 = nI hm) (h16 : hm ≤ 16) (hcn : sI κ 6 = nI cn) (h12 : cn ≤ 12) (hia : op = 68 → vp_in (t 0) 8) : Met l yX9_fails wsX9_fails (rmz 1 23) (va_Pc [.ref (ad 0), .int op, .int f] (rPre D q (wM q ad κ t) sz)) (va_Qv (fun (u : KS × (Nat → Int32)) => u = (failK κ f, failU κ t op f)) (fun (u : KS × (Nat → Int32)) tt => rPo D (rA (wM q ad κ t) sz) (wM q ad u.1 u.2) tt) (rA (wM q ad κ t) sz)) 0 0 (rA (wM q ad κ t) sz) := by
  refine r_start (cc := cX9_fails) (maxL := 4) (ret := none) (by decide) rfl (Nat.le_of_ble_eq_true rfl) ?_
  intro p e s m below meth c ls hC hr hlk hnm hsz hw hl
  have hx := hC.1
  have hb := hC.2.1
  have hl : lv_has ls 4 [(0, .ref (ad 0)), (1, .int op), (2, .int f)] := hl
  refine lv_aload_n hx hb dX9_fails_0 rfl (lv_at hl 0 rfl) ?_
  refine lv_dup hx hb dX9_fails_1 rfl ?_
  refine r_get hC hw rk9 in_X9_fails_9 0 (wMl 0 (by decide)) wM0 25 (by decide) lk_X9_fails_104 (v := .int (sI κ 8)) rfl dX9_fails_2 ?_
  refine lv_iconst (v := 1) hx hb dX9_fails_5 (by decide) ?_
  refine lv_iadd hx hb dX9_fails_6 ?_
  refine r_put hC hw rk9 in_X9_fails_9 0 (wMl 0 (by decide)) wM0 25 (by decide) lk_X9_fails_104 rfl rfl rfl (Nat.le_of_ble_eq_true rfl) dX9_fails_7 (fun H locs hw => ?_)
  replace hw := mP_failures hw
  refine lv_aload_n hx hb dX9_fails_10 rfl (lv_at hl 0 rfl) ?_
  refine lv_iload_n hx hb dX9_fails_11 rfl (lv_at hl 2 rfl) ?_
  refine r_put hC hw rk9 in_X9_fails_9 0 (wMl 0 (by decide)) wM0 26 (by decide) lk_X9_fails_107 rfl rfl rfl (Nat.le_of_ble_eq_true rfl) dX9_fails_12 (fun H locs hw => ?_)
  replace hw := mP_latest hw
  refine lv_aload_n hx hb dX9_fails_15 rfl (lv_at hl 0 rfl) ?_
  refine lv_aload_n hx hb dX9_fails_16 rfl (lv_at hl 0 rfl) ?_
  refine r_get hC hw rk9 in_X9_fails_9 0 (wMl 0 (by decide)) wM0 19 (by decide) lk_X9_fails_92 (v := .int (sI κ 4)) rfl dX9_fails_17 ?_
  refine r_put hC hw rk9 in_X9_fails_9 0 (wMl 0 (by decide)) wM0 27 (by decide) lk_X9_fails_64 rfl rfl rfl (Nat.le_of_ble_eq_true rfl) dX9_fails_20 (fun H locs hw => ?_)
  replace hw := mP_latestPlace hw
  refine lv_aload_n hx hb dX9_fails_23 rfl (lv_at hl 0 rfl) ?_
  refine lv_aload_n hx hb dX9_fails_24 rfl (lv_at hl 0 rfl) ?_
  refine r_get hC hw rk9 in_X9_fails_9 0 (wMl 0 (by decide)) wM0 19 (by decide) lk_X9_fails_92 (v := .int (sI κ 4)) rfl dX9_fails_25 ?_
  refine lv_iload_n hx hb dX9_fails_28 rfl (lv_at hl 2 rfl) ?_
  refine r_ki hw (r_runV (rest := []) hC hw 0 (c_X9_handlerOf (ad := ad) l _ (sI κ 4) f hm (by exact hh) h16) rk9 (wMl 0 (by decide)) wM0 2 gX9_fails_X9_handlerOf rfl rfl rfl (by decide +kernel) ⟨Nat.le_of_ble_eq_true rfl, Nat.le_of_ble_eq_true rfl⟩ rfl hl.1 rfl (Nat.le_of_ble_eq_true rfl) dX9_fails_29 ⟨Nat.le_of_ble_eq_true rfl, Nat.le_of_ble_eq_true rfl⟩) (fun r_2 u_3 H locs h_1 hw => ?_)
  rw [hSeek_uI, hSeek_uI, hSeek_uI] at h_1
  subst h_1
  refine lv_istore_n (lv' := [(3, .int (hSeek κ (sI κ 4) f hm 0)), (0, .ref (ad 0)), (1, .int op), (2, .int f)]) hx hb dX9_fails_32 rfl hl (by decide) rfl (fun ls hl => ?_)
  replace hw : rX D q (rA (wM q ad κ t) sz) s.heap s (wM q ad (uI (fK κ f) 6 (nI cn)) t) H locs := by rw [show nI cn = sI (fK κ f) 6 from hcn.symm, uI_same]; exact hw
  refine lp_X9_fails hC rfl ⟨rfl, rfl⟩ op f hm hh h16 (fun n fd H locs ls hq hw hl => ?_) cn _ H locs ls h12 (by unfold fR; rw [show aN (sI κ 1) = hm from by rw [hh]; exact nI_clamp (by omega), show aN (sI κ 6) = cn from by rw [hcn]; exact nI_clamp (by omega)]) hw (lv_sub hl [0, 1, 2, 3] rfl)
  have e1 : (fR κ f).1 = fd := by rw [← hq]
  have e2 : (fR κ f).2 = n := by rw [← hq]
  have h64f : 0 ≤ fd → vp_in (4 * fd) 64 ∧ vp_in (4 * fd + 1) 64 ∧ vp_in (4 * fd + 2) 64 ∧ vp_in (4 * fd + 3) 64 := fun h => by
    obtain ⟨j, hj, e⟩ := fR_in hh h16 (by rw [e1]; exact h)
    exact h64 (k := j) (by rw [← e1]; exact e) (by omega)
  refine lv_iload_n hx hb dX9_fails_72 rfl (lv_at hl 0 rfl) ?_
  refine lv_if_ge (tgt := 82) hx hb dX9_fails_73 (by decide) (fun c_4 => ?_) (fun c_4 => ?_)
  · refine lv_aload_n hx hb dX9_fails_82 rfl (lv_at hl 1 rfl) ?_
    refine lv_iload_n hx hb dX9_fails_83 rfl (lv_at hl 3 rfl) ?_
    refine r_put hC hw rk9 in_X9_fails_9 0 (wMl 0 (by decide)) wM0 28 (by decide) lk_X9_fails_110 rfl rfl rfl (Nat.le_of_ble_eq_true rfl) dX9_fails_84 (fun H locs hw => ?_)
    replace hw := mP_handled hw
    refine lv_aload_n hx hb dX9_fails_87 rfl (lv_at hl 1 rfl) ?_
    refine lv_iload_n hx hb dX9_fails_88 rfl (lv_at hl 2 rfl) ?_
    refine lv_bipush (v := 68) hx hb dX9_fails_89 (by decide) ?_
    refine lv_icmp_ne (tgt := 112) hx hb dX9_fails_91 (by decide) (fun c_5 => ?_) (fun c_5 => ?_)
    · refine lv_iconst (v := 0) hx hb dX9_fails_112 (by decide) ?_
      refine r_put hC hw rk9 in_X9_fails_9 0 (wMl 0 (by decide)) wM0 29 (by decide) lk_X9_fails_113 rfl rfl rfl (Nat.le_of_ble_eq_true rfl) dX9_fails_113 (fun H locs hw => ?_)
      replace hw := mP_thrown hw
      refine lv_aload_n hx hb dX9_fails_116 rfl (lv_at hl 1 rfl) ?_
      refine lv_aload_n hx hb dX9_fails_117 rfl (lv_at hl 1 rfl) ?_
      refine r_get hC hw rk9 in_X9_fails_9 0 (wMl 0 (by decide)) wM0 2 (by decide) lk_X9_fails_13 (v := .ref (ad 2)) rfl dX9_fails_118 ?_
      refine lv_iconst (v := 4) hx hb dX9_fails_121 (by decide) ?_
      refine lv_iload_n hx hb dX9_fails_122 rfl (lv_at hl 0 rfl) ?_
      refine lv_imul hx hb dX9_fails_123 ?_
      refine lv_iconst (v := 3) hx hb dX9_fails_124 (by decide) ?_
      refine lv_iadd hx hb dX9_fails_125 ?_
      refine r_iald hC hw 2 (wMl 2 (by decide)) wM2 (h64f c_4).2.2.2 dX9_fails_126 ?_
      refine r_topi (y := sA κ 1 (aN ((4 * fd) + 3))) (by rfl) ?_
      refine r_put hC hw rk9 in_X9_fails_9 0 (wMl 0 (by decide)) wM0 33 (by decide) lk_X9_fails_174 rfl rfl rfl (Nat.le_of_ble_eq_true rfl) dX9_fails_127 (fun H locs hw => ?_)
      replace hw := mP_after hw
      exact r_vret hC hr hlk hw ((uI (fK κ f) 6 (nI n)), (va_up (va_up (va_up t 4 f) 5 0) 3 (sA κ 1 (aN ((4 * fd) + 3))))) rfl (by unfold failK failU; rw [e1, e2, if_pos c_4, if_pos c_4, (if_neg (fun h => c_5 h.1))]) (Nat.le_of_ble_eq_true rfl) (Nat.le_of_ble_eq_true rfl) dX9_fails_130
    · refine lv_iload_n hx hb dX9_fails_94 rfl (lv_at hl 3 rfl) ?_
      refine lv_bipush (v := 8) hx hb dX9_fails_95 (by decide) ?_
      refine lv_icmp_lt (tgt := 112) hx hb dX9_fails_97 (by decide) (fun c_6 => ?_) (fun c_6 => ?_)
      · refine lv_iconst (v := 0) hx hb dX9_fails_112 (by decide) ?_
        refine r_put hC hw rk9 in_X9_fails_9 0 (wMl 0 (by decide)) wM0 29 (by decide) lk_X9_fails_113 rfl rfl rfl (Nat.le_of_ble_eq_true rfl) dX9_fails_113 (fun H locs hw => ?_)
        replace hw := mP_thrown hw
        refine lv_aload_n hx hb dX9_fails_116 rfl (lv_at hl 1 rfl) ?_
        refine lv_aload_n hx hb dX9_fails_117 rfl (lv_at hl 1 rfl) ?_
        refine r_get hC hw rk9 in_X9_fails_9 0 (wMl 0 (by decide)) wM0 2 (by decide) lk_X9_fails_13 (v := .ref (ad 2)) rfl dX9_fails_118 ?_
        refine lv_iconst (v := 4) hx hb dX9_fails_121 (by decide) ?_
        refine lv_iload_n hx hb dX9_fails_122 rfl (lv_at hl 0 rfl) ?_
        refine lv_imul hx hb dX9_fails_123 ?_
        refine lv_iconst (v := 3) hx hb dX9_fails_124 (by decide) ?_
        refine lv_iadd hx hb dX9_fails_125 ?_
        refine r_iald hC hw 2 (wMl 2 (by decide)) wM2 (h64f c_4).2.2.2 dX9_fails_126 ?_
        refine r_topi (y := sA κ 1 (aN ((4 * fd) + 3))) (by rfl) ?_
        refine r_put hC hw rk9 in_X9_fails_9 0 (wMl 0 (by decide)) wM0 33 (by decide) lk_X9_fails_174 rfl rfl rfl (Nat.le_of_ble_eq_true rfl) dX9_fails_127 (fun H locs hw => ?_)
        replace hw := mP_after hw
        exact r_vret hC hr hlk hw ((uI (fK κ f) 6 (nI n)), (va_up (va_up (va_up t 4 f) 5 0) 3 (sA κ 1 (aN ((4 * fd) + 3))))) rfl (by unfold failK failU; rw [e1, e2, if_pos c_4, if_pos c_4, (if_neg (fun h => Int32.not_le.mpr c_6 h.2))]) (Nat.le_of_ble_eq_true rfl) (Nat.le_of_ble_eq_true rfl) dX9_fails_130
      · refine lv_aload_n hx hb dX9_fails_100 rfl (lv_at hl 1 rfl) ?_
        refine r_get hC hw rk9 in_X9_fails_9 0 (wMl 0 (by decide)) wM0 8 (by decide) lk_X9_fails_31 (v := .ref (ad 7)) rfl dX9_fails_101 ?_
        refine lv_aload_n hx hb dX9_fails_104 rfl (lv_at hl 1 rfl) ?_
        refine r_get hC hw rk9 in_X9_fails_9 0 (wMl 0 (by decide)) wM0 30 (by decide) lk_X9_fails_142 (v := .int (t 0)) rfl dX9_fails_105 ?_
        refine r_iald hC hw 7 (wMl 7 (by decide)) wM7 (hia c_5) dX9_fails_108 ?_
        refine r_topi (y := sA κ 3 (aN (t 0))) (by rfl) ?_
        refine lv_goto (tgt := 113) hx hb dX9_fails_109 (by decide) ?_
        refine r_put hC hw rk9 in_X9_fails_9 0 (wMl 0 (by decide)) wM0 29 (by decide) lk_X9_fails_113 rfl rfl rfl (Nat.le_of_ble_eq_true rfl) dX9_fails_113 (fun H locs hw => ?_)
        replace hw := mP_thrown hw
        refine lv_aload_n hx hb dX9_fails_116 rfl (lv_at hl 1 rfl) ?_
        refine lv_aload_n hx hb dX9_fails_117 rfl (lv_at hl 1 rfl) ?_
        refine r_get hC hw rk9 in_X9_fails_9 0 (wMl 0 (by decide)) wM0 2 (by decide) lk_X9_fails_13 (v := .ref (ad 2)) rfl dX9_fails_118 ?_
        refine lv_iconst (v := 4) hx hb dX9_fails_121 (by decide) ?_
        refine lv_iload_n hx hb dX9_fails_122 rfl (lv_at hl 0 rfl) ?_
        refine lv_imul hx hb dX9_fails_123 ?_
        refine lv_iconst (v := 3) hx hb dX9_fails_124 (by decide) ?_
        refine lv_iadd hx hb dX9_fails_125 ?_
        refine r_iald hC hw 2 (wMl 2 (by decide)) wM2 (h64f c_4).2.2.2 dX9_fails_126 ?_
        refine r_topi (y := sA κ 1 (aN ((4 * fd) + 3))) (by rfl) ?_
        refine r_put hC hw rk9 in_X9_fails_9 0 (wMl 0 (by decide)) wM0 33 (by decide) lk_X9_fails_174 rfl rfl rfl (Nat.le_of_ble_eq_true rfl) dX9_fails_127 (fun H locs hw => ?_)
        replace hw := mP_after hw
        exact r_vret hC hr hlk hw ((uI (fK κ f) 6 (nI n)), (va_up (va_up (va_up t 4 f) 5 (sA κ 3 (aN (t 0)))) 3 (sA κ 1 (aN ((4 * fd) + 3))))) rfl (by unfold failK failU; rw [e1, e2, if_pos c_4, if_pos c_4, (if_pos ⟨c_5, Int32.not_lt.mp c_6⟩)]) (Nat.le_of_ble_eq_true rfl) (Nat.le_of_ble_eq_true rfl) dX9_fails_130
  · refine lv_aload_n hx hb dX9_fails_76 rfl (lv_at hl 1 rfl) ?_
    refine lv_iconst (v := 3) hx hb dX9_fails_77 (by decide) ?_
    refine r_put hC hw rk9 in_X9_fails_9 0 (wMl 0 (by decide)) wM0 18 (by decide) lk_X9_fails_83 rfl rfl rfl (Nat.le_of_ble_eq_true rfl) dX9_fails_78 (fun H locs hw => ?_)
    replace hw := mP_status hw
    exact r_vret hC hr hlk hw ((uI (uI (fK κ f) 6 (nI n)) 3 3), t) rfl (by unfold failK failU; rw [e1, e2, if_neg c_4, if_neg c_4]) (Nat.le_of_ble_eq_true rfl) (Nat.le_of_ble_eq_true rfl) dX9_fails_81

