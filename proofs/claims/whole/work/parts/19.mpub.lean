theorem in199 {x : Int32} (h : pIn x 0 199) : vp_in x 200 := by
  obtain ⟨j, hj, e⟩ := nI_of2 (M := 199) (n := 199) (by decide) h.1 (Int32.not_lt.mp h.2)
  rw [e]; exact vp_in_nI (by omega) (by decide)
theorem in200t {x m : Int32} (h0 : ¬ m < 0) (h1 : ¬ 200 ≤ m) (h : pIn x 0 (m - 1)) : vp_in x 200 := by
  obtain ⟨n, hn, rfl⟩ := nI_of h0
  have hn2 : n < 200 := by
    rcases Nat.lt_or_ge n 200 with q | q
    · exact q
    · exact absurd (nI_le q hn) h1
  cases n with
  | zero => exact absurd (show (nI 0 - 1 : Int32) < x from Int32.lt_of_lt_of_le (b := 0) (by decide) (Int32.not_lt.mp h.1)) h.2
  | succ n =>
    have h2 := h.2
    rw [nI_pred] at h2
    obtain ⟨j, hj, rfl⟩ := nI_of h.1
    have : ¬ n < j := fun q => h2 (nI_lt q (by omega))
    exact vp_in_nI (by omega) (by decide)
def putK (κ : KS) (op xa xb xc : Int32) : KS := uI (uI (uA (uA (uA (uA κ 0 (aN (4 * sI κ 0)) op) 0 (aN ((4 * sI κ 0) + 1)) xa) 0 (aN ((4 * sI κ 0) + 2)) xb) 0 (aN ((4 * sI κ 0) + 3)) xc) 0 (sI κ 0 + 1)) 3 0
def putR (κ : KS) (t : Nat → Int32) (op xa xb xc : Int32) : Int32 × (KS × (Nat → Int32)) := if pIn op 0 73 then (if tld (dg (aN op) / 100) xa = true then (if tld (dg (aN op) / 10 % 10) xb = true then (if tld (dg (aN op) % 10) xc = true then (if (sI κ 0) = 150 then (-2, (κ, t)) else (sI κ 0 + 1, (putK κ op xa xb xc, t))) else (-1, (κ, t))) else (-1, (κ, t))) else (-1, (κ, t))) else (-1, (κ, t))
set_option maxHeartbeats 4000000 in
set_option maxRecDepth 100000 in
theorem c_X9_put (l : Launch) {D : va_G} {q : Nat → ClassId} {ad : Nat → Nat} {κ : KS} {t : Nat → Int32} (sz : Nat) (op xa xb xc : Int32) (hmany : ∃ n, n ≤ 150 ∧ sI κ 0 = nI n) : Met l yX9_put wsX9_put (rmz 2 47) (va_Pc [.ref (ad 0), .int op, .int xa, .int xb, .int xc] (rPre D q (wM q ad κ t) sz)) (va_Qi (fun (r : Int32) (u : KS × (Nat → Int32)) => (r, u) = putR κ t op xa xb xc) (fun (u : KS × (Nat → Int32)) tt => rPo D (rA (wM q ad κ t) sz) (wM q ad u.1 u.2) tt) (rA (wM q ad κ t) sz)) 0 0 (rA (wM q ad κ t) sz) := by
  refine r_start (cc := cX9_put) (maxL := 5) (ret := (some .int)) (by decide) rfl (Nat.le_of_ble_eq_true rfl) ?_
  intro p e s m below meth c ls hC hr hlk hnm hsz hw hl
  have hx := hC.1
  have hb := hC.2.1
  have hl : lv_has ls 5 [(0, .ref (ad 0)), (1, .int op), (2, .int xa), (3, .int xb), (4, .int xc)] := hl
  refine lv_iload_n hx hb dX9_put_0 rfl (lv_at hl 1 rfl) ?_
  refine lv_iconst (v := 0) hx hb dX9_put_1 (by decide) ?_
  refine lv_bipush (v := 73) hx hb dX9_put_2 (by decide) ?_
  refine r_ki hw (r_runS (rest := []) hC hw (c_X9_isIn l _ _ op 0 73) 3 gX9_put_X9_isIn rfl rfl rfl (by decide +kernel) ⟨Nat.le_of_ble_eq_true rfl, Nat.le_of_ble_eq_true rfl⟩ rfl hl.1 rfl (Nat.le_of_ble_eq_true rfl) dX9_put_4 ⟨Nat.le_of_ble_eq_true rfl, Nat.le_of_ble_eq_true rfl⟩) (fun r_2 u_3 H locs h_1 hw => ?_)
  by_cases c_4 : pIn op 0 73
  · rw [if_pos c_4] at h_1
    subst h_1
    refine lv_if_eq (tgt := 47) hx hb dX9_put_7 (by decide) (fun c_ => absurd c_ (by decide)) (fun _ => ?_)
    refine lv_iload_n hx hb dX9_put_10 rfl (lv_at hl 1 rfl) ?_
    refine lv_iconst (v := 0) hx hb dX9_put_11 (by decide) ?_
    refine r_ki hw (r_runS (rest := []) hC hw (c_X9_names l _ _ (aN op) op (nI73 c_4).1 (nI73 c_4).2 0) 2 gX9_put_X9_names rfl rfl rfl (by decide +kernel) ⟨Nat.le_of_ble_eq_true rfl, Nat.le_of_ble_eq_true rfl⟩ rfl hl.1 rfl (Nat.le_of_ble_eq_true rfl) dX9_put_12 ⟨Nat.le_of_ble_eq_true rfl, Nat.le_of_ble_eq_true rfl⟩) (fun r_6 u_7 H locs h_5 hw => ?_)
    rw [if_pos rfl] at h_5
    subst h_5
    refine lv_iload_n hx hb dX9_put_15 rfl (lv_at hl 2 rfl) ?_
    refine r_ki hw (r_runS (rest := []) hC hw (c_X9_isTold l _ _ (dg (aN op) / 100) (dg9 _ (nI73 c_4).1).1 xa) 2 gX9_put_X9_isTold rfl rfl rfl (by decide +kernel) ⟨Nat.le_of_ble_eq_true rfl, Nat.le_of_ble_eq_true rfl⟩ rfl hl.1 rfl (Nat.le_of_ble_eq_true rfl) dX9_put_16 ⟨Nat.le_of_ble_eq_true rfl, Nat.le_of_ble_eq_true rfl⟩) (fun r_9 u_10 H locs h_8 hw => ?_)
    by_cases c_11 : tld (dg (aN op) / 100) xa = true
    · rw [if_pos c_11] at h_8
      subst h_8
      refine lv_if_eq (tgt := 47) hx hb dX9_put_19 (by decide) (fun c_ => absurd c_ (by decide)) (fun _ => ?_)
      refine lv_iload_n hx hb dX9_put_22 rfl (lv_at hl 1 rfl) ?_
      refine lv_iconst (v := 1) hx hb dX9_put_23 (by decide) ?_
      refine r_ki hw (r_runS (rest := []) hC hw (c_X9_names l _ _ (aN op) op (nI73 c_4).1 (nI73 c_4).2 1) 2 gX9_put_X9_names rfl rfl rfl (by decide +kernel) ⟨Nat.le_of_ble_eq_true rfl, Nat.le_of_ble_eq_true rfl⟩ rfl hl.1 rfl (Nat.le_of_ble_eq_true rfl) dX9_put_24 ⟨Nat.le_of_ble_eq_true rfl, Nat.le_of_ble_eq_true rfl⟩) (fun r_13 u_14 H locs h_12 hw => ?_)
      rw [if_neg (by decide), if_pos rfl] at h_12
      subst h_12
      refine lv_iload_n hx hb dX9_put_27 rfl (lv_at hl 3 rfl) ?_
      refine r_ki hw (r_runS (rest := []) hC hw (c_X9_isTold l _ _ (dg (aN op) / 10 % 10) (dg9 _ (nI73 c_4).1).2.1 xb) 2 gX9_put_X9_isTold rfl rfl rfl (by decide +kernel) ⟨Nat.le_of_ble_eq_true rfl, Nat.le_of_ble_eq_true rfl⟩ rfl hl.1 rfl (Nat.le_of_ble_eq_true rfl) dX9_put_28 ⟨Nat.le_of_ble_eq_true rfl, Nat.le_of_ble_eq_true rfl⟩) (fun r_16 u_17 H locs h_15 hw => ?_)
      by_cases c_18 : tld (dg (aN op) / 10 % 10) xb = true
      · rw [if_pos c_18] at h_15
        subst h_15
        refine lv_if_eq (tgt := 47) hx hb dX9_put_31 (by decide) (fun c_ => absurd c_ (by decide)) (fun _ => ?_)
        refine lv_iload_n hx hb dX9_put_34 rfl (lv_at hl 1 rfl) ?_
        refine lv_iconst (v := 2) hx hb dX9_put_35 (by decide) ?_
        refine r_ki hw (r_runS (rest := []) hC hw (c_X9_names l _ _ (aN op) op (nI73 c_4).1 (nI73 c_4).2 2) 2 gX9_put_X9_names rfl rfl rfl (by decide +kernel) ⟨Nat.le_of_ble_eq_true rfl, Nat.le_of_ble_eq_true rfl⟩ rfl hl.1 rfl (Nat.le_of_ble_eq_true rfl) dX9_put_36 ⟨Nat.le_of_ble_eq_true rfl, Nat.le_of_ble_eq_true rfl⟩) (fun r_20 u_21 H locs h_19 hw => ?_)
        rw [if_neg (by decide), if_neg (by decide)] at h_19
        subst h_19
        refine lv_iload hx hb dX9_put_39 (lv_at hl 4 rfl) ?_
        refine r_ki hw (r_runS (rest := []) hC hw (c_X9_isTold l _ _ (dg (aN op) % 10) (dg9 _ (nI73 c_4).1).2.2 xc) 2 gX9_put_X9_isTold rfl rfl rfl (by decide +kernel) ⟨Nat.le_of_ble_eq_true rfl, Nat.le_of_ble_eq_true rfl⟩ rfl hl.1 rfl (Nat.le_of_ble_eq_true rfl) dX9_put_41 ⟨Nat.le_of_ble_eq_true rfl, Nat.le_of_ble_eq_true rfl⟩) (fun r_23 u_24 H locs h_22 hw => ?_)
        by_cases c_25 : tld (dg (aN op) % 10) xc = true
        · rw [if_pos c_25] at h_22
          subst h_22
          refine lv_if_ne (tgt := 49) hx hb dX9_put_44 (by decide) (fun _ => ?_) (fun c_ => absurd c_ (by decide))
          refine lv_aload_n hx hb dX9_put_49 rfl (lv_at hl 0 rfl) ?_
          refine r_get hC hw rk9 in_X9_put_9 0 (wMl 0 (by decide)) wM0 1 (by decide) lk_X9_put_80 (v := .int (sI κ 0)) rfl dX9_put_50 ?_
          refine lv_sipush (v := 150) hx hb dX9_put_53 (by decide) ?_
          refine lv_icmp_ne (tgt := 62) hx hb dX9_put_56 (by decide) (fun c_26 => ?_) (fun c_26 => ?_)
          · obtain ⟨mn, hmn, hmx⟩ := hmany
            have h6 := h600 (K := sI κ 0) (k := mn) hmx (by have : mn ≠ 150 := fun q => c_26 (by rw [hmx, q]; rfl); omega)
            refine lv_aload_n hx hb dX9_put_62 rfl (lv_at hl 0 rfl) ?_
            refine r_get hC hw rk9 in_X9_put_9 0 (wMl 0 (by decide)) wM0 0 (by decide) lk_X9_put_7 (v := .ref (ad 1)) rfl dX9_put_63 ?_
            refine lv_iconst (v := 4) hx hb dX9_put_66 (by decide) ?_
            refine lv_aload_n hx hb dX9_put_67 rfl (lv_at hl 0 rfl) ?_
            refine r_get hC hw rk9 in_X9_put_9 0 (wMl 0 (by decide)) wM0 1 (by decide) lk_X9_put_80 (v := .int (sI κ 0)) rfl dX9_put_68 ?_
            refine lv_imul hx hb dX9_put_71 ?_
            refine lv_iload_n hx hb dX9_put_72 rfl (lv_at hl 1 rfl) ?_
            refine r_iast hC hw 1 (wMl 1 (by decide)) wM1 h6.1 dX9_put_73 (fun H locs hw => ?_)
            replace hw := mS_steps hw
            refine lv_aload_n hx hb dX9_put_74 rfl (lv_at hl 0 rfl) ?_
            refine r_get hC hw rk9 in_X9_put_9 0 (wMl 0 (by decide)) wM0 0 (by decide) lk_X9_put_7 (v := .ref (ad 1)) rfl dX9_put_75 ?_
            refine lv_iconst (v := 4) hx hb dX9_put_78 (by decide) ?_
            refine lv_aload_n hx hb dX9_put_79 rfl (lv_at hl 0 rfl) ?_
            refine r_get hC hw rk9 in_X9_put_9 0 (wMl 0 (by decide)) wM0 1 (by decide) lk_X9_put_80 (v := .int (sI κ 0)) rfl dX9_put_80 ?_
            refine lv_imul hx hb dX9_put_83 ?_
            refine lv_iconst (v := 1) hx hb dX9_put_84 (by decide) ?_
            refine lv_iadd hx hb dX9_put_85 ?_
            refine lv_iload_n hx hb dX9_put_86 rfl (lv_at hl 2 rfl) ?_
            refine r_iast hC hw 1 (wMl 1 (by decide)) wM1 h6.2.1 dX9_put_87 (fun H locs hw => ?_)
            replace hw := mS_steps hw
            refine lv_aload_n hx hb dX9_put_88 rfl (lv_at hl 0 rfl) ?_
            refine r_get hC hw rk9 in_X9_put_9 0 (wMl 0 (by decide)) wM0 0 (by decide) lk_X9_put_7 (v := .ref (ad 1)) rfl dX9_put_89 ?_
            refine lv_iconst (v := 4) hx hb dX9_put_92 (by decide) ?_
            refine lv_aload_n hx hb dX9_put_93 rfl (lv_at hl 0 rfl) ?_
            refine r_get hC hw rk9 in_X9_put_9 0 (wMl 0 (by decide)) wM0 1 (by decide) lk_X9_put_80 (v := .int (sI κ 0)) rfl dX9_put_94 ?_
            refine lv_imul hx hb dX9_put_97 ?_
            refine lv_iconst (v := 2) hx hb dX9_put_98 (by decide) ?_
            refine lv_iadd hx hb dX9_put_99 ?_
            refine lv_iload_n hx hb dX9_put_100 rfl (lv_at hl 3 rfl) ?_
            refine r_iast hC hw 1 (wMl 1 (by decide)) wM1 h6.2.2.1 dX9_put_101 (fun H locs hw => ?_)
            replace hw := mS_steps hw
            refine lv_aload_n hx hb dX9_put_102 rfl (lv_at hl 0 rfl) ?_
            refine r_get hC hw rk9 in_X9_put_9 0 (wMl 0 (by decide)) wM0 0 (by decide) lk_X9_put_7 (v := .ref (ad 1)) rfl dX9_put_103 ?_
            refine lv_iconst (v := 4) hx hb dX9_put_106 (by decide) ?_
            refine lv_aload_n hx hb dX9_put_107 rfl (lv_at hl 0 rfl) ?_
            refine r_get hC hw rk9 in_X9_put_9 0 (wMl 0 (by decide)) wM0 1 (by decide) lk_X9_put_80 (v := .int (sI κ 0)) rfl dX9_put_108 ?_
            refine lv_imul hx hb dX9_put_111 ?_
            refine lv_iconst (v := 3) hx hb dX9_put_112 (by decide) ?_
            refine lv_iadd hx hb dX9_put_113 ?_
            refine lv_iload hx hb dX9_put_114 (lv_at hl 4 rfl) ?_
            refine r_iast hC hw 1 (wMl 1 (by decide)) wM1 h6.2.2.2 dX9_put_116 (fun H locs hw => ?_)
            replace hw := mS_steps hw
            refine lv_aload_n hx hb dX9_put_117 rfl (lv_at hl 0 rfl) ?_
            refine lv_dup hx hb dX9_put_118 rfl ?_
            refine r_get hC hw rk9 in_X9_put_9 0 (wMl 0 (by decide)) wM0 1 (by decide) lk_X9_put_80 (v := .int (sI κ 0)) rfl dX9_put_119 ?_
            refine lv_iconst (v := 1) hx hb dX9_put_122 (by decide) ?_
            refine lv_iadd hx hb dX9_put_123 ?_
            refine r_put hC hw rk9 in_X9_put_9 0 (wMl 0 (by decide)) wM0 1 (by decide) lk_X9_put_80 rfl rfl rfl (Nat.le_of_ble_eq_true rfl) dX9_put_124 (fun H locs hw => ?_)
            replace hw := mP_many hw
            refine lv_aload_n hx hb dX9_put_127 rfl (lv_at hl 0 rfl) ?_
            refine lv_iconst (v := 0) hx hb dX9_put_128 (by decide) ?_
            refine r_put hC hw rk9 in_X9_put_9 0 (wMl 0 (by decide)) wM0 18 (by decide) lk_X9_put_83 rfl rfl rfl (Nat.le_of_ble_eq_true rfl) dX9_put_129 (fun H locs hw => ?_)
            replace hw := mP_status hw
            refine lv_aload_n hx hb dX9_put_132 rfl (lv_at hl 0 rfl) ?_
            refine r_get hC hw rk9 in_X9_put_9 0 (wMl 0 (by decide)) wM0 1 (by decide) lk_X9_put_80 (v := .int ((sI κ 0) + 1)) rfl dX9_put_133 ?_
            exact r_iret hC hr hlk hw ((uI (uI (uA (uA (uA (uA κ 0 (aN (4 * (sI κ 0))) op) 0 (aN ((4 * (sI κ 0)) + 1)) xa) 0 (aN ((4 * (sI κ 0)) + 2)) xb) 0 (aN ((4 * (sI κ 0)) + 3)) xc) 0 ((sI κ 0) + 1)) 3 0), t) rfl ((if_pos c_4).trans ((if_pos c_11).trans ((if_pos c_18).trans ((if_pos c_25).trans (if_neg c_26))))).symm (Nat.le_of_ble_eq_true rfl) (Nat.le_of_ble_eq_true rfl) dX9_put_136
          · refine lv_bipush (v := (-2)) hx hb dX9_put_59 (by decide) ?_
            exact r_iret hC hr hlk hw (κ, t) rfl ((if_pos c_4).trans ((if_pos c_11).trans ((if_pos c_18).trans ((if_pos c_25).trans (if_pos c_26))))).symm (Nat.le_of_ble_eq_true rfl) (Nat.le_of_ble_eq_true rfl) dX9_put_61
        · rw [if_neg c_25] at h_22
          subst h_22
          refine lv_if_ne (tgt := 49) hx hb dX9_put_44 (by decide) (fun c_ => absurd (by decide) c_) (fun _ => ?_)
          refine lv_iconst (v := (-1)) hx hb dX9_put_47 (by decide) ?_
          exact r_iret hC hr hlk hw (κ, t) rfl ((if_pos c_4).trans ((if_pos c_11).trans ((if_pos c_18).trans (if_neg c_25)))).symm (Nat.le_of_ble_eq_true rfl) (Nat.le_of_ble_eq_true rfl) dX9_put_48
      · rw [if_neg c_18] at h_15
        subst h_15
        refine lv_if_eq (tgt := 47) hx hb dX9_put_31 (by decide) (fun _ => ?_) (fun c_ => absurd (by decide) c_)
        refine lv_iconst (v := (-1)) hx hb dX9_put_47 (by decide) ?_
        exact r_iret hC hr hlk hw (κ, t) rfl ((if_pos c_4).trans ((if_pos c_11).trans (if_neg c_18))).symm (Nat.le_of_ble_eq_true rfl) (Nat.le_of_ble_eq_true rfl) dX9_put_48
    · rw [if_neg c_11] at h_8
      subst h_8
      refine lv_if_eq (tgt := 47) hx hb dX9_put_19 (by decide) (fun _ => ?_) (fun c_ => absurd (by decide) c_)
      refine lv_iconst (v := (-1)) hx hb dX9_put_47 (by decide) ?_
      exact r_iret hC hr hlk hw (κ, t) rfl ((if_pos c_4).trans (if_neg c_11)).symm (Nat.le_of_ble_eq_true rfl) (Nat.le_of_ble_eq_true rfl) dX9_put_48
  · rw [if_neg c_4] at h_1
    subst h_1
    refine lv_if_eq (tgt := 47) hx hb dX9_put_7 (by decide) (fun _ => ?_) (fun c_ => absurd (by decide) c_)
    refine lv_iconst (v := (-1)) hx hb dX9_put_47 (by decide) ?_
    exact r_iret hC hr hlk hw (κ, t) rfl (if_neg c_4).symm (Nat.le_of_ble_eq_true rfl) (Nat.le_of_ble_eq_true rfl) dX9_put_48

def hanK (κ : KS) (xa xb xc xd : Int32) : KS := uI (uI (uA (uA (uA (uA κ 1 (aN (4 * sI κ 1)) xa) 1 (aN ((4 * sI κ 1) + 1)) xb) 1 (aN ((4 * sI κ 1) + 2)) xc) 1 (aN ((4 * sI κ 1) + 3)) xd) 1 (sI κ 1 + 1)) 3 0
def hanR (κ : KS) (t : Nat → Int32) (xa xb xc xd : Int32) : Int32 × (KS × (Nat → Int32)) := if tld 6 xa = true then (if tld 6 xb = true then (if tld 6 xd = true then (if (sI κ 1) = 16 then (-2, (κ, t)) else (sI κ 1 + 1, (hanK κ xa xb xc xd, t))) else (-1, (κ, t))) else (-1, (κ, t))) else (-1, (κ, t))
set_option maxHeartbeats 4000000 in
set_option maxRecDepth 100000 in
theorem c_X9_handler (l : Launch) {D : va_G} {q : Nat → ClassId} {ad : Nat → Nat} {κ : KS} {t : Nat → Int32} (sz : Nat) (xa xb xc xd : Int32) (hmany : ∃ n, n ≤ 16 ∧ sI κ 1 = nI n) : Met l yX9_handler wsX9_handler (rmz 2 43) (va_Pc [.ref (ad 0), .int xa, .int xb, .int xc, .int xd] (rPre D q (wM q ad κ t) sz)) (va_Qi (fun (r : Int32) (u : KS × (Nat → Int32)) => (r, u) = hanR κ t xa xb xc xd) (fun (u : KS × (Nat → Int32)) tt => rPo D (rA (wM q ad κ t) sz) (wM q ad u.1 u.2) tt) (rA (wM q ad κ t) sz)) 0 0 (rA (wM q ad κ t) sz) := by
  refine r_start (cc := cX9_handler) (maxL := 5) (ret := (some .int)) (by decide) rfl (Nat.le_of_ble_eq_true rfl) ?_
  intro p e s m below meth c ls hC hr hlk hnm hsz hw hl
  have hx := hC.1
  have hb := hC.2.1
  have hl : lv_has ls 5 [(0, .ref (ad 0)), (1, .int xa), (2, .int xb), (3, .int xc), (4, .int xd)] := hl
  refine lv_bipush (v := 6) hx hb dX9_handler_0 (by decide) ?_
  refine lv_iload_n hx hb dX9_handler_2 rfl (lv_at hl 1 rfl) ?_
  refine r_ki hw (r_runS (rest := []) hC hw (c_X9_isTold_6 l _ _ xa) 2 gX9_handler_X9_isTold rfl rfl rfl (by decide +kernel) ⟨Nat.le_of_ble_eq_true rfl, Nat.le_of_ble_eq_true rfl⟩ rfl hl.1 rfl (Nat.le_of_ble_eq_true rfl) dX9_handler_3 ⟨Nat.le_of_ble_eq_true rfl, Nat.le_of_ble_eq_true rfl⟩) (fun r_2 u_3 H locs h_1 hw => ?_)
  by_cases c_4 : tld 6 xa = true
  · rw [if_pos c_4] at h_1
    subst h_1
    refine lv_if_eq (tgt := 28) hx hb dX9_handler_6 (by decide) (fun c_ => absurd c_ (by decide)) (fun _ => ?_)
    refine lv_bipush (v := 6) hx hb dX9_handler_9 (by decide) ?_
    refine lv_iload_n hx hb dX9_handler_11 rfl (lv_at hl 2 rfl) ?_
    refine r_ki hw (r_runS (rest := []) hC hw (c_X9_isTold_6 l _ _ xb) 2 gX9_handler_X9_isTold rfl rfl rfl (by decide +kernel) ⟨Nat.le_of_ble_eq_true rfl, Nat.le_of_ble_eq_true rfl⟩ rfl hl.1 rfl (Nat.le_of_ble_eq_true rfl) dX9_handler_12 ⟨Nat.le_of_ble_eq_true rfl, Nat.le_of_ble_eq_true rfl⟩) (fun r_6 u_7 H locs h_5 hw => ?_)
    by_cases c_8 : tld 6 xb = true
    · rw [if_pos c_8] at h_5
      subst h_5
      refine lv_if_eq (tgt := 28) hx hb dX9_handler_15 (by decide) (fun c_ => absurd c_ (by decide)) (fun _ => ?_)
      refine lv_bipush (v := 6) hx hb dX9_handler_18 (by decide) ?_
      refine lv_iload hx hb dX9_handler_20 (lv_at hl 4 rfl) ?_
      refine r_ki hw (r_runS (rest := []) hC hw (c_X9_isTold_6 l _ _ xd) 2 gX9_handler_X9_isTold rfl rfl rfl (by decide +kernel) ⟨Nat.le_of_ble_eq_true rfl, Nat.le_of_ble_eq_true rfl⟩ rfl hl.1 rfl (Nat.le_of_ble_eq_true rfl) dX9_handler_22 ⟨Nat.le_of_ble_eq_true rfl, Nat.le_of_ble_eq_true rfl⟩) (fun r_10 u_11 H locs h_9 hw => ?_)
      by_cases c_12 : tld 6 xd = true
      · rw [if_pos c_12] at h_9
        subst h_9
        refine lv_if_ne (tgt := 30) hx hb dX9_handler_25 (by decide) (fun _ => ?_) (fun c_ => absurd c_ (by decide))
        refine lv_aload_n hx hb dX9_handler_30 rfl (lv_at hl 0 rfl) ?_
        refine r_get hC hw rk9 in_X9_handler_9 0 (wMl 0 (by decide)) wM0 3 (by decide) lk_X9_handler_86 (v := .int (sI κ 1)) rfl dX9_handler_31 ?_
        refine lv_bipush (v := 16) hx hb dX9_handler_34 (by decide) ?_
        refine lv_icmp_ne (tgt := 42) hx hb dX9_handler_36 (by decide) (fun c_13 => ?_) (fun c_13 => ?_)
        · obtain ⟨mn, hmn, hmx⟩ := hmany
          have h6 := h64 (K := sI κ 1) (k := mn) hmx (by have : mn ≠ 16 := fun q => c_13 (by rw [hmx, q]; rfl); omega)
          refine lv_aload_n hx hb dX9_handler_42 rfl (lv_at hl 0 rfl) ?_
          refine r_get hC hw rk9 in_X9_handler_9 0 (wMl 0 (by decide)) wM0 2 (by decide) lk_X9_handler_13 (v := .ref (ad 2)) rfl dX9_handler_43 ?_
          refine lv_iconst (v := 4) hx hb dX9_handler_46 (by decide) ?_
          refine lv_aload_n hx hb dX9_handler_47 rfl (lv_at hl 0 rfl) ?_
          refine r_get hC hw rk9 in_X9_handler_9 0 (wMl 0 (by decide)) wM0 3 (by decide) lk_X9_handler_86 (v := .int (sI κ 1)) rfl dX9_handler_48 ?_
          refine lv_imul hx hb dX9_handler_51 ?_
          refine lv_iload_n hx hb dX9_handler_52 rfl (lv_at hl 1 rfl) ?_
          refine r_iast hC hw 2 (wMl 2 (by decide)) wM2 h6.1 dX9_handler_53 (fun H locs hw => ?_)
          replace hw := mS_handlers hw
          refine lv_aload_n hx hb dX9_handler_54 rfl (lv_at hl 0 rfl) ?_
          refine r_get hC hw rk9 in_X9_handler_9 0 (wMl 0 (by decide)) wM0 2 (by decide) lk_X9_handler_13 (v := .ref (ad 2)) rfl dX9_handler_55 ?_
          refine lv_iconst (v := 4) hx hb dX9_handler_58 (by decide) ?_
          refine lv_aload_n hx hb dX9_handler_59 rfl (lv_at hl 0 rfl) ?_
          refine r_get hC hw rk9 in_X9_handler_9 0 (wMl 0 (by decide)) wM0 3 (by decide) lk_X9_handler_86 (v := .int (sI κ 1)) rfl dX9_handler_60 ?_
          refine lv_imul hx hb dX9_handler_63 ?_
          refine lv_iconst (v := 1) hx hb dX9_handler_64 (by decide) ?_
          refine lv_iadd hx hb dX9_handler_65 ?_
          refine lv_iload_n hx hb dX9_handler_66 rfl (lv_at hl 2 rfl) ?_
          refine r_iast hC hw 2 (wMl 2 (by decide)) wM2 h6.2.1 dX9_handler_67 (fun H locs hw => ?_)
          replace hw := mS_handlers hw
          refine lv_aload_n hx hb dX9_handler_68 rfl (lv_at hl 0 rfl) ?_
          refine r_get hC hw rk9 in_X9_handler_9 0 (wMl 0 (by decide)) wM0 2 (by decide) lk_X9_handler_13 (v := .ref (ad 2)) rfl dX9_handler_69 ?_
          refine lv_iconst (v := 4) hx hb dX9_handler_72 (by decide) ?_
          refine lv_aload_n hx hb dX9_handler_73 rfl (lv_at hl 0 rfl) ?_
          refine r_get hC hw rk9 in_X9_handler_9 0 (wMl 0 (by decide)) wM0 3 (by decide) lk_X9_handler_86 (v := .int (sI κ 1)) rfl dX9_handler_74 ?_
          refine lv_imul hx hb dX9_handler_77 ?_
          refine lv_iconst (v := 2) hx hb dX9_handler_78 (by decide) ?_
          refine lv_iadd hx hb dX9_handler_79 ?_
          refine lv_iload_n hx hb dX9_handler_80 rfl (lv_at hl 3 rfl) ?_
          refine r_iast hC hw 2 (wMl 2 (by decide)) wM2 h6.2.2.1 dX9_handler_81 (fun H locs hw => ?_)
          replace hw := mS_handlers hw
          refine lv_aload_n hx hb dX9_handler_82 rfl (lv_at hl 0 rfl) ?_
          refine r_get hC hw rk9 in_X9_handler_9 0 (wMl 0 (by decide)) wM0 2 (by decide) lk_X9_handler_13 (v := .ref (ad 2)) rfl dX9_handler_83 ?_
          refine lv_iconst (v := 4) hx hb dX9_handler_86 (by decide) ?_
          refine lv_aload_n hx hb dX9_handler_87 rfl (lv_at hl 0 rfl) ?_
          refine r_get hC hw rk9 in_X9_handler_9 0 (wMl 0 (by decide)) wM0 3 (by decide) lk_X9_handler_86 (v := .int (sI κ 1)) rfl dX9_handler_88 ?_
          refine lv_imul hx hb dX9_handler_91 ?_
          refine lv_iconst (v := 3) hx hb dX9_handler_92 (by decide) ?_
          refine lv_iadd hx hb dX9_handler_93 ?_
          refine lv_iload hx hb dX9_handler_94 (lv_at hl 4 rfl) ?_
          refine r_iast hC hw 2 (wMl 2 (by decide)) wM2 h6.2.2.2 dX9_handler_96 (fun H locs hw => ?_)
          replace hw := mS_handlers hw
          refine lv_aload_n hx hb dX9_handler_97 rfl (lv_at hl 0 rfl) ?_
          refine lv_dup hx hb dX9_handler_98 rfl ?_
          refine r_get hC hw rk9 in_X9_handler_9 0 (wMl 0 (by decide)) wM0 3 (by decide) lk_X9_handler_86 (v := .int (sI κ 1)) rfl dX9_handler_99 ?_
          refine lv_iconst (v := 1) hx hb dX9_handler_102 (by decide) ?_
          refine lv_iadd hx hb dX9_handler_103 ?_
          refine r_put hC hw rk9 in_X9_handler_9 0 (wMl 0 (by decide)) wM0 3 (by decide) lk_X9_handler_86 rfl rfl rfl (Nat.le_of_ble_eq_true rfl) dX9_handler_104 (fun H locs hw => ?_)
          replace hw := mP_handlerMany hw
          refine lv_aload_n hx hb dX9_handler_107 rfl (lv_at hl 0 rfl) ?_
          refine lv_iconst (v := 0) hx hb dX9_handler_108 (by decide) ?_
          refine r_put hC hw rk9 in_X9_handler_9 0 (wMl 0 (by decide)) wM0 18 (by decide) lk_X9_handler_83 rfl rfl rfl (Nat.le_of_ble_eq_true rfl) dX9_handler_109 (fun H locs hw => ?_)
          replace hw := mP_status hw
          refine lv_aload_n hx hb dX9_handler_112 rfl (lv_at hl 0 rfl) ?_
          refine r_get hC hw rk9 in_X9_handler_9 0 (wMl 0 (by decide)) wM0 3 (by decide) lk_X9_handler_86 (v := .int ((sI κ 1) + 1)) rfl dX9_handler_113 ?_
          exact r_iret hC hr hlk hw ((uI (uI (uA (uA (uA (uA κ 1 (aN (4 * (sI κ 1))) xa) 1 (aN ((4 * (sI κ 1)) + 1)) xb) 1 (aN ((4 * (sI κ 1)) + 2)) xc) 1 (aN ((4 * (sI κ 1)) + 3)) xd) 1 ((sI κ 1) + 1)) 3 0), t) rfl ((if_pos c_4).trans ((if_pos c_8).trans ((if_pos c_12).trans (if_neg c_13)))).symm (Nat.le_of_ble_eq_true rfl) (Nat.le_of_ble_eq_true rfl) dX9_handler_116
        · refine lv_bipush (v := (-2)) hx hb dX9_handler_39 (by decide) ?_
          exact r_iret hC hr hlk hw (κ, t) rfl ((if_pos c_4).trans ((if_pos c_8).trans ((if_pos c_12).trans (if_pos c_13)))).symm (Nat.le_of_ble_eq_true rfl) (Nat.le_of_ble_eq_true rfl) dX9_handler_41
      · rw [if_neg c_12] at h_9
        subst h_9
        refine lv_if_ne (tgt := 30) hx hb dX9_handler_25 (by decide) (fun c_ => absurd (by decide) c_) (fun _ => ?_)
        refine lv_iconst (v := (-1)) hx hb dX9_handler_28 (by decide) ?_
        exact r_iret hC hr hlk hw (κ, t) rfl ((if_pos c_4).trans ((if_pos c_8).trans (if_neg c_12))).symm (Nat.le_of_ble_eq_true rfl) (Nat.le_of_ble_eq_true rfl) dX9_handler_29
    · rw [if_neg c_8] at h_5
      subst h_5
      refine lv_if_eq (tgt := 28) hx hb dX9_handler_15 (by decide) (fun _ => ?_) (fun c_ => absurd (by decide) c_)
      refine lv_iconst (v := (-1)) hx hb dX9_handler_28 (by decide) ?_
      exact r_iret hC hr hlk hw (κ, t) rfl ((if_pos c_4).trans (if_neg c_8)).symm (Nat.le_of_ble_eq_true rfl) (Nat.le_of_ble_eq_true rfl) dX9_handler_29
  · rw [if_neg c_4] at h_1
    subst h_1
    refine lv_if_eq (tgt := 28) hx hb dX9_handler_6 (by decide) (fun _ => ?_) (fun c_ => absurd (by decide) c_)
    refine lv_iconst (v := (-1)) hx hb dX9_handler_28 (by decide) ?_
    exact r_iret hC hr hlk hw (κ, t) rfl (if_neg c_4).symm (Nat.le_of_ble_eq_true rfl) (Nat.le_of_ble_eq_true rfl) dX9_handler_29

set_option maxHeartbeats 4000000 in
set_option maxRecDepth 100000 in
theorem c_X9_clear (l : Launch) {D : va_G} {q : Nat → ClassId} {ad : Nat → Nat} {κ : KS} {t : Nat → Int32} (sz : Nat)  : Met l yX9_clear wsX9_clear (rmz 0 0) (va_Pc [.ref (ad 0)] (rPre D q (wM q ad κ t) sz)) (va_Qi (fun (r : Int32) (u : KS × (Nat → Int32)) => r = sI κ 0 ∧ u = (uI (uI (uI κ 0 0) 1 0) 3 0, t)) (fun (u : KS × (Nat → Int32)) tt => rPo D (rA (wM q ad κ t) sz) (wM q ad u.1 u.2) tt) (rA (wM q ad κ t) sz)) 0 0 (rA (wM q ad κ t) sz) := by
  refine r_start (cc := cX9_clear) (maxL := 2) (ret := (some .int)) (by decide) rfl (Nat.le_of_ble_eq_true rfl) ?_
  intro p e s m below meth c ls hC hr hlk hnm hsz hw hl
  have hx := hC.1
  have hb := hC.2.1
  have hl : lv_has ls 2 [(0, .ref (ad 0))] := hl
  refine lv_aload_n hx hb dX9_clear_0 rfl (lv_at hl 0 rfl) ?_
  refine r_get hC hw rk9 in_X9_clear_9 0 (wMl 0 (by decide)) wM0 1 (by decide) lk_X9_clear_80 (v := .int (sI κ 0)) rfl dX9_clear_1 ?_
  refine lv_istore_n (lv' := [(1, .int (sI κ 0)), (0, .ref (ad 0))]) hx hb dX9_clear_4 rfl hl (by decide) rfl (fun ls hl => ?_)
  refine lv_aload_n hx hb dX9_clear_5 rfl (lv_at hl 1 rfl) ?_
  refine lv_iconst (v := 0) hx hb dX9_clear_6 (by decide) ?_
  refine r_put hC hw rk9 in_X9_clear_9 0 (wMl 0 (by decide)) wM0 1 (by decide) lk_X9_clear_80 rfl rfl rfl (Nat.le_of_ble_eq_true rfl) dX9_clear_7 (fun H locs hw => ?_)
  replace hw := mP_many hw
  refine lv_aload_n hx hb dX9_clear_10 rfl (lv_at hl 1 rfl) ?_
  refine lv_iconst (v := 0) hx hb dX9_clear_11 (by decide) ?_
  refine r_put hC hw rk9 in_X9_clear_9 0 (wMl 0 (by decide)) wM0 3 (by decide) lk_X9_clear_86 rfl rfl rfl (Nat.le_of_ble_eq_true rfl) dX9_clear_12 (fun H locs hw => ?_)
  replace hw := mP_handlerMany hw
  refine lv_aload_n hx hb dX9_clear_15 rfl (lv_at hl 1 rfl) ?_
  refine lv_iconst (v := 0) hx hb dX9_clear_16 (by decide) ?_
  refine r_put hC hw rk9 in_X9_clear_9 0 (wMl 0 (by decide)) wM0 18 (by decide) lk_X9_clear_83 rfl rfl rfl (Nat.le_of_ble_eq_true rfl) dX9_clear_17 (fun H locs hw => ?_)
  replace hw := mP_status hw
  refine lv_iload_n hx hb dX9_clear_20 rfl (lv_at hl 0 rfl) ?_
  exact r_iret hC hr hlk hw ((uI (uI (uI κ 0 0) 1 0) 3 0), t) rfl ⟨rfl, rfl⟩ (Nat.le_of_ble_eq_true rfl) (Nat.le_of_ble_eq_true rfl) dX9_clear_21

set_option maxHeartbeats 4000000 in
set_option maxRecDepth 100000 in
theorem c_X9_word (l : Launch) {D : va_G} {q : Nat → ClassId} {ad : Nat → Nat} {κ : KS} {t : Nat → Int32} (sz : Nat) (r0 : Int32) : Met l yX9_word wsX9_word (rmz 1 22) (va_Pc [.ref (ad 0), .int r0] (rPre D q (wM q ad κ t) sz)) (va_Qi (fun (r : Int32) (u : Unit) => r = if pIn r0 0 7 then sA κ 2 (aN r0) else 0) (fun (u : Unit) tt => rPo D (rA (wM q ad κ t) sz) (wM q ad κ t) tt) (rA (wM q ad κ t) sz)) 0 0 (rA (wM q ad κ t) sz) := by
  refine r_start (cc := cX9_word) (maxL := 2) (ret := (some .int)) (by decide) rfl (Nat.le_of_ble_eq_true rfl) ?_
  intro p e s m below meth c ls hC hr hlk hnm hsz hw hl
  have hx := hC.1
  have hb := hC.2.1
  have hl : lv_has ls 2 [(0, .ref (ad 0)), (1, .int r0)] := hl
  refine lv_iload_n hx hb dX9_word_0 rfl (lv_at hl 1 rfl) ?_
  refine lv_iconst (v := 0) hx hb dX9_word_1 (by decide) ?_
  refine lv_bipush (v := 7) hx hb dX9_word_2 (by decide) ?_
  refine r_ki hw (r_runS (rest := []) hC hw (c_X9_isIn l _ _ r0 0 7) 3 gX9_word_X9_isIn rfl rfl rfl (by decide +kernel) ⟨Nat.le_of_ble_eq_true rfl, Nat.le_of_ble_eq_true rfl⟩ rfl hl.1 rfl (Nat.le_of_ble_eq_true rfl) dX9_word_4 ⟨Nat.le_of_ble_eq_true rfl, Nat.le_of_ble_eq_true rfl⟩) (fun r_2 u_3 H locs h_1 hw => ?_)
  by_cases c_4 : pIn r0 0 7
  · rw [if_pos c_4] at h_1
    subst h_1
    refine lv_if_eq (tgt := 19) hx hb dX9_word_7 (by decide) (fun c_ => absurd c_ (by decide)) (fun _ => ?_)
    refine lv_aload_n hx hb dX9_word_10 rfl (lv_at hl 0 rfl) ?_
    refine r_get hC hw rk9 in_X9_word_9 0 (wMl 0 (by decide)) wM0 4 (by decide) lk_X9_word_16 (v := .ref (ad 3)) rfl dX9_word_11 ?_
    refine lv_iload_n hx hb dX9_word_14 rfl (lv_at hl 1 rfl) ?_
    refine r_iald hC hw 3 (wMl 3 (by decide)) wM3 (in8 c_4) dX9_word_15 ?_
    refine lv_goto (tgt := 20) hx hb dX9_word_16 (by decide) ?_
    exact r_iret hC hr hlk hw () rfl (if_pos c_4).symm (Nat.le_of_ble_eq_true rfl) (Nat.le_of_ble_eq_true rfl) dX9_word_20
  · rw [if_neg c_4] at h_1
    subst h_1
    refine lv_if_eq (tgt := 19) hx hb dX9_word_7 (by decide) (fun _ => ?_) (fun c_ => absurd (by decide) c_)
    refine lv_iconst (v := 0) hx hb dX9_word_19 (by decide) ?_
    exact r_iret hC hr hlk hw () rfl (if_neg c_4).symm (Nat.le_of_ble_eq_true rfl) (Nat.le_of_ble_eq_true rfl) dX9_word_20

set_option maxHeartbeats 4000000 in
set_option maxRecDepth 100000 in
theorem c_X9_wide (l : Launch) {D : va_G} {q : Nat → ClassId} {ad : Nat → Nat} {κ : KS} {t : Nat → Int32} (sz : Nat) (r0 : Int32) : Met l yX9_wide wsX9_wide (rmz 1 22) (va_Pc [.ref (ad 0), .int r0] (rPre D q (wM q ad κ t) sz)) (va_Ql (fun (r : Int64) (u : Unit) => r = if pIn r0 0 3 then sJ κ 0 (aN r0) else 0) (fun (u : Unit) tt => rPo D (rA (wM q ad κ t) sz) (wM q ad κ t) tt) (rA (wM q ad κ t) sz)) 0 0 (rA (wM q ad κ t) sz) := by
  refine r_start (cc := cX9_wide) (maxL := 2) (ret := (some .long)) (by decide) rfl (Nat.le_of_ble_eq_true rfl) ?_
  intro p e s m below meth c ls hC hr hlk hnm hsz hw hl
  have hx := hC.1
  have hb := hC.2.1
  have hl : lv_has ls 2 [(0, .ref (ad 0)), (1, .int r0)] := hl
  refine lv_iload_n hx hb dX9_wide_0 rfl (lv_at hl 1 rfl) ?_
  refine lv_iconst (v := 0) hx hb dX9_wide_1 (by decide) ?_
  refine lv_iconst (v := 3) hx hb dX9_wide_2 (by decide) ?_
  refine r_ki hw (r_runS (rest := []) hC hw (c_X9_isIn l _ _ r0 0 3) 3 gX9_wide_X9_isIn rfl rfl rfl (by decide +kernel) ⟨Nat.le_of_ble_eq_true rfl, Nat.le_of_ble_eq_true rfl⟩ rfl hl.1 rfl (Nat.le_of_ble_eq_true rfl) dX9_wide_3 ⟨Nat.le_of_ble_eq_true rfl, Nat.le_of_ble_eq_true rfl⟩) (fun r_2 u_3 H locs h_1 hw => ?_)
  by_cases c_4 : pIn r0 0 3
  · rw [if_pos c_4] at h_1
    subst h_1
    refine lv_if_eq (tgt := 18) hx hb dX9_wide_6 (by decide) (fun c_ => absurd c_ (by decide)) (fun _ => ?_)
    refine lv_aload_n hx hb dX9_wide_9 rfl (lv_at hl 0 rfl) ?_
    refine r_get hC hw rk9 in_X9_wide_9 0 (wMl 0 (by decide)) wM0 5 (by decide) lk_X9_wide_19 (v := .ref (ad 4)) rfl dX9_wide_10 ?_
    refine lv_iload_n hx hb dX9_wide_13 rfl (lv_at hl 1 rfl) ?_
    refine r_lald hC hw 4 (wMl 4 (by decide)) wM4 (in4 c_4) dX9_wide_14 ?_
    refine lv_goto (tgt := 19) hx hb dX9_wide_15 (by decide) ?_
    exact r_lret hC hr hlk hw () rfl (if_pos c_4).symm (Nat.le_of_ble_eq_true rfl) (Nat.le_of_ble_eq_true rfl) dX9_wide_19
  · rw [if_neg c_4] at h_1
    subst h_1
    refine lv_if_eq (tgt := 18) hx hb dX9_wide_6 (by decide) (fun _ => ?_) (fun c_ => absurd (by decide) c_)
    refine lv_lconst (v := 0) hx hb dX9_wide_18 (by decide) ?_
    exact r_lret hC hr hlk hw () rfl (if_neg c_4).symm (Nat.le_of_ble_eq_true rfl) (Nat.le_of_ble_eq_true rfl) dX9_wide_19

set_option maxHeartbeats 4000000 in
set_option maxRecDepth 100000 in
theorem c_X9_real (l : Launch) {D : va_G} {q : Nat → ClassId} {ad : Nat → Nat} {κ : KS} {t : Nat → Int32} (sz : Nat) (r0 : Int32) : Met l yX9_real wsX9_real (rmz 1 22) (va_Pc [.ref (ad 0), .int r0] (rPre D q (wM q ad κ t) sz)) (va_Qd (fun (r : UInt64) (u : Unit) => r = if pIn r0 0 3 then sD κ 0 (aN r0) else FP.dconst0) (fun (u : Unit) tt => rPo D (rA (wM q ad κ t) sz) (wM q ad κ t) tt) (rA (wM q ad κ t) sz)) 0 0 (rA (wM q ad κ t) sz) := by
  refine r_start (cc := cX9_real) (maxL := 2) (ret := (some .double)) (by decide) rfl (Nat.le_of_ble_eq_true rfl) ?_
  intro p e s m below meth c ls hC hr hlk hnm hsz hw hl
  have hx := hC.1
  have hb := hC.2.1
  have hl : lv_has ls 2 [(0, .ref (ad 0)), (1, .int r0)] := hl
  refine lv_iload_n hx hb dX9_real_0 rfl (lv_at hl 1 rfl) ?_
  refine lv_iconst (v := 0) hx hb dX9_real_1 (by decide) ?_
  refine lv_iconst (v := 3) hx hb dX9_real_2 (by decide) ?_
  refine r_ki hw (r_runS (rest := []) hC hw (c_X9_isIn l _ _ r0 0 3) 3 gX9_real_X9_isIn rfl rfl rfl (by decide +kernel) ⟨Nat.le_of_ble_eq_true rfl, Nat.le_of_ble_eq_true rfl⟩ rfl hl.1 rfl (Nat.le_of_ble_eq_true rfl) dX9_real_3 ⟨Nat.le_of_ble_eq_true rfl, Nat.le_of_ble_eq_true rfl⟩) (fun r_2 u_3 H locs h_1 hw => ?_)
  by_cases c_4 : pIn r0 0 3
  · rw [if_pos c_4] at h_1
    subst h_1
    refine lv_if_eq (tgt := 18) hx hb dX9_real_6 (by decide) (fun c_ => absurd c_ (by decide)) (fun _ => ?_)
    refine lv_aload_n hx hb dX9_real_9 rfl (lv_at hl 0 rfl) ?_
    refine r_get hC hw rk9 in_X9_real_9 0 (wMl 0 (by decide)) wM0 7 (by decide) lk_X9_real_27 (v := .ref (ad 6)) rfl dX9_real_10 ?_
    refine lv_iload_n hx hb dX9_real_13 rfl (lv_at hl 1 rfl) ?_
    refine r_dald hC hw 6 (wMl 6 (by decide)) wM6 (in4 c_4) dX9_real_14 ?_
    refine lv_goto (tgt := 19) hx hb dX9_real_15 (by decide) ?_
    exact r_dret hC hr hlk hw () rfl (if_pos c_4).symm (Nat.le_of_ble_eq_true rfl) (Nat.le_of_ble_eq_true rfl) dX9_real_19
  · rw [if_neg c_4] at h_1
    subst h_1
    refine lv_if_eq (tgt := 18) hx hb dX9_real_6 (by decide) (fun _ => ?_) (fun c_ => absurd (by decide) c_)
    refine lv_dconst0 hx hb dX9_real_18 ?_
    exact r_dret hC hr hlk hw () rfl (if_neg c_4).symm (Nat.le_of_ble_eq_true rfl) (Nat.le_of_ble_eq_true rfl) dX9_real_19

set_option maxHeartbeats 4000000 in
set_option maxRecDepth 100000 in
theorem c_X9_single (l : Launch) {D : va_G} {q : Nat → ClassId} {ad : Nat → Nat} {κ : KS} {t : Nat → Int32} (sz : Nat) (r0 : Int32) (hN : pIn r0 0 3 → vf_n64 (FP.f2d (sF κ (aN r0)))) : Met l yX9_single wsX9_single (rmz 1 22) (va_Pc [.ref (ad 0), .int r0] (rPre D q (wM q ad κ t) sz)) (va_Qd (fun (r : UInt64) (u : Unit) => r = if pIn r0 0 3 then FP.f2d (sF κ (aN r0)) else FP.dconst0) (fun (u : Unit) tt => rPo D (rA (wM q ad κ t) sz) (wM q ad κ t) tt) (rA (wM q ad κ t) sz)) 0 0 (rA (wM q ad κ t) sz) := by
  refine r_start (cc := cX9_single) (maxL := 2) (ret := (some .double)) (by decide) rfl (Nat.le_of_ble_eq_true rfl) ?_
  intro p e s m below meth c ls hC hr hlk hnm hsz hw hl
  have hx := hC.1
  have hb := hC.2.1
  have hl : lv_has ls 2 [(0, .ref (ad 0)), (1, .int r0)] := hl
  refine lv_iload_n hx hb dX9_single_0 rfl (lv_at hl 1 rfl) ?_
  refine lv_iconst (v := 0) hx hb dX9_single_1 (by decide) ?_
  refine lv_iconst (v := 3) hx hb dX9_single_2 (by decide) ?_
  refine r_ki hw (r_runS (rest := []) hC hw (c_X9_isIn l _ _ r0 0 3) 3 gX9_single_X9_isIn rfl rfl rfl (by decide +kernel) ⟨Nat.le_of_ble_eq_true rfl, Nat.le_of_ble_eq_true rfl⟩ rfl hl.1 rfl (Nat.le_of_ble_eq_true rfl) dX9_single_3 ⟨Nat.le_of_ble_eq_true rfl, Nat.le_of_ble_eq_true rfl⟩) (fun r_2 u_3 H locs h_1 hw => ?_)
  by_cases c_4 : pIn r0 0 3
  · rw [if_pos c_4] at h_1
    subst h_1
    refine lv_if_eq (tgt := 19) hx hb dX9_single_6 (by decide) (fun c_ => absurd c_ (by decide)) (fun _ => ?_)
    refine lv_aload_n hx hb dX9_single_9 rfl (lv_at hl 0 rfl) ?_
    refine r_get hC hw rk9 in_X9_single_9 0 (wMl 0 (by decide)) wM0 6 (by decide) lk_X9_single_23 (v := .ref (ad 5)) rfl dX9_single_10 ?_
    refine lv_iload_n hx hb dX9_single_13 rfl (lv_at hl 1 rfl) ?_
    refine r_fald hC hw 5 (wMl 5 (by decide)) wM5 (in4 c_4) dX9_single_14 ?_
    refine lv_f2d hx hb dX9_single_15 (hN c_4) ?_
    refine lv_goto (tgt := 20) hx hb dX9_single_16 (by decide) ?_
    exact r_dret hC hr hlk hw () rfl (if_pos c_4).symm (Nat.le_of_ble_eq_true rfl) (Nat.le_of_ble_eq_true rfl) dX9_single_20
  · rw [if_neg c_4] at h_1
    subst h_1
    refine lv_if_eq (tgt := 19) hx hb dX9_single_6 (by decide) (fun _ => ?_) (fun c_ => absurd (by decide) c_)
    refine lv_dconst0 hx hb dX9_single_19 ?_
    exact r_dret hC hr hlk hw () rfl (if_neg c_4).symm (Nat.le_of_ble_eq_true rfl) (Nat.le_of_ble_eq_true rfl) dX9_single_20

set_option maxHeartbeats 4000000 in
set_option maxRecDepth 100000 in
theorem c_X9_thingIn (l : Launch) {D : va_G} {q : Nat → ClassId} {ad : Nat → Nat} {κ : KS} {t : Nat → Int32} (sz : Nat) (r0 : Int32) : Met l yX9_thingIn wsX9_thingIn (rmz 1 22) (va_Pc [.ref (ad 0), .int r0] (rPre D q (wM q ad κ t) sz)) (va_Qi (fun (r : Int32) (u : Unit) => r = thI κ r0) (fun (u : Unit) tt => rPo D (rA (wM q ad κ t) sz) (wM q ad κ t) tt) (rA (wM q ad κ t) sz)) 0 0 (rA (wM q ad κ t) sz) := by
  refine r_start (cc := cX9_thingIn) (maxL := 2) (ret := (some .int)) (by decide) rfl (Nat.le_of_ble_eq_true rfl) ?_
  intro p e s m below meth c ls hC hr hlk hnm hsz hw hl
  have hx := hC.1
  have hb := hC.2.1
  have hl : lv_has ls 2 [(0, .ref (ad 0)), (1, .int r0)] := hl
  refine lv_iload_n hx hb dX9_thingIn_0 rfl (lv_at hl 1 rfl) ?_
  refine lv_iconst (v := 0) hx hb dX9_thingIn_1 (by decide) ?_
  refine lv_bipush (v := 7) hx hb dX9_thingIn_2 (by decide) ?_
  refine r_ki hw (r_runS (rest := []) hC hw (c_X9_isIn l _ _ r0 0 7) 3 gX9_thingIn_X9_isIn rfl rfl rfl (by decide +kernel) ⟨Nat.le_of_ble_eq_true rfl, Nat.le_of_ble_eq_true rfl⟩ rfl hl.1 rfl (Nat.le_of_ble_eq_true rfl) dX9_thingIn_4 ⟨Nat.le_of_ble_eq_true rfl, Nat.le_of_ble_eq_true rfl⟩) (fun r_2 u_3 H locs h_1 hw => ?_)
  by_cases c_4 : pIn r0 0 7
  · rw [if_pos c_4] at h_1
    subst h_1
    refine lv_if_eq (tgt := 21) hx hb dX9_thingIn_7 (by decide) (fun c_ => absurd c_ (by decide)) (fun _ => ?_)
    refine lv_aload_n hx hb dX9_thingIn_10 rfl (lv_at hl 0 rfl) ?_
    refine r_get hC hw rk9 in_X9_thingIn_9 0 (wMl 0 (by decide)) wM0 8 (by decide) lk_X9_thingIn_31 (v := .ref (ad 7)) rfl dX9_thingIn_11 ?_
    refine lv_iload_n hx hb dX9_thingIn_14 rfl (lv_at hl 1 rfl) ?_
    refine r_iald hC hw 7 (wMl 7 (by decide)) wM7 (in8 c_4) dX9_thingIn_15 ?_
    refine lv_iconst (v := 1) hx hb dX9_thingIn_16 (by decide) ?_
    refine lv_isub hx hb dX9_thingIn_17 ?_
    refine lv_goto (tgt := 22) hx hb dX9_thingIn_18 (by decide) ?_
    exact r_iret hC hr hlk hw () rfl (if_pos c_4).symm (Nat.le_of_ble_eq_true rfl) (Nat.le_of_ble_eq_true rfl) dX9_thingIn_22
  · rw [if_neg c_4] at h_1
    subst h_1
    refine lv_if_eq (tgt := 21) hx hb dX9_thingIn_7 (by decide) (fun _ => ?_) (fun c_ => absurd (by decide) c_)
    refine lv_iconst (v := (-1)) hx hb dX9_thingIn_21 (by decide) ?_
    exact r_iret hC hr hlk hw () rfl (if_neg c_4).symm (Nat.le_of_ble_eq_true rfl) (Nat.le_of_ble_eq_true rfl) dX9_thingIn_22

set_option maxHeartbeats 4000000 in
set_option maxRecDepth 100000 in
theorem c_X9_kindOf (l : Launch) {D : va_G} {q : Nat → ClassId} {ad : Nat → Nat} {κ : KS} {t : Nat → Int32} (sz : Nat) (x0 : Int32) (hv : ¬ x0 = 0 → vp_in (x0 - 1) 60) : Met l yX9_kindOf wsX9_kindOf (rmz 0 0) (va_Pc [.ref (ad 0), .int x0] (rPre D q (wM q ad κ t) sz)) (va_Qi (fun (r : Int32) (u : Unit) => r = kdR κ x0) (fun (u : Unit) tt => rPo D (rA (wM q ad κ t) sz) (wM q ad κ t) tt) (rA (wM q ad κ t) sz)) 0 0 (rA (wM q ad κ t) sz) := by
  refine r_start (cc := cX9_kindOf) (maxL := 2) (ret := (some .int)) (by decide) rfl (Nat.le_of_ble_eq_true rfl) ?_
  intro p e s m below meth c ls hC hr hlk hnm hsz hw hl
  have hx := hC.1
  have hb := hC.2.1
  have hl : lv_has ls 2 [(0, .ref (ad 0)), (1, .int x0)] := hl
  refine lv_iload_n hx hb dX9_kindOf_0 rfl (lv_at hl 1 rfl) ?_
  refine lv_if_ne (tgt := 8) hx hb dX9_kindOf_1 (by decide) (fun c_1 => ?_) (fun c_1 => ?_)
  · refine lv_aload_n hx hb dX9_kindOf_8 rfl (lv_at hl 0 rfl) ?_
    refine r_get hC hw rk9 in_X9_kindOf_9 0 (wMl 0 (by decide)) wM0 9 (by decide) lk_X9_kindOf_34 (v := .ref (ad 8)) rfl dX9_kindOf_9 ?_
    refine lv_iload_n hx hb dX9_kindOf_12 rfl (lv_at hl 1 rfl) ?_
    refine lv_iconst (v := 1) hx hb dX9_kindOf_13 (by decide) ?_
    refine lv_isub hx hb dX9_kindOf_14 ?_
    refine r_iald hC hw 8 (wMl 8 (by decide)) wM8 (hv (by assumption)) dX9_kindOf_15 ?_
    exact r_iret hC hr hlk hw () rfl (if_neg c_1).symm (Nat.le_of_ble_eq_true rfl) (Nat.le_of_ble_eq_true rfl) dX9_kindOf_16
  · refine lv_iconst (v := (-1)) hx hb dX9_kindOf_4 (by decide) ?_
    refine lv_goto (tgt := 16) hx hb dX9_kindOf_5 (by decide) ?_
    exact r_iret hC hr hlk hw () rfl (if_pos c_1).symm (Nat.le_of_ble_eq_true rfl) (Nat.le_of_ble_eq_true rfl) dX9_kindOf_16

set_option maxHeartbeats 4000000 in
set_option maxRecDepth 100000 in
theorem c_X9_kind (l : Launch) {D : va_G} {q : Nat → ClassId} {ad : Nat → Nat} {κ : KS} {t : Nat → Int32} (sz : Nat) (r0 : Int32) (hW : WFm κ) : Met l yX9_kind wsX9_kind (rmz 1 22) (va_Pc [.ref (ad 0), .int r0] (rPre D q (wM q ad κ t) sz)) (va_Qi (fun (r : Int32) (u : Unit) => r = if pIn r0 0 7 then kdR κ (sA κ 3 (aN r0)) else -2) (fun (u : Unit) tt => rPo D (rA (wM q ad κ t) sz) (wM q ad κ t) tt) (rA (wM q ad κ t) sz)) 0 0 (rA (wM q ad κ t) sz) := by
  refine r_start (cc := cX9_kind) (maxL := 2) (ret := (some .int)) (by decide) rfl (Nat.le_of_ble_eq_true rfl) ?_
  intro p e s m below meth c ls hC hr hlk hnm hsz hw hl
  have hx := hC.1
  have hb := hC.2.1
  have hl : lv_has ls 2 [(0, .ref (ad 0)), (1, .int r0)] := hl
  refine lv_iload_n hx hb dX9_kind_0 rfl (lv_at hl 1 rfl) ?_
  refine lv_iconst (v := 0) hx hb dX9_kind_1 (by decide) ?_
  refine lv_bipush (v := 7) hx hb dX9_kind_2 (by decide) ?_
  refine r_ki hw (r_runS (rest := []) hC hw (c_X9_isIn l _ _ r0 0 7) 3 gX9_kind_X9_isIn rfl rfl rfl (by decide +kernel) ⟨Nat.le_of_ble_eq_true rfl, Nat.le_of_ble_eq_true rfl⟩ rfl hl.1 rfl (Nat.le_of_ble_eq_true rfl) dX9_kind_4 ⟨Nat.le_of_ble_eq_true rfl, Nat.le_of_ble_eq_true rfl⟩) (fun r_2 u_3 H locs h_1 hw => ?_)
  by_cases c_4 : pIn r0 0 7
  · rw [if_pos c_4] at h_1
    subst h_1
    refine lv_if_eq (tgt := 23) hx hb dX9_kind_7 (by decide) (fun c_ => absurd c_ (by decide)) (fun _ => ?_)
    refine lv_aload_n hx hb dX9_kind_10 rfl (lv_at hl 0 rfl) ?_
    refine lv_aload_n hx hb dX9_kind_11 rfl (lv_at hl 0 rfl) ?_
    refine r_get hC hw rk9 in_X9_kind_9 0 (wMl 0 (by decide)) wM0 8 (by decide) lk_X9_kind_31 (v := .ref (ad 7)) rfl dX9_kind_12 ?_
    refine lv_iload_n hx hb dX9_kind_15 rfl (lv_at hl 1 rfl) ?_
    refine r_iald hC hw 7 (wMl 7 (by decide)) wM7 (in8 c_4) dX9_kind_16 ?_
    refine r_ki hw (r_runV (rest := []) hC hw 0 (c_X9_kindOf (ad := ad) l _ (sA κ 3 (aN r0)) (fun hn => wf_ref hW (in8 c_4) hn)) rk9 (wMl 0 (by decide)) wM0 1 gX9_kind_X9_kindOf rfl rfl rfl (by decide +kernel) ⟨Nat.le_of_ble_eq_true rfl, Nat.le_of_ble_eq_true rfl⟩ rfl hl.1 rfl (Nat.le_of_ble_eq_true rfl) dX9_kind_17 ⟨Nat.le_of_ble_eq_true rfl, Nat.le_of_ble_eq_true rfl⟩) (fun r_6 u_7 H locs h_5 hw => ?_)
    subst h_5
    refine lv_goto (tgt := 25) hx hb dX9_kind_20 (by decide) ?_
    exact r_iret hC hr hlk hw () rfl (if_pos c_4).symm (Nat.le_of_ble_eq_true rfl) (Nat.le_of_ble_eq_true rfl) dX9_kind_25
  · rw [if_neg c_4] at h_1
    subst h_1
    refine lv_if_eq (tgt := 23) hx hb dX9_kind_7 (by decide) (fun _ => ?_) (fun c_ => absurd (by decide) c_)
    refine lv_bipush (v := (-2)) hx hb dX9_kind_23 (by decide) ?_
    exact r_iret hC hr hlk hw () rfl (if_neg c_4).symm (Nat.le_of_ble_eq_true rfl) (Nat.le_of_ble_eq_true rfl) dX9_kind_25

set_option maxHeartbeats 4000000 in
set_option maxRecDepth 100000 in
theorem c_X9_size (l : Launch) {D : va_G} {q : Nat → ClassId} {ad : Nat → Nat} {κ : KS} {t : Nat → Int32} (sz : Nat) (r0 : Int32) (hW : WFm κ) : Met l yX9_size wsX9_size (rmz 2 43) (va_Pc [.ref (ad 0), .int r0] (rPre D q (wM q ad κ t) sz)) (va_Qi (fun (r : Int32) (u : Unit) => r = if 0 ≤ (thI κ r0) then (if pRow (sA κ 4 (aN (thI κ r0))) then sA κ 5 (aN (thI κ r0)) else -1) else -1) (fun (u : Unit) tt => rPo D (rA (wM q ad κ t) sz) (wM q ad κ t) tt) (rA (wM q ad κ t) sz)) 0 0 (rA (wM q ad κ t) sz) := by
  refine r_start (cc := cX9_size) (maxL := 3) (ret := (some .int)) (by decide) rfl (Nat.le_of_ble_eq_true rfl) ?_
  intro p e s m below meth c ls hC hr hlk hnm hsz hw hl
  have hx := hC.1
  have hb := hC.2.1
  have hl : lv_has ls 3 [(0, .ref (ad 0)), (1, .int r0)] := hl
  refine lv_aload_n hx hb dX9_size_0 rfl (lv_at hl 0 rfl) ?_
  refine lv_iload_n hx hb dX9_size_1 rfl (lv_at hl 1 rfl) ?_
  refine r_ki hw (r_runV (rest := []) hC hw 0 (c_X9_thingIn (ad := ad) l _ r0) rk9 (wMl 0 (by decide)) wM0 1 gX9_size_X9_thingIn rfl rfl rfl (by decide +kernel) ⟨Nat.le_of_ble_eq_true rfl, Nat.le_of_ble_eq_true rfl⟩ rfl hl.1 rfl (Nat.le_of_ble_eq_true rfl) dX9_size_2 ⟨Nat.le_of_ble_eq_true rfl, Nat.le_of_ble_eq_true rfl⟩) (fun r_2 u_3 H locs h_1 hw => ?_)
  subst h_1
  refine lv_istore_n (lv' := [(2, .int (thI κ r0)), (0, .ref (ad 0)), (1, .int r0)]) hx hb dX9_size_5 rfl hl (by decide) rfl (fun ls hl => ?_)
  refine lv_iload_n hx hb dX9_size_6 rfl (lv_at hl 0 rfl) ?_
  refine lv_if_lt (tgt := 31) hx hb dX9_size_7 (by decide) (fun c_4 => ?_) (fun c_4 => ?_)
  · refine lv_iconst (v := (-1)) hx hb dX9_size_31 (by decide) ?_
    exact r_iret hC hr hlk hw () rfl (if_neg (Int32.not_le.mpr c_4)).symm (Nat.le_of_ble_eq_true rfl) (Nat.le_of_ble_eq_true rfl) dX9_size_32
  · refine lv_aload_n hx hb dX9_size_10 rfl (lv_at hl 1 rfl) ?_
    refine r_get hC hw rk9 in_X9_size_9 0 (wMl 0 (by decide)) wM0 9 (by decide) lk_X9_size_34 (v := .ref (ad 8)) rfl dX9_size_11 ?_
    refine lv_iload_n hx hb dX9_size_14 rfl (lv_at hl 0 rfl) ?_
    refine r_iald hC hw 8 (wMl 8 (by decide)) wM8 (wf_th hW c_4).1 dX9_size_15 ?_
    refine r_ki hw (r_runS (rest := []) hC hw (c_X9_isRow l _ _ (sA κ 4 (aN (thI κ r0)))) 1 gX9_size_X9_isRow rfl rfl rfl (by decide +kernel) ⟨Nat.le_of_ble_eq_true rfl, Nat.le_of_ble_eq_true rfl⟩ rfl hl.1 rfl (Nat.le_of_ble_eq_true rfl) dX9_size_16 ⟨Nat.le_of_ble_eq_true rfl, Nat.le_of_ble_eq_true rfl⟩) (fun r_6 u_7 H locs h_5 hw => ?_)
    by_cases c_8 : pRow (sA κ 4 (aN (thI κ r0)))
    · rw [if_pos c_8] at h_5
      subst h_5
      refine lv_if_eq (tgt := 31) hx hb dX9_size_19 (by decide) (fun c_ => absurd c_ (by decide)) (fun _ => ?_)
      refine lv_aload_n hx hb dX9_size_22 rfl (lv_at hl 1 rfl) ?_
      refine r_get hC hw rk9 in_X9_size_9 0 (wMl 0 (by decide)) wM0 10 (by decide) lk_X9_size_37 (v := .ref (ad 9)) rfl dX9_size_23 ?_
      refine lv_iload_n hx hb dX9_size_26 rfl (lv_at hl 0 rfl) ?_
      refine r_iald hC hw 9 (wMl 9 (by decide)) wM9 (wf_th hW c_4).1 dX9_size_27 ?_
      refine lv_goto (tgt := 32) hx hb dX9_size_28 (by decide) ?_
      exact r_iret hC hr hlk hw () rfl ((if_pos (Int32.not_lt.mp c_4)).trans (if_pos c_8)).symm (Nat.le_of_ble_eq_true rfl) (Nat.le_of_ble_eq_true rfl) dX9_size_32
    · rw [if_neg c_8] at h_5
      subst h_5
      refine lv_if_eq (tgt := 31) hx hb dX9_size_19 (by decide) (fun _ => ?_) (fun c_ => absurd (by decide) c_)
      refine lv_iconst (v := (-1)) hx hb dX9_size_31 (by decide) ?_
      exact r_iret hC hr hlk hw () rfl ((if_pos (Int32.not_lt.mp c_4)).trans (if_neg c_8)).symm (Nat.le_of_ble_eq_true rfl) (Nat.le_of_ble_eq_true rfl) dX9_size_32

set_option maxHeartbeats 4000000 in
set_option maxRecDepth 100000 in
theorem c_X9_cell (l : Launch) {D : va_G} {q : Nat → ClassId} {ad : Nat → Nat} {κ : KS} {t : Nat → Int32} (sz : Nat) (r0 i0 : Int32) (hW : WFm κ) (hI : ∀ x, vp_in x 720 → ¬ sA κ 6 (aN x) = 0 → vp_in (sA κ 6 (aN x) - 1) 60) : Met l yX9_cell wsX9_cell (rmz 2 43) (va_Pc [.ref (ad 0), .int r0, .int i0] (rPre D q (wM q ad κ t) sz)) (va_Ql (fun (r : Int64) (u : Unit) => r = if 0 ≤ (thI κ r0) then (if pRow (sA κ 4 (aN (thI κ r0))) then (if pIn i0 0 ((sA κ 5 (aN (thI κ r0))) - 1) then (if (sA κ 4 (aN (thI κ r0))) ≤ 5 then sJ κ 1 (aN ((12 * (thI κ r0)) + i0)) else (if (sA κ 4 (aN (thI κ r0))) = 8 then (kdR κ (sA κ 6 (aN ((12 * (thI κ r0)) + i0)))).toInt64 else (if (sA κ 4 (aN (thI κ r0))) = 9 then (kdR κ (sA κ 6 (aN ((12 * (thI κ r0)) + i0)))).toInt64 else (if (sA κ 4 (aN (thI κ r0))) = 10 then (if (sA κ 6 (aN ((12 * (thI κ r0)) + i0))) = 0 then -1 else (sA κ 5 (aN ((sA κ 6 (aN ((12 * (thI κ r0)) + i0))) - 1))).toInt64) else 0)))) else 0) else 0) else 0) (fun (u : Unit) tt => rPo D (rA (wM q ad κ t) sz) (wM q ad κ t) tt) (rA (wM q ad κ t) sz)) 0 0 (rA (wM q ad κ t) sz) := by
  refine r_start (cc := cX9_cell) (maxL := 5) (ret := (some .long)) (by decide) rfl (Nat.le_of_ble_eq_true rfl) ?_
  intro p e s m below meth c ls hC hr hlk hnm hsz hw hl
  have hx := hC.1
  have hb := hC.2.1
  have hl : lv_has ls 5 [(0, .ref (ad 0)), (1, .int r0), (2, .int i0)] := hl
  refine lv_aload_n hx hb dX9_cell_0 rfl (lv_at hl 0 rfl) ?_
  refine lv_iload_n hx hb dX9_cell_1 rfl (lv_at hl 1 rfl) ?_
  refine r_ki hw (r_runV (rest := []) hC hw 0 (c_X9_thingIn (ad := ad) l _ r0) rk9 (wMl 0 (by decide)) wM0 1 gX9_cell_X9_thingIn rfl rfl rfl (by decide +kernel) ⟨Nat.le_of_ble_eq_true rfl, Nat.le_of_ble_eq_true rfl⟩ rfl hl.1 rfl (Nat.le_of_ble_eq_true rfl) dX9_cell_2 ⟨Nat.le_of_ble_eq_true rfl, Nat.le_of_ble_eq_true rfl⟩) (fun r_2 u_3 H locs h_1 hw => ?_)
  subst h_1
  refine lv_istore_n (lv' := [(3, .int (thI κ r0)), (0, .ref (ad 0)), (1, .int r0), (2, .int i0)]) hx hb dX9_cell_5 rfl hl (by decide) rfl (fun ls hl => ?_)
  refine lv_iload_n hx hb dX9_cell_6 rfl (lv_at hl 0 rfl) ?_
  refine lv_if_lt (tgt := 38) hx hb dX9_cell_7 (by decide) (fun c_4 => ?_) (fun c_4 => ?_)
  · refine lv_lconst (v := 0) hx hb dX9_cell_38 (by decide) ?_
    exact r_lret hC hr hlk hw () rfl (if_neg (Int32.not_le.mpr c_4)).symm (Nat.le_of_ble_eq_true rfl) (Nat.le_of_ble_eq_true rfl) dX9_cell_39
  · refine lv_aload_n hx hb dX9_cell_10 rfl (lv_at hl 1 rfl) ?_
    refine r_get hC hw rk9 in_X9_cell_9 0 (wMl 0 (by decide)) wM0 9 (by decide) lk_X9_cell_34 (v := .ref (ad 8)) rfl dX9_cell_11 ?_
    refine lv_iload_n hx hb dX9_cell_14 rfl (lv_at hl 0 rfl) ?_
    refine r_iald hC hw 8 (wMl 8 (by decide)) wM8 (wf_th hW c_4).1 dX9_cell_15 ?_
    refine r_ki hw (r_runS (rest := []) hC hw (c_X9_isRow l _ _ (sA κ 4 (aN (thI κ r0)))) 1 gX9_cell_X9_isRow rfl rfl rfl (by decide +kernel) ⟨Nat.le_of_ble_eq_true rfl, Nat.le_of_ble_eq_true rfl⟩ rfl hl.1 rfl (Nat.le_of_ble_eq_true rfl) dX9_cell_16 ⟨Nat.le_of_ble_eq_true rfl, Nat.le_of_ble_eq_true rfl⟩) (fun r_6 u_7 H locs h_5 hw => ?_)
    by_cases c_8 : pRow (sA κ 4 (aN (thI κ r0)))
    · rw [if_pos c_8] at h_5
      subst h_5
      refine lv_if_eq (tgt := 38) hx hb dX9_cell_19 (by decide) (fun c_ => absurd c_ (by decide)) (fun _ => ?_)
      refine lv_iload_n hx hb dX9_cell_22 rfl (lv_at hl 3 rfl) ?_
      refine lv_iconst (v := 0) hx hb dX9_cell_23 (by decide) ?_
      refine lv_aload_n hx hb dX9_cell_24 rfl (lv_at hl 1 rfl) ?_
      refine r_get hC hw rk9 in_X9_cell_9 0 (wMl 0 (by decide)) wM0 10 (by decide) lk_X9_cell_37 (v := .ref (ad 9)) rfl dX9_cell_25 ?_
      refine lv_iload_n hx hb dX9_cell_28 rfl (lv_at hl 0 rfl) ?_
      refine r_iald hC hw 9 (wMl 9 (by decide)) wM9 (wf_th hW c_4).1 dX9_cell_29 ?_
      refine lv_iconst (v := 1) hx hb dX9_cell_30 (by decide) ?_
      refine lv_isub hx hb dX9_cell_31 ?_
      refine r_ki hw (r_runS (rest := []) hC hw (c_X9_isIn l _ _ i0 0 ((sA κ 5 (aN (thI κ r0))) - 1)) 3 gX9_cell_X9_isIn rfl rfl rfl (by decide +kernel) ⟨Nat.le_of_ble_eq_true rfl, Nat.le_of_ble_eq_true rfl⟩ rfl hl.1 rfl (Nat.le_of_ble_eq_true rfl) dX9_cell_32 ⟨Nat.le_of_ble_eq_true rfl, Nat.le_of_ble_eq_true rfl⟩) (fun r_10 u_11 H locs h_9 hw => ?_)
      by_cases c_12 : pIn i0 0 ((sA κ 5 (aN (thI κ r0))) - 1)
      · rw [if_pos c_12] at h_9
        subst h_9
        refine lv_if_ne (tgt := 40) hx hb dX9_cell_35 (by decide) (fun _ => ?_) (fun c_ => absurd c_ (by decide))
        have hix := ix60 (wf_th hW c_4).1 (pin12 c_12 (wf_th hW c_4).2)
        refine lv_bipush (v := 12) hx hb dX9_cell_40 (by decide) ?_
        refine lv_iload_n hx hb dX9_cell_42 rfl (lv_at hl 0 rfl) ?_
        refine lv_imul hx hb dX9_cell_43 ?_
        refine lv_iload_n hx hb dX9_cell_44 rfl (lv_at hl 3 rfl) ?_
        refine lv_iadd hx hb dX9_cell_45 ?_
        refine lv_istore (lv' := [(4, .int ((12 * (thI κ r0)) + i0)), (3, .int (thI κ r0)), (0, .ref (ad 0)), (1, .int r0), (2, .int i0)]) hx hb dX9_cell_46 hl (by decide) rfl (fun ls hl => ?_)
        refine lv_aload_n hx hb dX9_cell_48 rfl (lv_at hl 2 rfl) ?_
        refine r_get hC hw rk9 in_X9_cell_9 0 (wMl 0 (by decide)) wM0 9 (by decide) lk_X9_cell_34 (v := .ref (ad 8)) rfl dX9_cell_49 ?_
        refine lv_iload_n hx hb dX9_cell_52 rfl (lv_at hl 1 rfl) ?_
        refine r_iald hC hw 8 (wMl 8 (by decide)) wM8 (wf_th hW c_4).1 dX9_cell_53 ?_
        refine lv_iconst (v := 5) hx hb dX9_cell_54 (by decide) ?_
        refine lv_icmp_gt (tgt := 66) hx hb dX9_cell_55 (by decide) (fun c_13 => ?_) (fun c_13 => ?_)
        · refine lv_aload_n hx hb dX9_cell_66 rfl (lv_at hl 2 rfl) ?_
          refine r_get hC hw rk9 in_X9_cell_9 0 (wMl 0 (by decide)) wM0 9 (by decide) lk_X9_cell_34 (v := .ref (ad 8)) rfl dX9_cell_67 ?_
          refine lv_iload_n hx hb dX9_cell_70 rfl (lv_at hl 1 rfl) ?_
          refine r_iald hC hw 8 (wMl 8 (by decide)) wM8 (wf_th hW c_4).1 dX9_cell_71 ?_
          refine lv_bipush (v := 8) hx hb dX9_cell_72 (by decide) ?_
          refine lv_icmp_eq (tgt := 88) hx hb dX9_cell_74 (by decide) (fun c_14 => ?_) (fun c_14 => ?_)
          · refine lv_aload_n hx hb dX9_cell_88 rfl (lv_at hl 2 rfl) ?_
            refine lv_aload_n hx hb dX9_cell_89 rfl (lv_at hl 2 rfl) ?_
            refine r_get hC hw rk9 in_X9_cell_9 0 (wMl 0 (by decide)) wM0 13 (by decide) lk_X9_cell_46 (v := .ref (ad 12)) rfl dX9_cell_90 ?_
            refine lv_iload hx hb dX9_cell_93 (lv_at hl 0 rfl) ?_
            refine r_iald hC hw 12 (wMl 12 (by decide)) wM12 hix dX9_cell_95 ?_
            refine r_ki hw (r_runV (rest := []) hC hw 0 (c_X9_kindOf (ad := ad) l _ (sA κ 6 (aN ((12 * (thI κ r0)) + i0))) (fun hn => hI _ hix hn)) rk9 (wMl 0 (by decide)) wM0 1 gX9_cell_X9_kindOf rfl rfl rfl (by decide +kernel) ⟨Nat.le_of_ble_eq_true rfl, Nat.le_of_ble_eq_true rfl⟩ rfl hl.1 rfl (Nat.le_of_ble_eq_true rfl) dX9_cell_96 ⟨Nat.le_of_ble_eq_true rfl, Nat.le_of_ble_eq_true rfl⟩) (fun r_16 u_17 H locs h_15 hw => ?_)
            subst h_15
            refine lv_i2l (v := (kdR κ (sA κ 6 (aN ((12 * (thI κ r0)) + i0)))).toInt64) hx hb dX9_cell_99 rfl ?_
            exact r_lret hC hr hlk hw () rfl ((if_pos (Int32.not_lt.mp c_4)).trans ((if_pos c_8).trans ((if_pos c_12).trans ((if_neg (Int32.not_le.mpr c_13)).trans (if_pos c_14))))).symm (Nat.le_of_ble_eq_true rfl) (Nat.le_of_ble_eq_true rfl) dX9_cell_100
          · refine lv_aload_n hx hb dX9_cell_77 rfl (lv_at hl 2 rfl) ?_
            refine r_get hC hw rk9 in_X9_cell_9 0 (wMl 0 (by decide)) wM0 9 (by decide) lk_X9_cell_34 (v := .ref (ad 8)) rfl dX9_cell_78 ?_
            refine lv_iload_n hx hb dX9_cell_81 rfl (lv_at hl 1 rfl) ?_
            refine r_iald hC hw 8 (wMl 8 (by decide)) wM8 (wf_th hW c_4).1 dX9_cell_82 ?_
            refine lv_bipush (v := 9) hx hb dX9_cell_83 (by decide) ?_
            refine lv_icmp_ne (tgt := 101) hx hb dX9_cell_85 (by decide) (fun c_18 => ?_) (fun c_18 => ?_)
            · refine lv_aload_n hx hb dX9_cell_101 rfl (lv_at hl 2 rfl) ?_
              refine r_get hC hw rk9 in_X9_cell_9 0 (wMl 0 (by decide)) wM0 9 (by decide) lk_X9_cell_34 (v := .ref (ad 8)) rfl dX9_cell_102 ?_
              refine lv_iload_n hx hb dX9_cell_105 rfl (lv_at hl 1 rfl) ?_
              refine r_iald hC hw 8 (wMl 8 (by decide)) wM8 (wf_th hW c_4).1 dX9_cell_106 ?_
              refine lv_bipush (v := 10) hx hb dX9_cell_107 (by decide) ?_
              refine lv_icmp_eq (tgt := 116) hx hb dX9_cell_109 (by decide) (fun c_19 => ?_) (fun c_19 => ?_)
              · refine lv_aload_n hx hb dX9_cell_116 rfl (lv_at hl 2 rfl) ?_
                refine r_get hC hw rk9 in_X9_cell_9 0 (wMl 0 (by decide)) wM0 13 (by decide) lk_X9_cell_46 (v := .ref (ad 12)) rfl dX9_cell_117 ?_
                refine lv_iload hx hb dX9_cell_120 (lv_at hl 0 rfl) ?_
                refine r_iald hC hw 12 (wMl 12 (by decide)) wM12 hix dX9_cell_122 ?_
                refine lv_if_ne (tgt := 132) hx hb dX9_cell_123 (by decide) (fun c_20 => ?_) (fun c_20 => ?_)
                · refine lv_aload_n hx hb dX9_cell_132 rfl (lv_at hl 2 rfl) ?_
                  refine r_get hC hw rk9 in_X9_cell_9 0 (wMl 0 (by decide)) wM0 10 (by decide) lk_X9_cell_37 (v := .ref (ad 9)) rfl dX9_cell_133 ?_
                  refine lv_aload_n hx hb dX9_cell_136 rfl (lv_at hl 2 rfl) ?_
                  refine r_get hC hw rk9 in_X9_cell_9 0 (wMl 0 (by decide)) wM0 13 (by decide) lk_X9_cell_46 (v := .ref (ad 12)) rfl dX9_cell_137 ?_
                  refine lv_iload hx hb dX9_cell_140 (lv_at hl 0 rfl) ?_
                  refine r_iald hC hw 12 (wMl 12 (by decide)) wM12 hix dX9_cell_142 ?_
                  refine lv_iconst (v := 1) hx hb dX9_cell_143 (by decide) ?_
                  refine lv_isub hx hb dX9_cell_144 ?_
                  refine r_iald hC hw 9 (wMl 9 (by decide)) wM9 (hI _ hix (by assumption)) dX9_cell_145 ?_
                  refine lv_i2l (v := (sA κ 5 (aN ((sA κ 6 (aN ((12 * (thI κ r0)) + i0))) - 1))).toInt64) hx hb dX9_cell_146 rfl ?_
                  exact r_lret hC hr hlk hw () rfl ((if_pos (Int32.not_lt.mp c_4)).trans ((if_pos c_8).trans ((if_pos c_12).trans ((if_neg (Int32.not_le.mpr c_13)).trans ((if_neg c_14).trans ((if_neg c_18).trans ((if_pos c_19).trans (if_neg c_20)))))))).symm (Nat.le_of_ble_eq_true rfl) (Nat.le_of_ble_eq_true rfl) dX9_cell_147
                · refine lv_ldc2 hx hb hC.2.2.2.1 (hC.2.2.2.2 _ lk_X9_cell_207) dX9_cell_126 ?_
                  refine lv_goto (tgt := 147) hx hb dX9_cell_129 (by decide) ?_
                  exact r_lret hC hr hlk hw () rfl ((if_pos (Int32.not_lt.mp c_4)).trans ((if_pos c_8).trans ((if_pos c_12).trans ((if_neg (Int32.not_le.mpr c_13)).trans ((if_neg c_14).trans ((if_neg c_18).trans ((if_pos c_19).trans (if_pos c_20)))))))).symm (Nat.le_of_ble_eq_true rfl) (Nat.le_of_ble_eq_true rfl) dX9_cell_147
              · refine lv_lconst (v := 0) hx hb dX9_cell_112 (by decide) ?_
                refine lv_goto (tgt := 147) hx hb dX9_cell_113 (by decide) ?_
                exact r_lret hC hr hlk hw () rfl ((if_pos (Int32.not_lt.mp c_4)).trans ((if_pos c_8).trans ((if_pos c_12).trans ((if_neg (Int32.not_le.mpr c_13)).trans ((if_neg c_14).trans ((if_neg c_18).trans (if_neg c_19))))))).symm (Nat.le_of_ble_eq_true rfl) (Nat.le_of_ble_eq_true rfl) dX9_cell_147
            · refine lv_aload_n hx hb dX9_cell_88 rfl (lv_at hl 2 rfl) ?_
              refine lv_aload_n hx hb dX9_cell_89 rfl (lv_at hl 2 rfl) ?_
              refine r_get hC hw rk9 in_X9_cell_9 0 (wMl 0 (by decide)) wM0 13 (by decide) lk_X9_cell_46 (v := .ref (ad 12)) rfl dX9_cell_90 ?_
              refine lv_iload hx hb dX9_cell_93 (lv_at hl 0 rfl) ?_
              refine r_iald hC hw 12 (wMl 12 (by decide)) wM12 hix dX9_cell_95 ?_
              refine r_ki hw (r_runV (rest := []) hC hw 0 (c_X9_kindOf (ad := ad) l _ (sA κ 6 (aN ((12 * (thI κ r0)) + i0))) (fun hn => hI _ hix hn)) rk9 (wMl 0 (by decide)) wM0 1 gX9_cell_X9_kindOf rfl rfl rfl (by decide +kernel) ⟨Nat.le_of_ble_eq_true rfl, Nat.le_of_ble_eq_true rfl⟩ rfl hl.1 rfl (Nat.le_of_ble_eq_true rfl) dX9_cell_96 ⟨Nat.le_of_ble_eq_true rfl, Nat.le_of_ble_eq_true rfl⟩) (fun r_22 u_23 H locs h_21 hw => ?_)
              subst h_21
              refine lv_i2l (v := (kdR κ (sA κ 6 (aN ((12 * (thI κ r0)) + i0)))).toInt64) hx hb dX9_cell_99 rfl ?_
              exact r_lret hC hr hlk hw () rfl ((if_pos (Int32.not_lt.mp c_4)).trans ((if_pos c_8).trans ((if_pos c_12).trans ((if_neg (Int32.not_le.mpr c_13)).trans ((if_neg c_14).trans (if_pos c_18)))))).symm (Nat.le_of_ble_eq_true rfl) (Nat.le_of_ble_eq_true rfl) dX9_cell_100
        · refine lv_aload_n hx hb dX9_cell_58 rfl (lv_at hl 2 rfl) ?_
          refine r_get hC hw rk9 in_X9_cell_9 0 (wMl 0 (by decide)) wM0 11 (by decide) lk_X9_cell_40 (v := .ref (ad 10)) rfl dX9_cell_59 ?_
          refine lv_iload hx hb dX9_cell_62 (lv_at hl 0 rfl) ?_
          refine r_lald hC hw 10 (wMl 10 (by decide)) wM10 hix dX9_cell_64 ?_
          exact r_lret hC hr hlk hw () rfl ((if_pos (Int32.not_lt.mp c_4)).trans ((if_pos c_8).trans ((if_pos c_12).trans (if_pos (Int32.not_lt.mp c_13))))).symm (Nat.le_of_ble_eq_true rfl) (Nat.le_of_ble_eq_true rfl) dX9_cell_65
      · rw [if_neg c_12] at h_9
        subst h_9
        refine lv_if_ne (tgt := 40) hx hb dX9_cell_35 (by decide) (fun c_ => absurd (by decide) c_) (fun _ => ?_)
        refine lv_lconst (v := 0) hx hb dX9_cell_38 (by decide) ?_
        exact r_lret hC hr hlk hw () rfl ((if_pos (Int32.not_lt.mp c_4)).trans ((if_pos c_8).trans (if_neg c_12))).symm (Nat.le_of_ble_eq_true rfl) (Nat.le_of_ble_eq_true rfl) dX9_cell_39
    · rw [if_neg c_8] at h_5
      subst h_5
      refine lv_if_eq (tgt := 38) hx hb dX9_cell_19 (by decide) (fun _ => ?_) (fun c_ => absurd (by decide) c_)
      refine lv_lconst (v := 0) hx hb dX9_cell_38 (by decide) ?_
      exact r_lret hC hr hlk hw () rfl ((if_pos (Int32.not_lt.mp c_4)).trans (if_neg c_8)).symm (Nat.le_of_ble_eq_true rfl) (Nat.le_of_ble_eq_true rfl) dX9_cell_39

set_option maxHeartbeats 4000000 in
set_option maxRecDepth 100000 in
theorem c_X9_point (l : Launch) {D : va_G} {q : Nat → ClassId} {ad : Nat → Nat} {κ : KS} {t : Nat → Int32} (sz : Nat) (r0 i0 : Int32) (hW : WFm κ) : Met l yX9_point wsX9_point (rmz 2 43) (va_Pc [.ref (ad 0), .int r0, .int i0] (rPre D q (wM q ad κ t) sz)) (va_Qd (fun (r : UInt64) (u : Unit) => r = if 0 ≤ (thI κ r0) then (if (sA κ 4 (aN (thI κ r0))) = 6 then (if pIn i0 0 ((sA κ 5 (aN (thI κ r0))) - 1) then sD κ 1 (aN ((12 * (thI κ r0)) + i0)) else FP.dconst0) else (if (sA κ 4 (aN (thI κ r0))) = 7 then (if pIn i0 0 ((sA κ 5 (aN (thI κ r0))) - 1) then sD κ 1 (aN ((12 * (thI κ r0)) + i0)) else FP.dconst0) else FP.dconst0)) else FP.dconst0) (fun (u : Unit) tt => rPo D (rA (wM q ad κ t) sz) (wM q ad κ t) tt) (rA (wM q ad κ t) sz)) 0 0 (rA (wM q ad κ t) sz) := by
  refine r_start (cc := cX9_point) (maxL := 5) (ret := (some .double)) (by decide) rfl (Nat.le_of_ble_eq_true rfl) ?_
  intro p e s m below meth c ls hC hr hlk hnm hsz hw hl
  have hx := hC.1
  have hb := hC.2.1
  have hl : lv_has ls 5 [(0, .ref (ad 0)), (1, .int r0), (2, .int i0)] := hl
  refine lv_aload_n hx hb dX9_point_0 rfl (lv_at hl 0 rfl) ?_
  refine lv_iload_n hx hb dX9_point_1 rfl (lv_at hl 1 rfl) ?_
  refine r_ki hw (r_runV (rest := []) hC hw 0 (c_X9_thingIn (ad := ad) l _ r0) rk9 (wMl 0 (by decide)) wM0 1 gX9_point_X9_thingIn rfl rfl rfl (by decide +kernel) ⟨Nat.le_of_ble_eq_true rfl, Nat.le_of_ble_eq_true rfl⟩ rfl hl.1 rfl (Nat.le_of_ble_eq_true rfl) dX9_point_2 ⟨Nat.le_of_ble_eq_true rfl, Nat.le_of_ble_eq_true rfl⟩) (fun r_2 u_3 H locs h_1 hw => ?_)
  subst h_1
  refine lv_istore_n (lv' := [(3, .int (thI κ r0)), (0, .ref (ad 0)), (1, .int r0), (2, .int i0)]) hx hb dX9_point_5 rfl hl (by decide) rfl (fun ls hl => ?_)
  refine lv_iload_n hx hb dX9_point_6 rfl (lv_at hl 0 rfl) ?_
  refine lv_if_lt (tgt := 52) hx hb dX9_point_7 (by decide) (fun c_4 => ?_) (fun c_4 => ?_)
  · refine lv_iconst (v := 0) hx hb dX9_point_52 (by decide) ?_
    refine lv_istore (lv' := [(4, .int 0), (3, .int (thI κ r0)), (0, .ref (ad 0)), (1, .int r0), (2, .int i0)]) hx hb dX9_point_53 hl (by decide) rfl (fun ls hl => ?_)
    refine lv_iload hx hb dX9_point_55 (lv_at hl 0 rfl) ?_
    refine lv_if_eq (tgt := 74) hx hb dX9_point_57 (by decide) (fun _ => ?_) (fun c_ => absurd (by decide) c_)
    refine lv_dconst0 hx hb dX9_point_74 ?_
    exact r_dret hC hr hlk hw () rfl (if_neg (Int32.not_le.mpr c_4)).symm (Nat.le_of_ble_eq_true rfl) (Nat.le_of_ble_eq_true rfl) dX9_point_75
  · refine lv_aload_n hx hb dX9_point_10 rfl (lv_at hl 1 rfl) ?_
    refine r_get hC hw rk9 in_X9_point_9 0 (wMl 0 (by decide)) wM0 9 (by decide) lk_X9_point_34 (v := .ref (ad 8)) rfl dX9_point_11 ?_
    refine lv_iload_n hx hb dX9_point_14 rfl (lv_at hl 0 rfl) ?_
    refine r_iald hC hw 8 (wMl 8 (by decide)) wM8 (wf_th hW c_4).1 dX9_point_15 ?_
    refine lv_bipush (v := 6) hx hb dX9_point_16 (by decide) ?_
    refine lv_icmp_eq (tgt := 32) hx hb dX9_point_18 (by decide) (fun c_5 => ?_) (fun c_5 => ?_)
    · refine lv_iload_n hx hb dX9_point_32 rfl (lv_at hl 3 rfl) ?_
      refine lv_iconst (v := 0) hx hb dX9_point_33 (by decide) ?_
      refine lv_aload_n hx hb dX9_point_34 rfl (lv_at hl 1 rfl) ?_
      refine r_get hC hw rk9 in_X9_point_9 0 (wMl 0 (by decide)) wM0 10 (by decide) lk_X9_point_37 (v := .ref (ad 9)) rfl dX9_point_35 ?_
      refine lv_iload_n hx hb dX9_point_38 rfl (lv_at hl 0 rfl) ?_
      refine r_iald hC hw 9 (wMl 9 (by decide)) wM9 (wf_th hW c_4).1 dX9_point_39 ?_
      refine lv_iconst (v := 1) hx hb dX9_point_40 (by decide) ?_
      refine lv_isub hx hb dX9_point_41 ?_
      refine r_ki hw (r_runS (rest := []) hC hw (c_X9_isIn l _ _ i0 0 ((sA κ 5 (aN (thI κ r0))) - 1)) 3 gX9_point_X9_isIn rfl rfl rfl (by decide +kernel) ⟨Nat.le_of_ble_eq_true rfl, Nat.le_of_ble_eq_true rfl⟩ rfl hl.1 rfl (Nat.le_of_ble_eq_true rfl) dX9_point_42 ⟨Nat.le_of_ble_eq_true rfl, Nat.le_of_ble_eq_true rfl⟩) (fun r_7 u_8 H locs h_6 hw => ?_)
      by_cases c_9 : pIn i0 0 ((sA κ 5 (aN (thI κ r0))) - 1)
      · rw [if_pos c_9] at h_6
        subst h_6
        refine lv_if_eq (tgt := 52) hx hb dX9_point_45 (by decide) (fun c_ => absurd c_ (by decide)) (fun _ => ?_)
        refine lv_iconst (v := 1) hx hb dX9_point_48 (by decide) ?_
        refine lv_goto (tgt := 53) hx hb dX9_point_49 (by decide) ?_
        refine lv_istore (lv' := [(4, .int 1), (3, .int (thI κ r0)), (0, .ref (ad 0)), (1, .int r0), (2, .int i0)]) hx hb dX9_point_53 hl (by decide) rfl (fun ls hl => ?_)
        refine lv_iload hx hb dX9_point_55 (lv_at hl 0 rfl) ?_
        refine lv_if_eq (tgt := 74) hx hb dX9_point_57 (by decide) (fun c_ => absurd c_ (by decide)) (fun _ => ?_)
        have hix := ix60 (wf_th hW c_4).1 (pin12 c_9 (wf_th hW c_4).2)
        refine lv_aload_n hx hb dX9_point_60 rfl (lv_at hl 2 rfl) ?_
        refine r_get hC hw rk9 in_X9_point_9 0 (wMl 0 (by decide)) wM0 12 (by decide) lk_X9_point_43 (v := .ref (ad 11)) rfl dX9_point_61 ?_
        refine lv_bipush (v := 12) hx hb dX9_point_64 (by decide) ?_
        refine lv_iload_n hx hb dX9_point_66 rfl (lv_at hl 1 rfl) ?_
        refine lv_imul hx hb dX9_point_67 ?_
        refine lv_iload_n hx hb dX9_point_68 rfl (lv_at hl 4 rfl) ?_
        refine lv_iadd hx hb dX9_point_69 ?_
        refine r_dald hC hw 11 (wMl 11 (by decide)) wM11 hix dX9_point_70 ?_
        refine lv_goto (tgt := 75) hx hb dX9_point_71 (by decide) ?_
        exact r_dret hC hr hlk hw () rfl ((if_pos (Int32.not_lt.mp c_4)).trans ((if_pos c_5).trans (if_pos c_9))).symm (Nat.le_of_ble_eq_true rfl) (Nat.le_of_ble_eq_true rfl) dX9_point_75
      · rw [if_neg c_9] at h_6
        subst h_6
        refine lv_if_eq (tgt := 52) hx hb dX9_point_45 (by decide) (fun _ => ?_) (fun c_ => absurd (by decide) c_)
        refine lv_iconst (v := 0) hx hb dX9_point_52 (by decide) ?_
        refine lv_istore (lv' := [(4, .int 0), (3, .int (thI κ r0)), (0, .ref (ad 0)), (1, .int r0), (2, .int i0)]) hx hb dX9_point_53 hl (by decide) rfl (fun ls hl => ?_)
        refine lv_iload hx hb dX9_point_55 (lv_at hl 0 rfl) ?_
        refine lv_if_eq (tgt := 74) hx hb dX9_point_57 (by decide) (fun _ => ?_) (fun c_ => absurd (by decide) c_)
        refine lv_dconst0 hx hb dX9_point_74 ?_
        exact r_dret hC hr hlk hw () rfl ((if_pos (Int32.not_lt.mp c_4)).trans ((if_pos c_5).trans (if_neg c_9))).symm (Nat.le_of_ble_eq_true rfl) (Nat.le_of_ble_eq_true rfl) dX9_point_75
    · refine lv_aload_n hx hb dX9_point_21 rfl (lv_at hl 1 rfl) ?_
      refine r_get hC hw rk9 in_X9_point_9 0 (wMl 0 (by decide)) wM0 9 (by decide) lk_X9_point_34 (v := .ref (ad 8)) rfl dX9_point_22 ?_
      refine lv_iload_n hx hb dX9_point_25 rfl (lv_at hl 0 rfl) ?_
      refine r_iald hC hw 8 (wMl 8 (by decide)) wM8 (wf_th hW c_4).1 dX9_point_26 ?_
      refine lv_bipush (v := 7) hx hb dX9_point_27 (by decide) ?_
      refine lv_icmp_ne (tgt := 52) hx hb dX9_point_29 (by decide) (fun c_10 => ?_) (fun c_10 => ?_)
      · refine lv_iconst (v := 0) hx hb dX9_point_52 (by decide) ?_
        refine lv_istore (lv' := [(4, .int 0), (3, .int (thI κ r0)), (0, .ref (ad 0)), (1, .int r0), (2, .int i0)]) hx hb dX9_point_53 hl (by decide) rfl (fun ls hl => ?_)
        refine lv_iload hx hb dX9_point_55 (lv_at hl 0 rfl) ?_
        refine lv_if_eq (tgt := 74) hx hb dX9_point_57 (by decide) (fun _ => ?_) (fun c_ => absurd (by decide) c_)
        refine lv_dconst0 hx hb dX9_point_74 ?_
        exact r_dret hC hr hlk hw () rfl ((if_pos (Int32.not_lt.mp c_4)).trans ((if_neg c_5).trans (if_neg c_10))).symm (Nat.le_of_ble_eq_true rfl) (Nat.le_of_ble_eq_true rfl) dX9_point_75
      · refine lv_iload_n hx hb dX9_point_32 rfl (lv_at hl 3 rfl) ?_
        refine lv_iconst (v := 0) hx hb dX9_point_33 (by decide) ?_
        refine lv_aload_n hx hb dX9_point_34 rfl (lv_at hl 1 rfl) ?_
        refine r_get hC hw rk9 in_X9_point_9 0 (wMl 0 (by decide)) wM0 10 (by decide) lk_X9_point_37 (v := .ref (ad 9)) rfl dX9_point_35 ?_
        refine lv_iload_n hx hb dX9_point_38 rfl (lv_at hl 0 rfl) ?_
        refine r_iald hC hw 9 (wMl 9 (by decide)) wM9 (wf_th hW c_4).1 dX9_point_39 ?_
        refine lv_iconst (v := 1) hx hb dX9_point_40 (by decide) ?_
        refine lv_isub hx hb dX9_point_41 ?_
        refine r_ki hw (r_runS (rest := []) hC hw (c_X9_isIn l _ _ i0 0 ((sA κ 5 (aN (thI κ r0))) - 1)) 3 gX9_point_X9_isIn rfl rfl rfl (by decide +kernel) ⟨Nat.le_of_ble_eq_true rfl, Nat.le_of_ble_eq_true rfl⟩ rfl hl.1 rfl (Nat.le_of_ble_eq_true rfl) dX9_point_42 ⟨Nat.le_of_ble_eq_true rfl, Nat.le_of_ble_eq_true rfl⟩) (fun r_12 u_13 H locs h_11 hw => ?_)
        by_cases c_14 : pIn i0 0 ((sA κ 5 (aN (thI κ r0))) - 1)
        · rw [if_pos c_14] at h_11
          subst h_11
          refine lv_if_eq (tgt := 52) hx hb dX9_point_45 (by decide) (fun c_ => absurd c_ (by decide)) (fun _ => ?_)
          refine lv_iconst (v := 1) hx hb dX9_point_48 (by decide) ?_
          refine lv_goto (tgt := 53) hx hb dX9_point_49 (by decide) ?_
          refine lv_istore (lv' := [(4, .int 1), (3, .int (thI κ r0)), (0, .ref (ad 0)), (1, .int r0), (2, .int i0)]) hx hb dX9_point_53 hl (by decide) rfl (fun ls hl => ?_)
          refine lv_iload hx hb dX9_point_55 (lv_at hl 0 rfl) ?_
          refine lv_if_eq (tgt := 74) hx hb dX9_point_57 (by decide) (fun c_ => absurd c_ (by decide)) (fun _ => ?_)
          have hix := ix60 (wf_th hW c_4).1 (pin12 c_14 (wf_th hW c_4).2)
          refine lv_aload_n hx hb dX9_point_60 rfl (lv_at hl 2 rfl) ?_
          refine r_get hC hw rk9 in_X9_point_9 0 (wMl 0 (by decide)) wM0 12 (by decide) lk_X9_point_43 (v := .ref (ad 11)) rfl dX9_point_61 ?_
          refine lv_bipush (v := 12) hx hb dX9_point_64 (by decide) ?_
          refine lv_iload_n hx hb dX9_point_66 rfl (lv_at hl 1 rfl) ?_
          refine lv_imul hx hb dX9_point_67 ?_
          refine lv_iload_n hx hb dX9_point_68 rfl (lv_at hl 4 rfl) ?_
          refine lv_iadd hx hb dX9_point_69 ?_
          refine r_dald hC hw 11 (wMl 11 (by decide)) wM11 hix dX9_point_70 ?_
          refine lv_goto (tgt := 75) hx hb dX9_point_71 (by decide) ?_
          exact r_dret hC hr hlk hw () rfl ((if_pos (Int32.not_lt.mp c_4)).trans ((if_neg c_5).trans ((if_pos c_10).trans (if_pos c_14)))).symm (Nat.le_of_ble_eq_true rfl) (Nat.le_of_ble_eq_true rfl) dX9_point_75
        · rw [if_neg c_14] at h_11
          subst h_11
          refine lv_if_eq (tgt := 52) hx hb dX9_point_45 (by decide) (fun _ => ?_) (fun c_ => absurd (by decide) c_)
          refine lv_iconst (v := 0) hx hb dX9_point_52 (by decide) ?_
          refine lv_istore (lv' := [(4, .int 0), (3, .int (thI κ r0)), (0, .ref (ad 0)), (1, .int r0), (2, .int i0)]) hx hb dX9_point_53 hl (by decide) rfl (fun ls hl => ?_)
          refine lv_iload hx hb dX9_point_55 (lv_at hl 0 rfl) ?_
          refine lv_if_eq (tgt := 74) hx hb dX9_point_57 (by decide) (fun _ => ?_) (fun c_ => absurd (by decide) c_)
          refine lv_dconst0 hx hb dX9_point_74 ?_
          exact r_dret hC hr hlk hw () rfl ((if_pos (Int32.not_lt.mp c_4)).trans ((if_neg c_5).trans ((if_pos c_10).trans (if_neg c_14)))).symm (Nat.le_of_ble_eq_true rfl) (Nat.le_of_ble_eq_true rfl) dX9_point_75

set_option maxHeartbeats 4000000 in
set_option maxRecDepth 100000 in
theorem c_X9_field (l : Launch) {D : va_G} {q : Nat → ClassId} {ad : Nat → Nat} {κ : KS} {t : Nat → Int32} (sz : Nat) (r0 w0 : Int32) (hW : WFm κ) (hX : ∀ x, vp_in x 60 → ¬ sA κ 8 (aN x) = 0 → vp_in (sA κ 8 (aN x) - 1) 60) : Met l yX9_field wsX9_field (rmz 2 43) (va_Pc [.ref (ad 0), .int r0, .int w0] (rPre D q (wM q ad κ t) sz)) (va_Ql (fun (r : Int64) (u : Unit) => r = if 0 ≤ (thI κ r0) then (if pRow (sA κ 4 (aN (thI κ r0))) then 0 else (if w0 = 0 then (sA κ 7 (aN (thI κ r0))).toInt64 else (if w0 = 1 then (if pKnot (sA κ 4 (aN (thI κ r0))) then sJ κ 2 (aN (thI κ r0)) else 0) else (if w0 = 2 then (if (sA κ 4 (aN (thI κ r0))) = 14 then 0 else (kdR κ (sA κ 8 (aN (thI κ r0)))).toInt64) else 0)))) else 0) (fun (u : Unit) tt => rPo D (rA (wM q ad κ t) sz) (wM q ad κ t) tt) (rA (wM q ad κ t) sz)) 0 0 (rA (wM q ad κ t) sz) := by
  refine r_start (cc := cX9_field) (maxL := 4) (ret := (some .long)) (by decide) rfl (Nat.le_of_ble_eq_true rfl) ?_
  intro p e s m below meth c ls hC hr hlk hnm hsz hw hl
  have hx := hC.1
  have hb := hC.2.1
  have hl : lv_has ls 4 [(0, .ref (ad 0)), (1, .int r0), (2, .int w0)] := hl
  refine lv_aload_n hx hb dX9_field_0 rfl (lv_at hl 0 rfl) ?_
  refine lv_iload_n hx hb dX9_field_1 rfl (lv_at hl 1 rfl) ?_
  refine r_ki hw (r_runV (rest := []) hC hw 0 (c_X9_thingIn (ad := ad) l _ r0) rk9 (wMl 0 (by decide)) wM0 1 gX9_field_X9_thingIn rfl rfl rfl (by decide +kernel) ⟨Nat.le_of_ble_eq_true rfl, Nat.le_of_ble_eq_true rfl⟩ rfl hl.1 rfl (Nat.le_of_ble_eq_true rfl) dX9_field_2 ⟨Nat.le_of_ble_eq_true rfl, Nat.le_of_ble_eq_true rfl⟩) (fun r_2 u_3 H locs h_1 hw => ?_)
  subst h_1
  refine lv_istore_n (lv' := [(3, .int (thI κ r0)), (0, .ref (ad 0)), (1, .int r0), (2, .int w0)]) hx hb dX9_field_5 rfl hl (by decide) rfl (fun ls hl => ?_)
  refine lv_iload_n hx hb dX9_field_6 rfl (lv_at hl 0 rfl) ?_
  refine lv_if_lt (tgt := 22) hx hb dX9_field_7 (by decide) (fun c_4 => ?_) (fun c_4 => ?_)
  · refine lv_lconst (v := 0) hx hb dX9_field_22 (by decide) ?_
    exact r_lret hC hr hlk hw () rfl (if_neg (Int32.not_le.mpr c_4)).symm (Nat.le_of_ble_eq_true rfl) (Nat.le_of_ble_eq_true rfl) dX9_field_23
  · refine lv_aload_n hx hb dX9_field_10 rfl (lv_at hl 1 rfl) ?_
    refine r_get hC hw rk9 in_X9_field_9 0 (wMl 0 (by decide)) wM0 9 (by decide) lk_X9_field_34 (v := .ref (ad 8)) rfl dX9_field_11 ?_
    refine lv_iload_n hx hb dX9_field_14 rfl (lv_at hl 0 rfl) ?_
    refine r_iald hC hw 8 (wMl 8 (by decide)) wM8 (wf_th hW c_4).1 dX9_field_15 ?_
    refine r_ki hw (r_runS (rest := []) hC hw (c_X9_isRow l _ _ (sA κ 4 (aN (thI κ r0)))) 1 gX9_field_X9_isRow rfl rfl rfl (by decide +kernel) ⟨Nat.le_of_ble_eq_true rfl, Nat.le_of_ble_eq_true rfl⟩ rfl hl.1 rfl (Nat.le_of_ble_eq_true rfl) dX9_field_16 ⟨Nat.le_of_ble_eq_true rfl, Nat.le_of_ble_eq_true rfl⟩) (fun r_6 u_7 H locs h_5 hw => ?_)
    by_cases c_8 : pRow (sA κ 4 (aN (thI κ r0)))
    · rw [if_pos c_8] at h_5
      subst h_5
      refine lv_if_eq (tgt := 24) hx hb dX9_field_19 (by decide) (fun c_ => absurd c_ (by decide)) (fun _ => ?_)
      refine lv_lconst (v := 0) hx hb dX9_field_22 (by decide) ?_
      exact r_lret hC hr hlk hw () rfl ((if_pos (Int32.not_lt.mp c_4)).trans (if_pos c_8)).symm (Nat.le_of_ble_eq_true rfl) (Nat.le_of_ble_eq_true rfl) dX9_field_23
    · rw [if_neg c_8] at h_5
      subst h_5
      refine lv_if_eq (tgt := 24) hx hb dX9_field_19 (by decide) (fun _ => ?_) (fun c_ => absurd (by decide) c_)
      refine lv_iload_n hx hb dX9_field_24 rfl (lv_at hl 3 rfl) ?_
      refine lv_if_ne (tgt := 36) hx hb dX9_field_25 (by decide) (fun c_9 => ?_) (fun c_9 => ?_)
      · refine lv_iload_n hx hb dX9_field_36 rfl (lv_at hl 3 rfl) ?_
        refine lv_iconst (v := 1) hx hb dX9_field_37 (by decide) ?_
        refine lv_icmp_ne (tgt := 64) hx hb dX9_field_38 (by decide) (fun c_10 => ?_) (fun c_10 => ?_)
        · refine lv_iload_n hx hb dX9_field_64 rfl (lv_at hl 3 rfl) ?_
          refine lv_iconst (v := 2) hx hb dX9_field_65 (by decide) ?_
          refine lv_icmp_ne (tgt := 94) hx hb dX9_field_66 (by decide) (fun c_11 => ?_) (fun c_11 => ?_)
          · refine lv_lconst (v := 0) hx hb dX9_field_94 (by decide) ?_
            exact r_lret hC hr hlk hw () rfl ((if_pos (Int32.not_lt.mp c_4)).trans ((if_neg c_8).trans ((if_neg c_9).trans ((if_neg c_10).trans (if_neg c_11))))).symm (Nat.le_of_ble_eq_true rfl) (Nat.le_of_ble_eq_true rfl) dX9_field_95
          · refine lv_aload_n hx hb dX9_field_69 rfl (lv_at hl 1 rfl) ?_
            refine r_get hC hw rk9 in_X9_field_9 0 (wMl 0 (by decide)) wM0 9 (by decide) lk_X9_field_34 (v := .ref (ad 8)) rfl dX9_field_70 ?_
            refine lv_iload_n hx hb dX9_field_73 rfl (lv_at hl 0 rfl) ?_
            refine r_iald hC hw 8 (wMl 8 (by decide)) wM8 (wf_th hW c_4).1 dX9_field_74 ?_
            refine lv_bipush (v := 14) hx hb dX9_field_75 (by decide) ?_
            refine lv_icmp_eq (tgt := 94) hx hb dX9_field_77 (by decide) (fun c_12 => ?_) (fun c_12 => ?_)
            · refine lv_lconst (v := 0) hx hb dX9_field_94 (by decide) ?_
              exact r_lret hC hr hlk hw () rfl ((if_pos (Int32.not_lt.mp c_4)).trans ((if_neg c_8).trans ((if_neg c_9).trans ((if_neg c_10).trans ((if_pos c_11).trans (if_pos c_12)))))).symm (Nat.le_of_ble_eq_true rfl) (Nat.le_of_ble_eq_true rfl) dX9_field_95
            · refine lv_aload_n hx hb dX9_field_80 rfl (lv_at hl 1 rfl) ?_
              refine lv_aload_n hx hb dX9_field_81 rfl (lv_at hl 1 rfl) ?_
              refine r_get hC hw rk9 in_X9_field_9 0 (wMl 0 (by decide)) wM0 16 (by decide) lk_X9_field_55 (v := .ref (ad 15)) rfl dX9_field_82 ?_
              refine lv_iload_n hx hb dX9_field_85 rfl (lv_at hl 0 rfl) ?_
              refine r_iald hC hw 15 (wMl 15 (by decide)) wM15 (wf_th hW c_4).1 dX9_field_86 ?_
              refine r_ki hw (r_runV (rest := []) hC hw 0 (c_X9_kindOf (ad := ad) l _ (sA κ 8 (aN (thI κ r0))) (fun hn => hX _ (wf_th hW c_4).1 hn)) rk9 (wMl 0 (by decide)) wM0 1 gX9_field_X9_kindOf rfl rfl rfl (by decide +kernel) ⟨Nat.le_of_ble_eq_true rfl, Nat.le_of_ble_eq_true rfl⟩ rfl hl.1 rfl (Nat.le_of_ble_eq_true rfl) dX9_field_87 ⟨Nat.le_of_ble_eq_true rfl, Nat.le_of_ble_eq_true rfl⟩) (fun r_14 u_15 H locs h_13 hw => ?_)
              subst h_13
              refine lv_i2l (v := (kdR κ (sA κ 8 (aN (thI κ r0)))).toInt64) hx hb dX9_field_90 rfl ?_
              refine lv_goto (tgt := 95) hx hb dX9_field_91 (by decide) ?_
              exact r_lret hC hr hlk hw () rfl ((if_pos (Int32.not_lt.mp c_4)).trans ((if_neg c_8).trans ((if_neg c_9).trans ((if_neg c_10).trans ((if_pos c_11).trans (if_neg c_12)))))).symm (Nat.le_of_ble_eq_true rfl) (Nat.le_of_ble_eq_true rfl) dX9_field_95
        · refine lv_aload_n hx hb dX9_field_41 rfl (lv_at hl 1 rfl) ?_
          refine r_get hC hw rk9 in_X9_field_9 0 (wMl 0 (by decide)) wM0 9 (by decide) lk_X9_field_34 (v := .ref (ad 8)) rfl dX9_field_42 ?_
          refine lv_iload_n hx hb dX9_field_45 rfl (lv_at hl 0 rfl) ?_
          refine r_iald hC hw 8 (wMl 8 (by decide)) wM8 (wf_th hW c_4).1 dX9_field_46 ?_
          refine r_ki hw (r_runS (rest := []) hC hw (c_X9_isKnot l _ _ (sA κ 4 (aN (thI κ r0)))) 1 gX9_field_X9_isKnot rfl rfl rfl (by decide +kernel) ⟨Nat.le_of_ble_eq_true rfl, Nat.le_of_ble_eq_true rfl⟩ rfl hl.1 rfl (Nat.le_of_ble_eq_true rfl) dX9_field_47 ⟨Nat.le_of_ble_eq_true rfl, Nat.le_of_ble_eq_true rfl⟩) (fun r_17 u_18 H locs h_16 hw => ?_)
          by_cases c_19 : pKnot (sA κ 4 (aN (thI κ r0)))
          · rw [if_pos c_19] at h_16
            subst h_16
            refine lv_if_eq (tgt := 62) hx hb dX9_field_50 (by decide) (fun c_ => absurd c_ (by decide)) (fun _ => ?_)
            refine lv_aload_n hx hb dX9_field_53 rfl (lv_at hl 1 rfl) ?_
            refine r_get hC hw rk9 in_X9_field_9 0 (wMl 0 (by decide)) wM0 15 (by decide) lk_X9_field_52 (v := .ref (ad 14)) rfl dX9_field_54 ?_
            refine lv_iload_n hx hb dX9_field_57 rfl (lv_at hl 0 rfl) ?_
            refine r_lald hC hw 14 (wMl 14 (by decide)) wM14 (wf_th hW c_4).1 dX9_field_58 ?_
            refine lv_goto (tgt := 63) hx hb dX9_field_59 (by decide) ?_
            exact r_lret hC hr hlk hw () rfl ((if_pos (Int32.not_lt.mp c_4)).trans ((if_neg c_8).trans ((if_neg c_9).trans ((if_pos c_10).trans (if_pos c_19))))).symm (Nat.le_of_ble_eq_true rfl) (Nat.le_of_ble_eq_true rfl) dX9_field_63
          · rw [if_neg c_19] at h_16
            subst h_16
            refine lv_if_eq (tgt := 62) hx hb dX9_field_50 (by decide) (fun _ => ?_) (fun c_ => absurd (by decide) c_)
            refine lv_lconst (v := 0) hx hb dX9_field_62 (by decide) ?_
            exact r_lret hC hr hlk hw () rfl ((if_pos (Int32.not_lt.mp c_4)).trans ((if_neg c_8).trans ((if_neg c_9).trans ((if_pos c_10).trans (if_neg c_19))))).symm (Nat.le_of_ble_eq_true rfl) (Nat.le_of_ble_eq_true rfl) dX9_field_63
      · refine lv_aload_n hx hb dX9_field_28 rfl (lv_at hl 1 rfl) ?_
        refine r_get hC hw rk9 in_X9_field_9 0 (wMl 0 (by decide)) wM0 14 (by decide) lk_X9_field_49 (v := .ref (ad 13)) rfl dX9_field_29 ?_
        refine lv_iload_n hx hb dX9_field_32 rfl (lv_at hl 0 rfl) ?_
        refine r_iald hC hw 13 (wMl 13 (by decide)) wM13 (wf_th hW c_4).1 dX9_field_33 ?_
        refine lv_i2l (v := (sA κ 7 (aN (thI κ r0))).toInt64) hx hb dX9_field_34 rfl ?_
        exact r_lret hC hr hlk hw () rfl ((if_pos (Int32.not_lt.mp c_4)).trans ((if_neg c_8).trans (if_pos c_9))).symm (Nat.le_of_ble_eq_true rfl) (Nat.le_of_ble_eq_true rfl) dX9_field_35

set_option maxHeartbeats 4000000 in
set_option maxRecDepth 100000 in
theorem c_X9_same (l : Launch) {D : va_G} {q : Nat → ClassId} {ad : Nat → Nat} {κ : KS} {t : Nat → Int32} (sz : Nat) (r0 q0 : Int32) : Met l yX9_same wsX9_same (rmz 2 43) (va_Pc [.ref (ad 0), .int r0, .int q0] (rPre D q (wM q ad κ t) sz)) (va_Qi (fun (r : Int32) (u : Unit) => r = if 0 ≤ (thI κ r0) then (if (thI κ r0) = (thI κ q0) then 1 else 0) else 0) (fun (u : Unit) tt => rPo D (rA (wM q ad κ t) sz) (wM q ad κ t) tt) (rA (wM q ad κ t) sz)) 0 0 (rA (wM q ad κ t) sz) := by
  refine r_start (cc := cX9_same) (maxL := 3) (ret := (some .boolean)) (by decide) rfl (Nat.le_of_ble_eq_true rfl) ?_
  intro p e s m below meth c ls hC hr hlk hnm hsz hw hl
  have hx := hC.1
  have hb := hC.2.1
  have hl : lv_has ls 3 [(0, .ref (ad 0)), (1, .int r0), (2, .int q0)] := hl
  refine lv_aload_n hx hb dX9_same_0 rfl (lv_at hl 0 rfl) ?_
  refine lv_iload_n hx hb dX9_same_1 rfl (lv_at hl 1 rfl) ?_
  refine r_ki hw (r_runV (rest := []) hC hw 0 (c_X9_thingIn (ad := ad) l _ r0) rk9 (wMl 0 (by decide)) wM0 1 gX9_same_X9_thingIn rfl rfl rfl (by decide +kernel) ⟨Nat.le_of_ble_eq_true rfl, Nat.le_of_ble_eq_true rfl⟩ rfl hl.1 rfl (Nat.le_of_ble_eq_true rfl) dX9_same_2 ⟨Nat.le_of_ble_eq_true rfl, Nat.le_of_ble_eq_true rfl⟩) (fun r_2 u_3 H locs h_1 hw => ?_)
  subst h_1
  refine lv_if_lt (tgt := 25) hx hb dX9_same_5 (by decide) (fun c_4 => ?_) (fun c_4 => ?_)
  · refine lv_iconst (v := 0) hx hb dX9_same_25 (by decide) ?_
    exact r_zret hC hr (by decide) hlk hw () rfl (if_neg (Int32.not_le.mpr c_4)).symm (Nat.le_of_ble_eq_true rfl) (Nat.le_of_ble_eq_true rfl) dX9_same_26
  · refine lv_aload_n hx hb dX9_same_8 rfl (lv_at hl 0 rfl) ?_
    refine lv_iload_n hx hb dX9_same_9 rfl (lv_at hl 1 rfl) ?_
    refine r_ki hw (r_runV (rest := []) hC hw 0 (c_X9_thingIn (ad := ad) l _ r0) rk9 (wMl 0 (by decide)) wM0 1 gX9_same_X9_thingIn rfl rfl rfl (by decide +kernel) ⟨Nat.le_of_ble_eq_true rfl, Nat.le_of_ble_eq_true rfl⟩ rfl hl.1 rfl (Nat.le_of_ble_eq_true rfl) dX9_same_10 ⟨Nat.le_of_ble_eq_true rfl, Nat.le_of_ble_eq_true rfl⟩) (fun r_6 u_7 H locs h_5 hw => ?_)
    subst h_5
    refine lv_aload_n hx hb dX9_same_13 rfl (lv_at hl 0 rfl) ?_
    refine lv_iload_n hx hb dX9_same_14 rfl (lv_at hl 2 rfl) ?_
    refine r_ki hw (r_runV (rest := [.int (thI κ r0)]) hC hw 0 (c_X9_thingIn (ad := ad) l _ q0) rk9 (wMl 0 (by decide)) wM0 1 gX9_same_X9_thingIn rfl rfl rfl (by decide +kernel) ⟨Nat.le_of_ble_eq_true rfl, Nat.le_of_ble_eq_true rfl⟩ rfl hl.1 rfl (Nat.le_of_ble_eq_true rfl) dX9_same_15 ⟨Nat.le_of_ble_eq_true rfl, Nat.le_of_ble_eq_true rfl⟩) (fun r_9 u_10 H locs h_8 hw => ?_)
    subst h_8
    refine lv_icmp_ne (tgt := 25) hx hb dX9_same_18 (by decide) (fun c_11 => ?_) (fun c_11 => ?_)
    · refine lv_iconst (v := 0) hx hb dX9_same_25 (by decide) ?_
      exact r_zret hC hr (by decide) hlk hw () rfl ((if_pos (Int32.not_lt.mp c_4)).trans (if_neg c_11)).symm (Nat.le_of_ble_eq_true rfl) (Nat.le_of_ble_eq_true rfl) dX9_same_26
    · refine lv_iconst (v := 1) hx hb dX9_same_21 (by decide) ?_
      refine lv_goto (tgt := 26) hx hb dX9_same_22 (by decide) ?_
      exact r_zret hC hr (by decide) hlk hw () rfl ((if_pos (Int32.not_lt.mp c_4)).trans (if_pos c_11)).symm (Nat.le_of_ble_eq_true rfl) (Nat.le_of_ble_eq_true rfl) dX9_same_26

set_option maxHeartbeats 4000000 in
set_option maxRecDepth 100000 in
theorem c_X9_told (l : Launch) {D : va_G} {q : Nat → ClassId} {ad : Nat → Nat} {κ : KS} {t : Nat → Int32} (sz : Nat) (i0 : Int32) (hT : ¬ sI κ 7 < 0) : Met l yX9_told wsX9_told (rmz 1 22) (va_Pc [.ref (ad 0), .int i0] (rPre D q (wM q ad κ t) sz)) (va_Qi (fun (r : Int32) (u : Unit) => r = if 200 ≤ (sI κ 7) then (if pIn i0 0 199 then sA κ 10 (aN i0) else 0) else (if pIn i0 0 ((sI κ 7) - 1) then sA κ 10 (aN i0) else 0)) (fun (u : Unit) tt => rPo D (rA (wM q ad κ t) sz) (wM q ad κ t) tt) (rA (wM q ad κ t) sz)) 0 0 (rA (wM q ad κ t) sz) := by
  refine r_start (cc := cX9_told) (maxL := 2) (ret := (some .int)) (by decide) rfl (Nat.le_of_ble_eq_true rfl) ?_
  intro p e s m below meth c ls hC hr hlk hnm hsz hw hl
  have hx := hC.1
  have hb := hC.2.1
  have hl : lv_has ls 2 [(0, .ref (ad 0)), (1, .int i0)] := hl
  refine lv_iload_n hx hb dX9_told_0 rfl (lv_at hl 1 rfl) ?_
  refine lv_iconst (v := 0) hx hb dX9_told_1 (by decide) ?_
  refine lv_aload_n hx hb dX9_told_2 rfl (lv_at hl 0 rfl) ?_
  refine r_get hC hw rk9 in_X9_told_9 0 (wMl 0 (by decide)) wM0 24 (by decide) lk_X9_told_101 (v := .int (sI κ 7)) rfl dX9_told_3 ?_
  refine lv_sipush (v := 200) hx hb dX9_told_6 (by decide) ?_
  refine lv_icmp_ge (tgt := 19) hx hb dX9_told_9 (by decide) (fun c_1 => ?_) (fun c_1 => ?_)
  · refine lv_sipush (v := 200) hx hb dX9_told_19 (by decide) ?_
    refine lv_iconst (v := 1) hx hb dX9_told_22 (by decide) ?_
    refine lv_isub hx hb dX9_told_23 ?_
    refine r_topi (x := 200 - 1) (y := 199) (by decide) ?_
    refine r_ki hw (r_runS (rest := []) hC hw (c_X9_isIn l _ _ i0 0 199) 3 gX9_told_X9_isIn rfl rfl rfl (by decide +kernel) ⟨Nat.le_of_ble_eq_true rfl, Nat.le_of_ble_eq_true rfl⟩ rfl hl.1 rfl (Nat.le_of_ble_eq_true rfl) dX9_told_24 ⟨Nat.le_of_ble_eq_true rfl, Nat.le_of_ble_eq_true rfl⟩) (fun r_3 u_4 H locs h_2 hw => ?_)
    by_cases c_5 : pIn i0 0 199
    · rw [if_pos c_5] at h_2
      subst h_2
      refine lv_if_eq (tgt := 39) hx hb dX9_told_27 (by decide) (fun c_ => absurd c_ (by decide)) (fun _ => ?_)
      refine lv_aload_n hx hb dX9_told_30 rfl (lv_at hl 0 rfl) ?_
      refine r_get hC hw rk9 in_X9_told_9 0 (wMl 0 (by decide)) wM0 23 (by decide) lk_X9_told_61 (v := .ref (ad 17)) rfl dX9_told_31 ?_
      refine lv_iload_n hx hb dX9_told_34 rfl (lv_at hl 1 rfl) ?_
      refine r_iald hC hw 17 (wMl 17 (by decide)) wM17 (in199 c_5) dX9_told_35 ?_
      refine lv_goto (tgt := 40) hx hb dX9_told_36 (by decide) ?_
      exact r_iret hC hr hlk hw () rfl ((if_pos c_1).trans (if_pos c_5)).symm (Nat.le_of_ble_eq_true rfl) (Nat.le_of_ble_eq_true rfl) dX9_told_40
    · rw [if_neg c_5] at h_2
      subst h_2
      refine lv_if_eq (tgt := 39) hx hb dX9_told_27 (by decide) (fun _ => ?_) (fun c_ => absurd (by decide) c_)
      refine lv_iconst (v := 0) hx hb dX9_told_39 (by decide) ?_
      exact r_iret hC hr hlk hw () rfl ((if_pos c_1).trans (if_neg c_5)).symm (Nat.le_of_ble_eq_true rfl) (Nat.le_of_ble_eq_true rfl) dX9_told_40
  · refine lv_aload_n hx hb dX9_told_12 rfl (lv_at hl 0 rfl) ?_
    refine r_get hC hw rk9 in_X9_told_9 0 (wMl 0 (by decide)) wM0 24 (by decide) lk_X9_told_101 (v := .int (sI κ 7)) rfl dX9_told_13 ?_
    refine lv_goto (tgt := 22) hx hb dX9_told_16 (by decide) ?_
    refine lv_iconst (v := 1) hx hb dX9_told_22 (by decide) ?_
    refine lv_isub hx hb dX9_told_23 ?_
    refine r_ki hw (r_runS (rest := []) hC hw (c_X9_isIn l _ _ i0 0 ((sI κ 7) - 1)) 3 gX9_told_X9_isIn rfl rfl rfl (by decide +kernel) ⟨Nat.le_of_ble_eq_true rfl, Nat.le_of_ble_eq_true rfl⟩ rfl hl.1 rfl (Nat.le_of_ble_eq_true rfl) dX9_told_24 ⟨Nat.le_of_ble_eq_true rfl, Nat.le_of_ble_eq_true rfl⟩) (fun r_7 u_8 H locs h_6 hw => ?_)
    by_cases c_9 : pIn i0 0 ((sI κ 7) - 1)
    · rw [if_pos c_9] at h_6
      subst h_6
      refine lv_if_eq (tgt := 39) hx hb dX9_told_27 (by decide) (fun c_ => absurd c_ (by decide)) (fun _ => ?_)
      refine lv_aload_n hx hb dX9_told_30 rfl (lv_at hl 0 rfl) ?_
      refine r_get hC hw rk9 in_X9_told_9 0 (wMl 0 (by decide)) wM0 23 (by decide) lk_X9_told_61 (v := .ref (ad 17)) rfl dX9_told_31 ?_
      refine lv_iload_n hx hb dX9_told_34 rfl (lv_at hl 1 rfl) ?_
      refine r_iald hC hw 17 (wMl 17 (by decide)) wM17 (in200t hT c_1 c_9) dX9_told_35 ?_
      refine lv_goto (tgt := 40) hx hb dX9_told_36 (by decide) ?_
      exact r_iret hC hr hlk hw () rfl ((if_neg c_1).trans (if_pos c_9)).symm (Nat.le_of_ble_eq_true rfl) (Nat.le_of_ble_eq_true rfl) dX9_told_40
    · rw [if_neg c_9] at h_6
      subst h_6
      refine lv_if_eq (tgt := 39) hx hb dX9_told_27 (by decide) (fun _ => ?_) (fun c_ => absurd (by decide) c_)
      refine lv_iconst (v := 0) hx hb dX9_told_39 (by decide) ?_
      exact r_iret hC hr hlk hw () rfl ((if_neg c_1).trans (if_neg c_9)).symm (Nat.le_of_ble_eq_true rfl) (Nat.le_of_ble_eq_true rfl) dX9_told_40

