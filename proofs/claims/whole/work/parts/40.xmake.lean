theorem xP_made {D : va_G} {q : Nat → ClassId} {A : Nat → Prop} {H0 : Heap} {s : State} {ad : Nat → Nat} {κ : KS} {τ : TAU} {H : Heap} {locs : List Loc} {v : Int32} {M : Nat} (hM : aN (sI κ 2) = M) (h : rX D q A H0 s (wU (wX q ad κ τ) 5 (.inr (7, [.ref (ad 2), .int v]))) H locs) : rX D q A H0 s (wV q ad (uI κ 2 v) τ M) H locs := by
  subst hM
  refine h.as (fun i hi => hi) (fun i hi => rfl) (fun i hi => ?_)
  show exX q ad (uI κ 2 v) τ i = va_up (exX q ad κ τ) 5 (.inr (7, [.ref (ad 2), .int v])) i
  by_cases hj : i < 15
  · match i, hj with
    | 0, _ => rfl
    | 1, _ => rfl
    | 2, _ => rfl
    | 3, _ => rfl
    | 4, _ => rfl
    | 5, _ => rfl
    | 6, _ => rfl
    | 7, _ => rfl
    | 8, _ => rfl
    | 9, _ => rfl
    | 10, _ => rfl
    | 11, _ => rfl
    | 12, _ => rfl
    | 13, _ => rfl
    | 14, _ => rfl
    | i + 15, hj => exact absurd hj (by omega)
  · rw [va_up_ne _ _ (by omega), exX_ge hj, exX_ge hj]; rfl
theorem WFa.uI {κ : KS} {τ : TAU} {M : Nat} (h : WFa κ τ M) (k : Nat) (v : Int32) : WFa (uI κ k v) τ M := h
theorem xNg {D : va_G} {q : Nat → ClassId} {A : Nat → Prop} {H0 : Heap} {s : State} {ad : Nat → Nat} {κ : KS} {τ : TAU} {H : Heap} {locs : List Loc} {M : Nat} {kd pl : Int32} {W W2 : wT} (h60 : M < 60) (hF : WFa κ τ M) (kp : Kp (wV q ad κ τ M) W (fun _ => False) (fun r => r = 100 + 4 * M)) (hth : ThP q W W2 (100 + 4 * M) kd pl) (hw : rX D q A H0 s W2 H locs) : ∃ ad2 : Nat → Nat, rX D q A H0 s (wV q ad2 (nw κ M kd pl) τ (M + 1)) H locs ∧ (∀ i, lvV κ M i → ad2 i = ad i) ∧ W.1 (100 + 4 * M) = ad2 (100 + 4 * M) := by
  obtain ⟨kp2, a1, a2, a3, t0, t1, t2, t3⟩ := hth
  have hold : ∀ i, lvV κ M i → W2.2.1 i ∧ W2.1 i = ad i ∧ W2.2.2 i = exX q ad κ τ i := by
    intro i hi
    have z := kp.1 i hi
    have z2 := kp2.1 i z.1
    have hne : ¬ i = 100 + 4 * M := by unfold lvV at hi; omega
    exact ⟨z2.1, z2.2.1.trans z.2.1, (z2.2.2 hne).trans (z.2.2 (fun h => h))⟩
  refine ⟨W2.1, xN h60 hF hold t0 ?_ ?_ ?_ hw, fun i hi => (hold i hi).2.1, t0.2.1.symm⟩
  · rw [show 101 + 4 * M = 100 + 4 * M + 1 by omega]; exact t1
  · rw [show 102 + 4 * M = 100 + 4 * M + 2 by omega]; exact t2
  · rw [show 103 + 4 * M = 100 + 4 * M + 3 by omega]; exact t3
theorem mk_aN {κ : KS} {M : Nat} (hM : sI κ 2 = nI M) (h60 : M < 60) (kd pl : Int32) : aN (sI (mk κ kd pl) 2) = M + 1 := by
  rw [mk_made, hM, nI_1]; exact nI_clamp (by omega)
theorem xNm {D : va_G} {q : Nat → ClassId} {A : Nat → Prop} {H0 : Heap} {s : State} {ad : Nat → Nat} {κ : KS} {τ : TAU} {H : Heap} {locs : List Loc} {M : Nat} {kd pl : Int32} {W W2 : wT} (h60 : M < 60) (hM : sI κ 2 = nI M) (hF : WFa κ τ M) (kp : Kp (wV q ad (uI κ 2 (sI κ 2 + 1)) τ M) W (fun _ => False) (fun r => r = 100 + 4 * M)) (hth : ThP q W W2 (100 + 4 * M) kd pl) (hw : rX D q A H0 s W2 H locs) : ∃ ad2 : Nat → Nat, rX D q A H0 s (wX q ad2 (mk κ kd pl) τ) H locs ∧ (∀ i, lvX κ i → ad2 i = ad i) ∧ W.1 (100 + 4 * M) = ad2 (100 + 4 * M) := by
  obtain ⟨ad2, h1, h2, h3⟩ := xNg h60 (hF.uI 2 _) kp hth hw
  refine ⟨ad2, ?_, fun i hi => h2 i ?_, h3⟩
  · rw [nw_mk hM, wVX (mk_aN hM h60 kd pl)] at h1
    exact h1
  · have e : aN (sI κ 2) = M := by rw [hM]; exact nI_clamp (by omega)
    unfold lvX at hi
    rw [e] at hi
    exact hi
theorem stepAt_cg {q : Nat → ClassId} {ad ad2 : Nat → Nat} {κ κ' : KS} {τ τ' : TAU} {ρ : Nat} {k a b c : Int32} (h4 : 400 ≤ ρ) (h0 : sA κ' 0 = sA κ 0) (h1 : sA κ' 1 = sA κ 1) (i0 : sI κ' 0 = sI κ 0) (i1 : sI κ' 1 = sI κ 1) (m60 : aN (sI κ 2) ≤ 60) (h : stepAt q ad κ τ ρ k a b c) : stepAt q ad2 κ' τ' ρ k a b c := by
  refine ⟨?_, ?_⟩
  · have h := h.1
    show lvX κ' ρ
    have h : lvX κ ρ := h
    unfold lvX at h ⊢
    rw [i0, i1]
    omega
  · have h := h.2
    show exX q ad2 κ' τ' ρ = _
    have h : exX q ad κ τ ρ = _ := h
    rw [exX_ge (by omega)] at h ⊢
    rw [← h]
    exact exG_cg (by omega) h0 h1
theorem k_sV {q : Nat → ClassId} {ad : Nat → Nat} {κ : KS} {τ : TAU} {ρ M : Nat} {v k a b c : Int32} (hM : aN (sI κ 2) = M) (hρ : 400 ≤ ρ) (h60 : M ≤ 60) (h : stepAt q ad κ τ ρ k a b c) : At (wV q ad (uI κ 2 v) τ M) ρ (ad ρ) (.inr (5, [.int k, .int a, .int b, .int c])) := by
  have i0 : sI (uI κ 2 v) 0 = sI κ 0 := rfl
  have i1 : sI (uI κ 2 v) 1 = sI κ 1 := rfl
  refine ⟨?_, rfl, ?_⟩
  · have h := h.1
    have h : lvX κ ρ := h
    show lvV (uI κ 2 v) M ρ
    unfold lvX at h
    unfold lvV
    rw [i0, i1]
    omega
  · have h := h.2
    have h : exX q ad κ τ ρ = _ := h
    show exX q ad (uI κ 2 v) τ ρ = _
    rw [exX_ge (by omega)] at h ⊢
    rw [← h]
    exact exG_cg (by omega) rfl rfl
theorem rT_M {M : Nat} {x : Int32} (hx : x = nI M) (h60 : M < 60) (ad : Nat → Nat) : (rT (x + 1)).map ad = some (ad (100 + 4 * M)) := by
  have h0 : ¬ x + 1 = 0 := by
    rw [hx, nI_1]
    intro h
    have h2 : aN (nI (M + 1)) = 0 := by rw [h]; rfl
    rw [show aN (nI (M + 1)) = M + 1 from nI_clamp (by omega)] at h2
    omega
  rw [rT1 h0, ix1, hx, show aN (nI M) = M from nI_clamp (by omega)]
  rfl
theorem mid60 {x : Int32} (h : vp_in x 61) (hn : ¬ x = 60) : ∃ M, M < 60 ∧ x = nI M := by
  obtain ⟨n, hn2, e⟩ := vp_in_of (in60 h hn) (by decide)
  exact ⟨n, hn2, e⟩
theorem hroom1 {x : Int32} (h : vp_in x 61) : (60 < x + 1) ↔ x = 60 := by
  obtain ⟨n, hn, rfl⟩ := vp_in_of h (by decide)
  constructor
  · intro h1
    rw [nI_1, show (60 : Int32) = nI 60 from rfl] at h1
    have := (nI_ltI (by omega) (by omega)).mp h1
    have : n = 60 := by omega
    rw [this]; rfl
  · intro h1
    rw [h1]; decide
set_option maxHeartbeats 4000000 in
set_option maxRecDepth 100000 in
theorem c_X7_hasRoom1 (l : Launch) {D : va_G} {q : Nat → ClassId} {ad : Nat → Nat} {κ : KS} {τ : TAU} (sz : Nat) (hm : vp_in (sI κ 2) 61) : Met l yX7_hasRoom wsX7_hasRoom (rmz 0 0) (va_Pc [.ref (ad 5), .int 1] (rPre D q (wX q ad κ τ) sz)) (va_Qi (fun (r : Int32) (u : Unit) => r = if sI κ 2 = 60 then 0 else 1) (fun (u : Unit) tt => rPo D (rA (wX q ad κ τ) sz) (wX q ad κ τ) tt) (rA (wX q ad κ τ) sz)) 0 0 (rA (wX q ad κ τ) sz) := by
  refine r_start (cc := cX7_hasRoom) (maxL := 2) (ret := (some .boolean)) (by decide) rfl (Nat.le_of_ble_eq_true rfl) ?_
  intro p e s m below meth c ls hC hr hlk hnm hsz hw hl
  have hx := hC.1
  have hb := hC.2.1
  have hl : lv_has ls 2 [(0, .ref (ad 5)), (1, .int 1)] := hl
  refine lv_aload_n hx hb dX7_hasRoom_0 rfl (lv_at hl 0 rfl) ?_
  refine r_get hC hw rk7 in_X7_hasRoom_7 5 (wXl 5 (by decide)) wXc5 1 (by decide) lk_X7_hasRoom_54 (v := .int (sI κ 2)) rfl dX7_hasRoom_1 ?_
  refine lv_iload_n hx hb dX7_hasRoom_4 rfl (lv_at hl 1 rfl) ?_
  refine lv_iadd hx hb dX7_hasRoom_5 ?_
  refine lv_bipush (v := 60) hx hb dX7_hasRoom_6 (by decide) ?_
  refine lv_icmp_gt (tgt := 15) hx hb dX7_hasRoom_8 (by decide) (fun c_1 => ?_) (fun c_1 => ?_)
  · refine lv_iconst (v := 0) hx hb dX7_hasRoom_15 (by decide) ?_
    exact r_zret hC hr (by decide) hlk hw () rfl (if_pos ((hroom1 hm).mp c_1)).symm (Nat.le_of_ble_eq_true rfl) (Nat.le_of_ble_eq_true rfl) dX7_hasRoom_16
  · refine lv_iconst (v := 1) hx hb dX7_hasRoom_11 (by decide) ?_
    refine lv_goto (tgt := 16) hx hb dX7_hasRoom_12 (by decide) ?_
    exact r_zret hC hr (by decide) hlk hw () rfl (if_neg (fun h => c_1 ((hroom1 hm).mpr h))).symm (Nat.le_of_ble_eq_true rfl) (Nat.le_of_ble_eq_true rfl) dX7_hasRoom_16

set_option maxHeartbeats 4000000 in
set_option maxRecDepth 100000 in
theorem c_X7_hasRoomG (l : Launch) {D : va_G} {q : Nat → ClassId} {ad : Nat → Nat} {κ : KS} {τ : TAU} (sz : Nat) (x0 : Int32) : Met l yX7_hasRoom wsX7_hasRoom (rmz 0 0) (va_Pc [.ref (ad 5), .int x0] (rPre D q (wX q ad κ τ) sz)) (va_Qi (fun (r : Int32) (u : Unit) => r = if sI κ 2 + x0 ≤ 60 then 1 else 0) (fun (u : Unit) tt => rPo D (rA (wX q ad κ τ) sz) (wX q ad κ τ) tt) (rA (wX q ad κ τ) sz)) 0 0 (rA (wX q ad κ τ) sz) := by
  refine r_start (cc := cX7_hasRoom) (maxL := 2) (ret := (some .boolean)) (by decide) rfl (Nat.le_of_ble_eq_true rfl) ?_
  intro p e s m below meth c ls hC hr hlk hnm hsz hw hl
  have hx := hC.1
  have hb := hC.2.1
  have hl : lv_has ls 2 [(0, .ref (ad 5)), (1, .int x0)] := hl
  refine lv_aload_n hx hb dX7_hasRoom_0 rfl (lv_at hl 0 rfl) ?_
  refine r_get hC hw rk7 in_X7_hasRoom_7 5 (wXl 5 (by decide)) wXc5 1 (by decide) lk_X7_hasRoom_54 (v := .int (sI κ 2)) rfl dX7_hasRoom_1 ?_
  refine lv_iload_n hx hb dX7_hasRoom_4 rfl (lv_at hl 1 rfl) ?_
  refine lv_iadd hx hb dX7_hasRoom_5 ?_
  refine lv_bipush (v := 60) hx hb dX7_hasRoom_6 (by decide) ?_
  refine lv_icmp_gt (tgt := 15) hx hb dX7_hasRoom_8 (by decide) (fun c_1 => ?_) (fun c_1 => ?_)
  · refine lv_iconst (v := 0) hx hb dX7_hasRoom_15 (by decide) ?_
    exact r_zret hC hr (by decide) hlk hw () rfl (if_neg (Int32.not_le.mpr c_1)).symm (Nat.le_of_ble_eq_true rfl) (Nat.le_of_ble_eq_true rfl) dX7_hasRoom_16
  · refine lv_iconst (v := 1) hx hb dX7_hasRoom_11 (by decide) ?_
    refine lv_goto (tgt := 16) hx hb dX7_hasRoom_12 (by decide) ?_
    exact r_zret hC hr (by decide) hlk hw () rfl (if_pos (Int32.not_lt.mp c_1)).symm (Nat.le_of_ble_eq_true rfl) (Nat.le_of_ble_eq_true rfl) dX7_hasRoom_16

theorem in13 {x : Int32} (h0 : 0 ≤ x) (h1 : x ≤ 12) : vp_in x 13 := by
  obtain ⟨j, hj, e⟩ := nI_of2 (M := 12) (n := 12) (by decide) (Int32.not_lt.mpr h0) h1
  rw [e]; exact vp_in_nI (by omega) (by decide)
theorem act_31 (κ : KS) (hd th a b c : Int32) : act κ hd th 31 a b c = uA (mk κ b (sA κ 2 (aN c))) 3 (aN a) (sI κ 2 + 1) := rfl
theorem act_33 (κ : KS) (hd th a b c : Int32) : act κ hd th 33 a b c = uA (uA (mk κ b 0) 3 (aN a) (sI κ 2 + 1)) 7 (aN (sI κ 2)) (sA κ 2 (aN c)) := rfl
theorem act_67 (κ : KS) (hd th a b c : Int32) : act κ hd th 67 a b c = uA (uA (uA (mk κ 15 0) 3 (aN a) (sI κ 2 + 1)) 7 (aN (sI κ 2)) (8 + (sA κ 2 (aN b) &&& 15))) 8 (aN (sI κ 2)) (sA κ 3 (aN c)) := rfl
theorem act_32 (κ : KS) (hd th a b c : Int32) : act κ hd th 32 a b c = uA (mkR (mk κ 10 (sA κ 2 (aN b))) (sI κ 2) (sA κ 2 (aN c)) (aN (sA κ 2 (aN b)))) 3 (aN a) (sI κ 2 + 1) := rfl
theorem v13_0 : vp_in (0 : Int32) 13 := by unfold vp_in; decide
set_option maxHeartbeats 4000000 in
set_option maxRecDepth 100000 in
theorem c_X7_makeRow (l : Launch) {D : va_G} {q : Nat → ClassId} {ad : Nat → Nat} {κ : KS} {τ : TAU} (sz : Nat) (ρ : Nat) (xa xb xc hd th : Int32) (hst : stepAt q ad κ τ ρ 31 xa xb xc) (hs : okStep 31 xa xb xc)(hX : WFx κ) (hm : vp_in (sI κ 2) 61) (hF : WFa κ τ (aN (sI κ 2))) (hρ : 400 ≤ ρ) (g : Nat) (hg : why κ 31 xa xb xc = 0 → 1 ≤ g) : Met l yX7_makeRow wsX7_makeRow (rmc 2 34 (4 * g) (44 * g)) (va_Pc [.ref (ad 5), .ref (ad ρ)] (rPre D q (wX q ad κ τ) sz)) (va_Qi (fun (r : Int32) (u : KS × (Nat → Nat)) => (r, u.1) = doR κ hd th 31 xa xb xc ∧ ∀ i, lvX κ i → u.2 i = ad i) (fun (u : KS × (Nat → Nat)) tt => rPo D (rA (wX q ad κ τ) sz) (wX q u.2 u.1 τ) tt) (rA (wX q ad κ τ) sz)) (4 * g) (44 * g) (rA (wX q ad κ τ) sz) := by
  have hi0 : vp_in xa 8 := hs.1
  have hi1 : vp_in xb 10 := hs.2.1
  have hi2 : vp_in xc 8 := hs.2.2
  refine r_start (cc := cX7_makeRow) (maxL := 3) (ret := (some .int)) (by decide) rfl (Nat.le_of_ble_eq_true rfl) ?_
  intro p e s m below meth c ls hC hr hlk hnm hsz hw hl
  have hx := hC.1
  have hb := hC.2.1
  have hl : lv_has ls 3 [(0, .ref (ad 5)), (1, .ref (ad ρ))] := hl
  refine lv_aload_n hx hb dX7_makeRow_0 rfl (lv_at hl 0 rfl) ?_
  refine r_get hC hw rk7 in_X7_makeRow_7 5 (wXl 5 (by decide)) wXc5 0 (by decide) lk_X7_makeRow_9 (v := .ref (ad 2)) rfl dX7_makeRow_1 ?_
  refine lv_aload_n hx hb dX7_makeRow_4 rfl (lv_at hl 1 rfl) ?_
  refine r_get hC hw rk5 in_X7_makeRow_5 ρ hst.1 hst.2 3 (by decide) lk_X7_makeRow_57 (v := .int xc) rfl dX7_makeRow_5 ?_
  refine r_ki hw (r_runV (rest := []) hC hw 2 (c_X3_getWord l _ _ 2 8 xc (wXl 2 (by decide)) wXc2 (wXl 8 (by decide)) wXc8) rk3 (wXl 2 (by decide)) wXc2 1 gX7_makeRow_X3_getWord rfl rfl rfl (by decide +kernel) ⟨Nat.le_of_ble_eq_true rfl, Nat.le_of_ble_eq_true rfl⟩ rfl hl.1 rfl (Nat.le_of_ble_eq_true rfl) dX7_makeRow_8 ⟨Nat.le_of_ble_eq_true rfl, Nat.le_of_ble_eq_true rfl⟩) (fun r_2 u_3 H locs h_1 hw => ?_)
  subst h_1
  refine r_topv (y := .int (sA κ 2 (aN xc))) (congrArg _ (gN_in (by assumption) (by decide))) ?_
  refine lv_istore_n (lv' := [(2, .int (sA κ 2 (aN xc))), (0, .ref (ad 5)), (1, .ref (ad ρ))]) hx hb dX7_makeRow_11 rfl hl (by decide) rfl (fun ls hl => ?_)
  refine lv_iload_n hx hb dX7_makeRow_12 rfl (lv_at hl 0 rfl) ?_
  refine lv_bipush (v := 12) hx hb dX7_makeRow_13 (by decide) ?_
  refine lv_icmp_le (tgt := 21) hx hb dX7_makeRow_15 (by decide) (fun c_4 => ?_) (fun c_4 => ?_)
  · refine lv_iload_n hx hb dX7_makeRow_21 rfl (lv_at hl 0 rfl) ?_
    refine lv_if_ge (tgt := 27) hx hb dX7_makeRow_22 (by decide) (fun c_5 => ?_) (fun c_5 => ?_)
    · refine lv_aload_n hx hb dX7_makeRow_27 rfl (lv_at hl 1 rfl) ?_
      refine lv_iconst (v := 1) hx hb dX7_makeRow_28 (by decide) ?_
      refine r_ki hw (r_runV (rest := []) hC hw 5 (c_X7_hasRoom1 (ad := ad) l _ hm) rk7 (wXl 5 (by decide)) wXc5 1 gX7_makeRow_X7_hasRoom rfl rfl rfl (by decide +kernel) ⟨Nat.le_of_ble_eq_true rfl, Nat.le_of_ble_eq_true rfl⟩ rfl hl.1 rfl (Nat.le_of_ble_eq_true rfl) dX7_makeRow_29 ⟨Nat.le_of_ble_eq_true rfl, Nat.le_of_ble_eq_true rfl⟩) (fun r_7 u_8 H locs h_6 hw => ?_)
      by_cases c_9 : (sI κ 2) = 60
      · rw [if_pos c_9] at h_6
        subst h_6
        refine lv_if_ne (tgt := 38) hx hb dX7_makeRow_32 (by decide) (fun c_ => absurd (by decide) c_) (fun _ => ?_)
        refine lv_bipush (v := 7) hx hb dX7_makeRow_35 (by decide) ?_
        exact r_iret hC hr hlk hw (κ, ad) rfl ⟨(doRf (κ := κ) (hd := hd) (th := th) (k := 31) (a := xa) (b := xb) (c := xc) ((if_pos c_4).trans ((if_pos c_5).trans (if_pos c_9))) (by decide)).symm, fun _ _ => rfl⟩ (Nat.zero_le _) (Nat.zero_le _) dX7_makeRow_37
      · rw [if_neg c_9] at h_6
        subst h_6
        refine lv_if_ne (tgt := 38) hx hb dX7_makeRow_32 (by decide) (fun _ => ?_) (fun c_ => absurd c_ (by decide))
        refine lv_aload_n hx hb dX7_makeRow_38 rfl (lv_at hl 1 rfl) ?_
        refine lv_dup hx hb dX7_makeRow_39 rfl ?_
        refine r_get hC hw rk7 in_X7_makeRow_7 5 (wXl 5 (by decide)) wXc5 1 (by decide) lk_X7_makeRow_54 (v := .int (sI κ 2)) rfl dX7_makeRow_40 ?_
        refine lv_iconst (v := 1) hx hb dX7_makeRow_43 (by decide) ?_
        refine lv_iadd hx hb dX7_makeRow_44 ?_
        have hg1 : 1 ≤ g := hg ((if_pos c_4).trans ((if_pos c_5).trans (if_neg c_9)))
        have hpl : vp_in (sA κ 2 (aN xc)) 13 := in13 c_5 c_4
        refine r_put hC hw rk7 in_X7_makeRow_7 5 (wXl 5 (by decide)) wXc5 1 (by decide) lk_X7_makeRow_54 rfl rfl rfl (Nat.le_of_ble_eq_true rfl) dX7_makeRow_45 (fun H locs hw => ?_)
        obtain ⟨M, h60, hM⟩ := mid60 hm c_9
        have hMa : aN (sI κ 2) = M := by rw [hM]; exact nI_clamp (by omega)
        rw [hMa] at hF
        replace hw := xP_made (v := (sI κ 2) + 1) hMa hw
        have k_w : At (wV q ad (uI κ 2 ((sI κ 2) + 1)) τ M) 5 (ad 5) (.inr (7, [.ref (ad 2), .int ((sI κ 2) + 1)])) := ⟨Or.inl (by decide), rfl, rfl⟩
        have k_s := k_sV (v := (sI κ 2) + 1) hMa hρ (Nat.le_of_lt h60) hst
        have n_0 : Nl (wV q ad (uI κ 2 ((sI κ 2) + 1)) τ M) (100 + 4 * M) := by show ¬ lvV _ M _; unfold lvV; omega
        have n_1 : Nl (wV q ad (uI κ 2 ((sI κ 2) + 1)) τ M) (100 + 4 * M + 1) := by show ¬ lvV _ M _; unfold lvV; omega
        have n_2 : Nl (wV q ad (uI κ 2 ((sI κ 2) + 1)) τ M) (100 + 4 * M + 2) := by show ¬ lvV _ M _; unfold lvV; omega
        have n_3 : Nl (wV q ad (uI κ 2 ((sI κ 2) + 1)) τ M) (100 + 4 * M + 3) := by show ¬ lvV _ M _; unfold lvV; omega
        have kp : Kp (wV q ad (uI κ 2 ((sI κ 2) + 1)) τ M) (wV q ad (uI κ 2 ((sI κ 2) + 1)) τ M) (fun _ => False) (fun r => r = 100 + 4 * M) := Kp.rf
        refine lv_aload_n hx hb dX7_makeRow_48 rfl (lv_at hl 1 rfl) ?_
        refine a_get hC hw rk7 in_X7_makeRow_7 k_w 0 (by decide) lk_X7_makeRow_9 (v := .ref (ad 2)) rfl dX7_makeRow_49 ?_
        refine lv_aload_n hx hb dX7_makeRow_52 rfl (lv_at hl 2 rfl) ?_
        refine a_get hC hw rk5 in_X7_makeRow_5 k_s 1 (by decide) lk_X7_makeRow_69 (v := .int xa) rfl dX7_makeRow_53 ?_
        refine a_new hC hw rk6 in_X7_makeRow_6 lk_X7_makeRow_72 lki_X7_makeRow_72 lkz_X7_makeRow_72 (100 + 4 * M) n_0 (fs := [.int 0, .int 0, .null, .null, .null, .int 0, .long 0, .null]) (by decide) (show 0 + 1 ≤ 4 * g by omega) (show 0 + 8 ≤ 44 * g by omega) dX7_makeRow_56 (fun a0 W H hup hw => ?_)
        have k_0 := At.n hup
        replace k_w := k_w.m hup (by omega)
        replace k_s := k_s.m hup (by omega)
        replace n_1 := n_1.n hup (by omega)
        replace n_2 := n_2.n hup (by omega)
        replace n_3 := n_3.n hup (by omega)
        replace kp := kp.n hup rfl n_0
        clear hup
        obtain ⟨kl_0, rfl, kc_0⟩ := k_0
        refine lv_dup hx hb dX7_makeRow_59 rfl ?_
        refine lv_aload_n hx hb dX7_makeRow_60 rfl (lv_at hl 2 rfl) ?_
        refine a_get hC hw rk5 in_X7_makeRow_5 k_s 2 (by decide) lk_X7_makeRow_74 (v := .int xb) rfl dX7_makeRow_61 ?_
        refine lv_iload_n hx hb dX7_makeRow_64 rfl (lv_at hl 0 rfl) ?_
        refine r_kv hw (r_runI (rest := [.ref (W.1 (100 + 4 * M)), .int xa, .ref (ad 2)]) hC hw (c_X6_init l W _ (100 + 4 * M) xb (sA κ 2 (aN xc)) hpl kl_0 kc_0 n_1 n_2 n_3) 2 gX7_makeRow_X6_init rfl rfl rfl lkz_X7_makeRow_77 lk_X7_makeRow_77 lki_X7_makeRow_77 rfl (by decide +kernel) ⟨Nat.le_of_ble_eq_true rfl, Nat.le_of_ble_eq_true rfl⟩ rfl hl.1 rfl (Nat.le_of_ble_eq_true rfl) dX7_makeRow_65 ⟨show 0 + 1 + 3 ≤ 4 * g by omega, show 0 + 8 + 36 ≤ 44 * g by omega⟩) (fun W2 H locs hth hw => ?_)
        obtain ⟨ad2, hw, hag, e0⟩ := xNm h60 hM hF kp hth hw
        have g5 : ad 5 = ad2 5 := (hag 5 (Or.inl (by decide))).symm
        have g2 : ad 2 = ad2 2 := (hag 2 (Or.inl (by decide))).symm
        have gρ : ad ρ = ad2 ρ := (hag ρ hst.1).symm
        have hm2 := mk_aN hM h60 xb (sA κ 2 (aN xc))
        have hA0 := mk_A κ xb (sA κ 2 (aN xc)) (k := 0) (by decide)
        have hA1 := mk_A κ xb (sA κ 2 (aN xc)) (k := 1) (by decide)
        have hA2 := mk_A κ xb (sA κ 2 (aN xc)) (k := 2) (by decide)
        have hI0 := (congrFun (mk_I κ xb (sA κ 2 (aN xc))) 0).trans (va_up_ne _ _ (by decide))
        have hI1 := (congrFun (mk_I κ xb (sA κ 2 (aN xc))) 1).trans (va_up_ne _ _ (by decide))
        obtain ⟨K2, hK⟩ : ∃ K, K = mk κ xb (sA κ 2 (aN xc)) := ⟨_, rfl⟩
        rw [← hK] at hw hm2 hA0 hA1 hA2 hI0 hI1
        replace hst := stepAt_cg (ad2 := ad2) (κ' := K2) (τ' := τ) hρ hA0 hA1 hI0 hI1 hX.1 hst
        rw [g5, gρ] at hl
        refine r_tops (y := [.ref (ad2 (100 + 4 * M)), .int xa, .ref (ad2 2)]) (by simp only [e0, g2]) ?_
        refine r_kv hw (r_runV (rest := []) hC hw 2 (c_X3_setThing l _ _ 2 (100 + 4 * M) 12 xa (by assumption) (wXl 2 (by decide)) wXc2 (thl (by rw [hm2]; omega)) (thc h60) (wXl 12 (by decide)) wXc12) rk3 (wXl 2 (by decide)) wXc2 2 gX7_makeRow_X3_setThing rfl rfl rfl (by decide +kernel) ⟨Nat.le_of_ble_eq_true rfl, Nat.le_of_ble_eq_true rfl⟩ rfl hl.1 rfl (Nat.le_of_ble_eq_true rfl) dX7_makeRow_68 ⟨show _ ≤ 4 * g by omega, show _ ≤ 44 * g by omega⟩) (fun u_12 H locs h_10 hw => ?_)
        replace hw := xS_refs (v := sI κ 2 + 1) (rT_M hM h60 ad2) hw
        refine lv_iconst (v := 0) hx hb dX7_makeRow_71 (by decide) ?_
        exact r_iret hC hr hlk hw ((uA K2 3 (aN xa) (sI κ 2 + 1)), ad2) rfl ⟨(by rw [hK]; exact ((doR0 (κ := κ) (hd := hd) (th := th) (k := 31) (a := xa) (b := xb) (c := xc) ((if_pos c_4).trans ((if_pos c_5).trans (if_neg c_9)))).trans (congrArg (Prod.mk 0) (act_31 ..))).symm), hag⟩ (show _ ≤ 4 * g by omega) (show _ ≤ 44 * g by omega) dX7_makeRow_72
    · refine lv_iconst (v := 3) hx hb dX7_makeRow_25 (by decide) ?_
      exact r_iret hC hr hlk hw (κ, ad) rfl ⟨(doRf (κ := κ) (hd := hd) (th := th) (k := 31) (a := xa) (b := xb) (c := xc) ((if_pos c_4).trans (if_neg c_5)) (by decide)).symm, fun _ _ => rfl⟩ (Nat.zero_le _) (Nat.zero_le _) dX7_makeRow_26
  · refine lv_bipush (v := 7) hx hb dX7_makeRow_18 (by decide) ?_
    exact r_iret hC hr hlk hw (κ, ad) rfl ⟨(doRf (κ := κ) (hd := hd) (th := th) (k := 31) (a := xa) (b := xb) (c := xc) (if_neg c_4) (by decide)).symm, fun _ _ => rfl⟩ (Nat.zero_le _) (Nat.zero_le _) dX7_makeRow_20

set_option maxHeartbeats 4000000 in
set_option maxRecDepth 100000 in
theorem c_X7_makeKnot (l : Launch) {D : va_G} {q : Nat → ClassId} {ad : Nat → Nat} {κ : KS} {τ : TAU} (sz : Nat) (ρ : Nat) (xa xb xc hd th : Int32) (hst : stepAt q ad κ τ ρ 33 xa xb xc) (hs : okStep 33 xa xb xc)(hX : WFx κ) (hm : vp_in (sI κ 2) 61) (hF : WFa κ τ (aN (sI κ 2))) (hρ : 400 ≤ ρ) (g : Nat) (hg : why κ 33 xa xb xc = 0 → 1 ≤ g) : Met l yX7_makeKnot wsX7_makeKnot (rmc 2 34 (4 * g) (44 * g)) (va_Pc [.ref (ad 5), .ref (ad ρ)] (rPre D q (wX q ad κ τ) sz)) (va_Qi (fun (r : Int32) (u : KS × (Nat → Nat)) => (r, u.1) = doR κ hd th 33 xa xb xc ∧ ∀ i, lvX κ i → u.2 i = ad i) (fun (u : KS × (Nat → Nat)) tt => rPo D (rA (wX q ad κ τ) sz) (wX q u.2 u.1 τ) tt) (rA (wX q ad κ τ) sz)) (4 * g) (44 * g) (rA (wX q ad κ τ) sz) := by
  have hi0 : vp_in xa 8 := hs.1
  have hi1 : vp_in (xb - 11) 4 := hs.2.1
  have hi2 : vp_in xc 8 := hs.2.2
  refine r_start (cc := cX7_makeKnot) (maxL := 3) (ret := (some .int)) (by decide) rfl (Nat.le_of_ble_eq_true rfl) ?_
  intro p e s m below meth c ls hC hr hlk hnm hsz hw hl
  have hx := hC.1
  have hb := hC.2.1
  have hl : lv_has ls 3 [(0, .ref (ad 5)), (1, .ref (ad ρ))] := hl
  refine lv_aload_n hx hb dX7_makeKnot_0 rfl (lv_at hl 0 rfl) ?_
  refine lv_iconst (v := 1) hx hb dX7_makeKnot_1 (by decide) ?_
  refine r_ki hw (r_runV (rest := []) hC hw 5 (c_X7_hasRoom1 (ad := ad) l _ hm) rk7 (wXl 5 (by decide)) wXc5 1 gX7_makeKnot_X7_hasRoom rfl rfl rfl (by decide +kernel) ⟨Nat.le_of_ble_eq_true rfl, Nat.le_of_ble_eq_true rfl⟩ rfl hl.1 rfl (Nat.le_of_ble_eq_true rfl) dX7_makeKnot_2 ⟨Nat.le_of_ble_eq_true rfl, Nat.le_of_ble_eq_true rfl⟩) (fun r_2 u_3 H locs h_1 hw => ?_)
  by_cases c_4 : (sI κ 2) = 60
  · rw [if_pos c_4] at h_1
    subst h_1
    refine lv_if_ne (tgt := 11) hx hb dX7_makeKnot_5 (by decide) (fun c_ => absurd (by decide) c_) (fun _ => ?_)
    refine lv_bipush (v := 7) hx hb dX7_makeKnot_8 (by decide) ?_
    exact r_iret hC hr hlk hw (κ, ad) rfl ⟨(doRf (κ := κ) (hd := hd) (th := th) (k := 33) (a := xa) (b := xb) (c := xc) (if_pos c_4) (by decide)).symm, fun _ _ => rfl⟩ (Nat.zero_le _) (Nat.zero_le _) dX7_makeKnot_10
  · rw [if_neg c_4] at h_1
    subst h_1
    refine lv_if_ne (tgt := 11) hx hb dX7_makeKnot_5 (by decide) (fun _ => ?_) (fun c_ => absurd c_ (by decide))
    refine lv_aload_n hx hb dX7_makeKnot_11 rfl (lv_at hl 0 rfl) ?_
    refine lv_dup hx hb dX7_makeKnot_12 rfl ?_
    refine r_get hC hw rk7 in_X7_makeKnot_7 5 (wXl 5 (by decide)) wXc5 1 (by decide) lk_X7_makeKnot_54 (v := .int (sI κ 2)) rfl dX7_makeKnot_13 ?_
    refine lv_iconst (v := 1) hx hb dX7_makeKnot_16 (by decide) ?_
    refine lv_iadd hx hb dX7_makeKnot_17 ?_
    have hg1 : 1 ≤ g := hg (if_neg c_4)
    refine r_put hC hw rk7 in_X7_makeKnot_7 5 (wXl 5 (by decide)) wXc5 1 (by decide) lk_X7_makeKnot_54 rfl rfl rfl (Nat.le_of_ble_eq_true rfl) dX7_makeKnot_18 (fun H locs hw => ?_)
    obtain ⟨M, h60, hM⟩ := mid60 hm c_4
    have hMa : aN (sI κ 2) = M := by rw [hM]; exact nI_clamp (by omega)
    rw [hMa] at hF
    replace hw := xP_made (v := (sI κ 2) + 1) hMa hw
    have k_w : At (wV q ad (uI κ 2 ((sI κ 2) + 1)) τ M) 5 (ad 5) (.inr (7, [.ref (ad 2), .int ((sI κ 2) + 1)])) := ⟨Or.inl (by decide), rfl, rfl⟩
    have k_s := k_sV (v := (sI κ 2) + 1) hMa hρ (Nat.le_of_lt h60) hst
    have n_0 : Nl (wV q ad (uI κ 2 ((sI κ 2) + 1)) τ M) (100 + 4 * M) := by show ¬ lvV _ M _; unfold lvV; omega
    have n_1 : Nl (wV q ad (uI κ 2 ((sI κ 2) + 1)) τ M) (100 + 4 * M + 1) := by show ¬ lvV _ M _; unfold lvV; omega
    have n_2 : Nl (wV q ad (uI κ 2 ((sI κ 2) + 1)) τ M) (100 + 4 * M + 2) := by show ¬ lvV _ M _; unfold lvV; omega
    have n_3 : Nl (wV q ad (uI κ 2 ((sI κ 2) + 1)) τ M) (100 + 4 * M + 3) := by show ¬ lvV _ M _; unfold lvV; omega
    have kp : Kp (wV q ad (uI κ 2 ((sI κ 2) + 1)) τ M) (wV q ad (uI κ 2 ((sI κ 2) + 1)) τ M) (fun _ => False) (fun r => r = 100 + 4 * M) := Kp.rf
    refine a_new hC hw rk6 in_X7_makeKnot_6 lk_X7_makeKnot_72 lki_X7_makeKnot_72 lkz_X7_makeKnot_72 (100 + 4 * M) n_0 (fs := [.int 0, .int 0, .null, .null, .null, .int 0, .long 0, .null]) (by decide) (show 0 + 1 ≤ 4 * g by omega) (show 0 + 8 ≤ 44 * g by omega) dX7_makeKnot_21 (fun a0 W H hup hw => ?_)
    have k_0 := At.n hup
    replace k_w := k_w.m hup (by omega)
    replace k_s := k_s.m hup (by omega)
    replace n_1 := n_1.n hup (by omega)
    replace n_2 := n_2.n hup (by omega)
    replace n_3 := n_3.n hup (by omega)
    replace kp := kp.n hup rfl n_0
    clear hup
    obtain ⟨kl_0, rfl, kc_0⟩ := k_0
    refine lv_dup hx hb dX7_makeKnot_24 rfl ?_
    refine lv_aload_n hx hb dX7_makeKnot_25 rfl (lv_at hl 1 rfl) ?_
    refine a_get hC hw rk5 in_X7_makeKnot_5 k_s 2 (by decide) lk_X7_makeKnot_74 (v := .int xb) rfl dX7_makeKnot_26 ?_
    refine lv_iconst (v := 0) hx hb dX7_makeKnot_29 (by decide) ?_
    refine r_kv hw (r_runI (rest := [.ref (W.1 (100 + 4 * M))]) hC hw (c_X6_init l W _ (100 + 4 * M) xb 0 v13_0 kl_0 kc_0 n_1 n_2 n_3) 2 gX7_makeKnot_X6_init rfl rfl rfl lkz_X7_makeKnot_77 lk_X7_makeKnot_77 lki_X7_makeKnot_77 rfl (by decide +kernel) ⟨Nat.le_of_ble_eq_true rfl, Nat.le_of_ble_eq_true rfl⟩ rfl hl.1 rfl (Nat.le_of_ble_eq_true rfl) dX7_makeKnot_30 ⟨show 0 + 1 + 3 ≤ 4 * g by omega, show 0 + 8 + 36 ≤ 44 * g by omega⟩) (fun W2 H locs hth hw => ?_)
    obtain ⟨ad2, hw, hag, e0⟩ := xNm h60 hM hF kp hth hw
    have g5 : ad 5 = ad2 5 := (hag 5 (Or.inl (by decide))).symm
    have g2 : ad 2 = ad2 2 := (hag 2 (Or.inl (by decide))).symm
    have gρ : ad ρ = ad2 ρ := (hag ρ hst.1).symm
    have hm2 := mk_aN hM h60 xb 0
    have hA0 := mk_A κ xb 0 (k := 0) (by decide)
    have hA1 := mk_A κ xb 0 (k := 1) (by decide)
    have hA2 := mk_A κ xb 0 (k := 2) (by decide)
    have hI0 := (congrFun (mk_I κ xb 0) 0).trans (va_up_ne _ _ (by decide))
    have hI1 := (congrFun (mk_I κ xb 0) 1).trans (va_up_ne _ _ (by decide))
    obtain ⟨K2, hK⟩ : ∃ K, K = mk κ xb 0 := ⟨_, rfl⟩
    rw [← hK] at hw hm2 hA0 hA1 hA2 hI0 hI1
    replace hst := stepAt_cg (ad2 := ad2) (κ' := K2) (τ' := τ) hρ hA0 hA1 hI0 hI1 hX.1 hst
    rw [g5, gρ] at hl
    refine r_tops (y := [.ref (ad2 (100 + 4 * M))]) (by simp only [e0, g2]) ?_
    refine lv_astore_n (lv' := [(2, .ref (ad2 (100 + 4 * M))), (0, .ref (ad2 5)), (1, .ref (ad2 ρ))]) hx hb dX7_makeKnot_33 rfl hl (by decide) rfl (fun ls hl => ?_)
    refine lv_aload_n hx hb dX7_makeKnot_34 rfl (lv_at hl 0 rfl) ?_
    refine lv_aload_n hx hb dX7_makeKnot_35 rfl (lv_at hl 1 rfl) ?_
    refine r_get hC hw rk7 in_X7_makeKnot_7 5 (wXl 5 (by decide)) wXc5 0 (by decide) lk_X7_makeKnot_9 (v := .ref (ad2 2)) rfl dX7_makeKnot_36 ?_
    refine lv_aload_n hx hb dX7_makeKnot_39 rfl (lv_at hl 2 rfl) ?_
    refine r_get hC hw rk5 in_X7_makeKnot_5 ρ hst.1 hst.2 3 (by decide) lk_X7_makeKnot_57 (v := .int xc) rfl dX7_makeKnot_40 ?_
    refine r_ki hw (r_runV (rest := [.ref (ad2 (100 + 4 * M))]) hC hw 2 (c_X3_getWord l _ _ 2 8 xc (wXl 2 (by decide)) wXc2 (wXl 8 (by decide)) wXc8) rk3 (wXl 2 (by decide)) wXc2 1 gX7_makeKnot_X3_getWord rfl rfl rfl (by decide +kernel) ⟨Nat.le_of_ble_eq_true rfl, Nat.le_of_ble_eq_true rfl⟩ rfl hl.1 rfl (Nat.le_of_ble_eq_true rfl) dX7_makeKnot_43 ⟨show _ ≤ 4 * g by omega, show _ ≤ 44 * g by omega⟩) (fun r_6 u_7 H locs h_5 hw => ?_)
    subst h_5
    refine r_topv (y := .int (sA κ 2 (aN xc))) (congrArg _ ((gN_in (by assumption) (by decide)).trans (by rw [hA2]))) ?_
    refine r_put hC hw rk6 in_X7_makeKnot_6 (100 + 4 * M) (thl (by rw [hm2]; omega)) (thc h60) 5 (by decide) lk_X7_makeKnot_87 rfl rfl rfl (Nat.le_of_ble_eq_true rfl) dX7_makeKnot_46 (fun H locs hw => ?_)
    replace hw := xT_tag h60 hw
    replace hst := stepAt_cg (ad2 := ad2) (κ' := (uA K2 7 M (sA κ 2 (aN xc)))) (τ' := τ) hρ (uA_ne _ _ _ (by decide)) (uA_ne _ _ _ (by decide)) (by rw [uA_I]) (by rw [uA_I]) (by rw [hm2]; omega) hst
    replace hm2 : aN (sI (uA K2 7 M (sA κ 2 (aN xc))) 2) = M + 1 := by rw [uA_I]; exact hm2
    refine lv_aload_n hx hb dX7_makeKnot_49 rfl (lv_at hl 1 rfl) ?_
    refine r_get hC hw rk7 in_X7_makeKnot_7 5 (wXl 5 (by decide)) wXc5 0 (by decide) lk_X7_makeKnot_9 (v := .ref (ad2 2)) rfl dX7_makeKnot_50 ?_
    refine lv_aload_n hx hb dX7_makeKnot_53 rfl (lv_at hl 2 rfl) ?_
    refine r_get hC hw rk5 in_X7_makeKnot_5 ρ hst.1 hst.2 1 (by decide) lk_X7_makeKnot_69 (v := .int xa) rfl dX7_makeKnot_54 ?_
    refine lv_aload_n hx hb dX7_makeKnot_57 rfl (lv_at hl 0 rfl) ?_
    refine r_kv hw (r_runV (rest := []) hC hw 2 (c_X3_setThing l _ _ 2 (100 + 4 * M) 12 xa (by assumption) (wXl 2 (by decide)) wXc2 (thl (by rw [hm2]; omega)) (thc h60) (wXl 12 (by decide)) wXc12) rk3 (wXl 2 (by decide)) wXc2 2 gX7_makeKnot_X3_setThing rfl rfl rfl (by decide +kernel) ⟨Nat.le_of_ble_eq_true rfl, Nat.le_of_ble_eq_true rfl⟩ rfl hl.1 rfl (Nat.le_of_ble_eq_true rfl) dX7_makeKnot_58 ⟨show _ ≤ 4 * g by omega, show _ ≤ 44 * g by omega⟩) (fun u_10 H locs h_8 hw => ?_)
    replace hw := xS_refs (v := sI κ 2 + 1) (rT_M hM h60 ad2) hw
    refine lv_iconst (v := 0) hx hb dX7_makeKnot_61 (by decide) ?_
    exact r_iret hC hr hlk hw ((uA (uA K2 7 M (sA κ 2 (aN xc))) 3 (aN xa) (sI κ 2 + 1)), ad2) rfl ⟨(by rw [uA_comm _ _ _ _ _ (by decide), ← hMa, hK]; exact ((doR0 (κ := κ) (hd := hd) (th := th) (k := 33) (a := xa) (b := xb) (c := xc) (if_neg c_4)).trans (congrArg (Prod.mk 0) (act_33 ..))).symm), hag⟩ (show _ ≤ 4 * g by omega) (show _ ≤ 44 * g by omega) dX7_makeKnot_62

set_option maxHeartbeats 4000000 in
set_option maxRecDepth 100000 in
theorem c_X7_makeFault (l : Launch) {D : va_G} {q : Nat → ClassId} {ad : Nat → Nat} {κ : KS} {τ : TAU} (sz : Nat) (ρ : Nat) (xa xb xc hd th : Int32) (hst : stepAt q ad κ τ ρ 67 xa xb xc) (hs : okStep 67 xa xb xc)(hX : WFx κ) (hm : vp_in (sI κ 2) 61) (hF : WFa κ τ (aN (sI κ 2))) (hρ : 400 ≤ ρ) (g : Nat) (hg : why κ 67 xa xb xc = 0 → 1 ≤ g) : Met l yX7_makeFault wsX7_makeFault (rmc 2 42 (4 * g) (44 * g)) (va_Pc [.ref (ad 5), .ref (ad ρ)] (rPre D q (wX q ad κ τ) sz)) (va_Qi (fun (r : Int32) (u : KS × (Nat → Nat)) => (r, u.1) = doR κ hd th 67 xa xb xc ∧ ∀ i, lvX κ i → u.2 i = ad i) (fun (u : KS × (Nat → Nat)) tt => rPo D (rA (wX q ad κ τ) sz) (wX q u.2 u.1 τ) tt) (rA (wX q ad κ τ) sz)) (4 * g) (44 * g) (rA (wX q ad κ τ) sz) := by
  have hi0 : vp_in xa 8 := hs.1
  have hi1 : vp_in xb 8 := hs.2.1
  have hi2 : vp_in xc 8 := hs.2.2
  refine r_start (cc := cX7_makeFault) (maxL := 4) (ret := (some .int)) (by decide) rfl (Nat.le_of_ble_eq_true rfl) ?_
  intro p e s m below meth c ls hC hr hlk hnm hsz hw hl
  have hx := hC.1
  have hb := hC.2.1
  have hl : lv_has ls 4 [(0, .ref (ad 5)), (1, .ref (ad ρ))] := hl
  refine lv_aload_n hx hb dX7_makeFault_0 rfl (lv_at hl 0 rfl) ?_
  refine r_get hC hw rk7 in_X7_makeFault_7 5 (wXl 5 (by decide)) wXc5 0 (by decide) lk_X7_makeFault_9 (v := .ref (ad 2)) rfl dX7_makeFault_1 ?_
  refine lv_aload_n hx hb dX7_makeFault_4 rfl (lv_at hl 1 rfl) ?_
  refine r_get hC hw rk5 in_X7_makeFault_5 ρ hst.1 hst.2 3 (by decide) lk_X7_makeFault_57 (v := .int xc) rfl dX7_makeFault_5 ?_
  refine r_kq hw (r_runV (rest := []) hC hw 2 (c_X3_getThing l _ _ 2 12 xc (wXl 2 (by decide)) wXc2 (wXl 12 (by decide)) wXc12) rk3 (wXl 2 (by decide)) wXc2 1 gX7_makeFault_X3_getThing rfl rfl rfl (by decide +kernel) ⟨Nat.le_of_ble_eq_true rfl, Nat.le_of_ble_eq_true rfl⟩ rfl hl.1 rfl (Nat.le_of_ble_eq_true rfl) dX7_makeFault_8 ⟨Nat.le_of_ble_eq_true rfl, Nat.le_of_ble_eq_true rfl⟩) (fun r_2 u_3 H locs h_1 hw => ?_)
  subst h_1
  by_cases n_4 : (sA κ 3 (aN xc)) = 0
  · refine r_topv (y := .null) (by rw [gN_in (by assumption) (by decide)]; show va_rf ((rT (sA κ 3 (aN xc))).map ad) = _; rw [rT0 n_4]; rfl) ?_
    refine lv_astore_nN (lv' := [(2, .null), (0, .ref (ad 5)), (1, .ref (ad ρ))]) hx hb dX7_makeFault_11 rfl hl (by decide) rfl (fun ls hl => ?_)
    refine lv_aload_nN hx hb dX7_makeFault_12 rfl (lv_at hl 0 rfl) ?_
    refine lv_bipush (v := 15) hx hb dX7_makeFault_13 (by decide) ?_
    refine r_ki hw (r_runSN (rest := []) hC hw hw.1.2.1 lks_X7_makeFault lkz_X7_makeFault_94 (c_X8_misfitsN_15 l _ _) 2 gX7_makeFault_X8_misfits_n94 rfl rfl rfl (by decide +kernel) ⟨Nat.le_of_ble_eq_true rfl, Nat.le_of_ble_eq_true rfl⟩ rfl hl.1 rfl (Nat.le_of_ble_eq_true rfl) dX7_makeFault_15 ⟨Nat.le_of_ble_eq_true rfl, Nat.le_of_ble_eq_true rfl⟩) (fun r_6 u_7 H locs h_5 hw => ?_)
    subst h_5
    have w_8 : ¬ pWrong κ (sA κ 3 (aN xc)) 15 := fun h => h.1 n_4
    refine lv_if_eq (tgt := 23) hx hb dX7_makeFault_18 (by decide) (fun _ => ?_) (fun c_ => absurd (by decide) c_)
    refine lv_aload_n hx hb dX7_makeFault_23 rfl (lv_at hl 1 rfl) ?_
    refine lv_iconst (v := 1) hx hb dX7_makeFault_24 (by decide) ?_
    refine r_ki hw (r_runV (rest := []) hC hw 5 (c_X7_hasRoom1 (ad := ad) l _ hm) rk7 (wXl 5 (by decide)) wXc5 1 gX7_makeFault_X7_hasRoom rfl rfl rfl (by decide +kernel) ⟨Nat.le_of_ble_eq_true rfl, Nat.le_of_ble_eq_true rfl⟩ rfl hl.1 rfl (Nat.le_of_ble_eq_true rfl) dX7_makeFault_25 ⟨Nat.le_of_ble_eq_true rfl, Nat.le_of_ble_eq_true rfl⟩) (fun r_10 u_11 H locs h_9 hw => ?_)
    by_cases c_12 : (sI κ 2) = 60
    · rw [if_pos c_12] at h_9
      subst h_9
      refine lv_if_ne (tgt := 34) hx hb dX7_makeFault_28 (by decide) (fun c_ => absurd (by decide) c_) (fun _ => ?_)
      refine lv_bipush (v := 7) hx hb dX7_makeFault_31 (by decide) ?_
      exact r_iret hC hr hlk hw (κ, ad) rfl ⟨(doRf (κ := κ) (hd := hd) (th := th) (k := 67) (a := xa) (b := xb) (c := xc) ((if_neg w_8).trans (if_pos c_12)) (by decide)).symm, fun _ _ => rfl⟩ (Nat.zero_le _) (Nat.zero_le _) dX7_makeFault_33
    · rw [if_neg c_12] at h_9
      subst h_9
      refine lv_if_ne (tgt := 34) hx hb dX7_makeFault_28 (by decide) (fun _ => ?_) (fun c_ => absurd c_ (by decide))
      refine lv_aload_n hx hb dX7_makeFault_34 rfl (lv_at hl 1 rfl) ?_
      refine lv_dup hx hb dX7_makeFault_35 rfl ?_
      refine r_get hC hw rk7 in_X7_makeFault_7 5 (wXl 5 (by decide)) wXc5 1 (by decide) lk_X7_makeFault_54 (v := .int (sI κ 2)) rfl dX7_makeFault_36 ?_
      refine lv_iconst (v := 1) hx hb dX7_makeFault_39 (by decide) ?_
      refine lv_iadd hx hb dX7_makeFault_40 ?_
      have hg1 : 1 ≤ g := hg ((if_neg w_8).trans (if_neg c_12))
      refine r_put hC hw rk7 in_X7_makeFault_7 5 (wXl 5 (by decide)) wXc5 1 (by decide) lk_X7_makeFault_54 rfl rfl rfl (Nat.le_of_ble_eq_true rfl) dX7_makeFault_41 (fun H locs hw => ?_)
      obtain ⟨M, h60, hM⟩ := mid60 hm c_12
      have hMa : aN (sI κ 2) = M := by rw [hM]; exact nI_clamp (by omega)
      rw [hMa] at hF
      replace hw := xP_made (v := (sI κ 2) + 1) hMa hw
      have k_w : At (wV q ad (uI κ 2 ((sI κ 2) + 1)) τ M) 5 (ad 5) (.inr (7, [.ref (ad 2), .int ((sI κ 2) + 1)])) := ⟨Or.inl (by decide), rfl, rfl⟩
      have k_s := k_sV (v := (sI κ 2) + 1) hMa hρ (Nat.le_of_lt h60) hst
      have n_0 : Nl (wV q ad (uI κ 2 ((sI κ 2) + 1)) τ M) (100 + 4 * M) := by show ¬ lvV _ M _; unfold lvV; omega
      have n_1 : Nl (wV q ad (uI κ 2 ((sI κ 2) + 1)) τ M) (100 + 4 * M + 1) := by show ¬ lvV _ M _; unfold lvV; omega
      have n_2 : Nl (wV q ad (uI κ 2 ((sI κ 2) + 1)) τ M) (100 + 4 * M + 2) := by show ¬ lvV _ M _; unfold lvV; omega
      have n_3 : Nl (wV q ad (uI κ 2 ((sI κ 2) + 1)) τ M) (100 + 4 * M + 3) := by show ¬ lvV _ M _; unfold lvV; omega
      have kp : Kp (wV q ad (uI κ 2 ((sI κ 2) + 1)) τ M) (wV q ad (uI κ 2 ((sI κ 2) + 1)) τ M) (fun _ => False) (fun r => r = 100 + 4 * M) := Kp.rf
      refine a_new hC hw rk6 in_X7_makeFault_6 lk_X7_makeFault_72 lki_X7_makeFault_72 lkz_X7_makeFault_72 (100 + 4 * M) n_0 (fs := [.int 0, .int 0, .null, .null, .null, .int 0, .long 0, .null]) (by decide) (show 0 + 1 ≤ 4 * g by omega) (show 0 + 8 ≤ 44 * g by omega) dX7_makeFault_44 (fun a0 W H hup hw => ?_)
      have k_0 := At.n hup
      replace k_w := k_w.m hup (by omega)
      replace k_s := k_s.m hup (by omega)
      replace n_1 := n_1.n hup (by omega)
      replace n_2 := n_2.n hup (by omega)
      replace n_3 := n_3.n hup (by omega)
      replace kp := kp.n hup rfl n_0
      clear hup
      obtain ⟨kl_0, rfl, kc_0⟩ := k_0
      refine lv_dup hx hb dX7_makeFault_47 rfl ?_
      refine lv_bipush (v := 15) hx hb dX7_makeFault_48 (by decide) ?_
      refine lv_iconst (v := 0) hx hb dX7_makeFault_50 (by decide) ?_
      refine r_kv hw (r_runI (rest := [.ref (W.1 (100 + 4 * M))]) hC hw (c_X6_init l W _ (100 + 4 * M) 15 0 v13_0 kl_0 kc_0 n_1 n_2 n_3) 2 gX7_makeFault_X6_init rfl rfl rfl lkz_X7_makeFault_77 lk_X7_makeFault_77 lki_X7_makeFault_77 rfl (by decide +kernel) ⟨Nat.le_of_ble_eq_true rfl, Nat.le_of_ble_eq_true rfl⟩ rfl hl.1 rfl (Nat.le_of_ble_eq_true rfl) dX7_makeFault_51 ⟨show 0 + 1 + 3 ≤ 4 * g by omega, show 0 + 8 + 36 ≤ 44 * g by omega⟩) (fun W2 H locs hth hw => ?_)
      obtain ⟨ad2, hw, hag, e0⟩ := xNm h60 hM hF kp hth hw
      have g5 : ad 5 = ad2 5 := (hag 5 (Or.inl (by decide))).symm
      have g2 : ad 2 = ad2 2 := (hag 2 (Or.inl (by decide))).symm
      have gρ : ad ρ = ad2 ρ := (hag ρ hst.1).symm
      have hm2 := mk_aN hM h60 15 0
      have hA0 := mk_A κ 15 0 (k := 0) (by decide)
      have hA1 := mk_A κ 15 0 (k := 1) (by decide)
      have hA2 := mk_A κ 15 0 (k := 2) (by decide)
      have hI0 := (congrFun (mk_I κ 15 0) 0).trans (va_up_ne _ _ (by decide))
      have hI1 := (congrFun (mk_I κ 15 0) 1).trans (va_up_ne _ _ (by decide))
      obtain ⟨K2, hK⟩ : ∃ K, K = mk κ 15 0 := ⟨_, rfl⟩
      rw [← hK] at hw hm2 hA0 hA1 hA2 hI0 hI1
      replace hst := stepAt_cg (ad2 := ad2) (κ' := K2) (τ' := τ) hρ hA0 hA1 hI0 hI1 hX.1 hst
      rw [g5, gρ] at hl
      refine r_tops (y := [.ref (ad2 (100 + 4 * M))]) (by simp only [e0, g2]) ?_
      refine lv_astore_n (lv' := [(3, .ref (ad2 (100 + 4 * M))), (2, .null), (0, .ref (ad2 5)), (1, .ref (ad2 ρ))]) hx hb dX7_makeFault_54 rfl hl (by decide) rfl (fun ls hl => ?_)
      refine lv_aload_n hx hb dX7_makeFault_55 rfl (lv_at hl 0 rfl) ?_
      refine lv_bipush (v := 8) hx hb dX7_makeFault_56 (by decide) ?_
      refine lv_aload_n hx hb dX7_makeFault_58 rfl (lv_at hl 2 rfl) ?_
      refine r_get hC hw rk7 in_X7_makeFault_7 5 (wXl 5 (by decide)) wXc5 0 (by decide) lk_X7_makeFault_9 (v := .ref (ad2 2)) rfl dX7_makeFault_59 ?_
      refine lv_aload_n hx hb dX7_makeFault_62 rfl (lv_at hl 3 rfl) ?_
      refine r_get hC hw rk5 in_X7_makeFault_5 ρ hst.1 hst.2 2 (by decide) lk_X7_makeFault_74 (v := .int xb) rfl dX7_makeFault_63 ?_
      refine r_ki hw (r_runV (rest := [.int 8, .ref (ad2 (100 + 4 * M))]) hC hw 2 (c_X3_getWord l _ _ 2 8 xb (wXl 2 (by decide)) wXc2 (wXl 8 (by decide)) wXc8) rk3 (wXl 2 (by decide)) wXc2 1 gX7_makeFault_X3_getWord rfl rfl rfl (by decide +kernel) ⟨Nat.le_of_ble_eq_true rfl, Nat.le_of_ble_eq_true rfl⟩ rfl hl.1 rfl (Nat.le_of_ble_eq_true rfl) dX7_makeFault_66 ⟨show _ ≤ 4 * g by omega, show _ ≤ 44 * g by omega⟩) (fun r_14 u_15 H locs h_13 hw => ?_)
      subst h_13
      refine r_topv (y := .int (sA κ 2 (aN xb))) (congrArg _ ((gN_in (by assumption) (by decide)).trans (by rw [hA2]))) ?_
      refine lv_bipush (v := 15) hx hb dX7_makeFault_69 (by decide) ?_
      refine lv_iand hx hb dX7_makeFault_71 ?_
      refine lv_iadd hx hb dX7_makeFault_72 ?_
      refine r_put hC hw rk6 in_X7_makeFault_6 (100 + 4 * M) (thl (by rw [hm2]; omega)) (thc h60) 5 (by decide) lk_X7_makeFault_87 rfl rfl rfl (Nat.le_of_ble_eq_true rfl) dX7_makeFault_73 (fun H locs hw => ?_)
      replace hw := xT_tag h60 hw
      replace hst := stepAt_cg (ad2 := ad2) (κ' := (uA K2 7 M (8 + ((sA κ 2 (aN xb)) &&& 15)))) (τ' := τ) hρ (uA_ne _ _ _ (by decide)) (uA_ne _ _ _ (by decide)) (by rw [uA_I]) (by rw [uA_I]) (by rw [hm2]; omega) hst
      replace hm2 : aN (sI (uA K2 7 M (8 + ((sA κ 2 (aN xb)) &&& 15))) 2) = M + 1 := by rw [uA_I]; exact hm2
      refine lv_aload_n hx hb dX7_makeFault_76 rfl (lv_at hl 0 rfl) ?_
      refine lv_aload_nN hx hb dX7_makeFault_77 rfl (lv_at hl 1 rfl) ?_
      refine r_topv (y := va_rf ((rT (sA κ 3 (aN xc))).map ad2)) (by rw [rT0 n_4]; rfl) ?_
      refine r_put hC hw rk6 in_X7_makeFault_6 (100 + 4 * M) (thl (by rw [hm2]; omega)) (thc h60) 7 (by decide) lk_X7_makeFault_98 rfl (rf_n _ _) (rf_f _ _) (Nat.le_of_ble_eq_true rfl) dX7_makeFault_78 (fun H locs hw => ?_)
      replace hw := xT_link h60 hw
      replace hst := stepAt_cg (ad2 := ad2) (κ' := (uA (uA K2 7 M (8 + ((sA κ 2 (aN xb)) &&& 15))) 8 M (sA κ 3 (aN xc)))) (τ' := τ) hρ (uA_ne _ _ _ (by decide)) (uA_ne _ _ _ (by decide)) (by rw [uA_I]) (by rw [uA_I]) (by rw [hm2]; omega) hst
      replace hm2 : aN (sI (uA (uA K2 7 M (8 + ((sA κ 2 (aN xb)) &&& 15))) 8 M (sA κ 3 (aN xc))) 2) = M + 1 := by rw [uA_I]; exact hm2
      refine lv_aload_n hx hb dX7_makeFault_81 rfl (lv_at hl 2 rfl) ?_
      refine r_get hC hw rk7 in_X7_makeFault_7 5 (wXl 5 (by decide)) wXc5 0 (by decide) lk_X7_makeFault_9 (v := .ref (ad2 2)) rfl dX7_makeFault_82 ?_
      refine lv_aload_n hx hb dX7_makeFault_85 rfl (lv_at hl 3 rfl) ?_
      refine r_get hC hw rk5 in_X7_makeFault_5 ρ hst.1 hst.2 1 (by decide) lk_X7_makeFault_69 (v := .int xa) rfl dX7_makeFault_86 ?_
      refine lv_aload_n hx hb dX7_makeFault_89 rfl (lv_at hl 0 rfl) ?_
      refine r_kv hw (r_runV (rest := []) hC hw 2 (c_X3_setThing l _ _ 2 (100 + 4 * M) 12 xa (by assumption) (wXl 2 (by decide)) wXc2 (thl (by rw [hm2]; omega)) (thc h60) (wXl 12 (by decide)) wXc12) rk3 (wXl 2 (by decide)) wXc2 2 gX7_makeFault_X3_setThing rfl rfl rfl (by decide +kernel) ⟨Nat.le_of_ble_eq_true rfl, Nat.le_of_ble_eq_true rfl⟩ rfl hl.1 rfl (Nat.le_of_ble_eq_true rfl) dX7_makeFault_90 ⟨show _ ≤ 4 * g by omega, show _ ≤ 44 * g by omega⟩) (fun u_18 H locs h_16 hw => ?_)
      replace hw := xS_refs (v := sI κ 2 + 1) (rT_M hM h60 ad2) hw
      refine lv_iconst (v := 0) hx hb dX7_makeFault_93 (by decide) ?_
      exact r_iret hC hr hlk hw ((uA (uA (uA K2 7 M (8 + ((sA κ 2 (aN xb)) &&& 15))) 8 M (sA κ 3 (aN xc))) 3 (aN xa) (sI κ 2 + 1)), ad2) rfl ⟨(by rw [uA_comm (k := 8) (k' := 3) _ _ _ _ _ (by decide), uA_comm (k := 7) (k' := 3) _ _ _ _ _ (by decide), ← hMa, hK]; exact ((doR0 (κ := κ) (hd := hd) (th := th) (k := 67) (a := xa) (b := xb) (c := xc) ((if_neg w_8).trans (if_neg c_12))).trans (congrArg (Prod.mk 0) (act_67 ..))).symm), hag⟩ (show _ ≤ 4 * g by omega) (show _ ≤ 44 * g by omega) dX7_makeFault_94
  · refine r_topv (y := .ref (ad (100 + 4 * (aN ((sA κ 3 (aN xc)) - 1))))) (by rw [gN_in (by assumption) (by decide)]; show va_rf ((rT (sA κ 3 (aN xc))).map ad) = _; rw [rT1 n_4]; rfl) ?_
    have hB_c := hX.2.1 xc (by assumption) n_4
    have h6_c : (aN ((sA κ 3 (aN xc)) - 1)) < 60 := Nat.lt_of_lt_of_le hB_c.2 hX.1
    have hl_c : (wX q ad κ τ).2.1 (100 + 4 * (aN ((sA κ 3 (aN xc)) - 1))) := thl hB_c.2
    have hc_c : (wX q ad κ τ).2.2 (100 + 4 * (aN ((sA κ 3 (aN xc)) - 1))) = .inr (6, fsT ad κ (aN ((sA κ 3 (aN xc)) - 1))) := thc h6_c
    have hk_c := hX.2.2.1 _ hB_c.2
    refine lv_astore_n (lv' := [(2, .ref (ad (100 + 4 * (aN ((sA κ 3 (aN xc)) - 1))))), (0, .ref (ad 5)), (1, .ref (ad ρ))]) hx hb dX7_makeFault_11 rfl hl (by decide) rfl (fun ls hl => ?_)
    refine lv_aload_n hx hb dX7_makeFault_12 rfl (lv_at hl 0 rfl) ?_
    refine lv_bipush (v := 15) hx hb dX7_makeFault_13 (by decide) ?_
    refine r_ki hw (r_runSN (rest := []) hC hw hw.1.2.1 lks_X7_makeFault lkz_X7_makeFault_94 (c_X8_misfits_15 l _ _ (100 + 4 * (aN ((sA κ 3 (aN xc)) - 1))) hk_c.1 hl_c hc_c) 2 gX7_makeFault_X8_misfits_n94 rfl rfl rfl (by decide +kernel) ⟨Nat.le_of_ble_eq_true rfl, Nat.le_of_ble_eq_true rfl⟩ rfl hl.1 rfl (Nat.le_of_ble_eq_true rfl) dX7_makeFault_15 ⟨Nat.le_of_ble_eq_true rfl, Nat.le_of_ble_eq_true rfl⟩) (fun r_20 u_21 H locs h_19 hw => ?_)
    by_cases c_22 : pOf (sA κ 4 (aN ((sA κ 3 (aN xc)) - 1))) 15
    · rw [if_pos c_22] at h_19
      subst h_19
      have w_23 : ¬ pWrong κ (sA κ 3 (aN xc)) 15 := fun h => h.2 c_22
      refine lv_if_eq (tgt := 23) hx hb dX7_makeFault_18 (by decide) (fun _ => ?_) (fun c_ => absurd (by decide) c_)
      refine lv_aload_n hx hb dX7_makeFault_23 rfl (lv_at hl 1 rfl) ?_
      refine lv_iconst (v := 1) hx hb dX7_makeFault_24 (by decide) ?_
      refine r_ki hw (r_runV (rest := []) hC hw 5 (c_X7_hasRoom1 (ad := ad) l _ hm) rk7 (wXl 5 (by decide)) wXc5 1 gX7_makeFault_X7_hasRoom rfl rfl rfl (by decide +kernel) ⟨Nat.le_of_ble_eq_true rfl, Nat.le_of_ble_eq_true rfl⟩ rfl hl.1 rfl (Nat.le_of_ble_eq_true rfl) dX7_makeFault_25 ⟨Nat.le_of_ble_eq_true rfl, Nat.le_of_ble_eq_true rfl⟩) (fun r_25 u_26 H locs h_24 hw => ?_)
      by_cases c_27 : (sI κ 2) = 60
      · rw [if_pos c_27] at h_24
        subst h_24
        refine lv_if_ne (tgt := 34) hx hb dX7_makeFault_28 (by decide) (fun c_ => absurd (by decide) c_) (fun _ => ?_)
        refine lv_bipush (v := 7) hx hb dX7_makeFault_31 (by decide) ?_
        exact r_iret hC hr hlk hw (κ, ad) rfl ⟨(doRf (κ := κ) (hd := hd) (th := th) (k := 67) (a := xa) (b := xb) (c := xc) ((if_neg w_23).trans (if_pos c_27)) (by decide)).symm, fun _ _ => rfl⟩ (Nat.zero_le _) (Nat.zero_le _) dX7_makeFault_33
      · rw [if_neg c_27] at h_24
        subst h_24
        refine lv_if_ne (tgt := 34) hx hb dX7_makeFault_28 (by decide) (fun _ => ?_) (fun c_ => absurd c_ (by decide))
        refine lv_aload_n hx hb dX7_makeFault_34 rfl (lv_at hl 1 rfl) ?_
        refine lv_dup hx hb dX7_makeFault_35 rfl ?_
        refine r_get hC hw rk7 in_X7_makeFault_7 5 (wXl 5 (by decide)) wXc5 1 (by decide) lk_X7_makeFault_54 (v := .int (sI κ 2)) rfl dX7_makeFault_36 ?_
        refine lv_iconst (v := 1) hx hb dX7_makeFault_39 (by decide) ?_
        refine lv_iadd hx hb dX7_makeFault_40 ?_
        have hg1 : 1 ≤ g := hg ((if_neg w_23).trans (if_neg c_27))
        refine r_put hC hw rk7 in_X7_makeFault_7 5 (wXl 5 (by decide)) wXc5 1 (by decide) lk_X7_makeFault_54 rfl rfl rfl (Nat.le_of_ble_eq_true rfl) dX7_makeFault_41 (fun H locs hw => ?_)
        obtain ⟨M, h60, hM⟩ := mid60 hm c_27
        have hMa : aN (sI κ 2) = M := by rw [hM]; exact nI_clamp (by omega)
        rw [hMa] at hF
        replace hw := xP_made (v := (sI κ 2) + 1) hMa hw
        have k_w : At (wV q ad (uI κ 2 ((sI κ 2) + 1)) τ M) 5 (ad 5) (.inr (7, [.ref (ad 2), .int ((sI κ 2) + 1)])) := ⟨Or.inl (by decide), rfl, rfl⟩
        have k_s := k_sV (v := (sI κ 2) + 1) hMa hρ (Nat.le_of_lt h60) hst
        have n_0 : Nl (wV q ad (uI κ 2 ((sI κ 2) + 1)) τ M) (100 + 4 * M) := by show ¬ lvV _ M _; unfold lvV; omega
        have n_1 : Nl (wV q ad (uI κ 2 ((sI κ 2) + 1)) τ M) (100 + 4 * M + 1) := by show ¬ lvV _ M _; unfold lvV; omega
        have n_2 : Nl (wV q ad (uI κ 2 ((sI κ 2) + 1)) τ M) (100 + 4 * M + 2) := by show ¬ lvV _ M _; unfold lvV; omega
        have n_3 : Nl (wV q ad (uI κ 2 ((sI κ 2) + 1)) τ M) (100 + 4 * M + 3) := by show ¬ lvV _ M _; unfold lvV; omega
        have kp : Kp (wV q ad (uI κ 2 ((sI κ 2) + 1)) τ M) (wV q ad (uI κ 2 ((sI κ 2) + 1)) τ M) (fun _ => False) (fun r => r = 100 + 4 * M) := Kp.rf
        refine a_new hC hw rk6 in_X7_makeFault_6 lk_X7_makeFault_72 lki_X7_makeFault_72 lkz_X7_makeFault_72 (100 + 4 * M) n_0 (fs := [.int 0, .int 0, .null, .null, .null, .int 0, .long 0, .null]) (by decide) (show 0 + 1 ≤ 4 * g by omega) (show 0 + 8 ≤ 44 * g by omega) dX7_makeFault_44 (fun a0 W H hup hw => ?_)
        have k_0 := At.n hup
        replace k_w := k_w.m hup (by omega)
        replace k_s := k_s.m hup (by omega)
        replace n_1 := n_1.n hup (by omega)
        replace n_2 := n_2.n hup (by omega)
        replace n_3 := n_3.n hup (by omega)
        replace kp := kp.n hup rfl n_0
        clear hup
        obtain ⟨kl_0, rfl, kc_0⟩ := k_0
        refine lv_dup hx hb dX7_makeFault_47 rfl ?_
        refine lv_bipush (v := 15) hx hb dX7_makeFault_48 (by decide) ?_
        refine lv_iconst (v := 0) hx hb dX7_makeFault_50 (by decide) ?_
        refine r_kv hw (r_runI (rest := [.ref (W.1 (100 + 4 * M))]) hC hw (c_X6_init l W _ (100 + 4 * M) 15 0 v13_0 kl_0 kc_0 n_1 n_2 n_3) 2 gX7_makeFault_X6_init rfl rfl rfl lkz_X7_makeFault_77 lk_X7_makeFault_77 lki_X7_makeFault_77 rfl (by decide +kernel) ⟨Nat.le_of_ble_eq_true rfl, Nat.le_of_ble_eq_true rfl⟩ rfl hl.1 rfl (Nat.le_of_ble_eq_true rfl) dX7_makeFault_51 ⟨show 0 + 1 + 3 ≤ 4 * g by omega, show 0 + 8 + 36 ≤ 44 * g by omega⟩) (fun W2 H locs hth hw => ?_)
        obtain ⟨ad2, hw, hag, e0⟩ := xNm h60 hM hF kp hth hw
        have g5 : ad 5 = ad2 5 := (hag 5 (Or.inl (by decide))).symm
        have g2 : ad 2 = ad2 2 := (hag 2 (Or.inl (by decide))).symm
        have gρ : ad ρ = ad2 ρ := (hag ρ hst.1).symm
        have hm2 := mk_aN hM h60 15 0
        have hA0 := mk_A κ 15 0 (k := 0) (by decide)
        have hA1 := mk_A κ 15 0 (k := 1) (by decide)
        have hA2 := mk_A κ 15 0 (k := 2) (by decide)
        have hI0 := (congrFun (mk_I κ 15 0) 0).trans (va_up_ne _ _ (by decide))
        have hI1 := (congrFun (mk_I κ 15 0) 1).trans (va_up_ne _ _ (by decide))
        obtain ⟨K2, hK⟩ : ∃ K, K = mk κ 15 0 := ⟨_, rfl⟩
        rw [← hK] at hw hm2 hA0 hA1 hA2 hI0 hI1
        replace hst := stepAt_cg (ad2 := ad2) (κ' := K2) (τ' := τ) hρ hA0 hA1 hI0 hI1 hX.1 hst
        have gc : ad (100 + 4 * (aN ((sA κ 3 (aN xc)) - 1))) = ad2 (100 + 4 * (aN ((sA κ 3 (aN xc)) - 1))) := (hag _ hl_c).symm
        rw [g5, gρ, gc] at hl
        refine r_tops (y := [.ref (ad2 (100 + 4 * M))]) (by simp only [e0, g2]) ?_
        refine lv_astore_n (lv' := [(3, .ref (ad2 (100 + 4 * M))), (2, .ref (ad2 (100 + 4 * (aN ((sA κ 3 (aN xc)) - 1))))), (0, .ref (ad2 5)), (1, .ref (ad2 ρ))]) hx hb dX7_makeFault_54 rfl hl (by decide) rfl (fun ls hl => ?_)
        refine lv_aload_n hx hb dX7_makeFault_55 rfl (lv_at hl 0 rfl) ?_
        refine lv_bipush (v := 8) hx hb dX7_makeFault_56 (by decide) ?_
        refine lv_aload_n hx hb dX7_makeFault_58 rfl (lv_at hl 2 rfl) ?_
        refine r_get hC hw rk7 in_X7_makeFault_7 5 (wXl 5 (by decide)) wXc5 0 (by decide) lk_X7_makeFault_9 (v := .ref (ad2 2)) rfl dX7_makeFault_59 ?_
        refine lv_aload_n hx hb dX7_makeFault_62 rfl (lv_at hl 3 rfl) ?_
        refine r_get hC hw rk5 in_X7_makeFault_5 ρ hst.1 hst.2 2 (by decide) lk_X7_makeFault_74 (v := .int xb) rfl dX7_makeFault_63 ?_
        refine r_ki hw (r_runV (rest := [.int 8, .ref (ad2 (100 + 4 * M))]) hC hw 2 (c_X3_getWord l _ _ 2 8 xb (wXl 2 (by decide)) wXc2 (wXl 8 (by decide)) wXc8) rk3 (wXl 2 (by decide)) wXc2 1 gX7_makeFault_X3_getWord rfl rfl rfl (by decide +kernel) ⟨Nat.le_of_ble_eq_true rfl, Nat.le_of_ble_eq_true rfl⟩ rfl hl.1 rfl (Nat.le_of_ble_eq_true rfl) dX7_makeFault_66 ⟨show _ ≤ 4 * g by omega, show _ ≤ 44 * g by omega⟩) (fun r_29 u_30 H locs h_28 hw => ?_)
        subst h_28
        refine r_topv (y := .int (sA κ 2 (aN xb))) (congrArg _ ((gN_in (by assumption) (by decide)).trans (by rw [hA2]))) ?_
        refine lv_bipush (v := 15) hx hb dX7_makeFault_69 (by decide) ?_
        refine lv_iand hx hb dX7_makeFault_71 ?_
        refine lv_iadd hx hb dX7_makeFault_72 ?_
        refine r_put hC hw rk6 in_X7_makeFault_6 (100 + 4 * M) (thl (by rw [hm2]; omega)) (thc h60) 5 (by decide) lk_X7_makeFault_87 rfl rfl rfl (Nat.le_of_ble_eq_true rfl) dX7_makeFault_73 (fun H locs hw => ?_)
        replace hw := xT_tag h60 hw
        replace hst := stepAt_cg (ad2 := ad2) (κ' := (uA K2 7 M (8 + ((sA κ 2 (aN xb)) &&& 15)))) (τ' := τ) hρ (uA_ne _ _ _ (by decide)) (uA_ne _ _ _ (by decide)) (by rw [uA_I]) (by rw [uA_I]) (by rw [hm2]; omega) hst
        replace hm2 : aN (sI (uA K2 7 M (8 + ((sA κ 2 (aN xb)) &&& 15))) 2) = M + 1 := by rw [uA_I]; exact hm2
        refine lv_aload_n hx hb dX7_makeFault_76 rfl (lv_at hl 0 rfl) ?_
        refine lv_aload_n hx hb dX7_makeFault_77 rfl (lv_at hl 1 rfl) ?_
        refine r_topv (y := va_rf ((rT (sA κ 3 (aN xc))).map ad2)) (by rw [rT1 n_4]; exact congrArg Value.ref (by rfl)) ?_
        refine r_put hC hw rk6 in_X7_makeFault_6 (100 + 4 * M) (thl (by rw [hm2]; omega)) (thc h60) 7 (by decide) lk_X7_makeFault_98 rfl (rf_n _ _) (rf_f _ _) (Nat.le_of_ble_eq_true rfl) dX7_makeFault_78 (fun H locs hw => ?_)
        replace hw := xT_link h60 hw
        replace hst := stepAt_cg (ad2 := ad2) (κ' := (uA (uA K2 7 M (8 + ((sA κ 2 (aN xb)) &&& 15))) 8 M (sA κ 3 (aN xc)))) (τ' := τ) hρ (uA_ne _ _ _ (by decide)) (uA_ne _ _ _ (by decide)) (by rw [uA_I]) (by rw [uA_I]) (by rw [hm2]; omega) hst
        replace hm2 : aN (sI (uA (uA K2 7 M (8 + ((sA κ 2 (aN xb)) &&& 15))) 8 M (sA κ 3 (aN xc))) 2) = M + 1 := by rw [uA_I]; exact hm2
        refine lv_aload_n hx hb dX7_makeFault_81 rfl (lv_at hl 2 rfl) ?_
        refine r_get hC hw rk7 in_X7_makeFault_7 5 (wXl 5 (by decide)) wXc5 0 (by decide) lk_X7_makeFault_9 (v := .ref (ad2 2)) rfl dX7_makeFault_82 ?_
        refine lv_aload_n hx hb dX7_makeFault_85 rfl (lv_at hl 3 rfl) ?_
        refine r_get hC hw rk5 in_X7_makeFault_5 ρ hst.1 hst.2 1 (by decide) lk_X7_makeFault_69 (v := .int xa) rfl dX7_makeFault_86 ?_
        refine lv_aload_n hx hb dX7_makeFault_89 rfl (lv_at hl 0 rfl) ?_
        refine r_kv hw (r_runV (rest := []) hC hw 2 (c_X3_setThing l _ _ 2 (100 + 4 * M) 12 xa (by assumption) (wXl 2 (by decide)) wXc2 (thl (by rw [hm2]; omega)) (thc h60) (wXl 12 (by decide)) wXc12) rk3 (wXl 2 (by decide)) wXc2 2 gX7_makeFault_X3_setThing rfl rfl rfl (by decide +kernel) ⟨Nat.le_of_ble_eq_true rfl, Nat.le_of_ble_eq_true rfl⟩ rfl hl.1 rfl (Nat.le_of_ble_eq_true rfl) dX7_makeFault_90 ⟨show _ ≤ 4 * g by omega, show _ ≤ 44 * g by omega⟩) (fun u_33 H locs h_31 hw => ?_)
        replace hw := xS_refs (v := sI κ 2 + 1) (rT_M hM h60 ad2) hw
        refine lv_iconst (v := 0) hx hb dX7_makeFault_93 (by decide) ?_
        exact r_iret hC hr hlk hw ((uA (uA (uA K2 7 M (8 + ((sA κ 2 (aN xb)) &&& 15))) 8 M (sA κ 3 (aN xc))) 3 (aN xa) (sI κ 2 + 1)), ad2) rfl ⟨(by rw [uA_comm (k := 8) (k' := 3) _ _ _ _ _ (by decide), uA_comm (k := 7) (k' := 3) _ _ _ _ _ (by decide), ← hMa, hK]; exact ((doR0 (κ := κ) (hd := hd) (th := th) (k := 67) (a := xa) (b := xb) (c := xc) ((if_neg w_23).trans (if_neg c_27))).trans (congrArg (Prod.mk 0) (act_67 ..))).symm), hag⟩ (show _ ≤ 4 * g by omega) (show _ ≤ 44 * g by omega) dX7_makeFault_94
    · rw [if_neg c_22] at h_19
      subst h_19
      have w_34 : pWrong κ (sA κ 3 (aN xc)) 15 := ⟨n_4, c_22⟩
      refine lv_if_eq (tgt := 23) hx hb dX7_makeFault_18 (by decide) (fun c_ => absurd c_ (by decide)) (fun _ => ?_)
      refine lv_iconst (v := 4) hx hb dX7_makeFault_21 (by decide) ?_
      exact r_iret hC hr hlk hw (κ, ad) rfl ⟨(doRf (κ := κ) (hd := hd) (th := th) (k := 67) (a := xa) (b := xb) (c := xc) (if_pos w_34) (by decide)).symm, fun _ _ => rfl⟩ (Nat.zero_le _) (Nat.zero_le _) dX7_makeFault_22

