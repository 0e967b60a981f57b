theorem hAt_cg {κ κ' : KS} (h : sA κ' 1 = sA κ 1) (p f : Int32) : ∀ n K, hAt κ' p f n K = hAt κ p f n K
  | 0, _ => rfl
  | n + 1, K => by
    show (if hit κ' p f K then sA κ' 1 (aN ((4 * K) + 3)) else hAt κ' p f n (K + 1)) = if hit κ p f K then sA κ 1 (aN ((4 * K) + 3)) else hAt κ p f n (K + 1)
    rw [hAt_cg h p f n (K + 1)]
    unfold hit
    rw [h]
/-- where the handler goes on, and how many calls stand then -/
def fAt (κ : KS) (f : Int32) (hm : Nat) : Nat → Int32 → Int32 × Nat
  | 0, a => (a, 0)
  | n + 1, a => if 0 ≤ a then (a, n + 1) else fAt κ f hm n (hAt κ (sA κ 9 n) f hm 0)
def fAtR (κ : KS) (f : Int32) : Int32 × Nat := fAt κ f (aN (sI κ 1)) (aN (sI κ 6)) (hAt κ (sI κ 4) f (aN (sI κ 1)) 0)
def failX (κ : KS) (f : Int32) : KS := if 0 ≤ (fAtR κ f).1 then goK (uI (fK κ f) 6 (nI (fAtR κ f).2)) (fAtR κ f).1 else uI (uI (fK κ f) 6 (nI (fAtR κ f).2)) 3 3
def thrX (κ : KS) (f a : Int32) : Option Nat := if f < 8 then none else rT (sA κ 3 (aN a))
theorem uI_self (κ : KS) {k : Nat} {v : Int32} (h : sI κ k = v) : uI κ k v = κ := by rw [← h, uI_same]
set_option maxHeartbeats 4000000 in
set_option maxRecDepth 100000 in
theorem lp_X4_fail {p : Program} {l : Launch} {e : Env} {R : Room} {s : State} {m : MethodId} {args : Array Value} {below : List Frame} {meth : Method} {c : Code} {Q : State → Prop} {D : va_G} {q : Nat → ClassId} {A : Nat → Prop} {H0 : Heap} {ad : Nat → Nat} {τ : TAU} {K : KS} {ρ : Nat} (hC : CallFix p m c cX4_fail 5 s args wsX4_fail RX4) (hR : R = (rmz 2 46)) (f : Int32) (j hn : Nat) (hf : f = nI j) (hj : j < 31) (hh : sI K 1 = nI hn) (h16 : hn ≤ 16) (hS : ∀ k, k < hn → τ.2.1 k = some (ad (600 + k))) (fin : Int32 × Nat) (kk : ∀ (a : Int32) (n : Nat) (O : Int32) (H : Heap) (locs : List Loc) (ls : Array Slot), (a, n) = fin → rX D q A H0 s (wX q ad (uI K 6 (nI n)) τ) H locs → lv_has ls 5 [(4, .int O), (3, .int a), (0, .ref (ad 3)), (1, .ref (ad ρ)), (2, .int f)] → W p l e (rmz 2 46) s m args below meth c H locs 0 0 Q (F0 m 95 ls [])) : ∀ (n : Nat) (a O : Int32) (H : Heap) (locs : List Loc) (ls : Array Slot), O = nI n → n ≤ 12 → fAt K f hn n a = fin → rX D q A H0 s (wX q ad (uI K 6 (nI n)) τ) H locs → lv_has ls 5 [(4, .int O), (3, .int a), (0, .ref (ad 3)), (1, .ref (ad ρ)), (2, .int f)] → W p l e (rmz 2 46) s m args below meth c H locs 0 0 Q (F0 m 67 ls []) := by
  subst hR
  have hx := hC.1
  have hb := hC.2.1
  intro n
  induction n with
  | zero =>
    intro a O H locs ls hO hn12 hfa hw hl
    refine lv_iload hx hb dX4_fail_67 (lv_at hl 0 rfl) ?_
    refine lv_if_le (tgt := 95) hx hb dX4_fail_69 (by decide) (fun _ => ?_) (fun c_ => absurd (by rw [hO]; decide) c_)
    exact kk a 0 _ H locs ls hfa hw (lv_sub hl [0, 1, 2, 3, 4] rfl)
  | succ n ih =>
    intro a O H locs ls hO hn12 hfa hw hl
    refine lv_iload hx hb dX4_fail_67 (lv_at hl 0 rfl) ?_
    refine lv_if_le (tgt := 95) hx hb dX4_fail_69 (by decide) (fun c_ => absurd c_ (by rw [hO]; exact nI_nle0 (by omega))) (fun _ => ?_)
    refine lv_iload_n hx hb dX4_fail_72 rfl (lv_at hl 1 rfl) ?_
    refine lv_if_ge (tgt := 95) hx hb dX4_fail_73 (by decide) (fun c_1 => ?_) (fun c_1 => ?_)
    · exact kk a (n + 1) _ H locs ls ((if_pos c_1).symm.trans hfa) hw (lv_sub hl [0, 1, 2, 3, 4] rfl)
    · refine lv_aload_n hx hb dX4_fail_76 rfl (lv_at hl 2 rfl) ?_
      refine r_get hC hw rk4 in_X4_fail_4 3 (wXl 3 (by decide)) wXc3 0 (by decide) lk_X4_fail_9 (v := .ref (ad 1)) rfl dX4_fail_77 ?_
      refine lv_aload_n hx hb dX4_fail_80 rfl (lv_at hl 2 rfl) ?_
      refine r_ki hw (r_runV (rest := [.ref (ad 1)]) hC hw 3 (c_X4_dropCall (ad := ad) l _ n rfl (by omega)) rk4 (wXl 3 (by decide)) wXc3 0 gX4_fail_X4_dropCall rfl rfl rfl (by decide +kernel) ⟨Nat.le_of_ble_eq_true rfl, Nat.le_of_ble_eq_true rfl⟩ rfl hl.1 rfl (Nat.le_of_ble_eq_true rfl) dX4_fail_81 ⟨Nat.le_of_ble_eq_true rfl, Nat.le_of_ble_eq_true rfl⟩) (fun r_3 u_4 H locs h_2 hw => ?_)
      obtain ⟨rfl, rfl⟩ := h_2
      dsimp only at hw
      rw [uI_uI] at hw
      refine lv_iload_n hx hb dX4_fail_84 rfl (lv_at hl 4 rfl) ?_
      refine r_ki hw (r_runV (rest := []) hC hw 1 (c_X1_seekHandler (ad := ad) l _ (sA K 9 n) f j hn hf hj (by exact hh) h16 hS) rk1 (wXl 1 (by decide)) wXc1 2 gX4_fail_X1_seekHandler rfl rfl rfl (by decide +kernel) ⟨Nat.le_of_ble_eq_true rfl, Nat.le_of_ble_eq_true rfl⟩ rfl hl.1 rfl (Nat.le_of_ble_eq_true rfl) dX4_fail_85 ⟨Nat.le_of_ble_eq_true rfl, Nat.le_of_ble_eq_true rfl⟩) (fun r_6 u_7 H locs h_5 hw => ?_)
      rw [hAt_cg (κ := K) (κ' := uI K 6 (nI n)) rfl] at h_5
      refine lv_istore_n (lv' := [(3, .int r_6), (4, .int O), (0, .ref (ad 3)), (1, .ref (ad ρ)), (2, .int f)]) hx hb dX4_fail_88 rfl hl (by decide) rfl (fun ls hl => ?_)
      refine lv_iinc (v := O + (-1)) (lv' := [(4, .int (O + (-1))), (3, .int r_6), (0, .ref (ad 3)), (1, .ref (ad ρ)), (2, .int f)]) hx hb dX4_fail_89 hl (k := 1) rfl (by first | rfl | decide) (by decide) rfl (fun ls hl => ?_)
      refine lv_goto (tgt := 67) hx hb dX4_fail_92 (by decide) ?_
      exact ih _ _ H locs ls (by rw [hO]; exact nI_m1 n) (by omega) (by rw [← hfa, h_5]; exact (if_neg c_1).symm) hw (lv_sub hl [0, 1, 2, 3, 4] rfl)

theorem fAt_cg {κ κ' : KS} (h1 : sA κ' 1 = sA κ 1) (h9 : sA κ' 9 = sA κ 9) (f : Int32) (hm : Nat) : ∀ n a, fAt κ' f hm n a = fAt κ f hm n a
  | 0, _ => rfl
  | n + 1, a => by
    show (if 0 ≤ a then (a, n + 1) else fAt κ' f hm n (hAt κ' (sA κ' 9 n) f hm 0)) = if 0 ≤ a then (a, n + 1) else fAt κ f hm n (hAt κ (sA κ 9 n) f hm 0)
    rw [hAt_cg h1, h9, fAt_cg h1 h9 f hm n]
set_option maxHeartbeats 4000000 in
set_option maxRecDepth 100000 in
theorem c_X4_fail (l : Launch) {D : va_G} {q : Nat → ClassId} {ad : Nat → Nat} {κ : KS} {τ : TAU} (sz : Nat) (ρ : Nat) (o xa xb xc f : Int32) (j : Nat) (hst : stepAt q ad κ τ ρ o xa xb xc) (hρ : 400 ≤ ρ) (hX : WFx κ) (hf : f = nI j) (hj : j < 31) (hxa : 8 ≤ f → vp_in xa 8) (hP : PR ad κ τ) (hc6 : ∃ n, n ≤ 12 ∧ sI κ 6 = nI n) : Met l yX4_fail wsX4_fail (rmz 2 46) (va_Pc [.ref (ad 3), .ref (ad ρ), .int f] (rPre D q (wX q ad κ τ) sz)) (va_Qv (fun (u : KS × TAU) => u = (failX κ f, (τ.1, τ.2.1, τ.2.2.1, thrX κ f xa))) (fun (u : KS × TAU) tt => rPo D (rA (wX q ad κ τ) sz) (wX q ad u.1 u.2) tt) (rA (wX q ad κ τ) sz)) 0 0 (rA (wX q ad κ τ) sz) := by
  refine r_start (cc := cX4_fail) (maxL := 5) (ret := none) (by decide) rfl (Nat.le_of_ble_eq_true rfl) ?_
  intro p e s m below meth c ls hC hr hlk hnm hsz hw hl
  have hx := hC.1
  have hb := hC.2.1
  have hl : lv_has ls 5 [(0, .ref (ad 3)), (1, .ref (ad ρ)), (2, .int f)] := hl
  obtain ⟨n6, h12, hn6⟩ := hc6
  obtain ⟨hn, h16, hh, hS⟩ := hP.2
  refine lv_aload_n hx hb dX4_fail_0 rfl (lv_at hl 0 rfl) ?_
  refine lv_dup hx hb dX4_fail_1 rfl ?_
  refine r_get hC hw rk4 in_X4_fail_4 3 (wXl 3 (by decide)) wXc3 12 (by decide) lk_X4_fail_55 (v := .int (sI κ 8)) rfl dX4_fail_2 ?_
  refine lv_iconst (v := 1) hx hb dX4_fail_5 (by decide) ?_
  refine lv_iadd hx hb dX4_fail_6 ?_
  refine r_put hC hw rk4 in_X4_fail_4 3 (wXl 3 (by decide)) wXc3 12 (by decide) lk_X4_fail_55 rfl rfl rfl (Nat.le_of_ble_eq_true rfl) dX4_fail_7 (fun H locs hw => ?_)
  replace hw := xP_failureCount hw
  refine lv_aload_n hx hb dX4_fail_10 rfl (lv_at hl 0 rfl) ?_
  refine lv_iload_n hx hb dX4_fail_11 rfl (lv_at hl 2 rfl) ?_
  refine r_put hC hw rk4 in_X4_fail_4 3 (wXl 3 (by decide)) wXc3 13 (by decide) lk_X4_fail_58 rfl rfl rfl (Nat.le_of_ble_eq_true rfl) dX4_fail_12 (fun H locs hw => ?_)
  replace hw := xP_failure hw
  refine lv_aload_n hx hb dX4_fail_15 rfl (lv_at hl 0 rfl) ?_
  refine lv_aload_n hx hb dX4_fail_16 rfl (lv_at hl 0 rfl) ?_
  refine r_get hC hw rk4 in_X4_fail_4 3 (wXl 3 (by decide)) wXc3 7 (by decide) lk_X4_fail_75 (v := .int (sI κ 4)) rfl dX4_fail_17 ?_
  refine r_put hC hw rk4 in_X4_fail_4 3 (wXl 3 (by decide)) wXc3 14 (by decide) lk_X4_fail_42 rfl rfl rfl (Nat.le_of_ble_eq_true rfl) dX4_fail_20 (fun H locs hw => ?_)
  replace hw := xP_failurePlace hw
  refine lv_aload_n hx hb dX4_fail_23 rfl (lv_at hl 0 rfl) ?_
  refine lv_iload_n hx hb dX4_fail_24 rfl (lv_at hl 2 rfl) ?_
  refine lv_bipush (v := 8) hx hb dX4_fail_25 (by decide) ?_
  refine lv_icmp_lt (tgt := 44) hx hb dX4_fail_27 (by decide) (fun c_1 => ?_) (fun c_1 => ?_)
  · refine lv_null hx hb dX4_fail_44 ?_
    refine r_topv (y := va_rf ((none : Option Nat).map ad)) rfl ?_
    refine r_put hC hw rk4 in_X4_fail_4 3 (wXl 3 (by decide)) wXc3 15 (by decide) lk_X4_fail_61 rfl (rf_n _ _) (rf_f _ _) (Nat.le_of_ble_eq_true rfl) dX4_fail_45 (fun H locs hw => ?_)
    replace hw := xP_thrown hw
    have hthr : thrX κ f xa = none := if_pos c_1
    refine lv_aload_n hx hb dX4_fail_48 rfl (lv_at hl 0 rfl) ?_
    refine r_get hC hw rk4 in_X4_fail_4 3 (wXl 3 (by decide)) wXc3 0 (by decide) lk_X4_fail_9 (v := .ref (ad 1)) rfl dX4_fail_49 ?_
    refine lv_aload_n hx hb dX4_fail_52 rfl (lv_at hl 0 rfl) ?_
    refine r_get hC hw rk4 in_X4_fail_4 3 (wXl 3 (by decide)) wXc3 7 (by decide) lk_X4_fail_75 (v := .int (sI κ 4)) rfl dX4_fail_53 ?_
    refine lv_iload_n hx hb dX4_fail_56 rfl (lv_at hl 2 rfl) ?_
    refine r_ki hw (r_runV (rest := []) hC hw 1 (c_X1_seekHandler (ad := ad) l _ (sI κ 4) f j hn hf hj (by exact hh) h16 hS) rk1 (wXl 1 (by decide)) wXc1 2 gX4_fail_X1_seekHandler rfl rfl rfl (by decide +kernel) ⟨Nat.le_of_ble_eq_true rfl, Nat.le_of_ble_eq_true rfl⟩ rfl hl.1 rfl (Nat.le_of_ble_eq_true rfl) dX4_fail_57 ⟨Nat.le_of_ble_eq_true rfl, Nat.le_of_ble_eq_true rfl⟩) (fun r_3 u_4 H locs h_2 hw => ?_)
    rw [hAt_cg (κ := κ) (κ' := (uI (uI (uI κ 8 ((sI κ 8) + 1)) 9 f) 10 (sI κ 4))) rfl] at h_2
    subst h_2
    refine lv_istore_n (lv' := [(3, .int (hAt κ (sI κ 4) f hn 0)), (0, .ref (ad 3)), (1, .ref (ad ρ)), (2, .int f)]) hx hb dX4_fail_60 rfl hl (by decide) rfl (fun ls hl => ?_)
    refine lv_aload_n hx hb dX4_fail_61 rfl (lv_at hl 1 rfl) ?_
    refine r_get hC hw rk4 in_X4_fail_4 3 (wXl 3 (by decide)) wXc3 10 (by decide) lk_X4_fail_49 (v := .int (sI κ 6)) rfl dX4_fail_62 ?_
    refine lv_istore (lv' := [(4, .int (sI κ 6)), (3, .int (hAt κ (sI κ 4) f hn 0)), (0, .ref (ad 3)), (1, .ref (ad ρ)), (2, .int f)]) hx hb dX4_fail_65 hl (by decide) rfl (fun ls hl => ?_)
    obtain ⟨K, hK⟩ : ∃ K, K = fK κ f := ⟨_, rfl⟩
    have hK6 : sI K 6 = nI n6 := by rw [hK]; exact hn6
    have hK1 : sI K 1 = nI hn := by rw [hK]; exact hh
    have hK1a : sA K 1 = sA κ 1 := by rw [hK]; rfl
    have hK9a : sA K 9 = sA κ 9 := by rw [hK]; rfl
    have hP2 : PR ad K (τ.1, τ.2.1, τ.2.2.1, none) := by rw [hK]; exact hP
    have hw2 : rX D q (rA (wX q ad κ τ) sz) s.heap s (wX q ad (uI K 6 (nI n6)) (τ.1, τ.2.1, τ.2.2.1, none)) H locs := by rw [uI_self K hK6, hK]; exact hw
    refine lp_X4_fail (ρ := ρ) (K := K) (τ := (τ.1, τ.2.1, τ.2.2.1, none)) hC rfl f j hn hf hj hK1 h16 hS (fAtR κ f) (fun a n O H locs ls hfin hw hl => ?_) n6 _ _ H locs ls hn6 h12 (by unfold fAtR; rw [hh, hn6, show aN (nI hn) = hn from nI_clamp (by omega), show aN (nI n6) = n6 from nI_clamp (by omega)]; exact fAt_cg hK1a hK9a f hn n6 _) hw2 (lv_sub hl [0, 1, 2, 3, 4] rfl)
    refine lv_iload_n hx hb dX4_fail_95 rfl (lv_at hl 1 rfl) ?_
    refine lv_if_ge (tgt := 107) hx hb dX4_fail_96 (by decide) (fun c_5 => ?_) (fun c_5 => ?_)
    · refine lv_aload_n hx hb dX4_fail_107 rfl (lv_at hl 2 rfl) ?_
      refine lv_iload_n hx hb dX4_fail_108 rfl (lv_at hl 1 rfl) ?_
      refine r_kv hw (r_runV (rest := []) hC hw 3 (c_X4_goTo (ad := ad) l _ a (by exact hP2)) rk4 (wXl 3 (by decide)) wXc3 1 gX4_fail_X4_goTo rfl rfl rfl (by decide +kernel) ⟨Nat.le_of_ble_eq_true rfl, Nat.le_of_ble_eq_true rfl⟩ rfl hl.1 rfl (Nat.le_of_ble_eq_true rfl) dX4_fail_109 ⟨Nat.le_of_ble_eq_true rfl, Nat.le_of_ble_eq_true rfl⟩) (fun u_8 H locs h_6 hw => ?_)
      subst h_6
      dsimp only at hw
      exact r_vret hC hr hlk hw ((goK (uI K 6 (nI n)) a), (τ.1, τ.2.1, τ.2.2.1, none)) rfl (by unfold failX; rw [hthr, ← hfin, if_pos c_5, ← hK]) (Nat.le_of_ble_eq_true rfl) (Nat.le_of_ble_eq_true rfl) dX4_fail_112
    · refine lv_aload_n hx hb dX4_fail_99 rfl (lv_at hl 2 rfl) ?_
      refine lv_iconst (v := 3) hx hb dX4_fail_100 (by decide) ?_
      refine r_put hC hw rk4 in_X4_fail_4 3 (wXl 3 (by decide)) wXc3 6 (by decide) lk_X4_fail_68 rfl rfl rfl (Nat.le_of_ble_eq_true rfl) dX4_fail_101 (fun H locs hw => ?_)
      replace hw := xP_phase hw
      refine lv_goto (tgt := 112) hx hb dX4_fail_104 (by decide) ?_
      exact r_vret hC hr hlk hw ((uI (uI K 6 (nI n)) 3 3), (τ.1, τ.2.1, τ.2.2.1, none)) rfl (by unfold failX; rw [hthr, ← hfin, if_neg c_5, ← hK]) (Nat.le_of_ble_eq_true rfl) (Nat.le_of_ble_eq_true rfl) dX4_fail_112
  · refine lv_aload_n hx hb dX4_fail_30 rfl (lv_at hl 0 rfl) ?_
    refine r_get hC hw rk4 in_X4_fail_4 3 (wXl 3 (by decide)) wXc3 1 (by decide) lk_X4_fail_15 (v := .ref (ad 2)) rfl dX4_fail_31 ?_
    refine lv_aload_n hx hb dX4_fail_34 rfl (lv_at hl 1 rfl) ?_
    refine r_get hC hw rk5 in_X4_fail_5 ρ (by exact hst.1) (by exact (stepAt_cg (ad2 := ad) (κ := κ) (τ := τ) (κ' := (uI (uI (uI κ 8 ((sI κ 8) + 1)) 9 f) 10 (sI κ 4))) (τ' := τ) hρ rfl rfl rfl rfl hX.1 hst).2) 1 (by decide) lk_X4_fail_103 (v := .int xa) rfl dX4_fail_35 ?_
    refine r_kq hw (r_runV (rest := [.ref (ad 3)]) hC hw 2 (c_X3_getThing l _ _ 2 12 xa (wXl 2 (by decide)) wXc2 (wXl 12 (by decide)) wXc12) rk3 (wXl 2 (by decide)) wXc2 1 gX4_fail_X3_getThing rfl rfl rfl (by decide +kernel) ⟨Nat.le_of_ble_eq_true rfl, Nat.le_of_ble_eq_true rfl⟩ rfl hl.1 rfl (Nat.le_of_ble_eq_true rfl) dX4_fail_38 ⟨Nat.le_of_ble_eq_true rfl, Nat.le_of_ble_eq_true rfl⟩) (fun r_10 u_11 H locs h_9 hw => ?_)
    subst h_9
    refine r_topv (y := va_rf ((rT (sA κ 3 (aN xa))).map ad)) (by rw [gN_in (hxa (Int32.not_lt.mp c_1)) (by decide)]; rfl) ?_
    refine lv_goto (tgt := 45) hx hb dX4_fail_41 (by decide) ?_
    refine r_put hC hw rk4 in_X4_fail_4 3 (wXl 3 (by decide)) wXc3 15 (by decide) lk_X4_fail_61 rfl (rf_n _ _) (rf_f _ _) (Nat.le_of_ble_eq_true rfl) dX4_fail_45 (fun H locs hw => ?_)
    replace hw := xP_thrown hw
    have hthr : thrX κ f xa = rT (sA κ 3 (aN xa)) := if_neg c_1
    refine lv_aload_n hx hb dX4_fail_48 rfl (lv_at hl 0 rfl) ?_
    refine r_get hC hw rk4 in_X4_fail_4 3 (wXl 3 (by decide)) wXc3 0 (by decide) lk_X4_fail_9 (v := .ref (ad 1)) rfl dX4_fail_49 ?_
    refine lv_aload_n hx hb dX4_fail_52 rfl (lv_at hl 0 rfl) ?_
    refine r_get hC hw rk4 in_X4_fail_4 3 (wXl 3 (by decide)) wXc3 7 (by decide) lk_X4_fail_75 (v := .int (sI κ 4)) rfl dX4_fail_53 ?_
    refine lv_iload_n hx hb dX4_fail_56 rfl (lv_at hl 2 rfl) ?_
    refine r_ki hw (r_runV (rest := []) hC hw 1 (c_X1_seekHandler (ad := ad) l _ (sI κ 4) f j hn hf hj (by exact hh) h16 hS) rk1 (wXl 1 (by decide)) wXc1 2 gX4_fail_X1_seekHandler rfl rfl rfl (by decide +kernel) ⟨Nat.le_of_ble_eq_true rfl, Nat.le_of_ble_eq_true rfl⟩ rfl hl.1 rfl (Nat.le_of_ble_eq_true rfl) dX4_fail_57 ⟨Nat.le_of_ble_eq_true rfl, Nat.le_of_ble_eq_true rfl⟩) (fun r_13 u_14 H locs h_12 hw => ?_)
    rw [hAt_cg (κ := κ) (κ' := (uI (uI (uI κ 8 ((sI κ 8) + 1)) 9 f) 10 (sI κ 4))) rfl] at h_12
    subst h_12
    refine lv_istore_n (lv' := [(3, .int (hAt κ (sI κ 4) f hn 0)), (0, .ref (ad 3)), (1, .ref (ad ρ)), (2, .int f)]) hx hb dX4_fail_60 rfl hl (by decide) rfl (fun ls hl => ?_)
    refine lv_aload_n hx hb dX4_fail_61 rfl (lv_at hl 1 rfl) ?_
    refine r_get hC hw rk4 in_X4_fail_4 3 (wXl 3 (by decide)) wXc3 10 (by decide) lk_X4_fail_49 (v := .int (sI κ 6)) rfl dX4_fail_62 ?_
    refine lv_istore (lv' := [(4, .int (sI κ 6)), (3, .int (hAt κ (sI κ 4) f hn 0)), (0, .ref (ad 3)), (1, .ref (ad ρ)), (2, .int f)]) hx hb dX4_fail_65 hl (by decide) rfl (fun ls hl => ?_)
    obtain ⟨K, hK⟩ : ∃ K, K = fK κ f := ⟨_, rfl⟩
    have hK6 : sI K 6 = nI n6 := by rw [hK]; exact hn6
    have hK1 : sI K 1 = nI hn := by rw [hK]; exact hh
    have hK1a : sA K 1 = sA κ 1 := by rw [hK]; rfl
    have hK9a : sA K 9 = sA κ 9 := by rw [hK]; rfl
    have hP2 : PR ad K (τ.1, τ.2.1, τ.2.2.1, rT (sA κ 3 (aN xa))) := by rw [hK]; exact hP
    have hw2 : rX D q (rA (wX q ad κ τ) sz) s.heap s (wX q ad (uI K 6 (nI n6)) (τ.1, τ.2.1, τ.2.2.1, rT (sA κ 3 (aN xa)))) H locs := by rw [uI_self K hK6, hK]; exact hw
    refine lp_X4_fail (ρ := ρ) (K := K) (τ := (τ.1, τ.2.1, τ.2.2.1, rT (sA κ 3 (aN xa)))) hC rfl f j hn hf hj hK1 h16 hS (fAtR κ f) (fun a n O H locs ls hfin hw hl => ?_) n6 _ _ H locs ls hn6 h12 (by unfold fAtR; rw [hh, hn6, show aN (nI hn) = hn from nI_clamp (by omega), show aN (nI n6) = n6 from nI_clamp (by omega)]; exact fAt_cg hK1a hK9a f hn n6 _) hw2 (lv_sub hl [0, 1, 2, 3, 4] rfl)
    refine lv_iload_n hx hb dX4_fail_95 rfl (lv_at hl 1 rfl) ?_
    refine lv_if_ge (tgt := 107) hx hb dX4_fail_96 (by decide) (fun c_15 => ?_) (fun c_15 => ?_)
    · refine lv_aload_n hx hb dX4_fail_107 rfl (lv_at hl 2 rfl) ?_
      refine lv_iload_n hx hb dX4_fail_108 rfl (lv_at hl 1 rfl) ?_
      refine r_kv hw (r_runV (rest := []) hC hw 3 (c_X4_goTo (ad := ad) l _ a (by exact hP2)) rk4 (wXl 3 (by decide)) wXc3 1 gX4_fail_X4_goTo rfl rfl rfl (by decide +kernel) ⟨Nat.le_of_ble_eq_true rfl, Nat.le_of_ble_eq_true rfl⟩ rfl hl.1 rfl (Nat.le_of_ble_eq_true rfl) dX4_fail_109 ⟨Nat.le_of_ble_eq_true rfl, Nat.le_of_ble_eq_true rfl⟩) (fun u_18 H locs h_16 hw => ?_)
      subst h_16
      dsimp only at hw
      exact r_vret hC hr hlk hw ((goK (uI K 6 (nI n)) a), (τ.1, τ.2.1, τ.2.2.1, rT (sA κ 3 (aN xa)))) rfl (by unfold failX; rw [hthr, ← hfin, if_pos c_15, ← hK]) (Nat.le_of_ble_eq_true rfl) (Nat.le_of_ble_eq_true rfl) dX4_fail_112
    · refine lv_aload_n hx hb dX4_fail_99 rfl (lv_at hl 2 rfl) ?_
      refine lv_iconst (v := 3) hx hb dX4_fail_100 (by decide) ?_
      refine r_put hC hw rk4 in_X4_fail_4 3 (wXl 3 (by decide)) wXc3 6 (by decide) lk_X4_fail_68 rfl rfl rfl (Nat.le_of_ble_eq_true rfl) dX4_fail_101 (fun H locs hw => ?_)
      replace hw := xP_phase hw
      refine lv_goto (tgt := 112) hx hb dX4_fail_104 (by decide) ?_
      exact r_vret hC hr hlk hw ((uI (uI K 6 (nI n)) 3 3), (τ.1, τ.2.1, τ.2.2.1, rT (sA κ 3 (aN xa)))) rfl (by unfold failX; rw [hthr, ← hfin, if_neg c_15, ← hK]) (Nat.le_of_ble_eq_true rfl) (Nat.le_of_ble_eq_true rfl) dX4_fail_112

