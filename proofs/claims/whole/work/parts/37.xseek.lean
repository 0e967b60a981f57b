theorem par31 (n m : Nat) (hn : n < 4294967296) (hm : m < 4294967296) (j : Nat) (hj : j < 31) (h : (if 2 * m < 4294967296 then (m : Int) else (m : Int) - 4294967296) = (if 2 * n < 4294967296 then (n : Int) else (n : Int) - 4294967296) / ((2 ^ j : Nat) : Int)) : n / 2 ^ j % 2 = m % 2 := by
  have hq : (4294967296 : Nat) = 2 ^ j * (2 * 2 ^ (31 - j)) := by
    rw [← Nat.pow_succ', ← Nat.pow_add, show j + (31 - j).succ = 32 by omega]
  have hP : ((2 ^ j : Nat) : Int) ≠ 0 := by
    have : 0 < 2 ^ j := Nat.pow_pos (by decide)
    omega
  have e1 : (n : Int) / ((2 ^ j : Nat) : Int) = ((n / 2 ^ j : Nat) : Int) := (Int.natCast_ediv n (2 ^ j)).symm
  have e2 : ((n : Int) - 4294967296) / ((2 ^ j : Nat) : Int) = ((n / 2 ^ j : Nat) : Int) - 2 * ((2 ^ (31 - j) : Nat) : Int) := by
    have h1 : ((n : Int) - 4294967296) = (n : Int) + ((2 ^ j : Nat) : Int) * (-(2 * ((2 ^ (31 - j) : Nat) : Int))) := by
      have h2 : (4294967296 : Int) = ((2 ^ j : Nat) : Int) * (2 * ((2 ^ (31 - j) : Nat) : Int)) := by
        have h3 := congrArg (fun z : Nat => (z : Int)) hq
        simpa using h3
      rw [Int.mul_neg, ← h2]
      rfl
    rw [h1, Int.add_mul_ediv_left _ _ hP, e1]
    rfl
  generalize n / 2 ^ j = a at *
  generalize ((2 ^ (31 - j) : Nat) : Int) = b at *
  split at h <;> split at h
  · rw [e1] at h; omega
  · rw [e2] at h; omega
  · rw [e1] at h; omega
  · rw [e2] at h; omega
theorem bitp (x : Int32) {j : Nat} (hj : j < 31) : ((x.toUInt32 >>> ((nI j).toUInt32 &&& Int32.toUInt32 31)).toInt32) &&& 1 = (x >>> (nI j &&& 31)) &&& 1 := by
  rw [pk_and _ 1 (m := 1) (by decide), pk_and _ 1 (m := 1) (by decide)]
  have h1 := pk_ushr x (nI j) j ((by decide : ∀ j, j < 31 → (((nI j).toUInt32 &&& Int32.toUInt32 31).toBitVec % 32).toNat = j) j hj)
  have h2 := pk_shr x (nI j &&& 31) j ((by decide : ∀ j, j < 31 → ((nI j &&& 31).toBitVec.smod 32).toNat = j) j hj)
  rw [h1]
  generalize x >>> (nI j &&& 31) = B at h2 ⊢
  have e1 : B.toInt = if 2 * B.toBitVec.toNat < 4294967296 then (B.toBitVec.toNat : Int) else (B.toBitVec.toNat : Int) - 4294967296 := BitVec.toInt_eq_toNat_cond B.toBitVec
  have e2 : x.toInt = if 2 * x.toBitVec.toNat < 4294967296 then (x.toBitVec.toNat : Int) else (x.toBitVec.toNat : Int) - 4294967296 := BitVec.toInt_eq_toNat_cond x.toBitVec
  rw [Int.shiftRight_eq_div_pow, e1, e2] at h2
  exact congrArg nI (par31 _ _ x.toBitVec.isLt B.toBitVec.isLt j hj h2)
theorem a4 {K : Int32} {k : Nat} (hK : K = nI k) (hk : k < 16) : aN (4 * K) = 4 * k ∧ aN ((4 * K) + 1) = 4 * k + 1 ∧ aN ((4 * K) + 2) = 4 * k + 2 ∧ aN ((4 * K) + 3) = 4 * k + 3 := by
  subst hK
  rw [show (4 : Int32) = nI 4 from rfl, show (1 : Int32) = nI 1 from rfl, show (2 : Int32) = nI 2 from rfl, show (3 : Int32) = nI 3 from rfl, pk_mul, nI_add, nI_add, nI_add]
  exact ⟨nI_clamp (by omega), nI_clamp (by omega), nI_clamp (by omega), nI_clamp (by omega)⟩
theorem names_hit {κ : KS} {p f K : Int32} {k j : Nat} (hK : K = nI k) (hk : k < 16) (hf : f = nI j) (hj : j < 31) : (if sA κ 1 (4 * k) ≤ p then (if sA κ 1 (4 * k + 1) ≤ p then (0 : Int32) else (if (((sA κ 1 (4 * k + 2)).toUInt32 >>> (f.toUInt32 &&& Int32.toUInt32 31)).toInt32) &&& 1 = 1 then 1 else 0)) else 0) = if hit κ p f K then 1 else 0 := by
  obtain ⟨a0, a1, a2, -⟩ := a4 hK hk
  have e : hit κ p f K ↔ sA κ 1 (4 * k) ≤ p ∧ ¬ sA κ 1 (4 * k + 1) ≤ p ∧ ((sA κ 1 (4 * k + 2)) >>> (f &&& 31)) &&& 1 = 1 := by
    show (sA κ 1 (aN (4 * K)) ≤ p ∧ ¬ sA κ 1 (aN ((4 * K) + 1)) ≤ p ∧ (sA κ 1 (aN ((4 * K) + 2)) >>> (f &&& 31)) &&& 1 = 1) ↔ _
    rw [a0, a1, a2]
  subst hf
  rw [bitp _ hj]
  by_cases h1 : sA κ 1 (4 * k) ≤ p
  · by_cases h2 : sA κ 1 (4 * k + 1) ≤ p
    · rw [if_pos h1, if_pos h2, if_neg (fun h => (e.mp h).2.1 h2)]
    · by_cases h3 : ((sA κ 1 (4 * k + 2)) >>> (nI j &&& 31)) &&& 1 = 1
      · rw [if_pos h1, if_neg h2, if_pos h3, if_pos (e.mpr ⟨h1, h2, h3⟩)]
      · rw [if_pos h1, if_neg h2, if_neg h3, if_neg (fun h => h3 (e.mp h).2.2)]
  · rw [if_neg h1, if_neg (fun h => h1 (e.mp h).1)]
/-- where the first handler that names the failure goes on; -1 if there is none -/
def hAt (κ : KS) (p f : Int32) : Nat → Int32 → Int32
  | 0, _ => -1
  | n + 1, K => if hit κ p f K then sA κ 1 (aN ((4 * K) + 3)) else hAt κ p f n (K + 1)
theorem hAt_eq (κ : KS) (p f : Int32) : ∀ (n k : Nat) (K : Int32), K = nI k → k + n ≤ 16 → hAt κ p f n K = if 0 ≤ hSeek κ p f n K then sA κ 1 (aN ((4 * hSeek κ p f n K) + 3)) else -1
  | 0, _, _, _, _ => by show (-1 : Int32) = if (0 : Int32) ≤ -1 then _ else _; rw [if_neg (by decide)]
  | n + 1, k, K, hK, hk => by
    by_cases h : hit κ p f K
    · have e1 : hAt κ p f (n + 1) K = sA κ 1 (aN ((4 * K) + 3)) := if_pos h
      have e2 : hSeek κ p f (n + 1) K = K := if_pos h
      rw [e1, e2, if_pos (by rw [hK]; exact nI_pos' (by omega))]
    · have e1 : hAt κ p f (n + 1) K = hAt κ p f n (K + 1) := if_neg h
      have e2 : hSeek κ p f (n + 1) K = hSeek κ p f n (K + 1) := if_neg h
      rw [e1, e2]
      exact hAt_eq κ p f n (k + 1) (K + 1) (by rw [hK]; exact nI_1 k) (by omega)
theorem hdl {q : Nat → ClassId} {ad : Nat → Nat} {κ : KS} {τ : TAU} {k hn : Nat} (h16 : hn ≤ 16) (hh : sI κ 1 = nI hn) (h : k < hn) : (wX q ad κ τ).2.1 (600 + k) := Or.inr (Or.inr (Or.inr ⟨by omega, by rw [hh, show aN (nI hn) = hn from nI_clamp (by omega)]; omega⟩))
set_option maxHeartbeats 4000000 in
set_option maxRecDepth 100000 in
theorem lp_X1_seekHandler {p : Program} {l : Launch} {e : Env} {R : Room} {s : State} {m : MethodId} {args : Array Value} {below : List Frame} {meth : Method} {c : Code} {Q : State → Prop} {D : va_G} {q : Nat → ClassId} {A : Nat → Prop} {H0 : Heap} {ad : Nat → Nat} {κ : KS} {τ : TAU} (hC : CallFix p m c cX1_seekHandler 5 s args wsX1_seekHandler RX1) (hR : R = rmz 1 22) (pl f : Int32) (j hn : Nat) (hf : f = nI j) (hj : j < 31) (hh : sI κ 1 = nI hn) (h16 : hn ≤ 16) (hS : ∀ k, k < hn → τ.2.1 k = some (ad (600 + k))) (kk : ∀ (pc : Nat) (ls : Array Slot) (r : Int32) (H : Heap) (locs : List Loc), decode cX1_seekHandler pc = .ok (.ireturn, 1) → r = hAt κ pl f hn 0 → rX D q A H0 s (wX q ad κ τ) H locs → W p l e (rmz 1 22) s m args below meth c H locs 0 0 Q (F0 m pc ls [.int r])) : ∀ (n k : Nat) (K : Int32) (H : Heap) (locs : List Loc) (ls : Array Slot), K = nI k → k + n = hn → hAt κ pl f n K = hAt κ pl f hn 0 → rX D q A H0 s (wX q ad κ τ) H locs → lv_has ls 5 [(3, .int K), (0, .ref (ad 1)), (1, .int pl), (2, .int f)] → W p l e (rmz 1 22) s m args below meth c H locs 0 0 Q (F0 m 2 ls []) := by
  subst hR
  have hx := hC.1
  have hb := hC.2.1
  intro n
  induction n with
  | zero =>
    intro k K H locs ls hK hk hs hw hl
    refine lv_iload_n hx hb dX1_seekHandler_2 rfl (lv_at hl 0 rfl) ?_
    refine lv_aload_n hx hb dX1_seekHandler_3 rfl (lv_at hl 1 rfl) ?_
    refine r_get hC hw rk1 in_X1_seekHandler_1 1 (wXl 1 (by decide)) wXc1 3 (by decide) lk_X1_seekHandler_27 (v := .int (sI κ 1)) rfl dX1_seekHandler_4 ?_
    refine lv_icmp_ge (tgt := 54) hx hb dX1_seekHandler_7 (by decide) (fun _ => ?_) (fun c_ => absurd (by rw [hh, hK]; exact nI_le (by omega) (by omega)) c_)
    refine lv_iconst (v := (-1)) hx hb dX1_seekHandler_54 (by decide) ?_
    exact kk _ _ _ _ _ dX1_seekHandler_55 hs hw
  | succ n ih =>
    intro k K H locs ls hK hk hs hw hl
    refine lv_iload_n hx hb dX1_seekHandler_2 rfl (lv_at hl 0 rfl) ?_
    refine lv_aload_n hx hb dX1_seekHandler_3 rfl (lv_at hl 1 rfl) ?_
    refine r_get hC hw rk1 in_X1_seekHandler_1 1 (wXl 1 (by decide)) wXc1 3 (by decide) lk_X1_seekHandler_27 (v := .int (sI κ 1)) rfl dX1_seekHandler_4 ?_
    refine lv_icmp_ge (tgt := 54) hx hb dX1_seekHandler_7 (by decide) (fun c_ => absurd c_ (by rw [hh, hK]; exact nI_ge (by omega) (by omega))) (fun _ => ?_)
    refine lv_iload_n hx hb dX1_seekHandler_10 rfl (lv_at hl 0 rfl) ?_
    refine lv_aload_n hx hb dX1_seekHandler_11 rfl (lv_at hl 1 rfl) ?_
    refine r_get hC hw rk1 in_X1_seekHandler_1 1 (wXl 1 (by decide)) wXc1 1 (by decide) lk_X1_seekHandler_19 (v := .ref (ad 7)) rfl dX1_seekHandler_12 ?_
    refine r_alen hC hw 5 rfl 7 (wXl 7 (by decide)) wXc7 (v := nI 16) rfl dX1_seekHandler_15 ?_
    refine lv_icmp_ge (tgt := 54) hx hb dX1_seekHandler_16 (by decide) (fun c_ => absurd c_ (by rw [hK]; exact nI_ge (by omega) (by decide))) (fun _ => ?_)
    refine lv_aload_n hx hb dX1_seekHandler_19 rfl (lv_at hl 1 rfl) ?_
    refine r_get hC hw rk1 in_X1_seekHandler_1 1 (wXl 1 (by decide)) wXc1 1 (by decide) lk_X1_seekHandler_19 (v := .ref (ad 7)) rfl dX1_seekHandler_20 ?_
    refine lv_iload_n hx hb dX1_seekHandler_23 rfl (lv_at hl 0 rfl) ?_
    refine r_aald hC hw 5 rfl 7 (wXl 7 (by decide)) wXc7 (by rw [hK]; exact vp_in_nI (by omega) (by decide)) dX1_seekHandler_24 ?_
    refine r_topv (y := .ref (ad (600 + k))) (by rw [hK, nI_clamp (by omega), hS k (by omega)]; rfl) ?_
    refine lv_astore (lv' := [(4, .ref (ad (600 + k))), (3, .int K), (0, .ref (ad 1)), (1, .int pl), (2, .int f)]) hx hb dX1_seekHandler_25 hl (by decide) rfl (fun ls hl => ?_)
    refine lv_aload hx hb dX1_seekHandler_27 (lv_at hl 0 rfl) ?_
    refine lv_ifnull hx hb dX1_seekHandler_29 ?_
    refine lv_aload hx hb dX1_seekHandler_32 (lv_at hl 0 rfl) ?_
    refine lv_iload_n hx hb dX1_seekHandler_34 rfl (lv_at hl 3 rfl) ?_
    refine lv_iload_n hx hb dX1_seekHandler_35 rfl (lv_at hl 4 rfl) ?_
    refine r_ki hw (r_runV (rest := []) hC hw (600 + k) (c_X0_names l _ _ (600 + k) pl f (hdl h16 hh (by omega)) exH) rk0 (hdl h16 hh (by omega)) exH 2 gX1_seekHandler_X0_names rfl rfl rfl (by decide +kernel) ⟨Nat.le_of_ble_eq_true rfl, Nat.le_of_ble_eq_true rfl⟩ rfl hl.1 rfl (Nat.le_of_ble_eq_true rfl) dX1_seekHandler_36 ⟨Nat.le_of_ble_eq_true rfl, Nat.le_of_ble_eq_true rfl⟩) (fun r_2 u_3 H locs h_1 hw => ?_)
    rw [names_hit hK (by omega) hf hj] at h_1
    by_cases c_4 : hit κ pl f K
    · rw [if_pos c_4] at h_1
      subst h_1
      refine lv_if_eq (tgt := 48) hx hb dX1_seekHandler_39 (by decide) (fun c_ => absurd c_ (by decide)) (fun _ => ?_)
      refine lv_aload hx hb dX1_seekHandler_42 (lv_at hl 0 rfl) ?_
      refine r_get hC hw rk0 in_X1_seekHandler_0 (600 + k) (hdl h16 hh (by omega)) exH 3 (by decide) lk_X1_seekHandler_34 (v := .int (sA κ 1 (4 * k + 3))) rfl dX1_seekHandler_44 ?_
      exact kk _ _ _ _ _ dX1_seekHandler_47 (by rw [← hs]; show _ = if hit κ pl f K then sA κ 1 (aN ((4 * K) + 3)) else _; rw [if_pos c_4, (a4 hK (by omega)).2.2.2]) hw
    · rw [if_neg c_4] at h_1
      subst h_1
      refine lv_if_eq (tgt := 48) hx hb dX1_seekHandler_39 (by decide) (fun _ => ?_) (fun c_ => absurd (by decide) c_)
      refine lv_iinc (v := K + 1) (lv' := [(3, .int (K + 1)), (4, .ref (ad (600 + k))), (0, .ref (ad 1)), (1, .int pl), (2, .int f)]) hx hb dX1_seekHandler_48 hl (k := 1) rfl (by first | rfl | decide) (by decide) rfl (fun ls hl => ?_)
      refine lv_goto (tgt := 2) hx hb dX1_seekHandler_51 (by decide) ?_
      exact ih (k + 1) (K + 1) H locs ls (by rw [hK]; exact nI_1 k) (by omega) ((if_neg c_4).symm.trans hs) hw (lv_sub hl [0, 2, 3, 4] rfl)

set_option maxHeartbeats 4000000 in
set_option maxRecDepth 100000 in
theorem c_X1_seekHandler (l : Launch) {D : va_G} {q : Nat → ClassId} {ad : Nat → Nat} {κ : KS} {τ : TAU} (sz : Nat) (pl f : Int32) (j hn : Nat) (hf : f = nI j) (hj : j < 31) (hh : sI κ 1 = nI hn) (h16 : hn ≤ 16) (hS : ∀ k, k < hn → τ.2.1 k = some (ad (600 + k))) : Met l yX1_seekHandler wsX1_seekHandler (rmz 1 22) (va_Pc [.ref (ad 1), .int pl, .int f] (rPre D q (wX q ad κ τ) sz)) (va_Qi (fun (r : Int32) (u : Unit) => r = hAt κ pl f hn 0) (fun (u : Unit) tt => rPo D (rA (wX q ad κ τ) sz) (wX q ad κ τ) tt) (rA (wX q ad κ τ) sz)) 0 0 (rA (wX q ad κ τ) sz) := by
  refine r_start (cc := cX1_seekHandler) (maxL := 5) (ret := (some .int)) (by decide) rfl (Nat.le_of_ble_eq_true rfl) ?_
  intro p e s m below meth c ls hC hr hlk hnm hsz hw hl
  have hx := hC.1
  have hb := hC.2.1
  have hl : lv_has ls 5 [(0, .ref (ad 1)), (1, .int pl), (2, .int f)] := hl
  refine lv_iconst (v := 0) hx hb dX1_seekHandler_0 (by decide) ?_
  refine lv_istore_n (lv' := [(3, .int 0), (0, .ref (ad 1)), (1, .int pl), (2, .int f)]) hx hb dX1_seekHandler_1 rfl hl (by decide) rfl (fun ls hl => ?_)
  exact lp_X1_seekHandler hC rfl pl f j hn hf hj hh h16 hS (fun pc ls r H locs hd hq hw => r_iret hC hr hlk hw () rfl hq (Nat.le_of_ble_eq_true rfl) (Nat.le_of_ble_eq_true rfl) hd) hn 0 0 s.heap [] ls nI_0.symm (by omega) rfl hw (lv_sub hl [0, 1, 2, 3] rfl)

