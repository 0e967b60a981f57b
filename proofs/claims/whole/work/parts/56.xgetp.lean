theorem of89 {o : Int32} (h : pOf o 8) : o = 8 ∨ o = 9 := by
  rcases h with h | ⟨_, h⟩ | ⟨h, _⟩ | ⟨h, _⟩ | ⟨h, _⟩
  · exact Or.inl h
  · exact Or.inr h
  all_goals exact absurd h (by decide)
theorem of10 {o : Int32} (h : pOf o 10) : o = 10 := by
  rcases h with h | ⟨h, _⟩ | ⟨h, _⟩ | ⟨h, _⟩ | ⟨h, _⟩
  · exact h
  all_goals exact absurd h (by decide)
theorem row_of {a4 a5 a7 a8 a6 : Nat → Int32} {j2 : Nat → Int64} {M k : Nat} (h : IT a4 a5 a7 a8 a6 j2 M k) {w : Int32} (hw : pIn w 0 (a5 k - 1)) : pRow (a4 k) := by
  refine Classical.byContradiction (fun q => ?_)
  have e := h.2.2.1 q
  rw [e] at hw
  exact hw.2 (Int32.lt_of_lt_of_le (by decide) (Int32.not_lt.mp hw.1))
theorem rowkinds {o : Int32} (hk : vp_in o 16) (hr : pRow o) (h8 : ¬ pOf o 8) (h10 : ¬ pOf o 10) : o ≤ 5 ∨ o = 6 ∨ o = 7 := by
  obtain ⟨n, hn, rfl⟩ := vp_in_of hk (by decide)
  match n, hn with
  | 0, _ => exact Or.inl (by decide)
  | 1, _ => exact Or.inl (by decide)
  | 2, _ => exact Or.inl (by decide)
  | 3, _ => exact Or.inl (by decide)
  | 4, _ => exact Or.inl (by decide)
  | 5, _ => exact Or.inl (by decide)
  | 6, _ => exact Or.inr (Or.inl rfl)
  | 7, _ => exact Or.inr (Or.inr rfl)
  | 8, _ => exact absurd (Or.inl rfl) h8
  | 9, _ => exact absurd (Or.inr (Or.inl ⟨rfl, rfl⟩)) h8
  | 10, _ => exact absurd (Or.inl rfl) h10
  | 11, _ => exact absurd hr (by decide)
  | 12, _ => exact absurd hr (by decide)
  | 13, _ => exact absurd hr (by decide)
  | 14, _ => exact absurd hr (by decide)
  | 15, _ => exact absurd hr (by decide)
  | n + 16, h => exact absurd h (by omega)
theorem gN_0 {α : Type} {f : Nat → α} {z : α} (r : Int32) : gN 0 f z r = z := by
  unfold gN
  by_cases h : 0 ≤ r
  · rw [if_pos h, if_pos (by exact h)]
  · rw [if_neg h]
theorem gN_len {α : Type} {f : Nat → α} {z : α} {n : Nat} {r s : Int32} (hs : vp_in s 13) (hn : n = aN s) : gN n f z r = if pIn r 0 (s - 1) then f (aN r) else z := by
  obtain ⟨j, hj, rfl⟩ := vp_in_of hs (by decide)
  rw [show aN (nI j) = j from nI_clamp (by omega)] at hn
  subst hn
  have e := hp_eq (w := r) hs
  unfold gN
  by_cases h0 : 0 ≤ r
  · rw [if_pos h0] at e ⊢
    by_cases h1 : nI n ≤ r
    · rw [if_pos h1] at e ⊢
      by_cases hp : pIn r 0 (nI n - 1)
      · rw [if_pos hp] at e; exact absurd e (by decide)
      · rw [if_neg hp]
    · rw [if_neg h1] at e ⊢
      by_cases hp : pIn r 0 (nI n - 1)
      · rw [if_pos hp]
      · rw [if_neg hp] at e; exact absurd e (by decide)
  · rw [if_neg h0] at e ⊢
    by_cases hp : pIn r 0 (nI n - 1)
    · rw [if_pos hp] at e; exact absurd e (by decide)
    · rw [if_neg hp]
def cellV (κ : KS) (r0 i0 : Int32) : Int64 := if 0 ≤ (thI κ r0) then (if pRow (sA κ 4 (aN (thI κ r0))) then (if pIn i0 0 ((sA κ 5 (aN (thI κ r0))) - 1) then (if (sA κ 4 (aN (thI κ r0))) ≤ 5 then sJ κ 1 (aN ((12 * (thI κ r0)) + i0)) else (if (sA κ 4 (aN (thI κ r0))) = 8 then (kdR κ (sA κ 6 (aN ((12 * (thI κ r0)) + i0)))).toInt64 else (if (sA κ 4 (aN (thI κ r0))) = 9 then (kdR κ (sA κ 6 (aN ((12 * (thI κ r0)) + i0)))).toInt64 else (if (sA κ 4 (aN (thI κ r0))) = 10 then (if (sA κ 6 (aN ((12 * (thI κ r0)) + i0))) = 0 then -1 else (sA κ 5 (aN ((sA κ 6 (aN ((12 * (thI κ r0)) + i0))) - 1))).toInt64) else 0)))) else 0) else 0) else 0
theorem cell_0 (κ : KS) (r0 i0 : Int32) (h0 : thV κ r0 = 0) : cellV κ r0 i0 = 0 := by
  unfold cellV
  rw [thI_V, if_neg (vr_neg h0)]
theorem cell_n (κ : KS) (r0 i0 : Int32) (hp : ¬ pIn i0 0 (sA κ 5 (aN (thV κ r0 - 1)) - 1)) : cellV κ r0 i0 = 0 := by
  unfold cellV
  rw [thI_V, if_neg hp, ite_self, ite_self]
theorem cell_8 {κ : KS} {r0 i0 : Int32} (h0 : 0 ≤ thV κ r0 - 1) (hr : pRow (sA κ 4 (aN (thV κ r0 - 1)))) (hp : pIn i0 0 (sA κ 5 (aN (thV κ r0 - 1)) - 1)) (h8 : pOf (sA κ 4 (aN (thV κ r0 - 1))) 8) : cellV κ r0 i0 = (kdR κ (sA κ 6 (aN ((12 * (thV κ r0 - 1)) + i0)))).toInt64 := by
  unfold cellV
  rw [thI_V, if_pos h0, if_pos hr, if_pos hp]
  rcases of89 h8 with e | e
  · rw [e, if_neg (by decide), if_pos rfl]
  · rw [e, if_neg (by decide), if_neg (by decide), if_pos rfl]
theorem cell_10 {κ : KS} {r0 i0 : Int32} (h0 : 0 ≤ thV κ r0 - 1) (hr : pRow (sA κ 4 (aN (thV κ r0 - 1)))) (hp : pIn i0 0 (sA κ 5 (aN (thV κ r0 - 1)) - 1)) (h10 : pOf (sA κ 4 (aN (thV κ r0 - 1))) 10) (h4 : ¬ sA κ 6 (aN ((12 * (thV κ r0 - 1)) + i0)) = 0 → sA κ 4 (aN (sA κ 6 (aN ((12 * (thV κ r0 - 1)) + i0)) - 1)) = 4) : cellV κ r0 i0 = (if sA κ 6 (aN ((12 * (thV κ r0 - 1)) + i0)) = 0 then -1 else (if pRow (sA κ 4 (aN (sA κ 6 (aN ((12 * (thV κ r0 - 1)) + i0)) - 1))) then sA κ 5 (aN (sA κ 6 (aN ((12 * (thV κ r0 - 1)) + i0)) - 1)) else -1)).toInt64 := by
  unfold cellV
  rw [thI_V, if_pos h0, if_pos hr, if_pos hp, of10 h10, if_neg (by decide), if_neg (by decide), if_neg (by decide), if_pos rfl]
  by_cases hm : sA κ 6 (aN ((12 * (thV κ r0 - 1)) + i0)) = 0
  · rw [if_pos hm, if_pos hm]; rfl
  · rw [if_neg hm, if_neg hm, h4 hm, if_pos (by decide)]
theorem cell_x {κ : KS} {r0 i0 : Int32} (h0 : 0 ≤ thV κ r0 - 1) (hz : vp_in (thV κ r0 - 1) 60) (hk : vp_in (sA κ 4 (aN (thV κ r0 - 1))) 16 ∧ vp_in (sA κ 5 (aN (thV κ r0 - 1))) 13) (hr : pRow (sA κ 4 (aN (thV κ r0 - 1)))) (hp : pIn i0 0 (sA κ 5 (aN (thV κ r0 - 1)) - 1)) (h8 : ¬ pOf (sA κ 4 (aN (thV κ r0 - 1))) 8) (h10 : ¬ pOf (sA κ 4 (aN (thV κ r0 - 1))) 10) : cellV κ r0 i0 = gN (lnN κ (aN (thV κ r0 - 1))) (tr 0 (sJ κ 1) (aN (thV κ r0 - 1))) 0 i0 := by
  have hix := ixN hz hp hk.2
  unfold cellV
  rw [thI_V, if_pos h0, if_pos hr, if_pos hp]
  rcases rowkinds hk.1 hr h8 h10 with e | e | e
  · rw [if_pos e, getNum e hix.2.2 hix.2.1, hix.1]
  · rw [e, if_neg (by decide), if_neg (by decide), if_neg (by decide), if_neg (by decide), show lnN κ (aN (thV κ r0 - 1)) = 0 from if_neg (by rw [e]; decide), gN_0]
  · rw [e, if_neg (by decide), if_neg (by decide), if_neg (by decide), if_neg (by decide), show lnN κ (aN (thV κ r0 - 1)) = 0 from if_neg (by rw [e]; decide), gN_0]
def pointV (κ : KS) (r0 i0 : Int32) : UInt64 := if 0 ≤ (thI κ r0) then (if (sA κ 4 (aN (thI κ r0))) = 6 then (if pIn i0 0 ((sA κ 5 (aN (thI κ r0))) - 1) then sD κ 1 (aN ((12 * (thI κ r0)) + i0)) else FP.dconst0) else (if (sA κ 4 (aN (thI κ r0))) = 7 then (if pIn i0 0 ((sA κ 5 (aN (thI κ r0))) - 1) then sD κ 1 (aN ((12 * (thI κ r0)) + i0)) else FP.dconst0) else FP.dconst0)) else FP.dconst0
theorem point_0 (κ : KS) (r0 i0 : Int32) (h0 : thV κ r0 = 0) : pointV κ r0 i0 = FP.dconst0 := by
  unfold pointV
  rw [thI_V, if_neg (vr_neg h0)]
theorem point_x {κ : KS} {r0 i0 : Int32} (h0 : 0 ≤ thV κ r0 - 1) (hz : vp_in (thV κ r0 - 1) 60) (hk : vp_in (sA κ 4 (aN (thV κ r0 - 1))) 16 ∧ vp_in (sA κ 5 (aN (thV κ r0 - 1))) 13) : pointV κ r0 i0 = gN (lnP κ (aN (thV κ r0 - 1))) (tr FP.dconst0 (sD κ 1) (aN (thV κ r0 - 1))) FP.dconst0 i0 := by
  unfold pointV
  rw [thI_V, if_pos h0]
  by_cases e6 : sA κ 4 (aN (thV κ r0 - 1)) = 6 ∨ sA κ 4 (aN (thV κ r0 - 1)) = 7
  · have hl : lnP κ (aN (thV κ r0 - 1)) = aN (sA κ 5 (aN (thV κ r0 - 1))) := if_pos e6
    rw [gN_len hk.2 hl]
    by_cases hp : pIn i0 0 (sA κ 5 (aN (thV κ r0 - 1)) - 1)
    · have hix := ixN hz hp hk.2
      rw [if_pos hp, hix.1, show tr FP.dconst0 (sD κ 1) (aN (thV κ r0 - 1)) (aN i0) = sD κ 1 (12 * aN (thV κ r0 - 1) + aN i0) from if_pos hix.2.1]
      rcases e6 with e | e
      · rw [e, if_pos rfl, if_pos hp]
      · rw [e, if_neg (by decide), if_pos rfl, if_pos hp]
    · rw [if_neg hp, ite_self, ite_self, if_neg hp]
  · rw [show lnP κ (aN (thV κ r0 - 1)) = 0 from if_neg e6, gN_0, if_neg (fun q => e6 (Or.inl q)), if_neg (fun q => e6 (Or.inr q))]
def fieldV (κ : KS) (r0 w0 : Int32) : Int64 := if 0 ≤ (thI κ r0) then (if pRow (sA κ 4 (aN (thI κ r0))) then 0 else (if w0 = 0 then (sA κ 7 (aN (thI κ r0))).toInt64 else (if w0 = 1 then (if pKnot (sA κ 4 (aN (thI κ r0))) then sJ κ 2 (aN (thI κ r0)) else 0) else (if w0 = 2 then (if (sA κ 4 (aN (thI κ r0))) = 14 then 0 else (kdR κ (sA κ 8 (aN (thI κ r0)))).toInt64) else 0)))) else 0
theorem field_0 (κ : KS) (r0 w0 : Int32) (h0 : thV κ r0 = 0) : fieldV κ r0 w0 = 0 := by
  unfold fieldV
  rw [thI_V, if_neg (vr_neg h0)]
theorem field_t {κ : KS} {r0 : Int32} (h0 : 0 ≤ thV κ r0 - 1) (ht : pRow (sA κ 4 (aN (thV κ r0 - 1))) → sA κ 7 (aN (thV κ r0 - 1)) = 0) : fieldV κ r0 0 = (sA κ 7 (aN (thV κ r0 - 1))).toInt64 := by
  unfold fieldV
  rw [thI_V, if_pos h0]
  by_cases hr : pRow (sA κ 4 (aN (thV κ r0 - 1)))
  · rw [if_pos hr, ht hr]; rfl
  · rw [if_neg hr, if_pos rfl]
theorem field_w {κ : KS} {r0 : Int32} (h0 : 0 ≤ thV κ r0 - 1) (ht : ¬ pKnot (sA κ 4 (aN (thV κ r0 - 1))) → sJ κ 2 (aN (thV κ r0 - 1)) = 0) : fieldV κ r0 1 = sJ κ 2 (aN (thV κ r0 - 1)) := by
  unfold fieldV
  rw [thI_V, if_pos h0]
  by_cases hr : pRow (sA κ 4 (aN (thV κ r0 - 1)))
  · rw [if_pos hr, ht (fun q => (knotR q).1 hr)]
  · rw [if_neg hr, if_neg (by decide), if_pos rfl]
    by_cases hk : pKnot (sA κ 4 (aN (thV κ r0 - 1)))
    · rw [if_pos hk]
    · rw [if_neg hk, ht hk]
theorem field_x {κ : KS} {r0 w0 : Int32} (h0 : ¬ w0 = 0) (h1 : ¬ w0 = 1) (h2 : ¬ w0 = 2) : fieldV κ r0 w0 = 0 := by
  unfold fieldV
  rw [if_neg h0, if_neg h1, if_neg h2, ite_self, ite_self]
theorem k1115 {o : Int32} (hk : vp_in o 16) (hr : ¬ pRow o) : (pOf o 11 ∨ pOf o 15) ↔ ¬ o = 14 := by
  obtain ⟨n, hn, rfl⟩ := vp_in_of hk (by decide)
  match n, hn with
  | 0, _ => exact absurd (by decide) hr
  | 1, _ => exact absurd (by decide) hr
  | 2, _ => exact absurd (by decide) hr
  | 3, _ => exact absurd (by decide) hr
  | 4, _ => exact absurd (by decide) hr
  | 5, _ => exact absurd (by decide) hr
  | 6, _ => exact absurd (by decide) hr
  | 7, _ => exact absurd (by decide) hr
  | 8, _ => exact absurd (by decide) hr
  | 9, _ => exact absurd (by decide) hr
  | 10, _ => exact absurd (by decide) hr
  | 11, _ => decide
  | 12, _ => decide
  | 13, _ => decide
  | 14, _ => decide
  | 15, _ => decide
  | n + 16, h => exact absurd h (by omega)
theorem k1115r {o : Int32} (hr : pRow o) : ¬ pOf o 11 ∧ ¬ pOf o 15 := by
  constructor
  · intro q
    rcases knot11 q with e | e | e <;> (rw [e] at hr; exact absurd hr (by decide))
  · intro q
    rcases q with q | ⟨q, _⟩ | ⟨q, _⟩ | ⟨q, _⟩ | ⟨q, _⟩
    · rw [q] at hr; exact absurd hr (by decide)
    all_goals exact absurd q (by decide)
theorem field_l {κ : KS} {r0 : Int32} (h0 : 0 ≤ thV κ r0 - 1) (hk : vp_in (sA κ 4 (aN (thV κ r0 - 1))) 16) (h : pOf (sA κ 4 (aN (thV κ r0 - 1))) 11 ∨ pOf (sA κ 4 (aN (thV κ r0 - 1))) 15) : fieldV κ r0 2 = (kdR κ (sA κ 8 (aN (thV κ r0 - 1)))).toInt64 := by
  have hr : ¬ pRow (sA κ 4 (aN (thV κ r0 - 1))) := by
    intro q
    rcases h with h | h
    · exact (k1115r q).1 h
    · exact (k1115r q).2 h
  unfold fieldV
  rw [thI_V, if_pos h0, if_neg hr, if_neg (by decide), if_neg (by decide), if_pos rfl, if_neg ((k1115 hk hr).mp h)]
theorem field_m {κ : KS} {r0 : Int32} (hk : vp_in (sA κ 4 (aN (thV κ r0 - 1))) 16) (h1 : ¬ pOf (sA κ 4 (aN (thV κ r0 - 1))) 11) (h2 : ¬ pOf (sA κ 4 (aN (thV κ r0 - 1))) 15) : fieldV κ r0 2 = 0 := by
  unfold fieldV
  rw [thI_V]
  by_cases h0 : 0 ≤ thV κ r0 - 1
  · rw [if_pos h0]
    by_cases hr : pRow (sA κ 4 (aN (thV κ r0 - 1)))
    · rw [if_pos hr]
    · rw [if_neg hr, if_neg (by decide), if_neg (by decide), if_pos rfl, if_pos (Classical.not_not.mp (fun q => Or.elim ((k1115 hk hr).mpr q) h1 h2))]
  · rw [if_neg h0]
theorem same_F {κ : KS} {r0 q0 : Int32} : ((if 0 ≤ (thI κ r0) then (if (thI κ r0) = (thI κ q0) then 1 else 0) else 0) : Int32) = if 0 ≤ thV κ r0 - 1 then (if thV κ r0 = thV κ q0 then 1 else 0) else 0 := by
  rw [thI_V, thI_V]
  by_cases h : 0 ≤ thV κ r0 - 1
  · rw [if_pos h, if_pos h]
    by_cases e : thV κ r0 = thV κ q0
    · rw [if_pos e, if_pos (by rw [e])]
    · rw [if_neg e, if_neg (fun q => e (by
        have z : thV κ r0 - 1 + 1 = thV κ q0 - 1 + 1 := by rw [q]
        rw [Int32.sub_add_cancel, Int32.sub_add_cancel] at z
        exact z))]
  · rw [if_neg h, if_neg h]
set_option maxHeartbeats 4000000 in
set_option maxRecDepth 100000 in
theorem c_X8_cell (l : Launch) {D : va_G} {q : Nat → ClassId} {ad : Nat → Nat} {κ : KS} {τ : TAU} (sz : Nat) {B M : Nat} {th : Int32} (hI : INV B M κ th) (r0 : Int32) (i0 : Int32) : Met l yX8_cell wsX8_cell (rmz 2 40) (va_Pc [.ref (ad 0), .int r0, .int i0] (rPre D q (wX q ad κ τ) sz)) (va_Ql (fun (r : Int64) (u : Unit) => r = cellV κ r0 i0) (fun (u : Unit) tt => rPo D (rA (wX q ad κ τ) sz) (wX q ad κ τ) tt) (rA (wX q ad κ τ) sz)) 0 0 (rA (wX q ad κ τ) sz) := by
  refine r_start (cc := cX8_cell) (maxL := 4) (ret := (some .long)) (by decide) rfl (Nat.le_of_ble_eq_true rfl) ?_
  intro p e s m below meth c ls hC hr hlk hnm hsz hw hl
  have hx := hC.1
  have hb := hC.2.1
  have hl : lv_has ls 4 [(0, .ref (ad 0)), (1, .int r0), (2, .int i0)] := hl
  refine lv_aload_n hx hb dX8_cell_0 rfl (lv_at hl 0 rfl) ?_
  refine r_get hC hw rk8 in_X8_cell_8 0 (wXl 0 (by decide)) wXc0 1 (by decide) lk_X8_cell_19 (v := .ref (ad 2)) rfl dX8_cell_1 ?_
  refine lv_iload_n hx hb dX8_cell_4 rfl (lv_at hl 1 rfl) ?_
  refine r_kq hw (r_runV (rest := []) hC hw 2 (c_X3_getThing l _ _ 2 12 r0 (wXl 2 (by decide)) wXc2 (wXl 12 (by decide)) wXc12) rk3 (wXl 2 (by decide)) wXc2 1 gX8_cell_X3_getThing rfl rfl rfl (by decide +kernel) ⟨Nat.le_of_ble_eq_true rfl, Nat.le_of_ble_eq_true rfl⟩ rfl hl.1 rfl (Nat.le_of_ble_eq_true rfl) dX8_cell_5 ⟨Nat.le_of_ble_eq_true rfl, Nat.le_of_ble_eq_true rfl⟩) (fun r_2 u_3 H locs h_1 hw => ?_)
  subst h_1
  refine r_topv (y := va_rf ((rT (thV κ r0)).map ad)) (congrArg va_rf (gN_th κ ad r0)) ?_
  by_cases h0_v : thV κ r0 = 0
  · refine r_topv (y := .null) (by rw [rT0 h0_v]; rfl) ?_
    refine lv_astore_nN (lv' := [(3, .null), (0, .ref (ad 0)), (1, .int r0), (2, .int i0)]) hx hb dX8_cell_8 rfl hl (by decide) rfl (fun ls hl => ?_)
    refine lv_aload_nN hx hb dX8_cell_9 rfl (lv_at hl 0 rfl) ?_
    refine lv_ifnullN (tgt := 21) hx hb dX8_cell_10 (by decide) ?_
    refine lv_lconst (v := 0) hx hb dX8_cell_21 (by decide) ?_
    exact r_lret hC hr hlk hw () rfl (cell_0 κ r0 i0 h0_v).symm (Nat.le_of_ble_eq_true rfl) (Nat.le_of_ble_eq_true rfl) dX8_cell_22
  · refine r_topv (y := .ref (ad (100 + 4 * (aN (thV κ r0 - 1))))) (by rw [rT1 h0_v]; rfl) ?_
    have hB_v := vr_at (hI.thv r0) hI.m60 h0_v
    have hM_v : (aN (thV κ r0 - 1)) < aN (sI κ 2) := by rw [hI.mN]; exact hB_v.2.1
    have h6_v : (aN (thV κ r0 - 1)) < 60 := Nat.lt_of_lt_of_le hB_v.2.1 hI.m60
    have hl_v : (wX q ad κ τ).2.1 (100 + 4 * (aN (thV κ r0 - 1))) := thl hM_v
    have hc_v : (wX q ad κ τ).2.2 (100 + 4 * (aN (thV κ r0 - 1))) = .inr (6, fsT ad κ (aN (thV κ r0 - 1))) := thc h6_v
    have hT_v := hI.i4 _ hB_v.2.1
    have hk_v : vp_in (sA κ 4 (aN (thV κ r0 - 1))) 16 ∧ vp_in (sA κ 5 (aN (thV κ r0 - 1))) 13 := ⟨hT_v.1, hT_v.2.1⟩
    refine lv_astore_n (lv' := [(3, .ref (ad (100 + 4 * (aN (thV κ r0 - 1))))), (0, .ref (ad 0)), (1, .int r0), (2, .int i0)]) hx hb dX8_cell_8 rfl hl (by decide) rfl (fun ls hl => ?_)
    refine lv_aload_n hx hb dX8_cell_9 rfl (lv_at hl 0 rfl) ?_
    refine lv_ifnull hx hb dX8_cell_10 ?_
    refine lv_aload_n hx hb dX8_cell_13 rfl (lv_at hl 0 rfl) ?_
    refine lv_iload_n hx hb dX8_cell_14 rfl (lv_at hl 3 rfl) ?_
    refine r_ki hw (r_runV (rest := []) hC hw (100 + 4 * (aN (thV κ r0 - 1))) (c_X6_hasPlace l _ _ (100 + 4 * (aN (thV κ r0 - 1))) i0 hl_v hc_v) rk6 hl_v hc_v 1 gX8_cell_X6_hasPlace rfl rfl rfl (by decide +kernel) ⟨Nat.le_of_ble_eq_true rfl, Nat.le_of_ble_eq_true rfl⟩ rfl hl.1 rfl (Nat.le_of_ble_eq_true rfl) dX8_cell_15 ⟨Nat.le_of_ble_eq_true rfl, Nat.le_of_ble_eq_true rfl⟩) (fun r_5 u_6 H locs h_4 hw => ?_)
    rw [hp_eq hk_v.2] at h_4
    by_cases c_7 : pIn i0 0 ((sA κ 5 (aN (thV κ r0 - 1))) - 1)
    · rw [if_pos c_7] at h_4
      subst h_4
      have hrow := row_of hT_v c_7
      have hix := ixN hB_v.1 c_7 hk_v.2
      refine lv_if_ne (tgt := 23) hx hb dX8_cell_18 (by decide) (fun _ => ?_) (fun c_ => absurd c_ (by decide))
      refine lv_aload_n hx hb dX8_cell_23 rfl (lv_at hl 0 rfl) ?_
      refine lv_bipush (v := 8) hx hb dX8_cell_24 (by decide) ?_
      refine r_ki hw (r_runV (rest := []) hC hw (100 + 4 * (aN (thV κ r0 - 1))) (c_X6_isOf_8 l _ _ (100 + 4 * (aN (thV κ r0 - 1))) hk_v.1 hl_v hc_v) rk6 hl_v hc_v 1 gX8_cell_X6_isOf rfl rfl rfl (by decide +kernel) ⟨Nat.le_of_ble_eq_true rfl, Nat.le_of_ble_eq_true rfl⟩ rfl hl.1 rfl (Nat.le_of_ble_eq_true rfl) dX8_cell_26 ⟨Nat.le_of_ble_eq_true rfl, Nat.le_of_ble_eq_true rfl⟩) (fun r_9 u_10 H locs h_8 hw => ?_)
      by_cases c_11 : pOf (sA κ 4 (aN (thV κ r0 - 1))) 8
      · rw [if_pos c_11] at h_8
        subst h_8
        refine lv_if_eq (tgt := 42) hx hb dX8_cell_29 (by decide) (fun c_ => absurd c_ (by decide)) (fun _ => ?_)
        refine lv_aload_n hx hb dX8_cell_32 rfl (lv_at hl 0 rfl) ?_
        refine lv_iload_n hx hb dX8_cell_33 rfl (lv_at hl 3 rfl) ?_
        have hkd : 8 ≤ sA κ 4 (aN (thV κ r0 - 1)) ∧ sA κ 4 (aN (thV κ r0 - 1)) ≤ 10 := by rcases of89 c_11 with e | e <;> (rw [e]; decide)
        have hmv := hT_v.2.2.2.2.2.2.2 _ hix.2.1
        rw [← hix.1] at hmv
        refine r_kq hw (r_runV (rest := []) hC hw (100 + 4 * (aN (thV κ r0 - 1))) (c_X6_getMember (x3 := .null) l _ _ (100 + 4 * (aN (thV κ r0 - 1))) (103 + 4 * (aN (thV κ r0 - 1))) i0 hl_v hc_v (thl3 hM_v) (thc3 h6_v)) rk6 hl_v hc_v 1 gX8_cell_X6_getMember rfl rfl rfl (by decide +kernel) ⟨Nat.le_of_ble_eq_true rfl, Nat.le_of_ble_eq_true rfl⟩ rfl hl.1 rfl (Nat.le_of_ble_eq_true rfl) dX8_cell_34 ⟨Nat.le_of_ble_eq_true rfl, Nat.le_of_ble_eq_true rfl⟩) (fun r_13 u_14 H locs h_12 hw => ?_)
        rw [getMem hkd hix.2.2 hix.2.1, ← hix.1] at h_12
        subst h_12
        refine r_ki hw (r_runS (rest := []) hC hw (c_X8_kindOf (ad := ad) l _ hI (sA κ 6 (aN ((12 * (thV κ r0 - 1)) + i0))) hmv.1) 1 gX8_cell_X8_kindOf rfl rfl rfl (by decide +kernel) ⟨Nat.le_of_ble_eq_true rfl, Nat.le_of_ble_eq_true rfl⟩ rfl hl.1 rfl (Nat.le_of_ble_eq_true rfl) dX8_cell_37 ⟨Nat.le_of_ble_eq_true rfl, Nat.le_of_ble_eq_true rfl⟩) (fun r_16 u_17 H locs h_15 hw => ?_)
        subst h_15
        refine lv_i2l (v := (kdR κ (sA κ 6 (aN ((12 * (thV κ r0 - 1)) + i0)))).toInt64) hx hb dX8_cell_40 rfl ?_
        exact r_lret hC hr hlk hw () rfl (cell_8 (vr_pos (hI.thv r0) hI.m60 h0_v) hrow c_7 c_11).symm (Nat.le_of_ble_eq_true rfl) (Nat.le_of_ble_eq_true rfl) dX8_cell_41
      · rw [if_neg c_11] at h_8
        subst h_8
        refine lv_if_eq (tgt := 42) hx hb dX8_cell_29 (by decide) (fun _ => ?_) (fun c_ => absurd (by decide) c_)
        refine lv_aload_n hx hb dX8_cell_42 rfl (lv_at hl 0 rfl) ?_
        refine lv_bipush (v := 10) hx hb dX8_cell_43 (by decide) ?_
        refine r_ki hw (r_runV (rest := []) hC hw (100 + 4 * (aN (thV κ r0 - 1))) (c_X6_isOf_10 l _ _ (100 + 4 * (aN (thV κ r0 - 1))) hk_v.1 hl_v hc_v) rk6 hl_v hc_v 1 gX8_cell_X6_isOf rfl rfl rfl (by decide +kernel) ⟨Nat.le_of_ble_eq_true rfl, Nat.le_of_ble_eq_true rfl⟩ rfl hl.1 rfl (Nat.le_of_ble_eq_true rfl) dX8_cell_45 ⟨Nat.le_of_ble_eq_true rfl, Nat.le_of_ble_eq_true rfl⟩) (fun r_19 u_20 H locs h_18 hw => ?_)
        by_cases c_21 : pOf (sA κ 4 (aN (thV κ r0 - 1))) 10
        · rw [if_pos c_21] at h_18
          subst h_18
          refine lv_if_eq (tgt := 61) hx hb dX8_cell_48 (by decide) (fun c_ => absurd c_ (by decide)) (fun _ => ?_)
          refine lv_aload_n hx hb dX8_cell_51 rfl (lv_at hl 0 rfl) ?_
          refine lv_iload_n hx hb dX8_cell_52 rfl (lv_at hl 3 rfl) ?_
          have hkd : 8 ≤ sA κ 4 (aN (thV κ r0 - 1)) ∧ sA κ 4 (aN (thV κ r0 - 1)) ≤ 10 := by rw [of10 c_21]; decide
          have hmv := hT_v.2.2.2.2.2.2.2 _ hix.2.1
          rw [← hix.1] at hmv
          refine r_kq hw (r_runV (rest := []) hC hw (100 + 4 * (aN (thV κ r0 - 1))) (c_X6_getMember (x3 := .null) l _ _ (100 + 4 * (aN (thV κ r0 - 1))) (103 + 4 * (aN (thV κ r0 - 1))) i0 hl_v hc_v (thl3 hM_v) (thc3 h6_v)) rk6 hl_v hc_v 1 gX8_cell_X6_getMember rfl rfl rfl (by decide +kernel) ⟨Nat.le_of_ble_eq_true rfl, Nat.le_of_ble_eq_true rfl⟩ rfl hl.1 rfl (Nat.le_of_ble_eq_true rfl) dX8_cell_53 ⟨Nat.le_of_ble_eq_true rfl, Nat.le_of_ble_eq_true rfl⟩) (fun r_23 u_24 H locs h_22 hw => ?_)
          rw [getMem hkd hix.2.2 hix.2.1, ← hix.1] at h_22
          subst h_22
          refine r_ki hw (r_runS (rest := []) hC hw (c_X8_placesOf (ad := ad) l _ hI (sA κ 6 (aN ((12 * (thV κ r0 - 1)) + i0))) hmv.1) 1 gX8_cell_X8_placesOf rfl rfl rfl (by decide +kernel) ⟨Nat.le_of_ble_eq_true rfl, Nat.le_of_ble_eq_true rfl⟩ rfl hl.1 rfl (Nat.le_of_ble_eq_true rfl) dX8_cell_56 ⟨Nat.le_of_ble_eq_true rfl, Nat.le_of_ble_eq_true rfl⟩) (fun r_26 u_27 H locs h_25 hw => ?_)
          subst h_25
          refine lv_i2l (v := (if (sA κ 6 (aN ((12 * (thV κ r0 - 1)) + i0))) = 0 then -1 else (if pRow (sA κ 4 (aN ((sA κ 6 (aN ((12 * (thV κ r0 - 1)) + i0))) - 1))) then sA κ 5 (aN ((sA κ 6 (aN ((12 * (thV κ r0 - 1)) + i0))) - 1)) else -1)).toInt64) hx hb dX8_cell_59 rfl ?_
          exact r_lret hC hr hlk hw () rfl (cell_10 (vr_pos (hI.thv r0) hI.m60 h0_v) hrow c_7 c_21 (fun h => hmv.2 (of10 c_21) h)).symm (Nat.le_of_ble_eq_true rfl) (Nat.le_of_ble_eq_true rfl) dX8_cell_60
        · rw [if_neg c_21] at h_18
          subst h_18
          refine lv_if_eq (tgt := 61) hx hb dX8_cell_48 (by decide) (fun _ => ?_) (fun c_ => absurd (by decide) c_)
          refine lv_aload_n hx hb dX8_cell_61 rfl (lv_at hl 0 rfl) ?_
          refine lv_iload_n hx hb dX8_cell_62 rfl (lv_at hl 3 rfl) ?_
          refine r_kl hw (r_runV (rest := []) hC hw (100 + 4 * (aN (thV κ r0 - 1))) (c_X6_getNumber (x1 := .null) l _ _ (100 + 4 * (aN (thV κ r0 - 1))) (101 + 4 * (aN (thV κ r0 - 1))) i0 hl_v hc_v (thl1 hM_v) (thc1 h6_v)) rk6 hl_v hc_v 1 gX8_cell_X6_getNumber rfl rfl rfl (by decide +kernel) ⟨Nat.le_of_ble_eq_true rfl, Nat.le_of_ble_eq_true rfl⟩ rfl hl.1 rfl (Nat.le_of_ble_eq_true rfl) dX8_cell_63 ⟨Nat.le_of_ble_eq_true rfl, Nat.le_of_ble_eq_true rfl⟩) (fun r_29 u_30 H locs h_28 hw => ?_)
          subst h_28
          exact r_lret hC hr hlk hw () rfl (cell_x (vr_pos (hI.thv r0) hI.m60 h0_v) hB_v.1 hk_v hrow c_7 c_11 c_21).symm (Nat.le_of_ble_eq_true rfl) (Nat.le_of_ble_eq_true rfl) dX8_cell_66
    · rw [if_neg c_7] at h_4
      subst h_4
      refine lv_if_ne (tgt := 23) hx hb dX8_cell_18 (by decide) (fun c_ => absurd (by decide) c_) (fun _ => ?_)
      refine lv_lconst (v := 0) hx hb dX8_cell_21 (by decide) ?_
      exact r_lret hC hr hlk hw () rfl (cell_n κ r0 i0 c_7).symm (Nat.le_of_ble_eq_true rfl) (Nat.le_of_ble_eq_true rfl) dX8_cell_22

set_option maxHeartbeats 4000000 in
set_option maxRecDepth 100000 in
theorem c_X8_point (l : Launch) {D : va_G} {q : Nat → ClassId} {ad : Nat → Nat} {κ : KS} {τ : TAU} (sz : Nat) {B M : Nat} {th : Int32} (hI : INV B M κ th) (r0 : Int32) (i0 : Int32) : Met l yX8_point wsX8_point (rmz 1 21) (va_Pc [.ref (ad 0), .int r0, .int i0] (rPre D q (wX q ad κ τ) sz)) (va_Qd (fun (r : UInt64) (u : Unit) => r = pointV κ r0 i0) (fun (u : Unit) tt => rPo D (rA (wX q ad κ τ) sz) (wX q ad κ τ) tt) (rA (wX q ad κ τ) sz)) 0 0 (rA (wX q ad κ τ) sz) := by
  refine r_start (cc := cX8_point) (maxL := 4) (ret := (some .double)) (by decide) rfl (Nat.le_of_ble_eq_true rfl) ?_
  intro p e s m below meth c ls hC hr hlk hnm hsz hw hl
  have hx := hC.1
  have hb := hC.2.1
  have hl : lv_has ls 4 [(0, .ref (ad 0)), (1, .int r0), (2, .int i0)] := hl
  refine lv_aload_n hx hb dX8_point_0 rfl (lv_at hl 0 rfl) ?_
  refine r_get hC hw rk8 in_X8_point_8 0 (wXl 0 (by decide)) wXc0 1 (by decide) lk_X8_point_19 (v := .ref (ad 2)) rfl dX8_point_1 ?_
  refine lv_iload_n hx hb dX8_point_4 rfl (lv_at hl 1 rfl) ?_
  refine r_kq hw (r_runV (rest := []) hC hw 2 (c_X3_getThing l _ _ 2 12 r0 (wXl 2 (by decide)) wXc2 (wXl 12 (by decide)) wXc12) rk3 (wXl 2 (by decide)) wXc2 1 gX8_point_X3_getThing rfl rfl rfl (by decide +kernel) ⟨Nat.le_of_ble_eq_true rfl, Nat.le_of_ble_eq_true rfl⟩ rfl hl.1 rfl (Nat.le_of_ble_eq_true rfl) dX8_point_5 ⟨Nat.le_of_ble_eq_true rfl, Nat.le_of_ble_eq_true rfl⟩) (fun r_2 u_3 H locs h_1 hw => ?_)
  subst h_1
  refine r_topv (y := va_rf ((rT (thV κ r0)).map ad)) (congrArg va_rf (gN_th κ ad r0)) ?_
  by_cases h0_v : thV κ r0 = 0
  · refine r_topv (y := .null) (by rw [rT0 h0_v]; rfl) ?_
    refine lv_astore_nN (lv' := [(3, .null), (0, .ref (ad 0)), (1, .int r0), (2, .int i0)]) hx hb dX8_point_8 rfl hl (by decide) rfl (fun ls hl => ?_)
    refine lv_aload_nN hx hb dX8_point_9 rfl (lv_at hl 0 rfl) ?_
    refine lv_ifnonnullN hx hb dX8_point_10 ?_
    refine lv_dconst0 hx hb dX8_point_13 ?_
    refine lv_goto (tgt := 22) hx hb dX8_point_14 (by decide) ?_
    exact r_dret hC hr hlk hw () rfl (point_0 κ r0 i0 h0_v).symm (Nat.le_of_ble_eq_true rfl) (Nat.le_of_ble_eq_true rfl) dX8_point_22
  · refine r_topv (y := .ref (ad (100 + 4 * (aN (thV κ r0 - 1))))) (by rw [rT1 h0_v]; rfl) ?_
    have hB_v := vr_at (hI.thv r0) hI.m60 h0_v
    have hM_v : (aN (thV κ r0 - 1)) < aN (sI κ 2) := by rw [hI.mN]; exact hB_v.2.1
    have h6_v : (aN (thV κ r0 - 1)) < 60 := Nat.lt_of_lt_of_le hB_v.2.1 hI.m60
    have hl_v : (wX q ad κ τ).2.1 (100 + 4 * (aN (thV κ r0 - 1))) := thl hM_v
    have hc_v : (wX q ad κ τ).2.2 (100 + 4 * (aN (thV κ r0 - 1))) = .inr (6, fsT ad κ (aN (thV κ r0 - 1))) := thc h6_v
    have hT_v := hI.i4 _ hB_v.2.1
    have hk_v : vp_in (sA κ 4 (aN (thV κ r0 - 1))) 16 ∧ vp_in (sA κ 5 (aN (thV κ r0 - 1))) 13 := ⟨hT_v.1, hT_v.2.1⟩
    refine lv_astore_n (lv' := [(3, .ref (ad (100 + 4 * (aN (thV κ r0 - 1))))), (0, .ref (ad 0)), (1, .int r0), (2, .int i0)]) hx hb dX8_point_8 rfl hl (by decide) rfl (fun ls hl => ?_)
    refine lv_aload_n hx hb dX8_point_9 rfl (lv_at hl 0 rfl) ?_
    refine lv_ifnonnull (tgt := 17) hx hb dX8_point_10 (by decide) ?_
    refine lv_aload_n hx hb dX8_point_17 rfl (lv_at hl 0 rfl) ?_
    refine lv_iload_n hx hb dX8_point_18 rfl (lv_at hl 3 rfl) ?_
    refine r_kd hw (r_runV (rest := []) hC hw (100 + 4 * (aN (thV κ r0 - 1))) (c_X6_getPoint (x2 := .null) l _ _ (100 + 4 * (aN (thV κ r0 - 1))) (102 + 4 * (aN (thV κ r0 - 1))) i0 hl_v hc_v (thl2 hM_v) (thc2 h6_v)) rk6 hl_v hc_v 1 gX8_point_X6_getPoint rfl rfl rfl (by decide +kernel) ⟨Nat.le_of_ble_eq_true rfl, Nat.le_of_ble_eq_true rfl⟩ rfl hl.1 rfl (Nat.le_of_ble_eq_true rfl) dX8_point_19 ⟨Nat.le_of_ble_eq_true rfl, Nat.le_of_ble_eq_true rfl⟩) (fun r_5 u_6 H locs h_4 hw => ?_)
    subst h_4
    exact r_dret hC hr hlk hw () rfl (point_x (vr_pos (hI.thv r0) hI.m60 h0_v) hB_v.1 hk_v).symm (Nat.le_of_ble_eq_true rfl) (Nat.le_of_ble_eq_true rfl) dX8_point_22

theorem out3 {w0 : Int32} (h0 : ¬ w0 = 0) (h1 : ¬ w0 = 1) (h2 : ¬ w0 = 2) : w0.toInt < 0 ∨ 2 < w0.toInt := by
  by_cases q : w0 < 0
  · exact Or.inl (Int32.lt_iff_toInt_lt.mp q)
  · by_cases q2 : 2 < w0
    · exact Or.inr (Int32.lt_iff_toInt_lt.mp q2)
    · obtain ⟨j, hj, e⟩ := nI_of2 (M := 2) (n := 2) (by decide) q (Int32.not_lt.mp q2)
      match j, hj with
      | 0, _ => exact absurd e h0
      | 1, _ => exact absurd e h1
      | 2, _ => exact absurd e h2
      | j + 3, h => exact absurd h (by omega)
set_option maxHeartbeats 4000000 in
set_option maxRecDepth 100000 in
theorem c_X8_field (l : Launch) {D : va_G} {q : Nat → ClassId} {ad : Nat → Nat} {κ : KS} {τ : TAU} (sz : Nat) {B M : Nat} {th : Int32} (hI : INV B M κ th) (r0 : Int32) (w0 : Int32) : Met l yX8_field wsX8_field (rmz 1 21) (va_Pc [.ref (ad 0), .int r0, .int w0] (rPre D q (wX q ad κ τ) sz)) (va_Ql (fun (r : Int64) (u : Unit) => r = fieldV κ r0 w0) (fun (u : Unit) tt => rPo D (rA (wX q ad κ τ) sz) (wX q ad κ τ) tt) (rA (wX q ad κ τ) sz)) 0 0 (rA (wX q ad κ τ) sz) := by
  refine r_start (cc := cX8_field) (maxL := 4) (ret := (some .long)) (by decide) rfl (Nat.le_of_ble_eq_true rfl) ?_
  intro p e s m below meth c ls hC hr hlk hnm hsz hw hl
  have hx := hC.1
  have hb := hC.2.1
  have hl : lv_has ls 4 [(0, .ref (ad 0)), (1, .int r0), (2, .int w0)] := hl
  refine lv_aload_n hx hb dX8_field_0 rfl (lv_at hl 0 rfl) ?_
  refine r_get hC hw rk8 in_X8_field_8 0 (wXl 0 (by decide)) wXc0 1 (by decide) lk_X8_field_19 (v := .ref (ad 2)) rfl dX8_field_1 ?_
  refine lv_iload_n hx hb dX8_field_4 rfl (lv_at hl 1 rfl) ?_
  refine r_kq hw (r_runV (rest := []) hC hw 2 (c_X3_getThing l _ _ 2 12 r0 (wXl 2 (by decide)) wXc2 (wXl 12 (by decide)) wXc12) rk3 (wXl 2 (by decide)) wXc2 1 gX8_field_X3_getThing rfl rfl rfl (by decide +kernel) ⟨Nat.le_of_ble_eq_true rfl, Nat.le_of_ble_eq_true rfl⟩ rfl hl.1 rfl (Nat.le_of_ble_eq_true rfl) dX8_field_5 ⟨Nat.le_of_ble_eq_true rfl, Nat.le_of_ble_eq_true rfl⟩) (fun r_2 u_3 H locs h_1 hw => ?_)
  subst h_1
  refine r_topv (y := va_rf ((rT (thV κ r0)).map ad)) (congrArg va_rf (gN_th κ ad r0)) ?_
  by_cases h0_v : thV κ r0 = 0
  · refine r_topv (y := .null) (by rw [rT0 h0_v]; rfl) ?_
    refine lv_astore_nN (lv' := [(3, .null), (0, .ref (ad 0)), (1, .int r0), (2, .int w0)]) hx hb dX8_field_8 rfl hl (by decide) rfl (fun ls hl => ?_)
    refine lv_aload_nN hx hb dX8_field_9 rfl (lv_at hl 0 rfl) ?_
    refine lv_ifnonnullN hx hb dX8_field_10 ?_
    refine lv_lconst (v := 0) hx hb dX8_field_13 (by decide) ?_
    exact r_lret hC hr hlk hw () rfl (field_0 κ r0 w0 h0_v).symm (Nat.le_of_ble_eq_true rfl) (Nat.le_of_ble_eq_true rfl) dX8_field_14
  · refine r_topv (y := .ref (ad (100 + 4 * (aN (thV κ r0 - 1))))) (by rw [rT1 h0_v]; rfl) ?_
    have hB_v := vr_at (hI.thv r0) hI.m60 h0_v
    have hM_v : (aN (thV κ r0 - 1)) < aN (sI κ 2) := by rw [hI.mN]; exact hB_v.2.1
    have h6_v : (aN (thV κ r0 - 1)) < 60 := Nat.lt_of_lt_of_le hB_v.2.1 hI.m60
    have hl_v : (wX q ad κ τ).2.1 (100 + 4 * (aN (thV κ r0 - 1))) := thl hM_v
    have hc_v : (wX q ad κ τ).2.2 (100 + 4 * (aN (thV κ r0 - 1))) = .inr (6, fsT ad κ (aN (thV κ r0 - 1))) := thc h6_v
    have hT_v := hI.i4 _ hB_v.2.1
    have hk_v : vp_in (sA κ 4 (aN (thV κ r0 - 1))) 16 ∧ vp_in (sA κ 5 (aN (thV κ r0 - 1))) 13 := ⟨hT_v.1, hT_v.2.1⟩
    refine lv_astore_n (lv' := [(3, .ref (ad (100 + 4 * (aN (thV κ r0 - 1))))), (0, .ref (ad 0)), (1, .int r0), (2, .int w0)]) hx hb dX8_field_8 rfl hl (by decide) rfl (fun ls hl => ?_)
    refine lv_aload_n hx hb dX8_field_9 rfl (lv_at hl 0 rfl) ?_
    refine lv_ifnonnull (tgt := 15) hx hb dX8_field_10 (by decide) ?_
    refine lv_iload_n hx hb dX8_field_15 rfl (lv_at hl 3 rfl) ?_
    by_cases w_0 : w0 = 0
    · subst w_0
      refine lv_tableIn (tgt := 44) hx hb dX8_field_16 (by decide) (by decide) (by rfl) (by decide) ?_
      refine lv_aload_n hx hb dX8_field_44 rfl (lv_at hl 0 rfl) ?_
      refine r_get hC hw rk6 in_X8_field_6 (100 + 4 * (aN (thV κ r0 - 1))) hl_v hc_v 5 (by decide) lk_X8_field_136 (v := .int (sA κ 7 (aN (thV κ r0 - 1)))) rfl dX8_field_45 ?_
      refine lv_i2l (v := (sA κ 7 (aN (thV κ r0 - 1))).toInt64) hx hb dX8_field_48 rfl ?_
      exact r_lret hC hr hlk hw () rfl (field_t (vr_pos (hI.thv r0) hI.m60 h0_v) hT_v.2.2.2.1).symm (Nat.le_of_ble_eq_true rfl) (Nat.le_of_ble_eq_true rfl) dX8_field_49
    · by_cases w_1 : w0 = 1
      · subst w_1
        refine lv_tableIn (tgt := 50) hx hb dX8_field_16 (by decide) (by decide) (by rfl) (by decide) ?_
        refine lv_aload_n hx hb dX8_field_50 rfl (lv_at hl 0 rfl) ?_
        refine r_get hC hw rk6 in_X8_field_6 (100 + 4 * (aN (thV κ r0 - 1))) hl_v hc_v 6 (by decide) lk_X8_field_139 (v := .long (sJ κ 2 (aN (thV κ r0 - 1)))) rfl dX8_field_51 ?_
        exact r_lret hC hr hlk hw () rfl (field_w (vr_pos (hI.thv r0) hI.m60 h0_v) hT_v.2.2.2.2.1).symm (Nat.le_of_ble_eq_true rfl) (Nat.le_of_ble_eq_true rfl) dX8_field_54
      · by_cases w_2 : w0 = 2
        · subst w_2
          refine lv_tableIn (tgt := 55) hx hb dX8_field_16 (by decide) (by decide) (by rfl) (by decide) ?_
          refine lv_aload_n hx hb dX8_field_55 rfl (lv_at hl 0 rfl) ?_
          refine lv_bipush (v := 11) hx hb dX8_field_56 (by decide) ?_
          refine r_ki hw (r_runV (rest := []) hC hw (100 + 4 * (aN (thV κ r0 - 1))) (c_X6_isOf_11 l _ _ (100 + 4 * (aN (thV κ r0 - 1))) hk_v.1 hl_v hc_v) rk6 hl_v hc_v 1 gX8_field_X6_isOf rfl rfl rfl (by decide +kernel) ⟨Nat.le_of_ble_eq_true rfl, Nat.le_of_ble_eq_true rfl⟩ rfl hl.1 rfl (Nat.le_of_ble_eq_true rfl) dX8_field_58 ⟨Nat.le_of_ble_eq_true rfl, Nat.le_of_ble_eq_true rfl⟩) (fun r_5 u_6 H locs h_4 hw => ?_)
          by_cases c_7 : pOf (sA κ 4 (aN (thV κ r0 - 1))) 11
          · rw [if_pos c_7] at h_4
            subst h_4
            refine lv_if_ne (tgt := 73) hx hb dX8_field_61 (by decide) (fun _ => ?_) (fun c_ => absurd c_ (by decide))
            refine lv_aload_n hx hb dX8_field_73 rfl (lv_at hl 0 rfl) ?_
            refine r_get hC hw rk6 in_X8_field_6 (100 + 4 * (aN (thV κ r0 - 1))) hl_v hc_v 7 (by decide) lk_X8_field_143 (v := va_rf ((rT (sA κ 8 (aN (thV κ r0 - 1)))).map ad)) rfl dX8_field_74 ?_
            refine r_ki hw (r_runS (rest := []) hC hw (c_X8_kindOf (ad := ad) l _ hI (sA κ 8 (aN (thV κ r0 - 1))) hT_v.2.2.2.2.2.2.1) 1 gX8_field_X8_kindOf rfl rfl rfl (by decide +kernel) ⟨Nat.le_of_ble_eq_true rfl, Nat.le_of_ble_eq_true rfl⟩ rfl hl.1 rfl (Nat.le_of_ble_eq_true rfl) dX8_field_77 ⟨Nat.le_of_ble_eq_true rfl, Nat.le_of_ble_eq_true rfl⟩) (fun r_9 u_10 H locs h_8 hw => ?_)
            subst h_8
            refine lv_i2l (v := (kdR κ (sA κ 8 (aN (thV κ r0 - 1)))).toInt64) hx hb dX8_field_80 rfl ?_
            refine lv_goto (tgt := 85) hx hb dX8_field_81 (by decide) ?_
            exact r_lret hC hr hlk hw () rfl (field_l (vr_pos (hI.thv r0) hI.m60 h0_v) hk_v.1 (Or.inl c_7)).symm (Nat.le_of_ble_eq_true rfl) (Nat.le_of_ble_eq_true rfl) dX8_field_85
          · rw [if_neg c_7] at h_4
            subst h_4
            refine lv_if_ne (tgt := 73) hx hb dX8_field_61 (by decide) (fun c_ => absurd (by decide) c_) (fun _ => ?_)
            refine lv_aload_n hx hb dX8_field_64 rfl (lv_at hl 0 rfl) ?_
            refine lv_bipush (v := 15) hx hb dX8_field_65 (by decide) ?_
            refine r_ki hw (r_runV (rest := []) hC hw (100 + 4 * (aN (thV κ r0 - 1))) (c_X6_isOf_15 l _ _ (100 + 4 * (aN (thV κ r0 - 1))) hk_v.1 hl_v hc_v) rk6 hl_v hc_v 1 gX8_field_X6_isOf rfl rfl rfl (by decide +kernel) ⟨Nat.le_of_ble_eq_true rfl, Nat.le_of_ble_eq_true rfl⟩ rfl hl.1 rfl (Nat.le_of_ble_eq_true rfl) dX8_field_67 ⟨Nat.le_of_ble_eq_true rfl, Nat.le_of_ble_eq_true rfl⟩) (fun r_12 u_13 H locs h_11 hw => ?_)
            by_cases c_14 : pOf (sA κ 4 (aN (thV κ r0 - 1))) 15
            · rw [if_pos c_14] at h_11
              subst h_11
              refine lv_if_eq (tgt := 84) hx hb dX8_field_70 (by decide) (fun c_ => absurd c_ (by decide)) (fun _ => ?_)
              refine lv_aload_n hx hb dX8_field_73 rfl (lv_at hl 0 rfl) ?_
              refine r_get hC hw rk6 in_X8_field_6 (100 + 4 * (aN (thV κ r0 - 1))) hl_v hc_v 7 (by decide) lk_X8_field_143 (v := va_rf ((rT (sA κ 8 (aN (thV κ r0 - 1)))).map ad)) rfl dX8_field_74 ?_
              refine r_ki hw (r_runS (rest := []) hC hw (c_X8_kindOf (ad := ad) l _ hI (sA κ 8 (aN (thV κ r0 - 1))) hT_v.2.2.2.2.2.2.1) 1 gX8_field_X8_kindOf rfl rfl rfl (by decide +kernel) ⟨Nat.le_of_ble_eq_true rfl, Nat.le_of_ble_eq_true rfl⟩ rfl hl.1 rfl (Nat.le_of_ble_eq_true rfl) dX8_field_77 ⟨Nat.le_of_ble_eq_true rfl, Nat.le_of_ble_eq_true rfl⟩) (fun r_16 u_17 H locs h_15 hw => ?_)
              subst h_15
              refine lv_i2l (v := (kdR κ (sA κ 8 (aN (thV κ r0 - 1)))).toInt64) hx hb dX8_field_80 rfl ?_
              refine lv_goto (tgt := 85) hx hb dX8_field_81 (by decide) ?_
              exact r_lret hC hr hlk hw () rfl (field_l (vr_pos (hI.thv r0) hI.m60 h0_v) hk_v.1 (Or.inr c_14)).symm (Nat.le_of_ble_eq_true rfl) (Nat.le_of_ble_eq_true rfl) dX8_field_85
            · rw [if_neg c_14] at h_11
              subst h_11
              refine lv_if_eq (tgt := 84) hx hb dX8_field_70 (by decide) (fun _ => ?_) (fun c_ => absurd (by decide) c_)
              refine lv_lconst (v := 0) hx hb dX8_field_84 (by decide) ?_
              exact r_lret hC hr hlk hw () rfl (field_m hk_v.1 c_7 c_14).symm (Nat.le_of_ble_eq_true rfl) (Nat.le_of_ble_eq_true rfl) dX8_field_85
        · refine lv_tableOut (tgt := 86) hx hb dX8_field_16 (out3 w_0 w_1 w_2) (by decide) ?_
          refine lv_lconst (v := 0) hx hb dX8_field_86 (by decide) ?_
          exact r_lret hC hr hlk hw () rfl (field_x w_0 w_1 w_2).symm (Nat.le_of_ble_eq_true rfl) (Nat.le_of_ble_eq_true rfl) dX8_field_87

theorem same_T {D : va_G} {q : Nat → ClassId} {A : Nat → Prop} {H0 : Heap} {s : State} {ad : Nat → Nat} {κ : KS} {τ : TAU} {H : Heap} {locs : List Loc} {B M : Nat} {th : Int32} (hw : rX D q A H0 s (wX q ad κ τ) H locs) (hI : INV B M κ th) {v u : Int32} (h0 : ¬ v = 0) (hv : vr M v) (hu : vr M u) (e : some (ad (100 + 4 * (aN (v - 1)))) = (rT u).map ad) : v = u := by
  by_cases hu0 : u = 0
  · rw [rT0 hu0] at e; cases e
  · rw [rT1 hu0] at e
    have e2 : ad (100 + 4 * aN (v - 1)) = ad (100 + 4 * aN (u - 1)) := Option.some.inj e
    have zv := vr_at hv hI.m60 h0
    have zu := vr_at hu hI.m60 hu0
    have e3 := hw.2.2.1 _ _ (show (wX q ad κ τ).2.1 (100 + 4 * aN (v - 1)) from thl (by rw [hI.mN]; exact zv.2.1)) (show (wX q ad κ τ).2.1 (100 + 4 * aN (u - 1)) from thl (by rw [hI.mN]; exact zu.2.1)) e2
    have e4 : aN (v - 1) = aN (u - 1) := by omega
    have e5 : v - 1 = u - 1 := by rw [zv.2.2, zu.2.2, e4]
    have e6 : v - 1 + 1 = u - 1 + 1 := by rw [e5]
    rw [Int32.sub_add_cancel, Int32.sub_add_cancel] at e6
    exact e6
set_option maxHeartbeats 4000000 in
set_option maxRecDepth 100000 in
theorem c_X8_same (l : Launch) {D : va_G} {q : Nat → ClassId} {ad : Nat → Nat} {κ : KS} {τ : TAU} (sz : Nat) {B M : Nat} {th : Int32} (hI : INV B M κ th) (r0 : Int32) (q0 : Int32) : Met l yX8_same wsX8_same (rmz 1 21) (va_Pc [.ref (ad 0), .int r0, .int q0] (rPre D q (wX q ad κ τ) sz)) (va_Qi (fun (r : Int32) (u : Unit) => r = if 0 ≤ (thI κ r0) then (if (thI κ r0) = (thI κ q0) then 1 else 0) else 0) (fun (u : Unit) tt => rPo D (rA (wX q ad κ τ) sz) (wX q ad κ τ) tt) (rA (wX q ad κ τ) sz)) 0 0 (rA (wX q ad κ τ) sz) := by
  refine r_start (cc := cX8_same) (maxL := 4) (ret := (some .boolean)) (by decide) rfl (Nat.le_of_ble_eq_true rfl) ?_
  intro p e s m below meth c ls hC hr hlk hnm hsz hw hl
  have hx := hC.1
  have hb := hC.2.1
  have hl : lv_has ls 4 [(0, .ref (ad 0)), (1, .int r0), (2, .int q0)] := hl
  refine lv_aload_n hx hb dX8_same_0 rfl (lv_at hl 0 rfl) ?_
  refine r_get hC hw rk8 in_X8_same_8 0 (wXl 0 (by decide)) wXc0 1 (by decide) lk_X8_same_19 (v := .ref (ad 2)) rfl dX8_same_1 ?_
  refine lv_iload_n hx hb dX8_same_4 rfl (lv_at hl 1 rfl) ?_
  refine r_kq hw (r_runV (rest := []) hC hw 2 (c_X3_getThing l _ _ 2 12 r0 (wXl 2 (by decide)) wXc2 (wXl 12 (by decide)) wXc12) rk3 (wXl 2 (by decide)) wXc2 1 gX8_same_X3_getThing rfl rfl rfl (by decide +kernel) ⟨Nat.le_of_ble_eq_true rfl, Nat.le_of_ble_eq_true rfl⟩ rfl hl.1 rfl (Nat.le_of_ble_eq_true rfl) dX8_same_5 ⟨Nat.le_of_ble_eq_true rfl, Nat.le_of_ble_eq_true rfl⟩) (fun r_2 u_3 H locs h_1 hw => ?_)
  subst h_1
  refine r_topv (y := va_rf ((rT (thV κ r0)).map ad)) (congrArg va_rf (gN_th κ ad r0)) ?_
  by_cases h0_v : thV κ r0 = 0
  · refine r_topv (y := .null) (by rw [rT0 h0_v]; rfl) ?_
    refine lv_astore_nN (lv' := [(3, .null), (0, .ref (ad 0)), (1, .int r0), (2, .int q0)]) hx hb dX8_same_8 rfl hl (by decide) rfl (fun ls hl => ?_)
    refine lv_aload_nN hx hb dX8_same_9 rfl (lv_at hl 0 rfl) ?_
    refine lv_ifnullN (tgt := 29) hx hb dX8_same_10 (by decide) ?_
    refine lv_iconst (v := 0) hx hb dX8_same_29 (by decide) ?_
    exact r_zret hC hr (by decide) hlk hw () rfl (same_F.trans (if_neg (vr_neg h0_v))).symm (Nat.le_of_ble_eq_true rfl) (Nat.le_of_ble_eq_true rfl) dX8_same_30
  · refine r_topv (y := .ref (ad (100 + 4 * (aN (thV κ r0 - 1))))) (by rw [rT1 h0_v]; rfl) ?_
    have hB_v := vr_at (hI.thv r0) hI.m60 h0_v
    have hM_v : (aN (thV κ r0 - 1)) < aN (sI κ 2) := by rw [hI.mN]; exact hB_v.2.1
    have h6_v : (aN (thV κ r0 - 1)) < 60 := Nat.lt_of_lt_of_le hB_v.2.1 hI.m60
    have hl_v : (wX q ad κ τ).2.1 (100 + 4 * (aN (thV κ r0 - 1))) := thl hM_v
    have hc_v : (wX q ad κ τ).2.2 (100 + 4 * (aN (thV κ r0 - 1))) = .inr (6, fsT ad κ (aN (thV κ r0 - 1))) := thc h6_v
    have hT_v := hI.i4 _ hB_v.2.1
    have hk_v : vp_in (sA κ 4 (aN (thV κ r0 - 1))) 16 ∧ vp_in (sA κ 5 (aN (thV κ r0 - 1))) 13 := ⟨hT_v.1, hT_v.2.1⟩
    refine lv_astore_n (lv' := [(3, .ref (ad (100 + 4 * (aN (thV κ r0 - 1))))), (0, .ref (ad 0)), (1, .int r0), (2, .int q0)]) hx hb dX8_same_8 rfl hl (by decide) rfl (fun ls hl => ?_)
    refine lv_aload_n hx hb dX8_same_9 rfl (lv_at hl 0 rfl) ?_
    refine lv_ifnull hx hb dX8_same_10 ?_
    refine lv_aload_n hx hb dX8_same_13 rfl (lv_at hl 0 rfl) ?_
    refine lv_aload_n hx hb dX8_same_14 rfl (lv_at hl 1 rfl) ?_
    refine r_get hC hw rk8 in_X8_same_8 0 (wXl 0 (by decide)) wXc0 1 (by decide) lk_X8_same_19 (v := .ref (ad 2)) rfl dX8_same_15 ?_
    refine lv_iload_n hx hb dX8_same_18 rfl (lv_at hl 3 rfl) ?_
    refine r_kq hw (r_runV (rest := [.ref (ad (100 + 4 * (aN (thV κ r0 - 1))))]) hC hw 2 (c_X3_getThing l _ _ 2 12 q0 (wXl 2 (by decide)) wXc2 (wXl 12 (by decide)) wXc12) rk3 (wXl 2 (by decide)) wXc2 1 gX8_same_X3_getThing rfl rfl rfl (by decide +kernel) ⟨Nat.le_of_ble_eq_true rfl, Nat.le_of_ble_eq_true rfl⟩ rfl hl.1 rfl (Nat.le_of_ble_eq_true rfl) dX8_same_19 ⟨Nat.le_of_ble_eq_true rfl, Nat.le_of_ble_eq_true rfl⟩) (fun r_5 u_6 H locs h_4 hw => ?_)
    subst h_4
    refine r_topv (y := va_rf ((rT (thV κ q0)).map ad)) (congrArg va_rf (gN_th κ ad q0)) ?_
    refine lv_acmp_ne (rx := some (ad (100 + 4 * (aN (thV κ r0 - 1))))) (ry := (rT (thV κ q0)).map ad) (tgt := 29) hx hb dX8_same_22 (by decide) (fun a_8 => ?_) (fun a_8 => ?_)
    · have hsm : ¬ thV κ r0 = thV κ q0 := fun h => a_8 (by rw [← h, rT1 h0_v]; rfl)
      refine lv_iconst (v := 0) hx hb dX8_same_29 (by decide) ?_
      exact r_zret hC hr (by decide) hlk hw () rfl (same_F.trans ((if_pos (vr_pos (hI.thv r0) hI.m60 h0_v)).trans (if_neg hsm))).symm (Nat.le_of_ble_eq_true rfl) (Nat.le_of_ble_eq_true rfl) dX8_same_30
    · have hsm : thV κ r0 = thV κ q0 := same_T hw hI h0_v (hI.thv r0) (hI.thv q0) a_8
      refine lv_iconst (v := 1) hx hb dX8_same_25 (by decide) ?_
      refine lv_goto (tgt := 30) hx hb dX8_same_26 (by decide) ?_
      exact r_zret hC hr (by decide) hlk hw () rfl (same_F.trans ((if_pos (vr_pos (hI.thv r0) hI.m60 h0_v)).trans (if_pos hsm))).symm (Nat.le_of_ble_eq_true rfl) (Nat.le_of_ble_eq_true rfl) dX8_same_30

