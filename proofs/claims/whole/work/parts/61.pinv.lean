def R8 (κ : KS) : Prop := ∀ j, 8 ≤ j → sA κ 3 j = 0
theorem R8_A3 {κ : KS} (h : R8 κ) {i : Nat} (hi : i < 8) (v : Int32) : R8 (uA κ 3 i v) := by
  intro j hj
  rw [uA_same, va_up_ne _ _ (by omega)]
  exact h j hj
theorem R8_mk {κ : KS} (h : R8 κ) (kd pl : Int32) : R8 (mk κ kd pl) := by
  intro j hj
  rw [mk_A κ kd pl (by decide)]
  exact h j hj
theorem R8_mkR {κ : KS} (h : R8 κ) (g pl : Int32) : ∀ n, R8 (mkR κ g pl n)
  | 0 => h
  | n + 1 => by
    have z := R8_mk (R8_mkR h g pl n) 4 pl
    rw [mkR_s]
    generalize mk (mkR κ g pl n) 4 pl = Z at *
    intro j hj
    rw [uA_ne _ _ _ (by decide)]
    exact z j hj
theorem R8_ne {κ : KS} (h : R8 κ) {k : Nat} (hk : 3 ≠ k) (i : Nat) (v : Int32) : R8 (uA κ k i v) := by
  intro j hj
  rw [uA_ne _ _ _ hk]
  exact h j hj
theorem lt8 {x : Int32} (h : vp_in x 8) : aN x < 8 := by
  obtain ⟨n, hn, rfl⟩ := vp_in_of h (by decide)
  rw [show aN (nI n) = n from nI_clamp (by omega)]; exact hn
theorem R8_act {κ : KS} (h : R8 κ) (hd th : Int32) {k : Nat} (hk : k < 74) {a b c : Int32} (hs : okStep k a b c) : R8 (act κ hd th k a b c) := by
  match k, hk, hs with
  | 0, _, hs => exact h
  | 1, _, hs => exact h
  | 2, _, hs => exact h
  | 3, _, hs => exact h
  | 4, _, hs => exact h
  | 5, _, hs => exact h
  | 6, _, hs => exact h
  | 7, _, hs => exact h
  | 8, _, hs => exact h
  | 9, _, hs => exact h
  | 10, _, hs => exact h
  | 11, _, hs => exact h
  | 12, _, hs => exact h
  | 13, _, hs => exact h
  | 14, _, hs => exact h
  | 15, _, hs => exact h
  | 16, _, hs => exact h
  | 17, _, hs => exact h
  | 18, _, hs => exact h
  | 19, _, hs => exact h
  | 20, _, hs => exact h
  | 21, _, hs => exact h
  | 22, _, hs => exact h
  | 23, _, hs => exact h
  | 24, _, hs => exact h
  | 25, _, hs => exact h
  | 26, _, hs => exact h
  | 27, _, hs => exact h
  | 28, _, hs => exact h
  | 29, _, hs => exact h
  | 30, _, hs => show R8 (if sI κ 6 = 0 then uI κ 3 2 else uI κ 6 (sI κ 6 - 1)); split <;> exact h
  | 31, _, hs => rw [act_31]; have z := R8_mk h b (sA κ 2 (aN c)); generalize mk κ b (sA κ 2 (aN c)) = Z at *; exact R8_A3 z (lt8 hs.1) _
  | 32, _, hs => rw [act_32]; have z := R8_mkR (R8_mk h 10 (sA κ 2 (aN b))) (sI κ 2) (sA κ 2 (aN c)) (aN (sA κ 2 (aN b))); generalize mkR (mk κ 10 (sA κ 2 (aN b))) (sI κ 2) (sA κ 2 (aN c)) (aN (sA κ 2 (aN b))) = Z at *; exact R8_A3 z (lt8 hs.1) _
  | 33, _, hs => rw [act_33]; have z := R8_mk h b 0; generalize mk κ b 0 = Z at *; exact R8_ne (R8_A3 z (lt8 hs.1) _) (by decide) _ _
  | 34, _, hs => exact R8_A3 h (lt8 hs.1) _
  | 35, _, hs => exact R8_A3 h (lt8 hs.1) _
  | 36, _, hs => exact h
  | 37, _, hs => exact h
  | 38, _, hs => exact h
  | 39, _, hs => exact h
  | 40, _, hs => exact h
  | 41, _, hs => exact h
  | 42, _, hs => exact h
  | 43, _, hs => exact h
  | 44, _, hs => exact h
  | 45, _, hs => exact h
  | 46, _, hs => exact h
  | 47, _, hs => exact R8_A3 h (lt8 hs.1) _
  | 48, _, hs => exact R8_A3 h (lt8 hs.1) _
  | 49, _, hs => exact h
  | 50, _, hs => exact h
  | 51, _, hs => exact h
  | 52, _, hs => exact h
  | 53, _, hs => exact h
  | 54, _, hs => exact h
  | 55, _, hs => exact h
  | 56, _, hs => exact h
  | 57, _, hs => exact h
  | 58, _, hs => exact h
  | 59, _, hs => exact h
  | 60, _, hs => exact h
  | 61, _, hs => exact h
  | 62, _, hs => exact h
  | 63, _, hs => exact R8_A3 h (lt8 hs.1) _
  | 64, _, hs => exact h
  | 65, _, hs => exact h
  | 66, _, hs => exact h
  | 67, _, hs => rw [act_67]; have z := R8_mk h 15 0; generalize mk κ 15 0 = Z at *; exact R8_ne (R8_ne (R8_A3 z (lt8 hs.1) _) (by decide) _ _) (by decide) _ _
  | 68, _, hs => exact h
  | 69, _, hs => exact R8_A3 h (lt8 hs.1) _
  | 70, _, hs => exact h
  | 71, _, hs => exact R8_A3 h (lt8 hs.1) _
  | 72, _, hs => exact h
  | 73, _, hs => show R8 (uI (if 200 ≤ sI κ 7 then κ else uA κ 10 (aN (sI κ 7)) (wd κ a)) 7 (sI κ 7 + 1)); split <;> exact h
  | n + 74, q, _ => exact absurd q (by omega)
theorem R8_pne {B M : Nat} {κ : KS} {t : Nat → Int32} (h : INV B M κ (t 5)) (h3 : sI κ 3 = 1) (h8 : R8 κ) : R8 (pne (κ, t)).1 := by
  obtain ⟨p, mn, hp, hmn, h0, h4, hk, hO, hok, _⟩ := oFacts h h3
  by_cases hF : oF κ = 0
  · rw [pne_0 hF]
    have z := R8_act h8 (t 4) (t 5) hk hok
    generalize act κ (t 4) (t 5) (oK κ) (oA κ) (oB κ) (oC κ) = K at *
    by_cases hK : sI K 3 = 1
    · rw [o3_1 hK]; exact z
    · rw [o3_0 hK]; exact z
  · by_cases hf : 0 ≤ (fR κ (oF κ)).1
    · rw [pne_f hF hf, o3_1 (show sI (uI (fK κ (oF κ)) 6 (nI (fR κ (oF κ)).2)) 3 = 1 from h3)]; exact h8
    · rw [pne_s hF hf, o3_0 (s33 _)]; exact h8
/-- behind i steps -/
theorem INV_pit {B M : Nat} {κ : KS} {t : Nat → Int32} (h : INV B M κ (t 5)) (h8 : R8 κ) : ∀ i, ∃ M', INV (B + i) M' (pit (κ, t) i).1 ((pit (κ, t) i).2 5) ∧ R8 (pit (κ, t) i).1
  | 0 => ⟨M, h, h8⟩
  | i + 1 => by
    obtain ⟨M', h1, h2⟩ := INV_pit h h8 i
    by_cases h3 : sI (pit (κ, t) i).1 3 = 1
    · rw [pit_s _ _ h3]
      exact ⟨M' + nM (pit (κ, t) i).1, INV_step h1 h3, R8_pne h1 h3 h2⟩
    · have e : pit (κ, t) (i + 1) = pit (κ, t) i := if_neg h3
      rw [e]
      exact ⟨M', h1.b (by omega), h2⟩
theorem INV_stepR {B M : Nat} {κ : KS} {t : Nat → Int32} (h : INV B M κ (t 5)) (h8 : R8 κ) (n0 : Int32) : ∃ M', INV (B + 100) M' (stepR κ t n0).2.1 ((stepR κ t n0).2.2 5) ∧ R8 (stepR κ t n0).2.1 := by
  unfold stepR
  by_cases h1 : sI κ 3 = 0
  · rw [if_pos h1]; exact ⟨M, h.b (by omega), h8⟩
  · rw [if_neg h1]
    by_cases h2 : pIn n0 0 100
    · rw [if_pos h2]
      obtain ⟨n, hn, e⟩ := nI_100 h2
      obtain ⟨M', z1, z2⟩ := INV_pit h h8 (aN n0)
      have : aN n0 = n := by rw [e]; exact nI_clamp (by omega)
      exact ⟨M', z1.b (by omega), z2⟩
    · rw [if_neg h2]; exact ⟨M, h.b (by omega), h8⟩
theorem INV_rs {B M : Nat} {κ : KS} {t : Nat → Int32} (h : INV B M κ (t 5)) (h8 : R8 κ) (hB : B + 100 < 2 ^ 31) (n0 : Int32) (hn : pIn n0 0 100) : ∀ i, i < aN n0 → sI (pit (κ, t) i).1 3 = 1 → RS (pit (κ, t) i).1 := by
  intro i hi h3
  obtain ⟨n, hn2, e⟩ := nI_100 hn
  have : aN n0 = n := by rw [e]; exact nI_clamp (by omega)
  obtain ⟨M', z1, _⟩ := INV_pit h h8 i
  exact z1.rs h3 (by omega)
theorem pN {r M : Int32} {n : Nat} (hM : M.toInt = n) (h : pIn r 0 M) (hn : n < 2 ^ 30 := by decide) : vp_in r (n + 1) := by
  obtain ⟨j, hj, e⟩ := nI_of2 (M := M) (n := n) hM h.1 (Int32.not_lt.mp h.2)
  rw [e]; exact vp_in_nI (by omega) (by omega)
theorem p11 {r : Int32} (h : pIn r 11 14) : vp_in (r - 11) 4 := by
  have h0 : ¬ r < 0 := fun q => h.1 (Int32.lt_of_lt_of_le q (by decide))
  obtain ⟨j, hj, e⟩ := nI_of2 (M := 14) (n := 14) (by decide) h0 (Int32.not_lt.mp h.2)
  subst e
  match j, hj with
  | 11, _ => exact vp_in_nI (n := 0) (by decide) (by decide)
  | 12, _ => exact vp_in_nI (n := 1) (by decide) (by decide)
  | 13, _ => exact vp_in_nI (n := 2) (by decide) (by decide)
  | 14, _ => exact vp_in_nI (n := 3) (by decide) (by decide)
  | 0, _ => exact absurd (by decide) h.1
  | 1, _ => exact absurd (by decide) h.1
  | 2, _ => exact absurd (by decide) h.1
  | 3, _ => exact absurd (by decide) h.1
  | 4, _ => exact absurd (by decide) h.1
  | 5, _ => exact absurd (by decide) h.1
  | 6, _ => exact absurd (by decide) h.1
  | 7, _ => exact absurd (by decide) h.1
  | 8, _ => exact absurd (by decide) h.1
  | 9, _ => exact absurd (by decide) h.1
  | 10, _ => exact absurd (by decide) h.1
  | j + 15, hj => exact absurd hj (by omega)
theorem tld_ok {d : Nat} (hd : d < 10) {v : Int32} (h : tld d v = true) : okS d v := by
  match d, hd, h with
  | 0, _, _ => trivial
  | 1, _, h => exact p8 (of_decide_eq_true h)
  | 2, _, h => exact p4 (of_decide_eq_true h)
  | 3, _, h => exact p4 (of_decide_eq_true h)
  | 4, _, h => exact p4 (of_decide_eq_true h)
  | 5, _, h => exact p8 (of_decide_eq_true h)
  | 6, _, h => exact pN (M := 199) (n := 199) (by decide) (of_decide_eq_true h)
  | 7, _, h => exact pN (M := 9) (n := 9) (by decide) (of_decide_eq_true h)
  | 8, _, h => exact p11 (of_decide_eq_true h)
  | 9, _, h => exact pN (M := 16) (n := 16) (by decide) (of_decide_eq_true h)
  | d + 10, hd, _ => exact absurd hd (by omega)
theorem INV_put {B M : Nat} {κ : KS} {t : Nat → Int32} (h : INV B M κ (t 5)) (h8 : R8 κ) (op xa xb xc : Int32) : INV B M (putR κ t op xa xb xc).2.1 ((putR κ t op xa xb xc).2.2 5) ∧ R8 (putR κ t op xa xb xc).2.1 := by
  by_cases hf : fitP op xa xb xc
  · by_cases hc : sI κ 0 = 150
    · rw [putR_f hf hc]; exact ⟨h, h8⟩
    · obtain ⟨mn, hmn, h0, hS⟩ := h.i0
      have hcap : mn < 150 := by
        rcases Nat.lt_or_ge mn 150 with q | q
        · exact q
        · exact absurd (by rw [h0, show mn = 150 by omega]; rfl) hc
      rw [← putR_p h0 hcap hf]
      obtain ⟨k, hk, hop⟩ := nI_of2 (M := 73) (n := 73) (by decide) hf.1.1 (Int32.not_lt.mp hf.1.2)
      have hka : aN op = k := by rw [hop]; exact nI_clamp (by omega)
      have d9 := dg9 k (by omega)
      have hf2 := hf.2
      rw [hka] at hf2
      have z := s4_at (uI κ 3 0) 0 mn op xa xb xc
      refine ⟨⟨⟨mn + 1, by omega, rfl, fun j hj => ?_⟩, h.i1, ⟨h.m60, h.i2⟩, h.i3, h.i4, h.i5, h.i6, h.i7, h.i8, fun q => absurd q (by show ¬ (0 : Int32) = 1; decide), h.it, h.i11⟩, h8⟩
      show ∃ j', j' < 74 ∧ sA (s4 (uI κ 3 0) 0 mn op xa xb xc) 0 (4 * j) = nI j' ∧ okStep j' (sA (s4 (uI κ 3 0) 0 mn op xa xb xc) 0 (4 * j + 1)) (sA (s4 (uI κ 3 0) 0 mn op xa xb xc) 0 (4 * j + 2)) (sA (s4 (uI κ 3 0) 0 mn op xa xb xc) 0 (4 * j + 3))
      by_cases e : j = mn
      · subst e
        rw [z.1, z.2.1, z.2.2.1, z.2.2.2]
        exact ⟨k, by omega, hop, tld_ok d9.1 hf2.1, tld_ok d9.2.1 hf2.2.1, tld_ok d9.2.2 hf2.2.2⟩
      · rw [s4_lt _ _ _ _ _ _ _ (by omega), s4_lt _ _ _ _ _ _ _ (by omega), s4_lt _ _ _ _ _ _ _ (by omega), s4_lt _ _ _ _ _ _ _ (by omega)]
        exact hS j (by omega)
  · rw [putR_n hf]; exact ⟨h, h8⟩
theorem INV_han {B M : Nat} {κ : KS} {t : Nat → Int32} (h : INV B M κ (t 5)) (h8 : R8 κ) (xa xb xc xd : Int32) : INV B M (hanR κ t xa xb xc xd).2.1 ((hanR κ t xa xb xc xd).2.2 5) ∧ R8 (hanR κ t xa xb xc xd).2.1 := by
  by_cases hf : pIn xa 0 199 ∧ pIn xb 0 199 ∧ pIn xd 0 199
  · by_cases hc : sI κ 1 = 16
    · rw [hanR_f hf hc]; exact ⟨h, h8⟩
    · obtain ⟨mn, hmn, h0, hS⟩ := h.i1
      have hcap : mn < 16 := by
        rcases Nat.lt_or_ge mn 16 with q | q
        · exact q
        · exact absurd (by rw [h0, show mn = 16 by omega]; rfl) hc
      rw [← hanR_p h0 hcap hf]
      have z := s4_at (uI κ 3 0) 1 mn xa xb xc xd
      refine ⟨⟨h.i0, ⟨mn + 1, by omega, rfl, fun j hj => ?_⟩, ⟨h.m60, h.i2⟩, h.i3, h.i4, h.i5, h.i6, h.i7, h.i8, fun q => absurd q (by show ¬ (0 : Int32) = 1; decide), h.it, h.i11⟩, h8⟩
      show vp_in (sA (s4 (uI κ 3 0) 1 mn xa xb xc xd) 1 (4 * j + 3)) 200
      by_cases e : j = mn
      · subst e
        rw [z.2.2.2]
        exact pN (M := 199) (n := 199) (by decide) hf.2.2
      · rw [s4_lt _ _ _ _ _ _ _ (by omega)]
        exact hS j (by omega)
  · rw [hanR_n hf]; exact ⟨h, h8⟩
theorem INV_clear {B M : Nat} {κ : KS} {th : Int32} (h : INV B M κ th) : INV B M (uI (uI (uI κ 0 0) 1 0) 3 0) th := ⟨⟨0, by decide, rfl, fun k hk => absurd hk (by omega)⟩, ⟨0, by decide, rfl, fun k hk => absurd hk (by omega)⟩, ⟨h.m60, h.i2⟩, h.i3, h.i4, h.i5, h.i6, h.i7, h.i8, fun q => absurd q (by show ¬ (0 : Int32) = 1; decide), h.it, h.i11⟩
theorem sl_inv {B M : Nat} {κ : KS} {th : Int32} (h : INV B M κ th) : ∀ n, INV B M (sl κ n) th
  | 0 => h
  | n + 1 => ((sl_inv h n).A2 _ _).A3 _ (vr0 _)
theorem sl2_inv {B M : Nat} {κ : KS} {th : Int32} (h : INV B M κ th) : ∀ n, INV B M (sl2 κ n) th
  | 0 => h
  | n + 1 => (((sl2_inv h n).J0 _ _).F _ ffB_0).D 0 _ fdB_0
theorem sl_3 (κ : KS) : ∀ n, n ≤ 8 → ∀ j, sA (sl κ n) 3 j = if j < n then 0 else sA κ 3 j
  | 0, _, j => by rw [if_neg (by omega)]; rfl
  | n + 1, hn, j => by
    show sA (uA (uA (sl κ n) 2 (aN (nI n)) 0) 3 (aN (nI n)) 0) 3 j = _
    rw [uA_same, show aN (nI n) = n from nI_clamp (by omega)]
    by_cases e : j = n
    · rw [e, va_up_self, if_pos (by omega)]
    · rw [va_up_ne _ _ e, uA_ne _ _ _ (by decide), sl_3 κ n (by omega) j]
      by_cases q : j < n
      · rw [if_pos q, if_pos (by omega)]
      · rw [if_neg q, if_neg (by omega)]
theorem sl2_A (κ : KS) : ∀ n, sA (sl2 κ n) = sA κ
  | 0 => rfl
  | n + 1 => sl2_A κ n
theorem INV_start {B M : Nat} {κ : KS} {t : Nat → Int32} (h : INV B M κ (t 5)) (h8 : R8 κ) : INV B 0 (uI (stK κ) 3 (if sI κ 0 ≤ 0 then 2 else 1)) 0 ∧ R8 (uI (stK κ) 3 (if sI κ 0 ≤ 0 then 2 else 1)) := by
  have z := sl2_inv (sl_inv h 8) 4
  have hA3 : ∀ j, sA (sl2 (sl κ 8) 4) 3 j = 0 := by
    intro j
    rw [sl2_A, sl_3 κ 8 (by omega) j]
    by_cases q : j < 8
    · rw [if_pos q]
    · rw [if_neg q]; exact h8 j (by omega)
  have hi0 : sI (sl2 (sl κ 8) 4) 0 = sI κ 0 := by
    show (sl2 (sl κ 8) 4).1 0 = _
    rw [sl2_I, sl_I]
  unfold stK
  generalize sl2 (sl κ 8) 4 = K at *
  refine ⟨⟨z.i0, z.i1, ⟨by decide, rfl⟩, fun j => ?_, fun k hk => absurd hk (by omega), z.i5, ⟨0, by decide, rfl⟩, z.i7, ⟨0, Nat.zero_le _, rfl⟩, fun q => ?_, vr0 _, z.i11⟩, fun j _ => hA3 j⟩
  · show vr 0 (sA K 3 j)
    rw [hA3 j]; exact vr0 _
  · have q : (if sI κ 0 ≤ 0 then (2 : Int32) else 1) = 1 := q
    by_cases hl : sI κ 0 ≤ 0
    · rw [if_pos hl] at q; exact absurd q (by decide)
    · refine ⟨0, rfl, ?_⟩
      show 0 < aN (sI K 0)
      rw [hi0]
      obtain ⟨mn, hmn, e, _⟩ := h.i0
      rw [e, show aN (nI mn) = mn from nI_clamp (by omega)]
      rcases Nat.eq_zero_or_pos mn with q2 | q2
      · exact absurd (by rw [e, q2]; decide) hl
      · exact q2
theorem INV.wfa2 {B M : Nat} {κ : KS} {th : Int32} (h : INV B M κ th) {τ : TAU} (ht : WTk κ τ) : WFa κ τ (aN (sI κ 2)) := by
  have hm := h.m60
  refine ⟨fun j => ?_, fun k hk => ?_, fun k j hk hj => ?_, ht⟩
  · rw [h.mN]; exact vr_lt (h.i3 j) hm
  · rw [h.mN] at hk ⊢; exact vr_lt (h.i4 k hk).2.2.2.2.2.2.1 hm
  · rw [h.mN] at hk ⊢; exact vr_lt ((h.i4 k hk).2.2.2.2.2.2.2 j hj).1 hm
