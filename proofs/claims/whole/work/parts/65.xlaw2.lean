theorem tb_ao6 : Cond.arrayOver (.object RX6) ∈ lw_tbl := List.mem_append_right _ (List.mem_append_left _ (List.mem_of_getElem? (l := tables_1_1) (i := 51) rfl))
theorem tb_ao5 : Cond.arrayOver (.object RX5) ∈ lw_tbl := List.mem_append_right _ (List.mem_append_left _ (List.mem_of_getElem? (l := tables_1_1) (i := 26) rfl))
theorem tb_ao0 : Cond.arrayOver (.object RX0) ∈ lw_tbl := List.mem_append_right _ (List.mem_append_left _ (List.mem_of_getElem? (l := tables_1_1) (i := 28) rfl))
theorem tb_nest : Cond.methodLinkNest RX7 94 yX8_misfits RX8 ∈ lw_tbl := List.mem_append_right _ (List.mem_append_right _ (List.mem_append_left _ (List.mem_of_getElem? (l := tables_1_2) (i := 161) rfl)))
theorem tb_lays : Cond.laysStatic "FaultLoom" "SHAPES" "[I" ∈ lw_tbl := List.mem_append_right _ (List.mem_append_left _ (List.mem_of_getElem? (l := tables_1_1) (i := 171) rfl))
theorem tabE : ∀ j, j < 74 → Cond.eq (.elem (.static "FaultLoom" "SHAPES" "[I") (.int (Int32.ofNat j))) (.int (nI (dg j))) ∈ flatC (Jvm.Cond.and given_1 narrow_1) := by decide +kernel
theorem arr_of {s : State} {args : Array Value} {ty : FieldType} (hp : ∀ C, ty ≠ .object C) (h : (Cond.arrayClass ty).before args s = true) : ∃ cA, ArrOfT s cA ty ∧ va_RA s cA ty := by
  obtain ⟨cA, kA, comp, h1, h2, h3⟩ := Cond.arrayClass_spec h
  refine ⟨cA, fun n z => ⟨fun k h => (by cases h), kA, h2, comp, h3⟩, ?_⟩
  cases ty with
  | object C => exact absurd rfl (hp C)
  | _ => exact h1
theorem arr_ob {s : State} {args : Array Value} {C : String} (h : (Cond.arrayOver (.object C)).before args s = true) : ∃ cA, ArrOfT s cA (.object C) ∧ va_RA s cA (.object C) := by
  obtain ⟨comp, cA, kA, h1, h2, h3, h4, h5⟩ := Cond.arrayOver_spec h
  exact ⟨cA, fun n z => ⟨fun k h => (by cases h), kA, h3, comp, h4⟩, kA, comp, h3, h4, h1, h5⟩
/-- the class's world by other numbers of its roles -/
def wZ (q : Nat → ClassId) (ad : Nat → Nat) : wT := ((fun i => ad (i - 2000)), (fun i => 2000 ≤ i ∧ lvX k0 (i - 2000)), (fun i => exX q ad k0 τ0 (i - 2000)))
theorem wZ_of {D : va_G} {q : Nat → ClassId} {A : Nat → Prop} {H0 : Heap} {s : State} {ad : Nat → Nat} {H : Heap} {locs : List Loc} (h : rX D q A H0 s (wX q ad k0 τ0) H locs) : rX D q A H0 s (wZ q ad) H locs := h.re (fun i => i - 2000) (fun i j hi hj e => by have h1 : 2000 ≤ i := hi.1; have h2 : 2000 ≤ j := hj.1; have e : i - 2000 = j - 2000 := e; omega) (fun i hi => hi.2) (fun i hi => rfl) (fun i hi => rfl)
set_option maxHeartbeats 4000000 in
set_option maxRecDepth 100000 in
theorem whole_start {p : Program} {e : Env} {s : State} {m : MethodId} {below : List Frame} {meth : Method} {c : Code} (l : Launch) {b L : Nat} {xs : Nat → Int32} (hL : L ≤ 2560) (C0 : lw_At p s m meth c b L xs) : W p l e room_1 s m #[Value.ref b] below meth c s.heap [] 0 0 (lw_Z below #[Value.ref b] s) (entryFrame m ([Value.ref b] : List Value).toArray 8) := by
  obtain ⟨hx, hb, hr, hml, hown, hts, hXs, hbl, hlocks, hgv⟩ := id C0
  have hts2 : ∀ w ∈ wsL, w.before #[Value.ref b] s = true := fun w hw => hts w (wsL_in w hw)
  have hC : CallFix p m c cL_law 8 s #[Value.ref b] wsL RL := ⟨hx, hb, hml, hown, hts2⟩
  have hs := flat_of_before _ hgv
  have hA : ∀ a : Nat, a < s.heap.size → ¬ (fun x : Nat => s.heap.size ≤ x) a := fun a h => Nat.not_le.mpr h
  obtain ⟨tt, ht, hT⟩ := va_Tof (tm := .static "FaultLoom" "SHAPES" "[I") (ty := .int) (N := 74) (f := shF) (A := fun x : Nat => s.heap.size ≤ x) (args := #[Value.ref b]) (s := s) (by decide) (hs _ (by decide +kernel)) (va_eqt (hs _ (by decide +kernel))) (fun j hj => va_eqt (hs _ (tabE j hj))) hA
  have hZ : rSh (fun x : Nat => s.heap.size ≤ x) s s.heap := ⟨tt, va_Zref (hts _ tb_lays) (hts2 (Cond.initialized RX8) (List.mem_cons_of_mem _ wa_0_1)) ht hA, hT⟩
  obtain ⟨c0, iS0, hKn0⟩ := u_known (C := RX0) (T := TX0) (N := 4) (n := 4) hts2 (fun w h => List.mem_cons_of_mem _ (inA0 w h)) (hts2 _ (List.mem_cons_of_mem _ wa_0_221))
  obtain ⟨c1, iS1, hKn1⟩ := u_known (C := RX1) (T := TX1) (N := 4) (n := 4) hts2 (fun w h => List.mem_cons_of_mem _ (inA1 w h)) (hts2 _ (List.mem_cons_of_mem _ wa_0_20))
  obtain ⟨c2, iS2, hKn2⟩ := u_known (C := RX2) (T := TX2) (N := 1) (n := 1) hts2 (fun w h => List.mem_cons_of_mem _ (inA2 w h)) (hts2 _ (List.mem_cons_of_mem _ wa_0_79))
  obtain ⟨c3, iS3, hKn3⟩ := u_known (C := RX3) (T := TX3) (N := 5) (n := 5) hts2 (fun w h => List.mem_cons_of_mem _ (inA3 w h)) (hts2 _ (List.mem_cons_of_mem _ wa_0_45))
  obtain ⟨c4, iS4, hKn4⟩ := u_known (C := RX4) (T := TX4) (N := 16) (n := 16) hts2 (fun w h => List.mem_cons_of_mem _ (inA4 w h)) (hts2 _ (List.mem_cons_of_mem _ wa_0_73))
  obtain ⟨c5, iS5, hKn5⟩ := u_known (C := RX5) (T := TX5) (N := 4) (n := 4) hts2 (fun w h => List.mem_cons_of_mem _ (inA5 w h)) (hts2 _ (List.mem_cons_of_mem _ wa_0_183))
  obtain ⟨c6, iS6, hKn6⟩ := u_known (C := RX6) (T := TX6) (N := 8) (n := 8) hts2 (fun w h => List.mem_cons_of_mem _ (inA6 w h)) (hts2 _ (List.mem_cons_of_mem _ wa_1_225))
  obtain ⟨c7, iS7, hKn7⟩ := u_known (C := RX7) (T := TX7) (N := 2) (n := 2) hts2 (fun w h => List.mem_cons_of_mem _ (inA7 w h)) (hts2 _ (List.mem_cons_of_mem _ wa_0_89))
  obtain ⟨c8, iS8, hKn8⟩ := u_known (C := RX8) (T := TX8) (N := 3) (n := 3) hts2 (fun w h => List.mem_cons_of_mem _ (inA8 w h)) (hts2 _ (List.mem_cons_of_mem _ wa_0_12))
  obtain ⟨c9, iS9, hKn9⟩ := u_known (C := RX9) (T := TX9) (N := 34) (n := 34) hts2 (fun w h => List.mem_cons_of_mem _ (inA9 w h)) (hts2 _ (List.mem_cons_of_mem _ wa_2_143))
  obtain ⟨q0, hq0⟩ := arr_of (ty := .int) (fun _ h => by cases h) (hts2 _ (List.mem_cons_of_mem _ wa_0_68))
  obtain ⟨q1, hq1⟩ := arr_of (ty := .long) (fun _ h => by cases h) (hts2 _ (List.mem_cons_of_mem _ wa_0_69))
  obtain ⟨q2, hq2⟩ := arr_of (ty := .float) (fun _ h => by cases h) (hts2 _ (List.mem_cons_of_mem _ wa_0_70))
  obtain ⟨q3, hq3⟩ := arr_of (ty := .double) (fun _ h => by cases h) (hts2 _ (List.mem_cons_of_mem _ wa_0_71))
  obtain ⟨q4, hq4⟩ := arr_ob (C := RX5) (hts _ tb_ao5)
  obtain ⟨q5, hq5⟩ := arr_ob (C := RX0) (hts _ tb_ao0)
  obtain ⟨q6, hq6⟩ := arr_ob (C := RX6) (hts _ tb_ao6)
  obtain ⟨dC, dI, hKc⟩ : ∃ (dC : Nat → ClassId) (dI : Nat → Nat → Nat), ∀ (k : Nat) (q : vw_C), vwCl[k]? = some q → u_Kn s q.1 q.2.1 q.2.2 (dC k) (dI k) := by
    refine ⟨fun k => match k with | 0 => c0 | 1 => c1 | 2 => c2 | 3 => c3 | 4 => c4 | 5 => c5 | 6 => c6 | 7 => c7 | 8 => c8 | _ => c9, fun k => match k with | 0 => iS0 | 1 => iS1 | 2 => iS2 | 3 => iS3 | 4 => iS4 | 5 => iS5 | 6 => iS6 | 7 => iS7 | 8 => iS8 | _ => iS9, ?_⟩
    intro k q hq
    match k, hq with
    | 0, hq => cases hq; exact hKn0
    | 1, hq => cases hq; exact hKn1
    | 2, hq => cases hq; exact hKn2
    | 3, hq => cases hq; exact hKn3
    | 4, hq => cases hq; exact hKn4
    | 5, hq => cases hq; exact hKn5
    | 6, hq => cases hq; exact hKn6
    | 7, hq => cases hq; exact hKn7
    | 8, hq => cases hq; exact hKn8
    | 9, hq => cases hq; exact hKn9
    | k + 10, hq => simp [vwCl] at hq
  obtain ⟨q, hqa⟩ : ∃ q : Nat → ClassId, ∀ (k : Nat) (z : ClassId × FieldType), (qT q)[k]? = some z → ArrOfT s z.1 z.2 ∧ va_RA s z.1 z.2 := by
    refine ⟨fun k => match k with | 0 => q0 | 1 => q1 | 2 => q2 | 3 => q3 | 4 => q4 | 5 => q5 | _ => q6, ?_⟩
    intro k z hz
    match k, hz with
    | 0, hz => cases hz; exact hq0
    | 1, hz => cases hz; exact hq1
    | 2, hz => cases hz; exact hq2
    | 3, hz => cases hz; exact hq3
    | 4, hz => cases hz; exact hq4
    | 5, hz => cases hz; exact hq5
    | 6, hz => cases hz; exact hq6
    | k + 7, hz => simp [qT] at hz
  have hK : rK (dC, dI) q s := ⟨⟨hKc, hqa⟩, va_Nw.of rfl (hts _ tb_nest), va_AO.of (hts _ tb_ao6), va_AO.of (hts _ tb_ao5), va_AO.of (hts _ tb_ao0)⟩
  have hw : rX (dC, dI) q (fun x : Nat => s.heap.size ≤ x) s.heap s wE s.heap [] := ⟨hK, fun i h => h.elim, fun i j h => h.elim, fun i h => h.elim, va_S.rf, fun x h => h⟩
  have hl := lv_entry ([.ref b]) (n := 8) (Nat.le_of_ble_eq_true rfl)
  rw [lg_entry_eq]
  generalize (lg_sl ([.ref b]) ++ List.replicate (8 - (lg_sl ([.ref b])).length) Slot.unset).toArray = ls at hl ⊢
  have hl : lv_has ls 8 [(0, .ref b)] := hl
  have kq : Kp wE wE (fun _ => False) (fun r => r = 0) := Kp.rf
  refine a_new hC hw rk8 in_L_law_8 lk_L_law_7 lki_L_law_7 lkz_L_law_7 0 (fun h => h) (fs := [.null, .null, .null]) (by decide) (Nat.le_of_ble_eq_true rfl) (Nat.le_of_ble_eq_true rfl) dL_law_0 (fun a0 W1 H hup hw => ?_)
  have k0_ := At.n hup
  replace kq := kq.n hup rfl (fun h => h)
  clear hup
  refine lv_dup hx hb dL_law_3 rfl ?_
  refine r_kv hw (r_runI (rest := [.ref a0]) hC hw (c_X8_init l W1 _ k0_.1 k0_.2.2 (fun h => by rcases kq.2 1 h with q | q <;> first | exact q | exact absurd q (by omega)) (fun h => by rcases kq.2 2 h with q | q <;> first | exact q | exact absurd q (by omega)) (fun h => by rcases kq.2 3 h with q | q <;> first | exact q | exact absurd q (by omega)) (fun h => by rcases kq.2 4 h with q | q <;> first | exact q | exact absurd q (by omega)) (fun h => by rcases kq.2 5 h with q | q <;> first | exact q | exact absurd q (by omega)) (fun h => by rcases kq.2 6 h with q | q <;> first | exact q | exact absurd q (by omega)) (fun h => by rcases kq.2 7 h with q | q <;> first | exact q | exact absurd q (by omega)) (fun h => by rcases kq.2 8 h with q | q <;> first | exact q | exact absurd q (by omega)) (fun h => by rcases kq.2 9 h with q | q <;> first | exact q | exact absurd q (by omega)) (fun h => by rcases kq.2 10 h with q | q <;> first | exact q | exact absurd q (by omega)) (fun h => by rcases kq.2 11 h with q | q <;> first | exact q | exact absurd q (by omega)) (fun h => by rcases kq.2 12 h with q | q <;> first | exact q | exact absurd q (by omega)) (fun h => by rcases kq.2 13 h with q | q <;> first | exact q | exact absurd q (by omega)) (fun h => by rcases kq.2 14 h with q | q <;> first | exact q | exact absurd q (by omega))) 0 gL_law_X8_init rfl rfl rfl lkz_L_law_9 lk_L_law_9 lki_L_law_9 rfl (by decide +kernel) ⟨Nat.le_of_ble_eq_true rfl, Nat.le_of_ble_eq_true rfl⟩ rfl hl.1 (by rw [k0_.2.1]; rfl) (Nat.le_of_ble_eq_true rfl) dL_law_4 ⟨Nat.le_of_ble_eq_true rfl, Nat.le_of_ble_eq_true rfl⟩) (fun W2 H locs hth hw => ?_)
  obtain ⟨kp2, a_z1, a_z2, a_z3, a_z4, a_z5, a_z6, a_z7, a_z8, a_z9, a_z10, a_z11, a_z12, a_z13, a_z14, m0, m1, m2, m3, m4, m5, m6, m7, m8, m9, m10, m11, m12, m13, m14⟩ := hth
  have e0 : a0 = W2.1 0 := k0_.2.1.symm.trans m0.2.1.symm
  replace hw := xInit m0 m1 m2 m3 m4 m5 m6 m7 m8 m9 m10 m11 m12 m13 m14 hw
  generalize W2.1 = ad at hw e0
  subst e0
  refine lv_astore_n (lv' := [(1, .ref (ad 0)), (0, .ref b)]) hx hb dL_law_7 rfl hl (by decide) rfl (fun ls hl => ?_)
  replace hw := wZ_of hw
  have kq : Kp (wZ q ad) (wZ q ad) (fun _ => False) (fun r => r = 0) := Kp.rf
  have nz : Nl (wZ q ad) 0 := fun h => absurd h.1 (by omega)
  refine a_new hC hw rk9 in_L_law_9 lk_L_law_10 lki_L_law_10 lkz_L_law_10 0 nz (fs := [.null, .int 0, .null, .int 0, .null, .null, .null, .null, .null, .null, .null, .null, .null, .null, .null, .null, .null, .int 0, .int 0, .int 0, .int 0, .null, .int 0, .null, .int 0, .int 0, .int 0, .int 0, .int 0, .int 0, .int 0, .int 0, .int 0, .int 0]) (by decide) (Nat.le_of_ble_eq_true rfl) (Nat.le_of_ble_eq_true rfl) dL_law_8 (fun a1 V H hup hw => ?_)
  have k1_ := At.n hup
  replace kq := kq.n hup rfl nz
  clear hup
  refine lv_dup hx hb dL_law_11 rfl ?_
  refine r_kv hw (r_runI (rest := [.ref a1]) hC hw (c_X9_init l V _ k1_.1 k1_.2.2 (fun h => by rcases kq.2 1 h with q | q <;> first | exact absurd q.1 (by omega) | exact absurd q (by omega)) (fun h => by rcases kq.2 2 h with q | q <;> first | exact absurd q.1 (by omega) | exact absurd q (by omega)) (fun h => by rcases kq.2 3 h with q | q <;> first | exact absurd q.1 (by omega) | exact absurd q (by omega)) (fun h => by rcases kq.2 4 h with q | q <;> first | exact absurd q.1 (by omega) | exact absurd q (by omega)) (fun h => by rcases kq.2 5 h with q | q <;> first | exact absurd q.1 (by omega) | exact absurd q (by omega)) (fun h => by rcases kq.2 6 h with q | q <;> first | exact absurd q.1 (by omega) | exact absurd q (by omega)) (fun h => by rcases kq.2 7 h with q | q <;> first | exact absurd q.1 (by omega) | exact absurd q (by omega)) (fun h => by rcases kq.2 8 h with q | q <;> first | exact absurd q.1 (by omega) | exact absurd q (by omega)) (fun h => by rcases kq.2 9 h with q | q <;> first | exact absurd q.1 (by omega) | exact absurd q (by omega)) (fun h => by rcases kq.2 10 h with q | q <;> first | exact absurd q.1 (by omega) | exact absurd q (by omega)) (fun h => by rcases kq.2 11 h with q | q <;> first | exact absurd q.1 (by omega) | exact absurd q (by omega)) (fun h => by rcases kq.2 12 h with q | q <;> first | exact absurd q.1 (by omega) | exact absurd q (by omega)) (fun h => by rcases kq.2 13 h with q | q <;> first | exact absurd q.1 (by omega) | exact absurd q (by omega)) (fun h => by rcases kq.2 14 h with q | q <;> first | exact absurd q.1 (by omega) | exact absurd q (by omega)) (fun h => by rcases kq.2 15 h with q | q <;> first | exact absurd q.1 (by omega) | exact absurd q (by omega)) (fun h => by rcases kq.2 16 h with q | q <;> first | exact absurd q.1 (by omega) | exact absurd q (by omega)) (fun h => by rcases kq.2 17 h with q | q <;> first | exact absurd q.1 (by omega) | exact absurd q (by omega))) 0 gL_law_X9_init rfl rfl rfl lkz_L_law_12 lk_L_law_12 lki_L_law_12 rfl (by decide +kernel) ⟨Nat.le_of_ble_eq_true rfl, Nat.le_of_ble_eq_true rfl⟩ rfl hl.1 (by rw [k1_.2.1]; rfl) (Nat.le_of_ble_eq_true rfl) dL_law_12 ⟨Nat.le_of_ble_eq_true rfl, Nat.le_of_ble_eq_true rfl⟩) (fun V2 H locs hth hw => ?_)
  obtain ⟨kp2, b_z1, b_z2, b_z3, b_z4, b_z5, b_z6, b_z7, b_z8, b_z9, b_z10, b_z11, b_z12, b_z13, b_z14, b_z15, b_z16, b_z17, n0, n1, n2, n3, n4, n5, n6, n7, n8, n9, n10, n11, n12, n13, n14, n15, n16, n17⟩ := hth
  have e1 : a1 = V2.1 0 := k1_.2.1.symm.trans n0.2.1.symm
  have hm := mInit n0 n1 n2 n3 n4 n5 n6 n7 n8 n9 n10 n11 n12 n13 n14 n15 n16 n17 hw
  have hold : ∀ i, lvX k0 i → V2.2.1 (2000 + i) ∧ V2.1 (2000 + i) = ad i ∧ V2.2.2 (2000 + i) = exX q ad k0 τ0 i := by
    intro i hi
    have hz : (wZ q ad).2.1 (2000 + i) := ⟨by omega, by rw [show 2000 + i - 2000 = i by omega]; exact hi⟩
    have z := kq.1 _ hz
    have z2 := kp2.1 _ z.1
    refine ⟨z2.1, z2.2.1.trans (z.2.1.trans ?_), (z2.2.2 (by omega)).trans ((z.2.2 (fun h => h)).trans ?_)⟩
    · show ad (2000 + i - 2000) = _; rw [show 2000 + i - 2000 = i by omega]
    · show exX q ad k0 τ0 (2000 + i - 2000) = _; rw [show 2000 + i - 2000 = i by omega]
  have hX : rX (dC, dI) q (fun x : Nat => s.heap.size ≤ x) s.heap s (wX q ad k0 τ0) H locs := hw.re (fun i => 2000 + i) (fun i j _ _ e => by have e : 2000 + i = 2000 + j := e; omega) (fun i hi => (hold i hi).1) (fun i hi => (hold i hi).2.1.symm) (fun i hi => (hold i hi).2.2.symm)
  have hdj : dj (wX q ad k0 τ0) (wM q V2.1 k0 t0) := by
    intro i j hi hj e
    have hj : j < 18 := hj
    have e2 : V2.1 (2000 + i) = V2.1 j := (hold i hi).2.1.trans e
    have hjl : V2.2.1 j := by
      match j, hj with
      | 0, _ => exact n0.1
      | 1, _ => exact n1.1
      | 2, _ => exact n2.1
      | 3, _ => exact n3.1
      | 4, _ => exact n4.1
      | 5, _ => exact n5.1
      | 6, _ => exact n6.1
      | 7, _ => exact n7.1
      | 8, _ => exact n8.1
      | 9, _ => exact n9.1
      | 10, _ => exact n10.1
      | 11, _ => exact n11.1
      | 12, _ => exact n12.1
      | 13, _ => exact n13.1
      | 14, _ => exact n14.1
      | 15, _ => exact n15.1
      | 16, _ => exact n16.1
      | 17, _ => exact n17.1
      | j + 18, h => exact absurd h (by omega)
    have := hw.2.2.1 _ _ (hold i hi).1 hjl e2
    omega
  generalize V2.1 = am at hm hdj e1
  subst e1
  refine lv_astore_n (lv' := [(2, .ref (am 0)), (1, .ref (ad 0)), (0, .ref b)]) hx hb dL_law_15 rfl hl (by decide) rfl (fun ls hl => ?_)
  refine lv_iconst (v := 0) hx hb dL_law_16 (by decide) ?_
  refine lv_istore_n (lv' := [(3, .int 0), (2, .ref (am 0)), (1, .ref (ad 0)), (0, .ref b)]) hx hb dL_law_17 rfl hl (by decide) rfl (fun ls hl => ?_)
  refine W.widen (k := 33 + 240 * 0) (n := 3835 + 2640 * 0) (by omega) (by omega) ?_
  exact law_loop hC hr hlocks hL hXs hbl (Nat.not_le.mpr hbl) hZ (L / 5) 0 0 ad am k0 t0 τ0 0 _ _ _ nI_0.symm (by omega) (INV_0 _) R8_0 RL_0 (PR_0 ad) WT_0 hX hm hdj (lv_sub hl [0, 3, 2, 1] rfl)
-- ===== YOUR PART ENDS =====
set_option maxHeartbeats 4000000 in
theorem lw_walk (l : Launch) (b : Addr) (xs : List Int32) : MetFree l x (headSpec (Jvm.Cond.code x code maxLocals ret :: tables_1) room_1) (lw_P b xs) (fun _ _ _ _ _ => True) lw_Q := by
  refine MetFree.of_bodyS (code := code) (maxLocals := maxLocals) (ret := ret) (by decide) ?_ ?_
  · intro args s m h hn
    obtain ⟨meth, c, h1, h2, h3, h4, h5, h6, -, -⟩ := Cond.code_spec hn (atoms_spec (ws := Jvm.Cond.code x code maxLocals ret :: tables_1) h _ List.mem_cons_self)
    exact ⟨meth, c, h1, h2, h3, h4, h5, h6⟩
  · intro p e s m args below meth c s₁ B hml0 hP _
    obtain ⟨rfl, hx, hbd, hgv⟩ := hP
    obtain ⟨scr, harrAt, hlist, hof, hsmall⟩ := hx
    obtain ⟨hcb, hkn, -, -⟩ := State.arrayAt?_spec harrAt
    have hown : s.vm.findClass R_law = some m.cls := findClass_of_methodNamed B.named
    have hts0 : ∀ c ∈ (Jvm.Cond.code x code maxLocals ret :: tables_1), c.before #[Value.ref b] s = true := atoms_spec (ws := Jvm.Cond.code x code maxLocals ret :: tables_1) B.pre
    have hts : ∀ w ∈ lw_tbl, w.before #[Value.ref b] s = true := k2_hts_sels lw_privs (fun w hw => hts0 w (List.mem_cons_of_mem _ hw)) lw_privs_ok
    have hml : c.maxLocals = 8 := B.maxLocals_eq (hts0 _ List.mem_cons_self)
    have X₀ : Stand p l e room_1 s m #[Value.ref b] below meth c s₁ [] 0 0 := Stand.of_body B
    have hh0 : s₁.heap = s.heap := by rw [B.state]; rfl
    have hsz : scr.slots.size = xs.length := by rw [← Array.length_toList, hlist, List.length_map]
    have hval : ∀ j : Nat, j < xs.length → scr.slots[j]? = some (.int (xs.getD j 0)) := fun j hj => by
      rw [← Array.getElem?_toList, hlist]
      simp [hj]
    have hbl : b < s.heap.size := (Array.getElem?_eq_some_iff.mp hcb).1
    have hX : va_X b xs.length (fun j => xs.getD j 0) s s.heap := ⟨scr, hcb, hof, hkn, hsz, hval⟩
    have K : W p l e room_1 s m #[Value.ref b] below meth c s₁.heap [] 0 0 (lw_Z below #[Value.ref b] s) (entryFrame m ([Value.ref b] : List Value).toArray 8) := by
      rw [hh0]
      exact whole_start l hbd ⟨B.exec, B.bytes, B.returns, hml, hown, hts, hX, hbl, B.notSynchronized, hgv⟩
    obtain ⟨t, a1, o, b1, b2, b3⟩ := K s₁ rfl X₀
    exact ⟨t, o, a1, b1, b2, b3⟩
theorem lw_pre_spec {args : Array Value} {s : State} (h : (Jvm.Cond.and given_1 narrow_1).before args s = true) (hr : rest_1_c.before args s = true) : ∃ (b : Addr) (xs : List Int32), lw_P b xs args s := by
  have hs := flat_of_before _ h
  have hq := flat_of_before _ hr
  have hc : (Cond.count 1).before args s = true := hs _ (by decide +kernel)
  have harr : (Cond.arrayOf (.arg 0) .int).before args s = true := hs _ (by decide +kernel)
  have hle : (Cond.le (.length (.arg 0)) (.int 2560)).before args s = true := hs _ (by decide +kernel)
  have hlen : (Cond.isInt (.length (.arg 0))).before args s = true := hq _ (by decide +kernel)
  have hall : (Cond.all (.arg 0) (.isInt (.elem (.arg 0) (.index 0)))).before args s = true := hq _ (by decide +kernel)
  obtain ⟨b, xs, hb, hx⟩ := State.ints_of_pre rfl harr hlen hall
  have hsm : xs.length < 2 ^ 31 := hx.choose_spec.2.2.2
  have hev : (Term.length (.arg 0)).eval args s none [] s = some (.int xs.length.toInt32) := hx.length_eval hb
  have hv := Cond.le_ints hev (show (Term.int 2560).eval args s none [] s = some (.int 2560) from rfl)
  have hd : xs.length.toInt32 ≤ 2560 := by
    simpa [Cond.before, Cond.holds, hv] using hle
  have hN : xs.length ≤ 2560 := (Int32.ofNat_le_ofNat hsm (by decide)).mp (show Int32.ofNat xs.length ≤ Int32.ofNat 2560 from hd)
  exact ⟨b, xs, Cond.one_arg hc (show args[0]? = some (.ref b) from hb), hx, hN, h⟩
theorem lw_comes (l : Launch) : Comes l x (Jvm.Cond.code x code maxLocals ret :: tables_1) room_1 (fun tb e args s => Calls_1 tb e args s ∧ rest_1 tb e args s ∧ Pre_1 tb e args s)
    (fun _ _ args s o t => lw_Q args s o t) := by
  intro p e ha hc hk s m args below hf hfit hheap happ hpre
  obtain ⟨b, xs, hP⟩ := lw_pre_spec hpre.2.2 hpre.2.1
  obtain ⟨k, o, h1, h2, h3, hQ⟩ := lw_walk l b xs p e ha hc hk s m args below hf ((Spec.applies_iff_loose hf).mp happ).1 hP trivial
  exact ⟨k, o, h1, h2, h3, hQ⟩
theorem lw_frame {s t : State} {o : Outcome} {args : Array Value} (h : State.butDraws s t lw_cs (fun t1 => Framed s o t1 [] 600000 7302250)) :
    State.butDraws s t [Jvm.Choice.named "NaN.bits"] (fun t1 => Framed s o t1 (fieldLocs frame_1_writes args s ++ arrayLocs frame_1_arrays args s ++ staticLocs frame_1_statics s) 600000 7302250) := h
theorem lw_limb (L : Cond) (hL : ∀ (args : Array Value) (s t : State), L.after args s (.returned (some (.int 1))) t = true) :
    ArmFor flags0 classFile x code maxLocals ret World_1 tables_1 room_1 Calls_1 rest_1 Pre_1
      (fun tb e a s o t => postC L tb e a s o t ∧ State.butDraws s t [Jvm.Choice.named "NaN.bits"] (fun t1 => Framed s o t1 (fieldLocs frame_1_writes a s ++ arrayLocs frame_1_arrays a s ++ staticLocs frame_1_statics s) 600000 7302250)) := by
  intro l _ _ _ p e ha hc hk s m args below hf hfit hheap happ hpre
  obtain ⟨k, o, h1, h2, h3, rfl, hF⟩ := lw_comes l p e ha hc hk s m args below hf hfit hheap happ hpre
  exact ⟨k, _, h1, h2, h3, hL args s _, lw_frame hF⟩
theorem i_vc : Claimed_1_1 ∧ Claimed_1_2 := ⟨lw_limb limb_1_1 (fun args s t => by simp [limb_1_1, Cond.after, Cond.holds, Cond.value]), lw_limb limb_1_2 (fun args s t => Cond.after_iff.mpr (by
  first | (rw [show limb_1_2 = Cond.eq .result (.int 1) from rfl, Cond.eq_ints (x := 1) (y := 1) rfl rfl]; simp; done) | (simp [limb_1_2, Cond.value, Term.eval]; done)))⟩

