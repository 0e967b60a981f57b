def R_law : String := "FaultLoomLaw"
def lw_P (b : Addr) (xs : List Int32) (args : Array Value) (s : State) : Prop := args = #[.ref b] ∧ s.IntsAt b xs ∧ xs.length ≤ 2560 ∧ (Jvm.Cond.and given_1 narrow_1).before args s = true
/-- what a walk over the start with the record d0 says of its end, said of the start itself -/
theorem lw_closed {s t : State} {o : Outcome} {d0 : Drawn} {L : List Loc} {k n : Nat} (hd0 : s.drawn.sameBut d0 lw_cs) (hv : ∃ v, o = .returned v) (hW : (s.setDrawn d0).WarmedH t.vm) (hs : (s.setDrawn d0).sameButNew ({ t with vm := s.vm } : State) L k n) : State.butDraws s t lw_cs (fun t1 => Framed s o t1 L k n) := by
  have h2 : t.drawn = d0 := congrArg State.drawn hs.1
  refine ⟨⟨hv, hW, State.sameButNew.setDrawn hs s.drawn⟩, ?_, by decide⟩
  rw [h2]
  exact hd0
def lw_Q (_ : Array Value) (s : State) (o : Outcome) (t : State) : Prop := o = .returned (some (.int 1)) ∧ State.butDraws s t lw_cs (fun t1 => Framed s o t1 [] 600000 7302250)
def lw_Z (below : List Frame) (a : Array Value) (s : State) : State → Prop := fun t => ∃ o, t.status = .running ∧ Ended t below o ∧ lw_Q a s o t
/-- the law's own end, with 1 on the stack, nothing written that was there before, its room as the claim has it; d0: the record of draws at this point (at the entry s.drawn: begin with 'refine W.base ?_' and 'have hd0 := Drawn.sameBut.refl s.drawn lw_cs') -/
theorem lw_ret {p : Program} {l : Launch} {e : Env} {s : State} {m : MethodId} {below : List Frame} {meth : Method} {c : Code} {b : Nat} {d0 : Drawn} (hd0 : s.drawn.sameBut d0 lw_cs) (hx : p.tables.exec = Jvm.exec) (hb : c.code = code) (hr : meth.sig.returnType = ret) (hlocks : meth.locks = false) {pc : Nat} {H : Heap} {ls : Array Slot} (hdg : decode code pc = .ok (.ireturn, 1)) : W p l e room_1 (s.setDrawn d0) m #[Value.ref b] below meth c H [] 600000 7302250 (lw_Z below #[Value.ref b] s) (F0 m pc ls [.int 1]) := by
  intro T hT X
  obtain ⟨fs, hret, hrun, hended, hW, hframe⟩ := X.leave (v := some (.int 1)) (hlocks := hlocks) (fun h => by rw [hr] at h; cases h)
  have hmeth' : T.vm.method? m = some meth := X.method'
  refine ⟨T.setFrames fs, ?_, .returned (some (.int 1)), hrun, hended, rfl, lw_closed hd0 ⟨_, rfl⟩ hW hframe⟩
  jvm_step X.here [X.here.top, hx, hb, hdg, hmeth', hr, ret, narrow_b1]
  (try refine ⟨rfl, ?_⟩); (try refine ⟨rfl, ?_⟩)
  first | (intro acts; rw [hret _ acts rfl rfl rfl]) | rw [hret _ _ rfl rfl rfl]
  exact Steps.refl _
/-- what holds at the law's entry: the machine, the code, the tables' words (any of lw_tbl by 'hts w (by decide +kernel)'), the script of L ints xs at the cell b, what the Statement gives of the start (any of its parts by flat_of_before) -/
def lw_At (p : Program) (s : State) (m : MethodId) (meth : Method) (c : Code) (b L : Nat) (xs : Nat → Int32) : Prop :=
  p.tables.exec = Jvm.exec ∧ c.code = code ∧ meth.sig.returnType = ret ∧ c.maxLocals = 8 ∧ s.vm.findClass R_law = some m.cls ∧ (∀ w ∈ lw_tbl, w.before #[Value.ref b] s = true) ∧ va_X b L xs s s.heap ∧ b < s.heap.size ∧ meth.locks = false ∧ (Jvm.Cond.and given_1 narrow_1).before #[Value.ref b] s = true

theorem out16 {x : Int32} (h0 : ¬ x = 0) (h1 : ¬ x = 1) (h2 : ¬ x = 2) (h3 : ¬ x = 3) (h4 : ¬ x = 4) (h5 : ¬ x = 5) (h6 : ¬ x = 6) (h7 : ¬ x = 7) (h8 : ¬ x = 8) (h9 : ¬ x = 9) (h10 : ¬ x = 10) (h11 : ¬ x = 11) (h12 : ¬ x = 12) (h13 : ¬ x = 13) (h14 : ¬ x = 14) (h15 : ¬ x = 15) (h16 : ¬ x = 16) : x.toInt < 0 ∨ 16 < x.toInt := by
  by_cases q : x < 0
  · exact Or.inl (Int32.lt_iff_toInt_lt.mp q)
  · by_cases q2 : 16 < x
    · exact Or.inr (Int32.lt_iff_toInt_lt.mp q2)
    · obtain ⟨j, hj, e⟩ := nI_of2 (M := 16) (n := 16) (by decide) q (Int32.not_lt.mp q2)
      match j, hj with
      | 0, _ => exact absurd e h0
      | 1, _ => exact absurd e h1
      | 2, _ => exact absurd e h2
      | 3, _ => exact absurd e h3
      | 4, _ => exact absurd e h4
      | 5, _ => exact absurd e h5
      | 6, _ => exact absurd e h6
      | 7, _ => exact absurd e h7
      | 8, _ => exact absurd e h8
      | 9, _ => exact absurd e h9
      | 10, _ => exact absurd e h10
      | 11, _ => exact absurd e h11
      | 12, _ => exact absurd e h12
      | 13, _ => exact absurd e h13
      | 14, _ => exact absurd e h14
      | 15, _ => exact absurd e h15
      | 16, _ => exact absurd e h16
      | j + 17, h => exact absurd h (by omega)
theorem pt_B {B M : Nat} {κ : KS} {th : Int32} (hI : INV B M κ th) (r0 i0 : Int32) : fdB (pointV κ r0 i0) := by
  unfold pointV
  split
  · split
    · split
      · exact hI.i5.2 _ _
      · exact fdB_0
    · split
      · split
        · exact hI.i5.2 _ _
        · exact fdB_0
      · exact fdB_0
  · exact fdB_0
theorem if_B {P : Prop} [Decidable P] {x : UInt64} (h : fdB x) : fdB (if P then x else FP.dconst0) := by
  split
  · exact h
  · exact fdB_0
theorem dself {x : UInt64} (h : fdB x) : Op.cmpValue (FP.dcmp x x) .l = 0 := by
  obtain ⟨s, n, h, _⟩ := h
  rw [fd_order h h, fq_eq]
theorem ls0 (x : Int64) : lg_cmp x x = 0 := by unfold lg_cmp; simp
theorem v6 {B M : Nat} {κ : KS} {th : Int32} (h : INV B M κ th) : ∀ x, vp_in x 720 → ¬ sA κ 6 (aN x) = 0 → vp_in (sA κ 6 (aN x) - 1) 60 := fun x _ h0 => (vr_at (h.i11.1 _) (Nat.le_refl _) h0).1
theorem v8 {B M : Nat} {κ : KS} {th : Int32} (h : INV B M κ th) : ∀ x, vp_in x 60 → ¬ sA κ 8 (aN x) = 0 → vp_in (sA κ 8 (aN x) - 1) 60 := fun x _ h0 => (vr_at (h.i11.2 _) (Nat.le_refl _) h0).1
theorem PR_clear {ad : Nat → Nat} {κ : KS} {τ : TAU} : PR ad (uI (uI (uI κ 0 0) 1 0) 3 0) τ := ⟨⟨0, by decide, rfl, fun k hk => absurd hk (by omega)⟩, 0, by decide, rfl, fun k hk => absurd hk (by omega)⟩
theorem sta_I (κ : KS) : sI (staR κ).2 0 = sI κ 0 ∧ sI (staR κ).2 1 = sI κ 1 := by
  have e : (sl2 (sl κ 8) 4).1 = κ.1 := by rw [sl2_I, sl_I]
  exact ⟨by show (sl2 (sl κ 8) 4).1 0 = _; rw [e], by show (sl2 (sl κ 8) 4).1 1 = _; rw [e]⟩
theorem RL_start {κ : KS} {t : Nat → Int32} {τ : TAU} (hτ : τ.2.2.2 = none) : RLk (staR κ).2 (va_up (va_up t 4 0) 5 0) τ := fun _ => ⟨rfl, hτ⟩
set_option maxHeartbeats 4000000 in
set_option maxRecDepth 100000 in
theorem c_X9_step2 (l : Launch) {D : va_G} {q : Nat → ClassId} {ad : Nat → Nat} {κ : KS} {t : Nat → Int32} (sz : Nat) (n0 : Int32) (hinv0 : pIn n0 0 100 → ∀ i, i < aN n0 → sI (pit (κ, t) i).1 3 = 1 → RS (pit (κ, t) i).1) : Met l yX9_step wsX9_step (rmz 7 155) (va_Pc [.ref (ad 0), .int n0] (rPre D q (wM q ad κ t) sz)) (va_Qi (fun (r : Int32) (u : KS × (Nat → Int32)) => (r, u) = stepR κ t n0) (fun (u : KS × (Nat → Int32)) tt => rPo D (rA (wM q ad κ t) sz) (wM q ad u.1 u.2) tt) (rA (wM q ad κ t) sz)) 0 0 (rA (wM q ad κ t) sz) := by
  refine r_start (cc := cX9_step) (maxL := 3) (ret := (some .int)) (by decide) rfl (Nat.le_of_ble_eq_true rfl) ?_
  intro p e s m below meth c ls hC hr hlk hnm hsz hw hl
  have hx := hC.1
  have hb := hC.2.1
  have hl : lv_has ls 3 [(0, .ref (ad 0)), (1, .int n0)] := hl
  refine lv_aload_n hx hb dX9_step_0 rfl (lv_at hl 0 rfl) ?_
  refine r_get hC hw rk9 in_X9_step_9 0 (wMl 0 (by decide)) wM0 18 (by decide) lk_X9_step_83 (v := .int (sI κ 3)) rfl dX9_step_1 ?_
  refine lv_if_ne (tgt := 9) hx hb dX9_step_4 (by decide) (fun c_1 => ?_) (fun c_1 => ?_)
  · refine lv_iload_n hx hb dX9_step_9 rfl (lv_at hl 1 rfl) ?_
    refine lv_iconst (v := 0) hx hb dX9_step_10 (by decide) ?_
    refine lv_bipush (v := 100) hx hb dX9_step_11 (by decide) ?_
    refine r_ki hw (r_runS (rest := []) hC hw (c_X9_isIn l _ _ n0 0 100) 3 gX9_step_X9_isIn rfl rfl rfl (by decide +kernel) ⟨Nat.le_of_ble_eq_true rfl, Nat.le_of_ble_eq_true rfl⟩ rfl hl.1 rfl (Nat.le_of_ble_eq_true rfl) dX9_step_13 ⟨Nat.le_of_ble_eq_true rfl, Nat.le_of_ble_eq_true rfl⟩) (fun r_3 u_4 H locs h_2 hw => ?_)
    by_cases c_5 : pIn n0 0 100
    · rw [if_pos c_5] at h_2
      subst h_2
      refine lv_if_ne (tgt := 22) hx hb dX9_step_16 (by decide) (fun _ => ?_) (fun c_ => absurd c_ (by decide))
      refine lv_iconst (v := 0) hx hb dX9_step_22 (by decide) ?_
      refine lv_istore_n (lv' := [(2, .int 0), (0, .ref (ad 0)), (1, .int n0)]) hx hb dX9_step_23 rfl hl (by decide) rfl (fun ls hl => ?_)
      have hinv := hinv0 c_5
      obtain ⟨N, hN, hn0⟩ := nI_100 c_5
      refine lp_X9_step hC rfl ⟨rfl, rfl⟩ (κ, t) n0 N hn0 hN (fun i hi h => hinv i (by rw [hn0, show aN (nI N) = N from nI_clamp (by omega)]; exact hi) h) (fun H locs ls hw hl => ?_) N 0 0 H locs ls nI_0.symm (by omega) hw (lv_sub hl [0, 1, 2] rfl)
      refine lv_aload_n hx hb dX9_step_47 rfl (lv_at hl 0 rfl) ?_
      refine r_get hC hw rk9 in_X9_step_9 0 (wMl 0 (by decide)) wM0 18 (by decide) lk_X9_step_83 (v := .int (sI ((pit (κ, t) N).1) 3)) rfl dX9_step_48 ?_
      refine lv_iconst (v := 1) hx hb dX9_step_51 (by decide) ?_
      refine lv_isub hx hb dX9_step_52 ?_
      exact r_iret hC hr hlk hw (pit (κ, t) N) rfl (by unfold stepR; rw [if_neg c_1, if_pos c_5, hn0, show aN (nI N) = N from nI_clamp (by omega)]) (Nat.le_of_ble_eq_true rfl) (Nat.le_of_ble_eq_true rfl) dX9_step_53
    · rw [if_neg c_5] at h_2
      subst h_2
      refine lv_if_ne (tgt := 22) hx hb dX9_step_16 (by decide) (fun c_ => absurd (by decide) c_) (fun _ => ?_)
      refine lv_bipush (v := (-2)) hx hb dX9_step_19 (by decide) ?_
      exact r_iret hC hr hlk hw (κ, t) rfl ((if_neg c_1).trans (if_neg c_5)).symm (Nat.le_of_ble_eq_true rfl) (Nat.le_of_ble_eq_true rfl) dX9_step_21
  · refine lv_iconst (v := (-1)) hx hb dX9_step_7 (by decide) ?_
    exact r_iret hC hr hlk hw (κ, t) rfl (if_pos c_1).symm (Nat.le_of_ble_eq_true rfl) (Nat.le_of_ble_eq_true rfl) dX9_step_8
theorem big5 {I : Int32} {j L : Nat} (hI : I = nI (5 * j)) (hL : L ≤ 2560) (h : L < 5 * j + 5) (hj : 5 * j ≤ L) : nI L - 5 < I := by
  rcases Nat.lt_or_ge L 5 with q | q
  · obtain rfl : j = 0 := by omega
    rw [hI]
    match L, q with
    | 0, _ => decide
    | 1, _ => decide
    | 2, _ => decide
    | 3, _ => decide
    | 4, _ => decide
    | L + 5, h => exact absurd h (by omega)
  · obtain ⟨K, rfl⟩ : ∃ K, L = K + 5 := ⟨L - 5, by omega⟩
    rw [hI, ← nI_add, show nI 5 = (5 : Int32) from rfl, Int32.add_sub_cancel]
    exact nI_lt (by omega) (by omega)
theorem small5 {I : Int32} {j L : Nat} (hI : I = nI (5 * j)) (hL : L ≤ 2560) (h : 5 * j + 5 ≤ L) : ¬ nI L - 5 < I := by
  obtain ⟨K, rfl⟩ : ∃ K, L = K + 5 := ⟨L - 5, by omega⟩
  rw [hI, ← nI_add, show nI 5 = (5 : Int32) from rfl, Int32.add_sub_cancel]
  exact Int32.not_lt.mpr (nI_le (by omega) (by omega))
set_option maxHeartbeats 4000000 in
set_option maxRecDepth 100000 in
theorem law_loop {p : Program} {l : Launch} {e : Env} {s : State} {m : MethodId} {below : List Frame} {meth : Method} {c : Code} {D : va_G} {q : Nat → ClassId} {b L : Nat} {xs : Nat → Int32} (hC : CallFix p m c cL_law 8 s #[Value.ref b] wsL RL) (hr : meth.sig.returnType = ret) (hlocks : meth.locks = false) (hL : L ≤ 2560) (hXs : va_X b L xs s s.heap) (hbl : b < s.heap.size) (hbA : ¬ s.heap.size ≤ b) (hZ : rSh (fun x => s.heap.size ≤ x) s s.heap) : ∀ (n j : Nat) (I : Int32) (ad am : Nat → Nat) (κ : KS) (t : Nat → Int32) (τ : TAU) (M : Nat) (H : Heap) (locs : List Loc) (ls : Array Slot), I = nI (5 * j) → L / 5 = j + n → INV (100 * j) M κ (t 5) → R8 κ → RLk κ t τ → PR ad κ τ → WTk κ τ → rX D q (fun x => s.heap.size ≤ x) s.heap s (wX q ad κ τ) H locs → rX D q (fun x => s.heap.size ≤ x) s.heap s (wM q am κ t) H locs → dj (wX q ad κ τ) (wM q am κ t) → lv_has ls 8 [(3, .int I), (0, .ref b), (1, .ref (ad 0)), (2, .ref (am 0))] → W p l e room_1 s m #[Value.ref b] below meth c H locs (33 + 240 * j) (3835 + 2640 * j) (lw_Z below #[Value.ref b] s) (F0 m 18 ls []) := by
  have hx := hC.1
  have hb := hC.2.1
  intro n
  induction n with
  | zero =>
    intro j I ad am κ t τ M H locs ls hI hj hV h8 hRL hP hWT hw hm hdj hl
    refine lv_iload_n hx hb dL_law_18 rfl (lv_at hl 0 rfl) ?_
    refine lv_aload_n hx hb dL_law_19 rfl (lv_at hl 1 rfl) ?_
    refine va_slen hx hb hXs hbl hbA hw.2.2.2.2.1 dL_law_20 ?_
    refine lv_iconst (v := 5) hx hb dL_law_21 (by decide) ?_
    refine lv_isub hx hb dL_law_22 ?_
    refine lv_icmp_gt (tgt := 680) hx hb dL_law_23 (by decide) (fun _ => ?_) (fun c_ => absurd (big5 hI hL (by omega) (by omega)) c_)
    refine lv_iconst (v := 1) hx hb dL_law_680 (by decide) ?_
    refine va_forget (fun x hx => hw.2.2.2.2.1.2.2 x hx) ?_
    refine W.widen (k := 600000) (n := 7302250) (by omega) (by omega) ?_
    refine W.base ?_
    exact lw_ret (Drawn.sameBut.refl s.drawn lw_cs) hx hb hr hlocks dL_law_681
  | succ n ih =>
    intro j I ad am κ t τ M H locs ls hI hj hV h8 hRL hP hWT hw hm hdj hl
    refine lv_iload_n hx hb dL_law_18 rfl (lv_at hl 0 rfl) ?_
    refine lv_aload_n hx hb dL_law_19 rfl (lv_at hl 1 rfl) ?_
    refine va_slen hx hb hXs hbl hbA hw.2.2.2.2.1 dL_law_20 ?_
    refine lv_iconst (v := 5) hx hb dL_law_21 (by decide) ?_
    refine lv_isub hx hb dL_law_22 ?_
    refine lv_icmp_gt (tgt := 680) hx hb dL_law_23 (by decide) (fun c_ => absurd c_ (small5 hI hL (by omega))) (fun _ => ?_)
    refine lv_aload_n hx hb dL_law_26 rfl (lv_at hl 1 rfl) ?_
    refine lv_iload_n hx hb dL_law_27 rfl (lv_at hl 0 rfl) ?_
    refine va_sld hx hb hXs hbl hbA hw.2.2.2.2.1 (by rw [hI]; exact vp_in_nI (by omega) (by omega)) dL_law_28 ?_
    refine lv_bipush (v := 31) hx hb dL_law_29 (by decide) ?_
    refine lv_iand hx hb dL_law_31 ?_
    obtain ⟨opv, hopv⟩ : ∃ z : Int32, z = xs (aN I) &&& 31 := ⟨_, rfl⟩
    refine r_topv (y := .int opv) (congrArg Value.int hopv.symm) ?_
    clear hopv
    by_cases w_0 : opv = 0
    · subst w_0
      refine lv_tableIn (tgt := 116) hx hb dL_law_32 (by decide) (by decide) (by rfl) (by decide) ?_
      refine lv_aload_n hx hb dL_law_116 rfl (lv_at hl 2 rfl) ?_
      refine lv_aload_n hx hb dL_law_117 rfl (lv_at hl 1 rfl) ?_
      refine lv_iload_n hx hb dL_law_118 rfl (lv_at hl 0 rfl) ?_
      refine lv_iconst (v := 1) hx hb dL_law_119 (by decide) ?_
      refine lv_iadd hx hb dL_law_120 ?_
      refine va_sld hx hb hXs hbl hbA hw.2.2.2.2.1 (by rw [hI, show (1 : Int32) = nI 1 from rfl, nI_add]; exact vp_in_nI (by omega) (by omega)) dL_law_121 ?_
      refine lv_aload_n hx hb dL_law_122 rfl (lv_at hl 1 rfl) ?_
      refine lv_iload_n hx hb dL_law_123 rfl (lv_at hl 0 rfl) ?_
      refine lv_iconst (v := 2) hx hb dL_law_124 (by decide) ?_
      refine lv_iadd hx hb dL_law_125 ?_
      refine va_sld hx hb hXs hbl hbA hw.2.2.2.2.1 (by rw [hI, show (2 : Int32) = nI 2 from rfl, nI_add]; exact vp_in_nI (by omega) (by omega)) dL_law_126 ?_
      refine lv_aload_n hx hb dL_law_127 rfl (lv_at hl 1 rfl) ?_
      refine lv_iload_n hx hb dL_law_128 rfl (lv_at hl 0 rfl) ?_
      refine lv_iconst (v := 3) hx hb dL_law_129 (by decide) ?_
      refine lv_iadd hx hb dL_law_130 ?_
      refine va_sld hx hb hXs hbl hbA hw.2.2.2.2.1 (by rw [hI, show (3 : Int32) = nI 3 from rfl, nI_add]; exact vp_in_nI (by omega) (by omega)) dL_law_131 ?_
      refine lv_aload_n hx hb dL_law_132 rfl (lv_at hl 1 rfl) ?_
      refine lv_iload_n hx hb dL_law_133 rfl (lv_at hl 0 rfl) ?_
      refine lv_iconst (v := 4) hx hb dL_law_134 (by decide) ?_
      refine lv_iadd hx hb dL_law_135 ?_
      refine va_sld hx hb hXs hbl hbA hw.2.2.2.2.1 (by rw [hI, show (4 : Int32) = nI 4 from rfl, nI_add]; exact vp_in_nI (by omega) (by omega)) dL_law_136 ?_
      refine l_ki hw hm hdj (r_runVZ (rest := []) hC hw hZ 0 (c_X8_put (ad := ad) l _ hV (hV.wfa2 hWT) hP hWT t hRL (xs (aN (I + 1))) (xs (aN (I + 2))) (xs (aN (I + 3))) (xs (aN (I + 4)))) rk8 (wXl 0 (by decide)) wXc0 4 gL_law_X8_put rfl rfl rfl (by decide +kernel) ⟨Nat.le_of_ble_eq_true rfl, Nat.le_of_ble_eq_true rfl⟩ rfl hl.1 rfl (Nat.le_of_ble_eq_true rfl) dL_law_137 ⟨show (33 + 240 * j) + 1 ≤ 600000 by omega, show (3835 + 2640 * j) + 4 ≤ 7302250 by omega⟩) (fun r1 u1 H locs p1 hw hm hdj => ?_)
      refine lv_aload_n hx hb dL_law_140 rfl (lv_at hl 3 rfl) ?_
      refine lv_aload_n hx hb dL_law_141 rfl (lv_at hl 1 rfl) ?_
      refine lv_iload_n hx hb dL_law_142 rfl (lv_at hl 0 rfl) ?_
      refine lv_iconst (v := 1) hx hb dL_law_143 (by decide) ?_
      refine lv_iadd hx hb dL_law_144 ?_
      refine va_sld hx hb hXs hbl hbA hw.2.2.2.2.1 (by rw [hI, show (1 : Int32) = nI 1 from rfl, nI_add]; exact vp_in_nI (by omega) (by omega)) dL_law_145 ?_
      refine lv_aload_n hx hb dL_law_146 rfl (lv_at hl 1 rfl) ?_
      refine lv_iload_n hx hb dL_law_147 rfl (lv_at hl 0 rfl) ?_
      refine lv_iconst (v := 2) hx hb dL_law_148 (by decide) ?_
      refine lv_iadd hx hb dL_law_149 ?_
      refine va_sld hx hb hXs hbl hbA hw.2.2.2.2.1 (by rw [hI, show (2 : Int32) = nI 2 from rfl, nI_add]; exact vp_in_nI (by omega) (by omega)) dL_law_150 ?_
      refine lv_aload_n hx hb dL_law_151 rfl (lv_at hl 1 rfl) ?_
      refine lv_iload_n hx hb dL_law_152 rfl (lv_at hl 0 rfl) ?_
      refine lv_iconst (v := 3) hx hb dL_law_153 (by decide) ?_
      refine lv_iadd hx hb dL_law_154 ?_
      refine va_sld hx hb hXs hbl hbA hw.2.2.2.2.1 (by rw [hI, show (3 : Int32) = nI 3 from rfl, nI_add]; exact vp_in_nI (by omega) (by omega)) dL_law_155 ?_
      refine lv_aload_n hx hb dL_law_156 rfl (lv_at hl 1 rfl) ?_
      refine lv_iload_n hx hb dL_law_157 rfl (lv_at hl 0 rfl) ?_
      refine lv_iconst (v := 4) hx hb dL_law_158 (by decide) ?_
      refine lv_iadd hx hb dL_law_159 ?_
      refine va_sld hx hb hXs hbl hbA hw.2.2.2.2.1 (by rw [hI, show (4 : Int32) = nI 4 from rfl, nI_add]; exact vp_in_nI (by omega) (by omega)) dL_law_160 ?_
      refine l_ki hm hw hdj.symm (r_runV (rest := [.int r1]) hC hm 0 (c_X9_put (ad := am) (t := t) l _ (xs (aN (I + 1))) (xs (aN (I + 2))) (xs (aN (I + 3))) (xs (aN (I + 4))) (let ⟨mn, h1, h2, _⟩ := hV.i0; ⟨mn, h1, h2⟩)) rk9 (wMl 0 (by decide)) wM0 4 gL_law_X9_put rfl rfl rfl (by decide +kernel) ⟨Nat.le_of_ble_eq_true rfl, Nat.le_of_ble_eq_true rfl⟩ rfl hl.1 rfl (Nat.le_of_ble_eq_true rfl) dL_law_161 ⟨show ((33 + 240 * j) + 1) + 0 ≤ 600000 by omega, show ((3835 + 2640 * j) + 4) + 0 ≤ 7302250 by omega⟩) (fun r2 u2 H locs p2 hm hw hdj => ?_)
      replace hdj := hdj.symm
      obtain ⟨q1, hRL2, hP2, hWT2, hag⟩ := p1
      obtain ⟨κ2, τ2, ad2⟩ := u1
      dsimp only at q1 hRL2 hP2 hWT2 hag hw hdj
      have qq := q1.trans p2.symm
      obtain ⟨rfl, rfl⟩ := Prod.mk.inj qq
      have hV2 := INV_put hV h8 (xs (aN (I + 1))) (xs (aN (I + 2))) (xs (aN (I + 3))) (xs (aN (I + 4)))
      rw [← q1] at hV2
      obtain ⟨hV2, h82⟩ := hV2
      dsimp only at hV2 h82 hm hw hdj
      have g0 : ad 0 = ad2 0 := (hag 0 (by decide)).symm
      refine lv_icmp_eq (tgt := 674) hx hb dL_law_164 (by decide) (fun _ => ?_) (fun c_ => absurd rfl c_)
      refine W.widen (k := 33 + 240 * (j + 1)) (n := 3835 + 2640 * (j + 1)) (by omega) (by omega) ?_
      refine lv_iinc (v := I + 5) (lv' := [(3, .int (I + 5)), (0, .ref b), (1, .ref (ad 0)), (2, .ref (am 0))]) hx hb dL_law_674 hl (k := 0) rfl (by first | rfl | decide) (by decide) rfl (fun ls hl => ?_)
      refine lv_goto (tgt := 18) hx hb dL_law_677 (by decide) ?_
      rw [g0] at hl
      exact ih (j + 1) (I + 5) ad2 am κ2 t τ2 M _ _ _ (by rw [hI, show (5 : Int32) = nI 5 from rfl, nI_add]; congr 1) (by omega) (hV2.b (by omega)) h82 hRL2 hP2 hWT2 hw hm hdj (lv_sub hl [0, 1, 2, 3] rfl)
    by_cases w_1 : opv = 1
    · subst w_1
      refine lv_tableIn (tgt := 169) hx hb dL_law_32 (by decide) (by decide) (by rfl) (by decide) ?_
      refine lv_aload_n hx hb dL_law_169 rfl (lv_at hl 2 rfl) ?_
      refine lv_aload_n hx hb dL_law_170 rfl (lv_at hl 1 rfl) ?_
      refine lv_iload_n hx hb dL_law_171 rfl (lv_at hl 0 rfl) ?_
      refine lv_iconst (v := 1) hx hb dL_law_172 (by decide) ?_
      refine lv_iadd hx hb dL_law_173 ?_
      refine va_sld hx hb hXs hbl hbA hw.2.2.2.2.1 (by rw [hI, show (1 : Int32) = nI 1 from rfl, nI_add]; exact vp_in_nI (by omega) (by omega)) dL_law_174 ?_
      refine lv_aload_n hx hb dL_law_175 rfl (lv_at hl 1 rfl) ?_
      refine lv_iload_n hx hb dL_law_176 rfl (lv_at hl 0 rfl) ?_
      refine lv_iconst (v := 2) hx hb dL_law_177 (by decide) ?_
      refine lv_iadd hx hb dL_law_178 ?_
      refine va_sld hx hb hXs hbl hbA hw.2.2.2.2.1 (by rw [hI, show (2 : Int32) = nI 2 from rfl, nI_add]; exact vp_in_nI (by omega) (by omega)) dL_law_179 ?_
      refine lv_aload_n hx hb dL_law_180 rfl (lv_at hl 1 rfl) ?_
      refine lv_iload_n hx hb dL_law_181 rfl (lv_at hl 0 rfl) ?_
      refine lv_iconst (v := 3) hx hb dL_law_182 (by decide) ?_
      refine lv_iadd hx hb dL_law_183 ?_
      refine va_sld hx hb hXs hbl hbA hw.2.2.2.2.1 (by rw [hI, show (3 : Int32) = nI 3 from rfl, nI_add]; exact vp_in_nI (by omega) (by omega)) dL_law_184 ?_
      refine lv_aload_n hx hb dL_law_185 rfl (lv_at hl 1 rfl) ?_
      refine lv_iload_n hx hb dL_law_186 rfl (lv_at hl 0 rfl) ?_
      refine lv_iconst (v := 4) hx hb dL_law_187 (by decide) ?_
      refine lv_iadd hx hb dL_law_188 ?_
      refine va_sld hx hb hXs hbl hbA hw.2.2.2.2.1 (by rw [hI, show (4 : Int32) = nI 4 from rfl, nI_add]; exact vp_in_nI (by omega) (by omega)) dL_law_189 ?_
      refine l_ki hw hm hdj (r_runV (rest := []) hC hw 0 (c_X8_handler (ad := ad) l _ hV (hV.wfa2 hWT) hP hWT t hRL (xs (aN (I + 1))) (xs (aN (I + 2))) (xs (aN (I + 3))) (xs (aN (I + 4)))) rk8 (wXl 0 (by decide)) wXc0 4 gL_law_X8_handler rfl rfl rfl (by decide +kernel) ⟨Nat.le_of_ble_eq_true rfl, Nat.le_of_ble_eq_true rfl⟩ rfl hl.1 rfl (Nat.le_of_ble_eq_true rfl) dL_law_190 ⟨show (33 + 240 * j) + 1 ≤ 600000 by omega, show (3835 + 2640 * j) + 4 ≤ 7302250 by omega⟩) (fun r1 u1 H locs p1 hw hm hdj => ?_)
      refine lv_aload_n hx hb dL_law_193 rfl (lv_at hl 3 rfl) ?_
      refine lv_aload_n hx hb dL_law_194 rfl (lv_at hl 1 rfl) ?_
      refine lv_iload_n hx hb dL_law_195 rfl (lv_at hl 0 rfl) ?_
      refine lv_iconst (v := 1) hx hb dL_law_196 (by decide) ?_
      refine lv_iadd hx hb dL_law_197 ?_
      refine va_sld hx hb hXs hbl hbA hw.2.2.2.2.1 (by rw [hI, show (1 : Int32) = nI 1 from rfl, nI_add]; exact vp_in_nI (by omega) (by omega)) dL_law_198 ?_
      refine lv_aload_n hx hb dL_law_199 rfl (lv_at hl 1 rfl) ?_
      refine lv_iload_n hx hb dL_law_200 rfl (lv_at hl 0 rfl) ?_
      refine lv_iconst (v := 2) hx hb dL_law_201 (by decide) ?_
      refine lv_iadd hx hb dL_law_202 ?_
      refine va_sld hx hb hXs hbl hbA hw.2.2.2.2.1 (by rw [hI, show (2 : Int32) = nI 2 from rfl, nI_add]; exact vp_in_nI (by omega) (by omega)) dL_law_203 ?_
      refine lv_aload_n hx hb dL_law_204 rfl (lv_at hl 1 rfl) ?_
      refine lv_iload_n hx hb dL_law_205 rfl (lv_at hl 0 rfl) ?_
      refine lv_iconst (v := 3) hx hb dL_law_206 (by decide) ?_
      refine lv_iadd hx hb dL_law_207 ?_
      refine va_sld hx hb hXs hbl hbA hw.2.2.2.2.1 (by rw [hI, show (3 : Int32) = nI 3 from rfl, nI_add]; exact vp_in_nI (by omega) (by omega)) dL_law_208 ?_
      refine lv_aload_n hx hb dL_law_209 rfl (lv_at hl 1 rfl) ?_
      refine lv_iload_n hx hb dL_law_210 rfl (lv_at hl 0 rfl) ?_
      refine lv_iconst (v := 4) hx hb dL_law_211 (by decide) ?_
      refine lv_iadd hx hb dL_law_212 ?_
      refine va_sld hx hb hXs hbl hbA hw.2.2.2.2.1 (by rw [hI, show (4 : Int32) = nI 4 from rfl, nI_add]; exact vp_in_nI (by omega) (by omega)) dL_law_213 ?_
      refine l_ki hm hw hdj.symm (r_runV (rest := [.int r1]) hC hm 0 (c_X9_handler (ad := am) (t := t) l _ (xs (aN (I + 1))) (xs (aN (I + 2))) (xs (aN (I + 3))) (xs (aN (I + 4))) (let ⟨mn, h1, h2, _⟩ := hV.i1; ⟨mn, h1, h2⟩)) rk9 (wMl 0 (by decide)) wM0 4 gL_law_X9_handler rfl rfl rfl (by decide +kernel) ⟨Nat.le_of_ble_eq_true rfl, Nat.le_of_ble_eq_true rfl⟩ rfl hl.1 rfl (Nat.le_of_ble_eq_true rfl) dL_law_214 ⟨show ((33 + 240 * j) + 1) + 0 ≤ 600000 by omega, show ((3835 + 2640 * j) + 4) + 0 ≤ 7302250 by omega⟩) (fun r2 u2 H locs p2 hm hw hdj => ?_)
      replace hdj := hdj.symm
      obtain ⟨q1, hRL2, hP2, hWT2, hag⟩ := p1
      obtain ⟨κ2, τ2, ad2⟩ := u1
      dsimp only at q1 hRL2 hP2 hWT2 hag hw hdj
      have qq := q1.trans p2.symm
      obtain ⟨rfl, rfl⟩ := Prod.mk.inj qq
      have hV2 := INV_han hV h8 (xs (aN (I + 1))) (xs (aN (I + 2))) (xs (aN (I + 3))) (xs (aN (I + 4)))
      rw [← q1] at hV2
      obtain ⟨hV2, h82⟩ := hV2
      dsimp only at hV2 h82 hm hw hdj
      have g0 : ad 0 = ad2 0 := (hag 0 (by decide)).symm
      refine lv_icmp_eq (tgt := 674) hx hb dL_law_217 (by decide) (fun _ => ?_) (fun c_ => absurd rfl c_)
      refine W.widen (k := 33 + 240 * (j + 1)) (n := 3835 + 2640 * (j + 1)) (by omega) (by omega) ?_
      refine lv_iinc (v := I + 5) (lv' := [(3, .int (I + 5)), (0, .ref b), (1, .ref (ad 0)), (2, .ref (am 0))]) hx hb dL_law_674 hl (k := 0) rfl (by first | rfl | decide) (by decide) rfl (fun ls hl => ?_)
      refine lv_goto (tgt := 18) hx hb dL_law_677 (by decide) ?_
      rw [g0] at hl
      exact ih (j + 1) (I + 5) ad2 am κ2 t τ2 M _ _ _ (by rw [hI, show (5 : Int32) = nI 5 from rfl, nI_add]; congr 1) (by omega) (hV2.b (by omega)) h82 hRL2 hP2 hWT2 hw hm hdj (lv_sub hl [0, 1, 2, 3] rfl)
    by_cases w_2 : opv = 2
    · subst w_2
      refine lv_tableIn (tgt := 222) hx hb dL_law_32 (by decide) (by decide) (by rfl) (by decide) ?_
      refine lv_aload_n hx hb dL_law_222 rfl (lv_at hl 2 rfl) ?_
      refine l_ki hw hm hdj (r_runV (rest := []) hC hw 0 (c_X8_clear (ad := ad) l _) rk8 (wXl 0 (by decide)) wXc0 0 gL_law_X8_clear rfl rfl rfl (by decide +kernel) ⟨Nat.le_of_ble_eq_true rfl, Nat.le_of_ble_eq_true rfl⟩ rfl hl.1 rfl (Nat.le_of_ble_eq_true rfl) dL_law_223 ⟨show (33 + 240 * j) + 0 ≤ 600000 by omega, show (3835 + 2640 * j) + 0 ≤ 7302250 by omega⟩) (fun r1 u1 H locs p1 hw hm hdj => ?_)
      refine lv_aload_n hx hb dL_law_226 rfl (lv_at hl 3 rfl) ?_
      refine l_ki hm hw hdj.symm (r_runV (rest := [.int r1]) hC hm 0 (c_X9_clear (ad := am) (t := t) l _) rk9 (wMl 0 (by decide)) wM0 0 gL_law_X9_clear rfl rfl rfl (by decide +kernel) ⟨Nat.le_of_ble_eq_true rfl, Nat.le_of_ble_eq_true rfl⟩ rfl hl.1 rfl (Nat.le_of_ble_eq_true rfl) dL_law_227 ⟨show ((33 + 240 * j) + 0) + 0 ≤ 600000 by omega, show ((3835 + 2640 * j) + 0) + 0 ≤ 7302250 by omega⟩) (fun r2 u2 H locs p2 hm hw hdj => ?_)
      replace hdj := hdj.symm
      obtain ⟨rfl, rfl⟩ := p1
      obtain ⟨rfl, rfl⟩ := p2
      dsimp only at hm hw hdj
      have hV2 := INV_clear hV
      refine lv_icmp_eq (tgt := 674) hx hb dL_law_230 (by decide) (fun _ => ?_) (fun c_ => absurd rfl c_)
      refine W.widen (k := 33 + 240 * (j + 1)) (n := 3835 + 2640 * (j + 1)) (by omega) (by omega) ?_
      refine lv_iinc (v := I + 5) (lv' := [(3, .int (I + 5)), (0, .ref b), (1, .ref (ad 0)), (2, .ref (am 0))]) hx hb dL_law_674 hl (k := 0) rfl (by first | rfl | decide) (by decide) rfl (fun ls hl => ?_)
      refine lv_goto (tgt := 18) hx hb dL_law_677 (by decide) ?_
      exact ih (j + 1) (I + 5) ad am _ t τ M _ _ _ (by rw [hI, show (5 : Int32) = nI 5 from rfl, nI_add]; congr 1) (by omega) (hV2.b (by omega)) h8 (fun q => absurd q (show ¬ (0 : Int32) = 1 by decide)) PR_clear hWT hw hm hdj (lv_sub hl [0, 1, 2, 3] rfl)
    by_cases w_3 : opv = 3
    · subst w_3
      refine lv_tableIn (tgt := 235) hx hb dL_law_32 (by decide) (by decide) (by rfl) (by decide) ?_
      refine lv_aload_n hx hb dL_law_235 rfl (lv_at hl 2 rfl) ?_
      refine l_ki hw hm hdj (r_runV (rest := []) hC hw 0 (c_X8_start (ad := ad) l _ hP) rk8 (wXl 0 (by decide)) wXc0 0 gL_law_X8_start rfl rfl rfl (by decide +kernel) ⟨Nat.le_of_ble_eq_true rfl, Nat.le_of_ble_eq_true rfl⟩ rfl hl.1 rfl (Nat.le_of_ble_eq_true rfl) dL_law_236 ⟨show (33 + 240 * j) + 0 ≤ 600000 by omega, show (3835 + 2640 * j) + 0 ≤ 7302250 by omega⟩) (fun r1 u1 H locs p1 hw hm hdj => ?_)
      refine lv_aload_n hx hb dL_law_239 rfl (lv_at hl 3 rfl) ?_
      refine l_ki hm hw hdj.symm (r_runV (rest := [.int r1]) hC hm 0 (c_X9_start (ad := am) (t := t) l _) rk9 (wMl 0 (by decide)) wM0 0 gL_law_X9_start rfl rfl rfl (by decide +kernel) ⟨Nat.le_of_ble_eq_true rfl, Nat.le_of_ble_eq_true rfl⟩ rfl hl.1 rfl (Nat.le_of_ble_eq_true rfl) dL_law_240 ⟨show ((33 + 240 * j) + 0) + 0 ≤ 600000 by omega, show ((3835 + 2640 * j) + 0) + 0 ≤ 7302250 by omega⟩) (fun r2 u2 H locs p2 hm hw hdj => ?_)
      replace hdj := hdj.symm
      obtain ⟨q1, q2⟩ := p1
      obtain ⟨κ2, τ2⟩ := u1
      dsimp only at q1 q2 hw hdj
      rw [staR_eq] at p2
      obtain ⟨e1, e2⟩ := Prod.mk.inj p2
      have e3 : r1 = (staR κ).1 := congrArg Prod.fst q1
      have e4 : κ2 = (staR κ).2 := congrArg Prod.snd q1
      obtain rfl : r2 = r1 := e1.trans e3.symm
      subst e4
      subst e2
      dsimp only at hm hdj hw
      have hV2 := INV_start hV h8
      have hP2 : PR ad (staR κ).2 τ2 := PR_cg hP (sta_I κ).1 (sta_I κ).2 (by rw [q2]) (by rw [q2]) (fun _ _ => rfl)
      refine lv_icmp_eq (tgt := 674) hx hb dL_law_243 (by decide) (fun _ => ?_) (fun c_ => absurd rfl c_)
      refine W.widen (k := 33 + 240 * (j + 1)) (n := 3835 + 2640 * (j + 1)) (by omega) (by omega) ?_
      refine lv_iinc (v := I + 5) (lv' := [(3, .int (I + 5)), (0, .ref b), (1, .ref (ad 0)), (2, .ref (am 0))]) hx hb dL_law_674 hl (k := 0) rfl (by first | rfl | decide) (by decide) rfl (fun ls hl => ?_)
      refine lv_goto (tgt := 18) hx hb dL_law_677 (by decide) ?_
      exact ih (j + 1) (I + 5) ad am _ _ τ2 0 _ _ _ (by rw [hI, show (5 : Int32) = nI 5 from rfl, nI_add]; congr 1) (by omega) (hV2.1.b (by omega)) hV2.2 (RL_start (by rw [q2])) hP2 (fun r hr => by rw [q2] at hr; cases hr) hw hm hdj (lv_sub hl [0, 1, 2, 3] rfl)
    by_cases w_4 : opv = 4
    · subst w_4
      refine lv_tableIn (tgt := 248) hx hb dL_law_32 (by decide) (by decide) (by rfl) (by decide) ?_
      refine lv_aload_n hx hb dL_law_248 rfl (lv_at hl 2 rfl) ?_
      refine lv_aload_n hx hb dL_law_249 rfl (lv_at hl 1 rfl) ?_
      refine lv_iload_n hx hb dL_law_250 rfl (lv_at hl 0 rfl) ?_
      refine lv_iconst (v := 1) hx hb dL_law_251 (by decide) ?_
      refine lv_iadd hx hb dL_law_252 ?_
      refine va_sld hx hb hXs hbl hbA hw.2.2.2.2.1 (by rw [hI, show (1 : Int32) = nI 1 from rfl, nI_add]; exact vp_in_nI (by omega) (by omega)) dL_law_253 ?_
      refine l_ki hw hm hdj (r_runV (rest := []) hC hw 0 (c_X8_step (ad := ad) l _ hV hRL hP hWT (by omega) (xs (aN (I + 1)))) rk8 (wXl 0 (by decide)) wXc0 1 gL_law_X8_step rfl rfl rfl (by decide +kernel) ⟨Nat.le_of_ble_eq_true rfl, Nat.le_of_ble_eq_true rfl⟩ rfl hl.1 rfl (Nat.le_of_ble_eq_true rfl) dL_law_254 ⟨show (33 + 240 * j) + 240 ≤ 600000 by omega, show (3835 + 2640 * j) + 2640 ≤ 7302250 by omega⟩) (fun r1 u1 H locs p1 hw hm hdj => ?_)
      refine lv_aload_n hx hb dL_law_257 rfl (lv_at hl 3 rfl) ?_
      refine lv_aload_n hx hb dL_law_258 rfl (lv_at hl 1 rfl) ?_
      refine lv_iload_n hx hb dL_law_259 rfl (lv_at hl 0 rfl) ?_
      refine lv_iconst (v := 1) hx hb dL_law_260 (by decide) ?_
      refine lv_iadd hx hb dL_law_261 ?_
      refine va_sld hx hb hXs hbl hbA hw.2.2.2.2.1 (by rw [hI, show (1 : Int32) = nI 1 from rfl, nI_add]; exact vp_in_nI (by omega) (by omega)) dL_law_262 ?_
      refine l_ki hm hw hdj.symm (r_runV (rest := [.int r1]) hC hm 0 (c_X9_step2 (ad := am) (t := t) l _ (xs (aN (I + 1))) (INV_rs hV h8 (by omega) (xs (aN (I + 1))))) rk9 (wMl 0 (by decide)) wM0 1 gL_law_X9_step rfl rfl rfl (by decide +kernel) ⟨Nat.le_of_ble_eq_true rfl, Nat.le_of_ble_eq_true rfl⟩ rfl hl.1 rfl (Nat.le_of_ble_eq_true rfl) dL_law_263 ⟨show ((33 + 240 * j) + 240) + 0 ≤ 600000 by omega, show ((3835 + 2640 * j) + 2640) + 0 ≤ 7302250 by omega⟩) (fun r2 u2 H locs p2 hm hw hdj => ?_)
      replace hdj := hdj.symm
      obtain ⟨t', q1, hRL2, hP2, hWT2, hag⟩ := p1
      obtain ⟨κ2, τ2, ad2⟩ := u1
      dsimp only at q1 hRL2 hP2 hWT2 hag hw hdj
      have qq := q1.trans p2.symm
      obtain ⟨rfl, rfl⟩ := Prod.mk.inj qq
      have hV2 := INV_stepR hV h8 (xs (aN (I + 1)))
      rw [← q1] at hV2
      obtain ⟨M2, hV2, h82⟩ := hV2
      dsimp only at hV2 h82 hm hw hdj
      have g0 : ad 0 = ad2 0 := (hag 0 (by decide)).symm
      refine lv_icmp_eq (tgt := 674) hx hb dL_law_266 (by decide) (fun _ => ?_) (fun c_ => absurd rfl c_)
      refine W.widen (k := 33 + 240 * (j + 1)) (n := 3835 + 2640 * (j + 1)) (by omega) (by omega) ?_
      refine lv_iinc (v := I + 5) (lv' := [(3, .int (I + 5)), (0, .ref b), (1, .ref (ad 0)), (2, .ref (am 0))]) hx hb dL_law_674 hl (k := 0) rfl (by first | rfl | decide) (by decide) rfl (fun ls hl => ?_)
      refine lv_goto (tgt := 18) hx hb dL_law_677 (by decide) ?_
      rw [g0] at hl
      exact ih (j + 1) (I + 5) ad2 am κ2 t' τ2 M2 _ _ _ (by rw [hI, show (5 : Int32) = nI 5 from rfl, nI_add]; congr 1) (by omega) (hV2.b (by omega)) h82 hRL2 hP2 hWT2 hw hm hdj (lv_sub hl [0, 1, 2, 3] rfl)
    by_cases w_5 : opv = 5
    · subst w_5
      refine lv_tableIn (tgt := 271) hx hb dL_law_32 (by decide) (by decide) (by rfl) (by decide) ?_
      refine lv_aload_n hx hb dL_law_271 rfl (lv_at hl 2 rfl) ?_
      refine lv_aload_n hx hb dL_law_272 rfl (lv_at hl 1 rfl) ?_
      refine lv_iload_n hx hb dL_law_273 rfl (lv_at hl 0 rfl) ?_
      refine lv_iconst (v := 1) hx hb dL_law_274 (by decide) ?_
      refine lv_iadd hx hb dL_law_275 ?_
      refine va_sld hx hb hXs hbl hbA hw.2.2.2.2.1 (by rw [hI, show (1 : Int32) = nI 1 from rfl, nI_add]; exact vp_in_nI (by omega) (by omega)) dL_law_276 ?_
      refine l_ki hw hm hdj (r_runV (rest := []) hC hw 0 (c_X8_word (ad := ad) l _ hV (xs (aN (I + 1)))) rk8 (wXl 0 (by decide)) wXc0 1 gL_law_X8_word rfl rfl rfl (by decide +kernel) ⟨Nat.le_of_ble_eq_true rfl, Nat.le_of_ble_eq_true rfl⟩ rfl hl.1 rfl (Nat.le_of_ble_eq_true rfl) dL_law_277 ⟨show (33 + 240 * j) + 0 ≤ 600000 by omega, show (3835 + 2640 * j) + 0 ≤ 7302250 by omega⟩) (fun r1 u1 H locs p1 hw hm hdj => ?_)
      refine lv_aload_n hx hb dL_law_280 rfl (lv_at hl 3 rfl) ?_
      refine lv_aload_n hx hb dL_law_281 rfl (lv_at hl 1 rfl) ?_
      refine lv_iload_n hx hb dL_law_282 rfl (lv_at hl 0 rfl) ?_
      refine lv_iconst (v := 1) hx hb dL_law_283 (by decide) ?_
      refine lv_iadd hx hb dL_law_284 ?_
      refine va_sld hx hb hXs hbl hbA hw.2.2.2.2.1 (by rw [hI, show (1 : Int32) = nI 1 from rfl, nI_add]; exact vp_in_nI (by omega) (by omega)) dL_law_285 ?_
      refine l_ki hm hw hdj.symm (r_runV (rest := [.int r1]) hC hm 0 (c_X9_word (ad := am) (t := t) l _ (xs (aN (I + 1)))) rk9 (wMl 0 (by decide)) wM0 1 gL_law_X9_word rfl rfl rfl (by decide +kernel) ⟨Nat.le_of_ble_eq_true rfl, Nat.le_of_ble_eq_true rfl⟩ rfl hl.1 rfl (Nat.le_of_ble_eq_true rfl) dL_law_286 ⟨show ((33 + 240 * j) + 0) + 0 ≤ 600000 by omega, show ((3835 + 2640 * j) + 0) + 0 ≤ 7302250 by omega⟩) (fun r2 u2 H locs p2 hm hw hdj => ?_)
      replace hdj := hdj.symm
      obtain rfl : r1 = r2 := p1.trans p2.symm
      refine lv_icmp_eq (tgt := 674) hx hb dL_law_289 (by decide) (fun _ => ?_) (fun c_ => absurd rfl c_)
      refine W.widen (k := 33 + 240 * (j + 1)) (n := 3835 + 2640 * (j + 1)) (by omega) (by omega) ?_
      refine lv_iinc (v := I + 5) (lv' := [(3, .int (I + 5)), (0, .ref b), (1, .ref (ad 0)), (2, .ref (am 0))]) hx hb dL_law_674 hl (k := 0) rfl (by first | rfl | decide) (by decide) rfl (fun ls hl => ?_)
      refine lv_goto (tgt := 18) hx hb dL_law_677 (by decide) ?_
      exact ih (j + 1) (I + 5) ad am κ t τ M _ _ _ (by rw [hI, show (5 : Int32) = nI 5 from rfl, nI_add]; congr 1) (by omega) (hV.b (by omega)) h8 hRL hP hWT hw hm hdj (lv_sub hl [0, 1, 2, 3] rfl)
    by_cases w_6 : opv = 6
    · subst w_6
      refine lv_tableIn (tgt := 294) hx hb dL_law_32 (by decide) (by decide) (by rfl) (by decide) ?_
      refine lv_aload_n hx hb dL_law_294 rfl (lv_at hl 2 rfl) ?_
      refine lv_aload_n hx hb dL_law_295 rfl (lv_at hl 1 rfl) ?_
      refine lv_iload_n hx hb dL_law_296 rfl (lv_at hl 0 rfl) ?_
      refine lv_iconst (v := 1) hx hb dL_law_297 (by decide) ?_
      refine lv_iadd hx hb dL_law_298 ?_
      refine va_sld hx hb hXs hbl hbA hw.2.2.2.2.1 (by rw [hI, show (1 : Int32) = nI 1 from rfl, nI_add]; exact vp_in_nI (by omega) (by omega)) dL_law_299 ?_
      refine l_kl hw hm hdj (r_runV (rest := []) hC hw 0 (c_X8_wide (ad := ad) l _ hV (xs (aN (I + 1)))) rk8 (wXl 0 (by decide)) wXc0 1 gL_law_X8_wide rfl rfl rfl (by decide +kernel) ⟨Nat.le_of_ble_eq_true rfl, Nat.le_of_ble_eq_true rfl⟩ rfl hl.1 rfl (Nat.le_of_ble_eq_true rfl) dL_law_300 ⟨show (33 + 240 * j) + 0 ≤ 600000 by omega, show (3835 + 2640 * j) + 0 ≤ 7302250 by omega⟩) (fun r1 u1 H locs p1 hw hm hdj => ?_)
      refine lv_aload_n hx hb dL_law_303 rfl (lv_at hl 3 rfl) ?_
      refine lv_aload_n hx hb dL_law_304 rfl (lv_at hl 1 rfl) ?_
      refine lv_iload_n hx hb dL_law_305 rfl (lv_at hl 0 rfl) ?_
      refine lv_iconst (v := 1) hx hb dL_law_306 (by decide) ?_
      refine lv_iadd hx hb dL_law_307 ?_
      refine va_sld hx hb hXs hbl hbA hw.2.2.2.2.1 (by rw [hI, show (1 : Int32) = nI 1 from rfl, nI_add]; exact vp_in_nI (by omega) (by omega)) dL_law_308 ?_
      refine l_kl hm hw hdj.symm (r_runV (rest := [.long r1]) hC hm 0 (c_X9_wide (ad := am) (t := t) l _ (xs (aN (I + 1)))) rk9 (wMl 0 (by decide)) wM0 1 gL_law_X9_wide rfl rfl rfl (by decide +kernel) ⟨Nat.le_of_ble_eq_true rfl, Nat.le_of_ble_eq_true rfl⟩ rfl hl.1 rfl (Nat.le_of_ble_eq_true rfl) dL_law_309 ⟨show ((33 + 240 * j) + 0) + 0 ≤ 600000 by omega, show ((3835 + 2640 * j) + 0) + 0 ≤ 7302250 by omega⟩) (fun r2 u2 H locs p2 hm hw hdj => ?_)
      replace hdj := hdj.symm
      obtain rfl : r1 = r2 := p1.trans p2.symm
      refine W.lcmp hx hb dL_law_312 ?_
      refine lv_if_eq (tgt := 674) hx hb dL_law_313 (by decide) (fun _ => ?_) (fun c_ => absurd (ls0 _) c_)
      refine W.widen (k := 33 + 240 * (j + 1)) (n := 3835 + 2640 * (j + 1)) (by omega) (by omega) ?_
      refine lv_iinc (v := I + 5) (lv' := [(3, .int (I + 5)), (0, .ref b), (1, .ref (ad 0)), (2, .ref (am 0))]) hx hb dL_law_674 hl (k := 0) rfl (by first | rfl | decide) (by decide) rfl (fun ls hl => ?_)
      refine lv_goto (tgt := 18) hx hb dL_law_677 (by decide) ?_
      exact ih (j + 1) (I + 5) ad am κ t τ M _ _ _ (by rw [hI, show (5 : Int32) = nI 5 from rfl, nI_add]; congr 1) (by omega) (hV.b (by omega)) h8 hRL hP hWT hw hm hdj (lv_sub hl [0, 1, 2, 3] rfl)
    by_cases w_7 : opv = 7
    · subst w_7
      refine lv_tableIn (tgt := 318) hx hb dL_law_32 (by decide) (by decide) (by rfl) (by decide) ?_
      refine lv_aload_n hx hb dL_law_318 rfl (lv_at hl 2 rfl) ?_
      refine lv_aload_n hx hb dL_law_319 rfl (lv_at hl 1 rfl) ?_
      refine lv_iload_n hx hb dL_law_320 rfl (lv_at hl 0 rfl) ?_
      refine lv_iconst (v := 1) hx hb dL_law_321 (by decide) ?_
      refine lv_iadd hx hb dL_law_322 ?_
      refine va_sld hx hb hXs hbl hbA hw.2.2.2.2.1 (by rw [hI, show (1 : Int32) = nI 1 from rfl, nI_add]; exact vp_in_nI (by omega) (by omega)) dL_law_323 ?_
      refine l_kd hw hm hdj (r_runV (rest := []) hC hw 0 (c_X8_single (ad := ad) l _ hV (xs (aN (I + 1)))) rk8 (wXl 0 (by decide)) wXc0 1 gL_law_X8_single rfl rfl rfl (by decide +kernel) ⟨Nat.le_of_ble_eq_true rfl, Nat.le_of_ble_eq_true rfl⟩ rfl hl.1 rfl (Nat.le_of_ble_eq_true rfl) dL_law_324 ⟨show (33 + 240 * j) + 0 ≤ 600000 by omega, show (3835 + 2640 * j) + 0 ≤ 7302250 by omega⟩) (fun r1 u1 H locs p1 hw hm hdj => ?_)
      refine lv_dstore (lv' := [(4, .double r1), (3, .int I), (0, .ref b), (1, .ref (ad 0)), (2, .ref (am 0))]) hx hb dL_law_327 hl (by decide) rfl (fun ls hl => ?_)
      refine lv_aload_n hx hb dL_law_329 rfl (lv_at hl 4 rfl) ?_
      refine lv_aload_n hx hb dL_law_330 rfl (lv_at hl 2 rfl) ?_
      refine lv_iload_n hx hb dL_law_331 rfl (lv_at hl 1 rfl) ?_
      refine lv_iconst (v := 1) hx hb dL_law_332 (by decide) ?_
      refine lv_iadd hx hb dL_law_333 ?_
      refine va_sld hx hb hXs hbl hbA hw.2.2.2.2.1 (by rw [hI, show (1 : Int32) = nI 1 from rfl, nI_add]; exact vp_in_nI (by omega) (by omega)) dL_law_334 ?_
      refine l_kd hm hw hdj.symm (r_runV (rest := []) hC hm 0 (c_X9_single (ad := am) (t := t) l _ (xs (aN (I + 1))) (fun _ => fdB_nn (f2d_B (hV.i5.1 _)))) rk9 (wMl 0 (by decide)) wM0 1 gL_law_X9_single rfl rfl rfl (by decide +kernel) ⟨Nat.le_of_ble_eq_true rfl, Nat.le_of_ble_eq_true rfl⟩ rfl hl.1 rfl (Nat.le_of_ble_eq_true rfl) dL_law_335 ⟨show ((33 + 240 * j) + 0) + 0 ≤ 600000 by omega, show ((3835 + 2640 * j) + 0) + 0 ≤ 7302250 by omega⟩) (fun r2 u2 H locs p2 hm hw hdj => ?_)
      replace hdj := hdj.symm
      obtain rfl : r1 = r2 := p1.trans p2.symm
      have hfb : fdB r1 := (by rw [p1]; exact if_B (f2d_B (hV.i5.1 _)))
      refine lv_dstore (lv' := [(6, .double r1), (4, .double r1), (3, .int I), (0, .ref b), (1, .ref (ad 0)), (2, .ref (am 0))]) hx hb dL_law_338 hl (by decide) rfl (fun ls hl => ?_)
      refine lv_dload hx hb dL_law_340 (lv_at hl 1 rfl) ?_
      refine lv_dload hx hb dL_law_342 (lv_at hl 0 rfl) ?_
      refine lv_dcmp hx hb dL_law_344 ?_
      refine lv_if_eq (tgt := 366) hx hb dL_law_345 (by decide) (fun _ => ?_) (fun c_ => absurd (dself hfb) c_)
      refine lv_goto (tgt := 674) hx hb dL_law_366 (by decide) ?_
      refine W.widen (k := 33 + 240 * (j + 1)) (n := 3835 + 2640 * (j + 1)) (by omega) (by omega) ?_
      refine lv_iinc (v := I + 5) (lv' := [(3, .int (I + 5)), (6, .double r1), (4, .double r1), (0, .ref b), (1, .ref (ad 0)), (2, .ref (am 0))]) hx hb dL_law_674 hl (k := 2) rfl (by first | rfl | decide) (by decide) rfl (fun ls hl => ?_)
      refine lv_goto (tgt := 18) hx hb dL_law_677 (by decide) ?_
      exact ih (j + 1) (I + 5) ad am κ t τ M _ _ _ (by rw [hI, show (5 : Int32) = nI 5 from rfl, nI_add]; congr 1) (by omega) (hV.b (by omega)) h8 hRL hP hWT hw hm hdj (lv_sub hl [0, 3, 4, 5] rfl)
    by_cases w_8 : opv = 8
    · subst w_8
      refine lv_tableIn (tgt := 369) hx hb dL_law_32 (by decide) (by decide) (by rfl) (by decide) ?_
      refine lv_aload_n hx hb dL_law_369 rfl (lv_at hl 2 rfl) ?_
      refine lv_aload_n hx hb dL_law_370 rfl (lv_at hl 1 rfl) ?_
      refine lv_iload_n hx hb dL_law_371 rfl (lv_at hl 0 rfl) ?_
      refine lv_iconst (v := 1) hx hb dL_law_372 (by decide) ?_
      refine lv_iadd hx hb dL_law_373 ?_
      refine va_sld hx hb hXs hbl hbA hw.2.2.2.2.1 (by rw [hI, show (1 : Int32) = nI 1 from rfl, nI_add]; exact vp_in_nI (by omega) (by omega)) dL_law_374 ?_
      refine l_kd hw hm hdj (r_runV (rest := []) hC hw 0 (c_X8_real (ad := ad) l _ hV (xs (aN (I + 1)))) rk8 (wXl 0 (by decide)) wXc0 1 gL_law_X8_real rfl rfl rfl (by decide +kernel) ⟨Nat.le_of_ble_eq_true rfl, Nat.le_of_ble_eq_true rfl⟩ rfl hl.1 rfl (Nat.le_of_ble_eq_true rfl) dL_law_375 ⟨show (33 + 240 * j) + 0 ≤ 600000 by omega, show (3835 + 2640 * j) + 0 ≤ 7302250 by omega⟩) (fun r1 u1 H locs p1 hw hm hdj => ?_)
      refine lv_dstore (lv' := [(4, .double r1), (3, .int I), (0, .ref b), (1, .ref (ad 0)), (2, .ref (am 0))]) hx hb dL_law_378 hl (by decide) rfl (fun ls hl => ?_)
      refine lv_aload_n hx hb dL_law_380 rfl (lv_at hl 4 rfl) ?_
      refine lv_aload_n hx hb dL_law_381 rfl (lv_at hl 2 rfl) ?_
      refine lv_iload_n hx hb dL_law_382 rfl (lv_at hl 1 rfl) ?_
      refine lv_iconst (v := 1) hx hb dL_law_383 (by decide) ?_
      refine lv_iadd hx hb dL_law_384 ?_
      refine va_sld hx hb hXs hbl hbA hw.2.2.2.2.1 (by rw [hI, show (1 : Int32) = nI 1 from rfl, nI_add]; exact vp_in_nI (by omega) (by omega)) dL_law_385 ?_
      refine l_kd hm hw hdj.symm (r_runV (rest := []) hC hm 0 (c_X9_real (ad := am) (t := t) l _ (xs (aN (I + 1)))) rk9 (wMl 0 (by decide)) wM0 1 gL_law_X9_real rfl rfl rfl (by decide +kernel) ⟨Nat.le_of_ble_eq_true rfl, Nat.le_of_ble_eq_true rfl⟩ rfl hl.1 rfl (Nat.le_of_ble_eq_true rfl) dL_law_386 ⟨show ((33 + 240 * j) + 0) + 0 ≤ 600000 by omega, show ((3835 + 2640 * j) + 0) + 0 ≤ 7302250 by omega⟩) (fun r2 u2 H locs p2 hm hw hdj => ?_)
      replace hdj := hdj.symm
      obtain rfl : r1 = r2 := p1.trans p2.symm
      have hfb : fdB r1 := (by rw [p1]; exact if_B (hV.i5.2 _ _))
      refine lv_dstore (lv' := [(6, .double r1), (4, .double r1), (3, .int I), (0, .ref b), (1, .ref (ad 0)), (2, .ref (am 0))]) hx hb dL_law_389 hl (by decide) rfl (fun ls hl => ?_)
      refine lv_dload hx hb dL_law_391 (lv_at hl 1 rfl) ?_
      refine lv_dload hx hb dL_law_393 (lv_at hl 0 rfl) ?_
      refine lv_dcmp hx hb dL_law_395 ?_
      refine lv_if_eq (tgt := 417) hx hb dL_law_396 (by decide) (fun _ => ?_) (fun c_ => absurd (dself hfb) c_)
      refine lv_goto (tgt := 674) hx hb dL_law_417 (by decide) ?_
      refine W.widen (k := 33 + 240 * (j + 1)) (n := 3835 + 2640 * (j + 1)) (by omega) (by omega) ?_
      refine lv_iinc (v := I + 5) (lv' := [(3, .int (I + 5)), (6, .double r1), (4, .double r1), (0, .ref b), (1, .ref (ad 0)), (2, .ref (am 0))]) hx hb dL_law_674 hl (k := 2) rfl (by first | rfl | decide) (by decide) rfl (fun ls hl => ?_)
      refine lv_goto (tgt := 18) hx hb dL_law_677 (by decide) ?_
      exact ih (j + 1) (I + 5) ad am κ t τ M _ _ _ (by rw [hI, show (5 : Int32) = nI 5 from rfl, nI_add]; congr 1) (by omega) (hV.b (by omega)) h8 hRL hP hWT hw hm hdj (lv_sub hl [0, 3, 4, 5] rfl)
    by_cases w_9 : opv = 9
    · subst w_9
      refine lv_tableIn (tgt := 420) hx hb dL_law_32 (by decide) (by decide) (by rfl) (by decide) ?_
      refine lv_aload_n hx hb dL_law_420 rfl (lv_at hl 2 rfl) ?_
      refine lv_aload_n hx hb dL_law_421 rfl (lv_at hl 1 rfl) ?_
      refine lv_iload_n hx hb dL_law_422 rfl (lv_at hl 0 rfl) ?_
      refine lv_iconst (v := 1) hx hb dL_law_423 (by decide) ?_
      refine lv_iadd hx hb dL_law_424 ?_
      refine va_sld hx hb hXs hbl hbA hw.2.2.2.2.1 (by rw [hI, show (1 : Int32) = nI 1 from rfl, nI_add]; exact vp_in_nI (by omega) (by omega)) dL_law_425 ?_
      refine l_ki hw hm hdj (r_runV (rest := []) hC hw 0 (c_X8_kind (ad := ad) l _ hV (xs (aN (I + 1)))) rk8 (wXl 0 (by decide)) wXc0 1 gL_law_X8_kind rfl rfl rfl (by decide +kernel) ⟨Nat.le_of_ble_eq_true rfl, Nat.le_of_ble_eq_true rfl⟩ rfl hl.1 rfl (Nat.le_of_ble_eq_true rfl) dL_law_426 ⟨show (33 + 240 * j) + 0 ≤ 600000 by omega, show (3835 + 2640 * j) + 0 ≤ 7302250 by omega⟩) (fun r1 u1 H locs p1 hw hm hdj => ?_)
      refine lv_aload_n hx hb dL_law_429 rfl (lv_at hl 3 rfl) ?_
      refine lv_aload_n hx hb dL_law_430 rfl (lv_at hl 1 rfl) ?_
      refine lv_iload_n hx hb dL_law_431 rfl (lv_at hl 0 rfl) ?_
      refine lv_iconst (v := 1) hx hb dL_law_432 (by decide) ?_
      refine lv_iadd hx hb dL_law_433 ?_
      refine va_sld hx hb hXs hbl hbA hw.2.2.2.2.1 (by rw [hI, show (1 : Int32) = nI 1 from rfl, nI_add]; exact vp_in_nI (by omega) (by omega)) dL_law_434 ?_
      refine l_ki hm hw hdj.symm (r_runV (rest := [.int r1]) hC hm 0 (c_X9_kind (ad := am) (t := t) l _ (xs (aN (I + 1))) hV.wfm) rk9 (wMl 0 (by decide)) wM0 1 gL_law_X9_kind rfl rfl rfl (by decide +kernel) ⟨Nat.le_of_ble_eq_true rfl, Nat.le_of_ble_eq_true rfl⟩ rfl hl.1 rfl (Nat.le_of_ble_eq_true rfl) dL_law_435 ⟨show ((33 + 240 * j) + 0) + 0 ≤ 600000 by omega, show ((3835 + 2640 * j) + 0) + 0 ≤ 7302250 by omega⟩) (fun r2 u2 H locs p2 hm hw hdj => ?_)
      replace hdj := hdj.symm
      obtain rfl : r1 = r2 := p1.trans p2.symm
      refine lv_icmp_eq (tgt := 674) hx hb dL_law_438 (by decide) (fun _ => ?_) (fun c_ => absurd rfl c_)
      refine W.widen (k := 33 + 240 * (j + 1)) (n := 3835 + 2640 * (j + 1)) (by omega) (by omega) ?_
      refine lv_iinc (v := I + 5) (lv' := [(3, .int (I + 5)), (0, .ref b), (1, .ref (ad 0)), (2, .ref (am 0))]) hx hb dL_law_674 hl (k := 0) rfl (by first | rfl | decide) (by decide) rfl (fun ls hl => ?_)
      refine lv_goto (tgt := 18) hx hb dL_law_677 (by decide) ?_
      exact ih (j + 1) (I + 5) ad am κ t τ M _ _ _ (by rw [hI, show (5 : Int32) = nI 5 from rfl, nI_add]; congr 1) (by omega) (hV.b (by omega)) h8 hRL hP hWT hw hm hdj (lv_sub hl [0, 1, 2, 3] rfl)
    by_cases w_10 : opv = 10
    · subst w_10
      refine lv_tableIn (tgt := 443) hx hb dL_law_32 (by decide) (by decide) (by rfl) (by decide) ?_
      refine lv_aload_n hx hb dL_law_443 rfl (lv_at hl 2 rfl) ?_
      refine lv_aload_n hx hb dL_law_444 rfl (lv_at hl 1 rfl) ?_
      refine lv_iload_n hx hb dL_law_445 rfl (lv_at hl 0 rfl) ?_
      refine lv_iconst (v := 1) hx hb dL_law_446 (by decide) ?_
      refine lv_iadd hx hb dL_law_447 ?_
      refine va_sld hx hb hXs hbl hbA hw.2.2.2.2.1 (by rw [hI, show (1 : Int32) = nI 1 from rfl, nI_add]; exact vp_in_nI (by omega) (by omega)) dL_law_448 ?_
      refine l_ki hw hm hdj (r_runV (rest := []) hC hw 0 (c_X8_size (ad := ad) l _ hV (xs (aN (I + 1)))) rk8 (wXl 0 (by decide)) wXc0 1 gL_law_X8_size rfl rfl rfl (by decide +kernel) ⟨Nat.le_of_ble_eq_true rfl, Nat.le_of_ble_eq_true rfl⟩ rfl hl.1 rfl (Nat.le_of_ble_eq_true rfl) dL_law_449 ⟨show (33 + 240 * j) + 0 ≤ 600000 by omega, show (3835 + 2640 * j) + 0 ≤ 7302250 by omega⟩) (fun r1 u1 H locs p1 hw hm hdj => ?_)
      refine lv_aload_n hx hb dL_law_452 rfl (lv_at hl 3 rfl) ?_
      refine lv_aload_n hx hb dL_law_453 rfl (lv_at hl 1 rfl) ?_
      refine lv_iload_n hx hb dL_law_454 rfl (lv_at hl 0 rfl) ?_
      refine lv_iconst (v := 1) hx hb dL_law_455 (by decide) ?_
      refine lv_iadd hx hb dL_law_456 ?_
      refine va_sld hx hb hXs hbl hbA hw.2.2.2.2.1 (by rw [hI, show (1 : Int32) = nI 1 from rfl, nI_add]; exact vp_in_nI (by omega) (by omega)) dL_law_457 ?_
      refine l_ki hm hw hdj.symm (r_runV (rest := [.int r1]) hC hm 0 (c_X9_size (ad := am) (t := t) l _ (xs (aN (I + 1))) hV.wfm) rk9 (wMl 0 (by decide)) wM0 1 gL_law_X9_size rfl rfl rfl (by decide +kernel) ⟨Nat.le_of_ble_eq_true rfl, Nat.le_of_ble_eq_true rfl⟩ rfl hl.1 rfl (Nat.le_of_ble_eq_true rfl) dL_law_458 ⟨show ((33 + 240 * j) + 0) + 0 ≤ 600000 by omega, show ((3835 + 2640 * j) + 0) + 0 ≤ 7302250 by omega⟩) (fun r2 u2 H locs p2 hm hw hdj => ?_)
      replace hdj := hdj.symm
      obtain rfl : r1 = r2 := p1.trans p2.symm
      refine lv_icmp_eq (tgt := 674) hx hb dL_law_461 (by decide) (fun _ => ?_) (fun c_ => absurd rfl c_)
      refine W.widen (k := 33 + 240 * (j + 1)) (n := 3835 + 2640 * (j + 1)) (by omega) (by omega) ?_
      refine lv_iinc (v := I + 5) (lv' := [(3, .int (I + 5)), (0, .ref b), (1, .ref (ad 0)), (2, .ref (am 0))]) hx hb dL_law_674 hl (k := 0) rfl (by first | rfl | decide) (by decide) rfl (fun ls hl => ?_)
      refine lv_goto (tgt := 18) hx hb dL_law_677 (by decide) ?_
      exact ih (j + 1) (I + 5) ad am κ t τ M _ _ _ (by rw [hI, show (5 : Int32) = nI 5 from rfl, nI_add]; congr 1) (by omega) (hV.b (by omega)) h8 hRL hP hWT hw hm hdj (lv_sub hl [0, 1, 2, 3] rfl)
    by_cases w_11 : opv = 11
    · subst w_11
      refine lv_tableIn (tgt := 466) hx hb dL_law_32 (by decide) (by decide) (by rfl) (by decide) ?_
      refine lv_aload_n hx hb dL_law_466 rfl (lv_at hl 2 rfl) ?_
      refine lv_aload_n hx hb dL_law_467 rfl (lv_at hl 1 rfl) ?_
      refine lv_iload_n hx hb dL_law_468 rfl (lv_at hl 0 rfl) ?_
      refine lv_iconst (v := 1) hx hb dL_law_469 (by decide) ?_
      refine lv_iadd hx hb dL_law_470 ?_
      refine va_sld hx hb hXs hbl hbA hw.2.2.2.2.1 (by rw [hI, show (1 : Int32) = nI 1 from rfl, nI_add]; exact vp_in_nI (by omega) (by omega)) dL_law_471 ?_
      refine lv_aload_n hx hb dL_law_472 rfl (lv_at hl 1 rfl) ?_
      refine lv_iload_n hx hb dL_law_473 rfl (lv_at hl 0 rfl) ?_
      refine lv_iconst (v := 2) hx hb dL_law_474 (by decide) ?_
      refine lv_iadd hx hb dL_law_475 ?_
      refine va_sld hx hb hXs hbl hbA hw.2.2.2.2.1 (by rw [hI, show (2 : Int32) = nI 2 from rfl, nI_add]; exact vp_in_nI (by omega) (by omega)) dL_law_476 ?_
      refine l_kl hw hm hdj (r_runV (rest := []) hC hw 0 (c_X8_cell (ad := ad) l _ hV (xs (aN (I + 1))) (xs (aN (I + 2)))) rk8 (wXl 0 (by decide)) wXc0 2 gL_law_X8_cell rfl rfl rfl (by decide +kernel) ⟨Nat.le_of_ble_eq_true rfl, Nat.le_of_ble_eq_true rfl⟩ rfl hl.1 rfl (Nat.le_of_ble_eq_true rfl) dL_law_477 ⟨show (33 + 240 * j) + 0 ≤ 600000 by omega, show (3835 + 2640 * j) + 0 ≤ 7302250 by omega⟩) (fun r1 u1 H locs p1 hw hm hdj => ?_)
      refine lv_aload_n hx hb dL_law_480 rfl (lv_at hl 3 rfl) ?_
      refine lv_aload_n hx hb dL_law_481 rfl (lv_at hl 1 rfl) ?_
      refine lv_iload_n hx hb dL_law_482 rfl (lv_at hl 0 rfl) ?_
      refine lv_iconst (v := 1) hx hb dL_law_483 (by decide) ?_
      refine lv_iadd hx hb dL_law_484 ?_
      refine va_sld hx hb hXs hbl hbA hw.2.2.2.2.1 (by rw [hI, show (1 : Int32) = nI 1 from rfl, nI_add]; exact vp_in_nI (by omega) (by omega)) dL_law_485 ?_
      refine lv_aload_n hx hb dL_law_486 rfl (lv_at hl 1 rfl) ?_
      refine lv_iload_n hx hb dL_law_487 rfl (lv_at hl 0 rfl) ?_
      refine lv_iconst (v := 2) hx hb dL_law_488 (by decide) ?_
      refine lv_iadd hx hb dL_law_489 ?_
      refine va_sld hx hb hXs hbl hbA hw.2.2.2.2.1 (by rw [hI, show (2 : Int32) = nI 2 from rfl, nI_add]; exact vp_in_nI (by omega) (by omega)) dL_law_490 ?_
      refine l_kl hm hw hdj.symm (r_runV (rest := [.long r1]) hC hm 0 (c_X9_cell (ad := am) (t := t) l _ (xs (aN (I + 1))) (xs (aN (I + 2))) hV.wfm (v6 hV)) rk9 (wMl 0 (by decide)) wM0 2 gL_law_X9_cell rfl rfl rfl (by decide +kernel) ⟨Nat.le_of_ble_eq_true rfl, Nat.le_of_ble_eq_true rfl⟩ rfl hl.1 rfl (Nat.le_of_ble_eq_true rfl) dL_law_491 ⟨show ((33 + 240 * j) + 0) + 0 ≤ 600000 by omega, show ((3835 + 2640 * j) + 0) + 0 ≤ 7302250 by omega⟩) (fun r2 u2 H locs p2 hm hw hdj => ?_)
      replace hdj := hdj.symm
      obtain rfl : r1 = r2 := p1.trans p2.symm
      refine W.lcmp hx hb dL_law_494 ?_
      refine lv_if_eq (tgt := 674) hx hb dL_law_495 (by decide) (fun _ => ?_) (fun c_ => absurd (ls0 _) c_)
      refine W.widen (k := 33 + 240 * (j + 1)) (n := 3835 + 2640 * (j + 1)) (by omega) (by omega) ?_
      refine lv_iinc (v := I + 5) (lv' := [(3, .int (I + 5)), (0, .ref b), (1, .ref (ad 0)), (2, .ref (am 0))]) hx hb dL_law_674 hl (k := 0) rfl (by first | rfl | decide) (by decide) rfl (fun ls hl => ?_)
      refine lv_goto (tgt := 18) hx hb dL_law_677 (by decide) ?_
      exact ih (j + 1) (I + 5) ad am κ t τ M _ _ _ (by rw [hI, show (5 : Int32) = nI 5 from rfl, nI_add]; congr 1) (by omega) (hV.b (by omega)) h8 hRL hP hWT hw hm hdj (lv_sub hl [0, 1, 2, 3] rfl)
    by_cases w_12 : opv = 12
    · subst w_12
      refine lv_tableIn (tgt := 500) hx hb dL_law_32 (by decide) (by decide) (by rfl) (by decide) ?_
      refine lv_aload_n hx hb dL_law_500 rfl (lv_at hl 2 rfl) ?_
      refine lv_aload_n hx hb dL_law_501 rfl (lv_at hl 1 rfl) ?_
      refine lv_iload_n hx hb dL_law_502 rfl (lv_at hl 0 rfl) ?_
      refine lv_iconst (v := 1) hx hb dL_law_503 (by decide) ?_
      refine lv_iadd hx hb dL_law_504 ?_
      refine va_sld hx hb hXs hbl hbA hw.2.2.2.2.1 (by rw [hI, show (1 : Int32) = nI 1 from rfl, nI_add]; exact vp_in_nI (by omega) (by omega)) dL_law_505 ?_
      refine lv_aload_n hx hb dL_law_506 rfl (lv_at hl 1 rfl) ?_
      refine lv_iload_n hx hb dL_law_507 rfl (lv_at hl 0 rfl) ?_
      refine lv_iconst (v := 2) hx hb dL_law_508 (by decide) ?_
      refine lv_iadd hx hb dL_law_509 ?_
      refine va_sld hx hb hXs hbl hbA hw.2.2.2.2.1 (by rw [hI, show (2 : Int32) = nI 2 from rfl, nI_add]; exact vp_in_nI (by omega) (by omega)) dL_law_510 ?_
      refine l_kd hw hm hdj (r_runV (rest := []) hC hw 0 (c_X8_point (ad := ad) l _ hV (xs (aN (I + 1))) (xs (aN (I + 2)))) rk8 (wXl 0 (by decide)) wXc0 2 gL_law_X8_point rfl rfl rfl (by decide +kernel) ⟨Nat.le_of_ble_eq_true rfl, Nat.le_of_ble_eq_true rfl⟩ rfl hl.1 rfl (Nat.le_of_ble_eq_true rfl) dL_law_511 ⟨show (33 + 240 * j) + 0 ≤ 600000 by omega, show (3835 + 2640 * j) + 0 ≤ 7302250 by omega⟩) (fun r1 u1 H locs p1 hw hm hdj => ?_)
      refine lv_dstore (lv' := [(4, .double r1), (3, .int I), (0, .ref b), (1, .ref (ad 0)), (2, .ref (am 0))]) hx hb dL_law_514 hl (by decide) rfl (fun ls hl => ?_)
      refine lv_aload_n hx hb dL_law_516 rfl (lv_at hl 4 rfl) ?_
      refine lv_aload_n hx hb dL_law_517 rfl (lv_at hl 2 rfl) ?_
      refine lv_iload_n hx hb dL_law_518 rfl (lv_at hl 1 rfl) ?_
      refine lv_iconst (v := 1) hx hb dL_law_519 (by decide) ?_
      refine lv_iadd hx hb dL_law_520 ?_
      refine va_sld hx hb hXs hbl hbA hw.2.2.2.2.1 (by rw [hI, show (1 : Int32) = nI 1 from rfl, nI_add]; exact vp_in_nI (by omega) (by omega)) dL_law_521 ?_
      refine lv_aload_n hx hb dL_law_522 rfl (lv_at hl 2 rfl) ?_
      refine lv_iload_n hx hb dL_law_523 rfl (lv_at hl 1 rfl) ?_
      refine lv_iconst (v := 2) hx hb dL_law_524 (by decide) ?_
      refine lv_iadd hx hb dL_law_525 ?_
      refine va_sld hx hb hXs hbl hbA hw.2.2.2.2.1 (by rw [hI, show (2 : Int32) = nI 2 from rfl, nI_add]; exact vp_in_nI (by omega) (by omega)) dL_law_526 ?_
      refine l_kd hm hw hdj.symm (r_runV (rest := []) hC hm 0 (c_X9_point (ad := am) (t := t) l _ (xs (aN (I + 1))) (xs (aN (I + 2))) hV.wfm) rk9 (wMl 0 (by decide)) wM0 2 gL_law_X9_point rfl rfl rfl (by decide +kernel) ⟨Nat.le_of_ble_eq_true rfl, Nat.le_of_ble_eq_true rfl⟩ rfl hl.1 rfl (Nat.le_of_ble_eq_true rfl) dL_law_527 ⟨show ((33 + 240 * j) + 0) + 0 ≤ 600000 by omega, show ((3835 + 2640 * j) + 0) + 0 ≤ 7302250 by omega⟩) (fun r2 u2 H locs p2 hm hw hdj => ?_)
      replace hdj := hdj.symm
      obtain rfl : r1 = r2 := p1.trans p2.symm
      have hfb : fdB r1 := (by rw [p1]; exact pt_B hV _ _)
      refine lv_dstore (lv' := [(6, .double r1), (4, .double r1), (3, .int I), (0, .ref b), (1, .ref (ad 0)), (2, .ref (am 0))]) hx hb dL_law_530 hl (by decide) rfl (fun ls hl => ?_)
      refine lv_dload hx hb dL_law_532 (lv_at hl 1 rfl) ?_
      refine lv_dload hx hb dL_law_534 (lv_at hl 0 rfl) ?_
      refine lv_dcmp hx hb dL_law_536 ?_
      refine lv_if_eq (tgt := 558) hx hb dL_law_537 (by decide) (fun _ => ?_) (fun c_ => absurd (dself hfb) c_)
      refine lv_goto (tgt := 674) hx hb dL_law_558 (by decide) ?_
      refine W.widen (k := 33 + 240 * (j + 1)) (n := 3835 + 2640 * (j + 1)) (by omega) (by omega) ?_
      refine lv_iinc (v := I + 5) (lv' := [(3, .int (I + 5)), (6, .double r1), (4, .double r1), (0, .ref b), (1, .ref (ad 0)), (2, .ref (am 0))]) hx hb dL_law_674 hl (k := 2) rfl (by first | rfl | decide) (by decide) rfl (fun ls hl => ?_)
      refine lv_goto (tgt := 18) hx hb dL_law_677 (by decide) ?_
      exact ih (j + 1) (I + 5) ad am κ t τ M _ _ _ (by rw [hI, show (5 : Int32) = nI 5 from rfl, nI_add]; congr 1) (by omega) (hV.b (by omega)) h8 hRL hP hWT hw hm hdj (lv_sub hl [0, 3, 4, 5] rfl)
    by_cases w_13 : opv = 13
    · subst w_13
      refine lv_tableIn (tgt := 561) hx hb dL_law_32 (by decide) (by decide) (by rfl) (by decide) ?_
      refine lv_aload_n hx hb dL_law_561 rfl (lv_at hl 2 rfl) ?_
      refine lv_aload_n hx hb dL_law_562 rfl (lv_at hl 1 rfl) ?_
      refine lv_iload_n hx hb dL_law_563 rfl (lv_at hl 0 rfl) ?_
      refine lv_iconst (v := 1) hx hb dL_law_564 (by decide) ?_
      refine lv_iadd hx hb dL_law_565 ?_
      refine va_sld hx hb hXs hbl hbA hw.2.2.2.2.1 (by rw [hI, show (1 : Int32) = nI 1 from rfl, nI_add]; exact vp_in_nI (by omega) (by omega)) dL_law_566 ?_
      refine lv_aload_n hx hb dL_law_567 rfl (lv_at hl 1 rfl) ?_
      refine lv_iload_n hx hb dL_law_568 rfl (lv_at hl 0 rfl) ?_
      refine lv_iconst (v := 2) hx hb dL_law_569 (by decide) ?_
      refine lv_iadd hx hb dL_law_570 ?_
      refine va_sld hx hb hXs hbl hbA hw.2.2.2.2.1 (by rw [hI, show (2 : Int32) = nI 2 from rfl, nI_add]; exact vp_in_nI (by omega) (by omega)) dL_law_571 ?_
      refine l_kl hw hm hdj (r_runV (rest := []) hC hw 0 (c_X8_field (ad := ad) l _ hV (xs (aN (I + 1))) (xs (aN (I + 2)))) rk8 (wXl 0 (by decide)) wXc0 2 gL_law_X8_field rfl rfl rfl (by decide +kernel) ⟨Nat.le_of_ble_eq_true rfl, Nat.le_of_ble_eq_true rfl⟩ rfl hl.1 rfl (Nat.le_of_ble_eq_true rfl) dL_law_572 ⟨show (33 + 240 * j) + 0 ≤ 600000 by omega, show (3835 + 2640 * j) + 0 ≤ 7302250 by omega⟩) (fun r1 u1 H locs p1 hw hm hdj => ?_)
      refine lv_aload_n hx hb dL_law_575 rfl (lv_at hl 3 rfl) ?_
      refine lv_aload_n hx hb dL_law_576 rfl (lv_at hl 1 rfl) ?_
      refine lv_iload_n hx hb dL_law_577 rfl (lv_at hl 0 rfl) ?_
      refine lv_iconst (v := 1) hx hb dL_law_578 (by decide) ?_
      refine lv_iadd hx hb dL_law_579 ?_
      refine va_sld hx hb hXs hbl hbA hw.2.2.2.2.1 (by rw [hI, show (1 : Int32) = nI 1 from rfl, nI_add]; exact vp_in_nI (by omega) (by omega)) dL_law_580 ?_
      refine lv_aload_n hx hb dL_law_581 rfl (lv_at hl 1 rfl) ?_
      refine lv_iload_n hx hb dL_law_582 rfl (lv_at hl 0 rfl) ?_
      refine lv_iconst (v := 2) hx hb dL_law_583 (by decide) ?_
      refine lv_iadd hx hb dL_law_584 ?_
      refine va_sld hx hb hXs hbl hbA hw.2.2.2.2.1 (by rw [hI, show (2 : Int32) = nI 2 from rfl, nI_add]; exact vp_in_nI (by omega) (by omega)) dL_law_585 ?_
      refine l_kl hm hw hdj.symm (r_runV (rest := [.long r1]) hC hm 0 (c_X9_field (ad := am) (t := t) l _ (xs (aN (I + 1))) (xs (aN (I + 2))) hV.wfm (v8 hV)) rk9 (wMl 0 (by decide)) wM0 2 gL_law_X9_field rfl rfl rfl (by decide +kernel) ⟨Nat.le_of_ble_eq_true rfl, Nat.le_of_ble_eq_true rfl⟩ rfl hl.1 rfl (Nat.le_of_ble_eq_true rfl) dL_law_586 ⟨show ((33 + 240 * j) + 0) + 0 ≤ 600000 by omega, show ((3835 + 2640 * j) + 0) + 0 ≤ 7302250 by omega⟩) (fun r2 u2 H locs p2 hm hw hdj => ?_)
      replace hdj := hdj.symm
      obtain rfl : r1 = r2 := p1.trans p2.symm
      refine W.lcmp hx hb dL_law_589 ?_
      refine lv_if_eq (tgt := 674) hx hb dL_law_590 (by decide) (fun _ => ?_) (fun c_ => absurd (ls0 _) c_)
      refine W.widen (k := 33 + 240 * (j + 1)) (n := 3835 + 2640 * (j + 1)) (by omega) (by omega) ?_
      refine lv_iinc (v := I + 5) (lv' := [(3, .int (I + 5)), (0, .ref b), (1, .ref (ad 0)), (2, .ref (am 0))]) hx hb dL_law_674 hl (k := 0) rfl (by first | rfl | decide) (by decide) rfl (fun ls hl => ?_)
      refine lv_goto (tgt := 18) hx hb dL_law_677 (by decide) ?_
      exact ih (j + 1) (I + 5) ad am κ t τ M _ _ _ (by rw [hI, show (5 : Int32) = nI 5 from rfl, nI_add]; congr 1) (by omega) (hV.b (by omega)) h8 hRL hP hWT hw hm hdj (lv_sub hl [0, 1, 2, 3] rfl)
    by_cases w_14 : opv = 14
    · subst w_14
      refine lv_tableIn (tgt := 595) hx hb dL_law_32 (by decide) (by decide) (by rfl) (by decide) ?_
      refine lv_aload_n hx hb dL_law_595 rfl (lv_at hl 2 rfl) ?_
      refine lv_aload_n hx hb dL_law_596 rfl (lv_at hl 1 rfl) ?_
      refine lv_iload_n hx hb dL_law_597 rfl (lv_at hl 0 rfl) ?_
      refine lv_iconst (v := 1) hx hb dL_law_598 (by decide) ?_
      refine lv_iadd hx hb dL_law_599 ?_
      refine va_sld hx hb hXs hbl hbA hw.2.2.2.2.1 (by rw [hI, show (1 : Int32) = nI 1 from rfl, nI_add]; exact vp_in_nI (by omega) (by omega)) dL_law_600 ?_
      refine lv_aload_n hx hb dL_law_601 rfl (lv_at hl 1 rfl) ?_
      refine lv_iload_n hx hb dL_law_602 rfl (lv_at hl 0 rfl) ?_
      refine lv_iconst (v := 2) hx hb dL_law_603 (by decide) ?_
      refine lv_iadd hx hb dL_law_604 ?_
      refine va_sld hx hb hXs hbl hbA hw.2.2.2.2.1 (by rw [hI, show (2 : Int32) = nI 2 from rfl, nI_add]; exact vp_in_nI (by omega) (by omega)) dL_law_605 ?_
      refine l_ki hw hm hdj (r_runV (rest := []) hC hw 0 (c_X8_same (ad := ad) l _ hV (xs (aN (I + 1))) (xs (aN (I + 2)))) rk8 (wXl 0 (by decide)) wXc0 2 gL_law_X8_same rfl rfl rfl (by decide +kernel) ⟨Nat.le_of_ble_eq_true rfl, Nat.le_of_ble_eq_true rfl⟩ rfl hl.1 rfl (Nat.le_of_ble_eq_true rfl) dL_law_606 ⟨show (33 + 240 * j) + 0 ≤ 600000 by omega, show (3835 + 2640 * j) + 0 ≤ 7302250 by omega⟩) (fun r1 u1 H locs p1 hw hm hdj => ?_)
      refine lv_aload_n hx hb dL_law_609 rfl (lv_at hl 3 rfl) ?_
      refine lv_aload_n hx hb dL_law_610 rfl (lv_at hl 1 rfl) ?_
      refine lv_iload_n hx hb dL_law_611 rfl (lv_at hl 0 rfl) ?_
      refine lv_iconst (v := 1) hx hb dL_law_612 (by decide) ?_
      refine lv_iadd hx hb dL_law_613 ?_
      refine va_sld hx hb hXs hbl hbA hw.2.2.2.2.1 (by rw [hI, show (1 : Int32) = nI 1 from rfl, nI_add]; exact vp_in_nI (by omega) (by omega)) dL_law_614 ?_
      refine lv_aload_n hx hb dL_law_615 rfl (lv_at hl 1 rfl) ?_
      refine lv_iload_n hx hb dL_law_616 rfl (lv_at hl 0 rfl) ?_
      refine lv_iconst (v := 2) hx hb dL_law_617 (by decide) ?_
      refine lv_iadd hx hb dL_law_618 ?_
      refine va_sld hx hb hXs hbl hbA hw.2.2.2.2.1 (by rw [hI, show (2 : Int32) = nI 2 from rfl, nI_add]; exact vp_in_nI (by omega) (by omega)) dL_law_619 ?_
      refine l_ki hm hw hdj.symm (r_runV (rest := [.int r1]) hC hm 0 (c_X9_same (ad := am) (t := t) l _ (xs (aN (I + 1))) (xs (aN (I + 2)))) rk9 (wMl 0 (by decide)) wM0 2 gL_law_X9_same rfl rfl rfl (by decide +kernel) ⟨Nat.le_of_ble_eq_true rfl, Nat.le_of_ble_eq_true rfl⟩ rfl hl.1 rfl (Nat.le_of_ble_eq_true rfl) dL_law_620 ⟨show ((33 + 240 * j) + 0) + 0 ≤ 600000 by omega, show ((3835 + 2640 * j) + 0) + 0 ≤ 7302250 by omega⟩) (fun r2 u2 H locs p2 hm hw hdj => ?_)
      replace hdj := hdj.symm
      obtain rfl : r1 = r2 := p1.trans p2.symm
      refine lv_icmp_eq (tgt := 674) hx hb dL_law_623 (by decide) (fun _ => ?_) (fun c_ => absurd rfl c_)
      refine W.widen (k := 33 + 240 * (j + 1)) (n := 3835 + 2640 * (j + 1)) (by omega) (by omega) ?_
      refine lv_iinc (v := I + 5) (lv' := [(3, .int (I + 5)), (0, .ref b), (1, .ref (ad 0)), (2, .ref (am 0))]) hx hb dL_law_674 hl (k := 0) rfl (by first | rfl | decide) (by decide) rfl (fun ls hl => ?_)
      refine lv_goto (tgt := 18) hx hb dL_law_677 (by decide) ?_
      exact ih (j + 1) (I + 5) ad am κ t τ M _ _ _ (by rw [hI, show (5 : Int32) = nI 5 from rfl, nI_add]; congr 1) (by omega) (hV.b (by omega)) h8 hRL hP hWT hw hm hdj (lv_sub hl [0, 1, 2, 3] rfl)
    by_cases w_15 : opv = 15
    · subst w_15
      refine lv_tableIn (tgt := 628) hx hb dL_law_32 (by decide) (by decide) (by rfl) (by decide) ?_
      refine lv_aload_n hx hb dL_law_628 rfl (lv_at hl 2 rfl) ?_
      refine lv_aload_n hx hb dL_law_629 rfl (lv_at hl 1 rfl) ?_
      refine lv_iload_n hx hb dL_law_630 rfl (lv_at hl 0 rfl) ?_
      refine lv_iconst (v := 1) hx hb dL_law_631 (by decide) ?_
      refine lv_iadd hx hb dL_law_632 ?_
      refine va_sld hx hb hXs hbl hbA hw.2.2.2.2.1 (by rw [hI, show (1 : Int32) = nI 1 from rfl, nI_add]; exact vp_in_nI (by omega) (by omega)) dL_law_633 ?_
      refine l_ki hw hm hdj (r_runV (rest := []) hC hw 0 (c_X8_told (ad := ad) l _ hV (by omega) (xs (aN (I + 1)))) rk8 (wXl 0 (by decide)) wXc0 1 gL_law_X8_told rfl rfl rfl (by decide +kernel) ⟨Nat.le_of_ble_eq_true rfl, Nat.le_of_ble_eq_true rfl⟩ rfl hl.1 rfl (Nat.le_of_ble_eq_true rfl) dL_law_634 ⟨show (33 + 240 * j) + 0 ≤ 600000 by omega, show (3835 + 2640 * j) + 0 ≤ 7302250 by omega⟩) (fun r1 u1 H locs p1 hw hm hdj => ?_)
      refine lv_aload_n hx hb dL_law_637 rfl (lv_at hl 3 rfl) ?_
      refine lv_aload_n hx hb dL_law_638 rfl (lv_at hl 1 rfl) ?_
      refine lv_iload_n hx hb dL_law_639 rfl (lv_at hl 0 rfl) ?_
      refine lv_iconst (v := 1) hx hb dL_law_640 (by decide) ?_
      refine lv_iadd hx hb dL_law_641 ?_
      refine va_sld hx hb hXs hbl hbA hw.2.2.2.2.1 (by rw [hI, show (1 : Int32) = nI 1 from rfl, nI_add]; exact vp_in_nI (by omega) (by omega)) dL_law_642 ?_
      refine l_ki hm hw hdj.symm (r_runV (rest := [.int r1]) hC hm 0 (c_X9_told (ad := am) (t := t) l _ (xs (aN (I + 1))) (hV.t7 (by omega))) rk9 (wMl 0 (by decide)) wM0 1 gL_law_X9_told rfl rfl rfl (by decide +kernel) ⟨Nat.le_of_ble_eq_true rfl, Nat.le_of_ble_eq_true rfl⟩ rfl hl.1 rfl (Nat.le_of_ble_eq_true rfl) dL_law_643 ⟨show ((33 + 240 * j) + 0) + 0 ≤ 600000 by omega, show ((3835 + 2640 * j) + 0) + 0 ≤ 7302250 by omega⟩) (fun r2 u2 H locs p2 hm hw hdj => ?_)
      replace hdj := hdj.symm
      obtain rfl : r1 = r2 := p1.trans p2.symm
      refine lv_icmp_eq (tgt := 674) hx hb dL_law_646 (by decide) (fun _ => ?_) (fun c_ => absurd rfl c_)
      refine W.widen (k := 33 + 240 * (j + 1)) (n := 3835 + 2640 * (j + 1)) (by omega) (by omega) ?_
      refine lv_iinc (v := I + 5) (lv' := [(3, .int (I + 5)), (0, .ref b), (1, .ref (ad 0)), (2, .ref (am 0))]) hx hb dL_law_674 hl (k := 0) rfl (by first | rfl | decide) (by decide) rfl (fun ls hl => ?_)
      refine lv_goto (tgt := 18) hx hb dL_law_677 (by decide) ?_
      exact ih (j + 1) (I + 5) ad am κ t τ M _ _ _ (by rw [hI, show (5 : Int32) = nI 5 from rfl, nI_add]; congr 1) (by omega) (hV.b (by omega)) h8 hRL hP hWT hw hm hdj (lv_sub hl [0, 1, 2, 3] rfl)
    by_cases w_16 : opv = 16
    · subst w_16
      refine lv_tableIn (tgt := 651) hx hb dL_law_32 (by decide) (by decide) (by rfl) (by decide) ?_
      refine lv_aload_n hx hb dL_law_651 rfl (lv_at hl 2 rfl) ?_
      refine lv_aload_n hx hb dL_law_652 rfl (lv_at hl 1 rfl) ?_
      refine lv_iload_n hx hb dL_law_653 rfl (lv_at hl 0 rfl) ?_
      refine lv_iconst (v := 1) hx hb dL_law_654 (by decide) ?_
      refine lv_iadd hx hb dL_law_655 ?_
      refine va_sld hx hb hXs hbl hbA hw.2.2.2.2.1 (by rw [hI, show (1 : Int32) = nI 1 from rfl, nI_add]; exact vp_in_nI (by omega) (by omega)) dL_law_656 ?_
      refine l_ki hw hm hdj (r_runV (rest := []) hC hw 0 (c_X8_state (ad := ad) l _ (xs (aN (I + 1)))) rk8 (wXl 0 (by decide)) wXc0 1 gL_law_X8_state rfl rfl rfl (by decide +kernel) ⟨Nat.le_of_ble_eq_true rfl, Nat.le_of_ble_eq_true rfl⟩ rfl hl.1 rfl (Nat.le_of_ble_eq_true rfl) dL_law_657 ⟨show (33 + 240 * j) + 0 ≤ 600000 by omega, show (3835 + 2640 * j) + 0 ≤ 7302250 by omega⟩) (fun r1 u1 H locs p1 hw hm hdj => ?_)
      refine lv_aload_n hx hb dL_law_660 rfl (lv_at hl 3 rfl) ?_
      refine lv_aload_n hx hb dL_law_661 rfl (lv_at hl 1 rfl) ?_
      refine lv_iload_n hx hb dL_law_662 rfl (lv_at hl 0 rfl) ?_
      refine lv_iconst (v := 1) hx hb dL_law_663 (by decide) ?_
      refine lv_iadd hx hb dL_law_664 ?_
      refine va_sld hx hb hXs hbl hbA hw.2.2.2.2.1 (by rw [hI, show (1 : Int32) = nI 1 from rfl, nI_add]; exact vp_in_nI (by omega) (by omega)) dL_law_665 ?_
      refine l_ki hm hw hdj.symm (r_runV (rest := [.int r1]) hC hm 0 (c_X9_state (ad := am) (t := t) l _ (xs (aN (I + 1)))) rk9 (wMl 0 (by decide)) wM0 1 gL_law_X9_state rfl rfl rfl (by decide +kernel) ⟨Nat.le_of_ble_eq_true rfl, Nat.le_of_ble_eq_true rfl⟩ rfl hl.1 rfl (Nat.le_of_ble_eq_true rfl) dL_law_666 ⟨show ((33 + 240 * j) + 0) + 0 ≤ 600000 by omega, show ((3835 + 2640 * j) + 0) + 0 ≤ 7302250 by omega⟩) (fun r2 u2 H locs p2 hm hw hdj => ?_)
      replace hdj := hdj.symm
      obtain rfl : r1 = r2 := p1.trans p2.symm
      refine lv_icmp_eq (tgt := 674) hx hb dL_law_669 (by decide) (fun _ => ?_) (fun c_ => absurd rfl c_)
      refine W.widen (k := 33 + 240 * (j + 1)) (n := 3835 + 2640 * (j + 1)) (by omega) (by omega) ?_
      refine lv_iinc (v := I + 5) (lv' := [(3, .int (I + 5)), (0, .ref b), (1, .ref (ad 0)), (2, .ref (am 0))]) hx hb dL_law_674 hl (k := 0) rfl (by first | rfl | decide) (by decide) rfl (fun ls hl => ?_)
      refine lv_goto (tgt := 18) hx hb dL_law_677 (by decide) ?_
      exact ih (j + 1) (I + 5) ad am κ t τ M _ _ _ (by rw [hI, show (5 : Int32) = nI 5 from rfl, nI_add]; congr 1) (by omega) (hV.b (by omega)) h8 hRL hP hWT hw hm hdj (lv_sub hl [0, 1, 2, 3] rfl)
    refine lv_tableOut (tgt := 674) hx hb dL_law_32 (out16 w_0 w_1 w_2 w_3 w_4 w_5 w_6 w_7 w_8 w_9 w_10 w_11 w_12 w_13 w_14 w_15 w_16) (by decide) ?_
    refine W.widen (k := 33 + 240 * (j + 1)) (n := 3835 + 2640 * (j + 1)) (by omega) (by omega) ?_
    refine lv_iinc (v := I + 5) (lv' := [(3, .int (I + 5)), (0, .ref b), (1, .ref (ad 0)), (2, .ref (am 0))]) hx hb dL_law_674 hl (k := 0) rfl (by first | rfl | decide) (by decide) rfl (fun ls hl => ?_)
    refine lv_goto (tgt := 18) hx hb dL_law_677 (by decide) ?_
    exact ih (j + 1) (I + 5) ad am κ t τ M _ _ _ (by rw [hI, show (5 : Int32) = nI 5 from rfl, nI_add]; congr 1) (by omega) (hV.b (by omega)) h8 hRL hP hWT hw hm hdj (lv_sub hl [0, 1, 2, 3] rfl)

