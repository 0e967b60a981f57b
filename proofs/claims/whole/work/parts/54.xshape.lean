/-- the class's table of shapes -/
def shF : Nat → Value := fun j => .int (nI (dg j))
def rSh (A : Nat → Prop) (U : State) (H : Heap) : Prop := ∃ t : Nat, va_Z "FaultLoom" "SHAPES" "[I" (.ref t) A U H ∧ va_T .int t 74 shF A U H
theorem rSh.moved {A : Nat → Prop} {u U : State} {H : Heap} (hvm : u.vm.Alike U.vm) (h : rSh A u H) : rSh A U H := by
  obtain ⟨t, h1, h2⟩ := h; exact ⟨t, h1.moved hvm, h2.moved hvm⟩
theorem rSh.kept {A : Nat → Prop} {U : State} {H H1 : Heap} (h : rSh A U H) (hq : ∀ a : Nat, a < H.size → ¬ A a → H1[a]? = H[a]?) : rSh A U H1 := by
  obtain ⟨t, h1, h2⟩ := h; exact ⟨t, h1.kept hq, h2.kept hq⟩
theorem rSh.narrow {A B : Nat → Prop} {U : State} {H : Heap} (h : rSh A U H) (hAB : ∀ x, B x → A x) : rSh B U H := by
  obtain ⟨t, h1, h2⟩ := h; exact ⟨t, h1.narrow hAB, h2.narrow hAB⟩
def rPreZ (D : va_G) (q : Nat → ClassId) (w : wT) (sz : Nat) (U : State) : Prop := rPre D q w sz U ∧ rSh (rA w sz) U U.heap
theorem rPreZ.blind {D : va_G} {q : Nat → ClassId} {w : wT} {sz : Nat} {av : List Value} : FrameBlind (va_Pc av (rPreZ D q w sz)) := by
  intro a U g mk h
  obtain ⟨h0, h1, h2⟩ := h
  have z := rPre.blind (av := av) (a := a) (U := U) g mk ⟨h0, h1⟩
  exact ⟨z.1, z.2, rSh.moved (u := U) (U := U.calling g mk a) (Vm.Alike.refl U.vm) h2⟩
section RCALLZ
variable {p : Program} {l : Launch} {e : Env} {R : Room} {s : State} {m : MethodId} {args : Array Value} {below : List Frame} {meth : Method} {c : Code} {H : Heap} {locs : List Loc} {cells slots : Nat} {Q : State → Prop}
variable {cc : ByteArray} {nL pc : Nat} {ls : Array Slot} {rest st0 : List Value} {D : va_G} {q : Nat → ClassId} {A : Nat → Prop} {H0 : Heap} {w : wT} {Ts : List Cond} {own : String}
variable {y : MethodName} {bytes : ByteArray} {maxL mc ms n index : Nat} {ret : Option FieldType} {ws ws' : List Cond} {rm : Room} {Qc : Array Value → State → Outcome → State → Prop} {As : List Value}
theorem rX.preZ (hw : rX D q A H0 s w H locs) (hZ : rSh A s H0) {av : List Value} : ∀ U : State, U.heap = H → s.WarmedH U.vm → va_Pc av (rPreZ D q w H.size) av.toArray U := fun U hU hW => ⟨(hw.pre (av := av) U hU hW).1, (hw.pre (av := av) U hU hW).2, by rw [hU]; exact ((hZ.kept hw.2.2.2.2.1.2.1).moved hW.alike).narrow hw.sub⟩
theorem r_runVZ (hC : CallFix p m c cc nL s args Ts own) (hw : rX D q A H0 s w H locs) (hZ : rSh A s H0) (i : Nat) (hM : Met l y ws rm (va_Pc (.ref (w.1 i) :: As) (rPreZ D q w H.size)) Qc mc ms (rA w H.size)) {C : String} {T : u_T} {N ci : Nat} {ty : Nat → FieldType} (hk0 : rCl ci C T N ty) (hl : w.2.1 i) {fs : List Value} (hc : w.2.2 i = .inr (ci, fs)) (n : Nat) (hG : GoodIn Ts (wsV own index C y ws)) (hwc : ws = Cond.code y bytes maxL ret :: ws') (hrc : rm.cells = mc) (hrs : rm.slots = ms)
    (hd : y.cls = C ∧ y.cls ≠ "java/lang/invoke/MethodHandle" ∧ y.cls ≠ "java/lang/invoke/VarHandle" ∧ (parseMethodDescriptor y.desc).map (fun d => d.parameters.length) = some n) (hR : rm.frames + 1 ≤ R.frames ∧ 8 + (maxL + 11) + rm.locals ≤ R.locals)
    (hn : As.length = n) (hsize : ls.size = nL) (hstack : st0 = As.reverse ++ .ref (w.1 i) :: rest) (hroom : (rest.map fun v => v.category).sum ≤ 8) (hdg : decode cc pc = .ok (.invokevirtual index, 3)) (hf : cells + mc ≤ R.cells ∧ slots + ms ≤ R.slots) :
    va_Run p l e R s m args below meth c H locs cells slots mc ms (F0 m pc ls st0) rest (Qc (Value.ref (w.1 i) :: As).toArray) (rA w H.size) :=
  va_runV hC hM (cwV n hC.2.2.2.2 hG hwc hrc hrs hd hR) ⟨rPreZ.blind, va_recv (q := (C, T, N)) hw.1.1 (hw.one hl hc) (ci := ci) (q0 := 0) hk0.1 rfl, hw.preZ hZ⟩ rfl hn hsize hstack (lv_room hroom) hdg hf
theorem r_runSZ (hC : CallFix p m c cc nL s args Ts own) (hw : rX D q A H0 s w H locs) (hZ : rSh A s H0) (hM : Met l y ws rm (va_Pc As (rPreZ D q w H.size)) Qc mc ms (rA w H.size)) (n : Nat) (hG : GoodIn Ts (va_wsS own index y ws)) (hwc : ws = Cond.code y bytes maxL ret :: ws') (hrc : rm.cells = mc) (hrs : rm.slots = ms)
    (hd : y.cls ≠ "java/lang/invoke/MethodHandle" ∧ y.cls ≠ "java/lang/invoke/VarHandle" ∧ (parseMethodDescriptor y.desc).map (fun d => d.parameters.length) = some n) (hR : rm.frames + 1 ≤ R.frames ∧ 8 + (maxL + 11) + rm.locals ≤ R.locals)
    (hn : As.length = n) (hsize : ls.size = nL) (hstack : st0 = As.reverse ++ rest) (hroom : (rest.map fun v => v.category).sum ≤ 8) (hdg : decode cc pc = .ok (.invokestatic index, 3)) (hf : cells + mc ≤ R.cells ∧ slots + ms ≤ R.slots) :
    va_Run p l e R s m args below meth c H locs cells slots mc ms (F0 m pc ls st0) rest (Qc As.toArray) (rA w H.size) :=
  va_runS hC hM (va_cwS n hC.2.2.2.2 hG hwc hrc hrs hd hR) ⟨rPreZ.blind, hw.preZ hZ⟩ rfl hn hsize hstack (lv_room hroom) hdg hf
theorem r_startZ {av : List Value} {sz : Nat} (hy : plainName y.cls = true) (hwc : ws = Cond.code y cc maxL ret :: ws') (hle : (lg_sl av).length ≤ maxL)
    (body : ∀ (p : Program) (e : Env) (s : State) (m : MethodId) (below : List Frame) (meth : Method) (c : Code) (ls : Array Slot), CallFix p m c cc maxL s av.toArray ws y.cls → meth.sig.returnType = ret → meth.locks = false → meth.name = y.name → s.heap.size = sz → rX D q (rA w sz) s.heap s w s.heap [] → rSh (rA w sz) s s.heap → lv_has ls maxL (lv_args 0 av) → W p l e rm s m av.toArray below meth c s.heap [] 0 0 (MQ below Qc av.toArray s mc ms (rA w sz)) (F0 m 0 ls [])) :
    Met l y ws rm (va_Pc av (rPreZ D q w sz)) Qc mc ms (rA w sz) := by
  refine Met.ofW (cc := cc) (maxL := maxL) (ret := ret) hy hwc ?_
  intro p e s m args below meth c s₁ B hml hv
  obtain ⟨rfl, ⟨hsz, hK, hW, hJ⟩, hZ⟩ := hv
  have hts := atoms_spec (ws := ws) B.pre
  have hown : s.vm.findClass y.cls = some m.cls := findClass_of_methodNamed B.named
  rw [lg_entry_eq]
  exact body p e s m below meth c _ ⟨B.exec, B.bytes, hml, hown, hts⟩ B.returns B.notSynchronized (name_of_methodNamed B.named B.method).1 hsz ⟨hK, hW, hJ, fun i hi => Or.inl ⟨i, hi, rfl⟩, va_S.rf, fun x hx => Or.inr (by rw [← hsz]; exact hx)⟩ hZ (lv_entry av hle)
end RCALLZ
theorem lt_le1 {a b v : Int32} (h : a.toInt + 1 = b.toInt) (hv : a < v) : b ≤ v := by
  rw [Int32.lt_iff_toInt_lt] at hv
  rw [Int32.le_iff_toInt_le]
  omega
theorem le_lt1 {a b v : Int32} (h : a.toInt + 1 = b.toInt) (hv : b ≤ v) : a < v := by
  rw [Int32.le_iff_toInt_le] at hv
  rw [Int32.lt_iff_toInt_lt]
  omega
theorem dgdiv : ∀ k, k < 74 → nI (dg k) / 100 = nI (dg k / 100) ∧ nI (dg k) / 10 - nI (dg k) / 10 / 10 * 10 = nI (dg k / 10 % 10) ∧ nI (dg k) - nI (dg k) / 10 * 10 = nI (dg k % 10) := by decide +kernel
abbrev fitP (op a b c : Int32) : Prop := pIn op 0 73 ∧ tld (dg (aN op) / 100) a = true ∧ tld (dg (aN op) / 10 % 10) b = true ∧ tld (dg (aN op) % 10) c = true
set_option maxHeartbeats 4000000 in
set_option maxRecDepth 100000 in
theorem c_X8_isPlace (l : Launch) {D : va_G} {q : Nat → ClassId} (w : wT) (sz : Nat) (v : Int32) : Met l yX8_isPlace wsX8_isPlace (rmz 0 0) (va_Pc [.int v] (rPre D q w sz)) (va_Qi (fun (r : Int32) (u : Unit) => r = if pIn v 0 199 then 1 else 0) (fun (u : Unit) tt => rPo D (rA w sz) w tt) (rA w sz)) 0 0 (rA w sz) := by
  refine r_start (cc := cX8_isPlace) (maxL := 1) (ret := (some .boolean)) (by decide) rfl (Nat.le_of_ble_eq_true rfl) ?_
  intro p e s m below meth c ls hC hr hlk hnm hsz hw hl
  have hx := hC.1
  have hb := hC.2.1
  have hl : lv_has ls 1 [(0, .int v)] := hl
  refine lv_iload_n hx hb dX8_isPlace_0 rfl (lv_at hl 0 rfl) ?_
  refine lv_if_lt (tgt := 15) hx hb dX8_isPlace_1 (by decide) (fun c_1 => ?_) (fun c_1 => ?_)
  · refine lv_iconst (v := 0) hx hb dX8_isPlace_15 (by decide) ?_
    exact r_zret hC hr (by decide) hlk hw () rfl (if_neg (fun h => h.1 c_1)).symm (Nat.le_of_ble_eq_true rfl) (Nat.le_of_ble_eq_true rfl) dX8_isPlace_16
  · refine lv_iload_n hx hb dX8_isPlace_4 rfl (lv_at hl 0 rfl) ?_
    refine lv_sipush (v := 200) hx hb dX8_isPlace_5 (by decide) ?_
    refine lv_icmp_ge (tgt := 15) hx hb dX8_isPlace_8 (by decide) (fun c_2 => ?_) (fun c_2 => ?_)
    · refine lv_iconst (v := 0) hx hb dX8_isPlace_15 (by decide) ?_
      exact r_zret hC hr (by decide) hlk hw () rfl (if_neg (fun h => h.2 (le_lt1 (a := 199) (by decide) c_2))).symm (Nat.le_of_ble_eq_true rfl) (Nat.le_of_ble_eq_true rfl) dX8_isPlace_16
    · refine lv_iconst (v := 1) hx hb dX8_isPlace_11 (by decide) ?_
      refine lv_goto (tgt := 16) hx hb dX8_isPlace_12 (by decide) ?_
      exact r_zret hC hr (by decide) hlk hw () rfl (if_pos (id ⟨c_1, (fun h => c_2 (lt_le1 (a := 199) (by decide) h))⟩)).symm (Nat.le_of_ble_eq_true rfl) (Nat.le_of_ble_eq_true rfl) dX8_isPlace_16

set_option maxHeartbeats 4000000 in
set_option maxRecDepth 100000 in
theorem c_X8_isNamed_0 (l : Launch) {D : va_G} {q : Nat → ClassId} (w : wT) (sz : Nat) (v : Int32) : Met l yX8_isNamed wsX8_isNamed (rmz 1 20) (va_Pc [.int 0, .int v] (rPre D q w sz)) (va_Qi (fun (r : Int32) (u : Unit) => r = if tld 0 v = true then 1 else 0) (fun (u : Unit) tt => rPo D (rA w sz) w tt) (rA w sz)) 0 0 (rA w sz) := by
  refine r_start (cc := cX8_isNamed) (maxL := 2) (ret := (some .boolean)) (by decide) rfl (Nat.le_of_ble_eq_true rfl) ?_
  intro p e s m below meth c ls hC hr hlk hnm hsz hw hl
  have hx := hC.1
  have hb := hC.2.1
  have hl : lv_has ls 2 [(0, .int 0), (1, .int v)] := hl
  refine lv_iload_n hx hb dX8_isNamed_0 rfl (lv_at hl 0 rfl) ?_
  refine lv_tableOut (tgt := 138) hx hb dX8_isNamed_1 (by decide) (by decide) ?_
  refine lv_iconst (v := 1) hx hb dX8_isNamed_138 (by decide) ?_
  exact r_zret hC hr (by decide) hlk hw () rfl (if_pos rfl).symm (Nat.le_of_ble_eq_true rfl) (Nat.le_of_ble_eq_true rfl) dX8_isNamed_139

set_option maxHeartbeats 4000000 in
set_option maxRecDepth 100000 in
theorem c_X8_isNamed_1 (l : Launch) {D : va_G} {q : Nat → ClassId} (w : wT) (sz : Nat) (v : Int32) : Met l yX8_isNamed wsX8_isNamed (rmz 1 20) (va_Pc [.int 1, .int v] (rPre D q w sz)) (va_Qi (fun (r : Int32) (u : Unit) => r = if tld 1 v = true then 1 else 0) (fun (u : Unit) tt => rPo D (rA w sz) w tt) (rA w sz)) 0 0 (rA w sz) := by
  refine r_start (cc := cX8_isNamed) (maxL := 2) (ret := (some .boolean)) (by decide) rfl (Nat.le_of_ble_eq_true rfl) ?_
  intro p e s m below meth c ls hC hr hlk hnm hsz hw hl
  have hx := hC.1
  have hb := hC.2.1
  have hl : lv_has ls 2 [(0, .int 1), (1, .int v)] := hl
  refine lv_iload_n hx hb dX8_isNamed_0 rfl (lv_at hl 0 rfl) ?_
  refine lv_tableIn (tgt := 52) hx hb dX8_isNamed_1 (by decide) (by decide) (by rfl) (by decide) ?_
  refine lv_iload_n hx hb dX8_isNamed_52 rfl (lv_at hl 1 rfl) ?_
  refine lv_if_lt (tgt := 66) hx hb dX8_isNamed_53 (by decide) (fun c_1 => ?_) (fun c_1 => ?_)
  · refine lv_iconst (v := 0) hx hb dX8_isNamed_66 (by decide) ?_
    exact r_zret hC hr (by decide) hlk hw () rfl (if_neg (fun h => (of_decide_eq_true h).1 c_1)).symm (Nat.le_of_ble_eq_true rfl) (Nat.le_of_ble_eq_true rfl) dX8_isNamed_67
  · refine lv_iload_n hx hb dX8_isNamed_56 rfl (lv_at hl 1 rfl) ?_
    refine lv_bipush (v := 8) hx hb dX8_isNamed_57 (by decide) ?_
    refine lv_icmp_ge (tgt := 66) hx hb dX8_isNamed_59 (by decide) (fun c_2 => ?_) (fun c_2 => ?_)
    · refine lv_iconst (v := 0) hx hb dX8_isNamed_66 (by decide) ?_
      exact r_zret hC hr (by decide) hlk hw () rfl (if_neg (fun h => (of_decide_eq_true h).2 (le_lt1 (a := 7) (by decide) c_2))).symm (Nat.le_of_ble_eq_true rfl) (Nat.le_of_ble_eq_true rfl) dX8_isNamed_67
    · refine lv_iconst (v := 1) hx hb dX8_isNamed_62 (by decide) ?_
      refine lv_goto (tgt := 67) hx hb dX8_isNamed_63 (by decide) ?_
      exact r_zret hC hr (by decide) hlk hw () rfl (if_pos (decide_eq_true ⟨c_1, (fun h => c_2 (lt_le1 (a := 7) (by decide) h))⟩)).symm (Nat.le_of_ble_eq_true rfl) (Nat.le_of_ble_eq_true rfl) dX8_isNamed_67

set_option maxHeartbeats 4000000 in
set_option maxRecDepth 100000 in
theorem c_X8_isNamed_2 (l : Launch) {D : va_G} {q : Nat → ClassId} (w : wT) (sz : Nat) (v : Int32) : Met l yX8_isNamed wsX8_isNamed (rmz 1 20) (va_Pc [.int 2, .int v] (rPre D q w sz)) (va_Qi (fun (r : Int32) (u : Unit) => r = if tld 2 v = true then 1 else 0) (fun (u : Unit) tt => rPo D (rA w sz) w tt) (rA w sz)) 0 0 (rA w sz) := by
  refine r_start (cc := cX8_isNamed) (maxL := 2) (ret := (some .boolean)) (by decide) rfl (Nat.le_of_ble_eq_true rfl) ?_
  intro p e s m below meth c ls hC hr hlk hnm hsz hw hl
  have hx := hC.1
  have hb := hC.2.1
  have hl : lv_has ls 2 [(0, .int 2), (1, .int v)] := hl
  refine lv_iload_n hx hb dX8_isNamed_0 rfl (lv_at hl 0 rfl) ?_
  refine lv_tableIn (tgt := 68) hx hb dX8_isNamed_1 (by decide) (by decide) (by rfl) (by decide) ?_
  refine lv_iload_n hx hb dX8_isNamed_68 rfl (lv_at hl 1 rfl) ?_
  refine lv_if_lt (tgt := 81) hx hb dX8_isNamed_69 (by decide) (fun c_1 => ?_) (fun c_1 => ?_)
  · refine lv_iconst (v := 0) hx hb dX8_isNamed_81 (by decide) ?_
    exact r_zret hC hr (by decide) hlk hw () rfl (if_neg (fun h => (of_decide_eq_true h).1 c_1)).symm (Nat.le_of_ble_eq_true rfl) (Nat.le_of_ble_eq_true rfl) dX8_isNamed_82
  · refine lv_iload_n hx hb dX8_isNamed_72 rfl (lv_at hl 1 rfl) ?_
    refine lv_iconst (v := 4) hx hb dX8_isNamed_73 (by decide) ?_
    refine lv_icmp_ge (tgt := 81) hx hb dX8_isNamed_74 (by decide) (fun c_2 => ?_) (fun c_2 => ?_)
    · refine lv_iconst (v := 0) hx hb dX8_isNamed_81 (by decide) ?_
      exact r_zret hC hr (by decide) hlk hw () rfl (if_neg (fun h => (of_decide_eq_true h).2 (le_lt1 (a := 3) (by decide) c_2))).symm (Nat.le_of_ble_eq_true rfl) (Nat.le_of_ble_eq_true rfl) dX8_isNamed_82
    · refine lv_iconst (v := 1) hx hb dX8_isNamed_77 (by decide) ?_
      refine lv_goto (tgt := 82) hx hb dX8_isNamed_78 (by decide) ?_
      exact r_zret hC hr (by decide) hlk hw () rfl (if_pos (decide_eq_true ⟨c_1, (fun h => c_2 (lt_le1 (a := 3) (by decide) h))⟩)).symm (Nat.le_of_ble_eq_true rfl) (Nat.le_of_ble_eq_true rfl) dX8_isNamed_82

set_option maxHeartbeats 4000000 in
set_option maxRecDepth 100000 in
theorem c_X8_isNamed_3 (l : Launch) {D : va_G} {q : Nat → ClassId} (w : wT) (sz : Nat) (v : Int32) : Met l yX8_isNamed wsX8_isNamed (rmz 1 20) (va_Pc [.int 3, .int v] (rPre D q w sz)) (va_Qi (fun (r : Int32) (u : Unit) => r = if tld 3 v = true then 1 else 0) (fun (u : Unit) tt => rPo D (rA w sz) w tt) (rA w sz)) 0 0 (rA w sz) := by
  refine r_start (cc := cX8_isNamed) (maxL := 2) (ret := (some .boolean)) (by decide) rfl (Nat.le_of_ble_eq_true rfl) ?_
  intro p e s m below meth c ls hC hr hlk hnm hsz hw hl
  have hx := hC.1
  have hb := hC.2.1
  have hl : lv_has ls 2 [(0, .int 3), (1, .int v)] := hl
  refine lv_iload_n hx hb dX8_isNamed_0 rfl (lv_at hl 0 rfl) ?_
  refine lv_tableIn (tgt := 68) hx hb dX8_isNamed_1 (by decide) (by decide) (by rfl) (by decide) ?_
  refine lv_iload_n hx hb dX8_isNamed_68 rfl (lv_at hl 1 rfl) ?_
  refine lv_if_lt (tgt := 81) hx hb dX8_isNamed_69 (by decide) (fun c_1 => ?_) (fun c_1 => ?_)
  · refine lv_iconst (v := 0) hx hb dX8_isNamed_81 (by decide) ?_
    exact r_zret hC hr (by decide) hlk hw () rfl (if_neg (fun h => (of_decide_eq_true h).1 c_1)).symm (Nat.le_of_ble_eq_true rfl) (Nat.le_of_ble_eq_true rfl) dX8_isNamed_82
  · refine lv_iload_n hx hb dX8_isNamed_72 rfl (lv_at hl 1 rfl) ?_
    refine lv_iconst (v := 4) hx hb dX8_isNamed_73 (by decide) ?_
    refine lv_icmp_ge (tgt := 81) hx hb dX8_isNamed_74 (by decide) (fun c_2 => ?_) (fun c_2 => ?_)
    · refine lv_iconst (v := 0) hx hb dX8_isNamed_81 (by decide) ?_
      exact r_zret hC hr (by decide) hlk hw () rfl (if_neg (fun h => (of_decide_eq_true h).2 (le_lt1 (a := 3) (by decide) c_2))).symm (Nat.le_of_ble_eq_true rfl) (Nat.le_of_ble_eq_true rfl) dX8_isNamed_82
    · refine lv_iconst (v := 1) hx hb dX8_isNamed_77 (by decide) ?_
      refine lv_goto (tgt := 82) hx hb dX8_isNamed_78 (by decide) ?_
      exact r_zret hC hr (by decide) hlk hw () rfl (if_pos (decide_eq_true ⟨c_1, (fun h => c_2 (lt_le1 (a := 3) (by decide) h))⟩)).symm (Nat.le_of_ble_eq_true rfl) (Nat.le_of_ble_eq_true rfl) dX8_isNamed_82

set_option maxHeartbeats 4000000 in
set_option maxRecDepth 100000 in
theorem c_X8_isNamed_4 (l : Launch) {D : va_G} {q : Nat → ClassId} (w : wT) (sz : Nat) (v : Int32) : Met l yX8_isNamed wsX8_isNamed (rmz 1 20) (va_Pc [.int 4, .int v] (rPre D q w sz)) (va_Qi (fun (r : Int32) (u : Unit) => r = if tld 4 v = true then 1 else 0) (fun (u : Unit) tt => rPo D (rA w sz) w tt) (rA w sz)) 0 0 (rA w sz) := by
  refine r_start (cc := cX8_isNamed) (maxL := 2) (ret := (some .boolean)) (by decide) rfl (Nat.le_of_ble_eq_true rfl) ?_
  intro p e s m below meth c ls hC hr hlk hnm hsz hw hl
  have hx := hC.1
  have hb := hC.2.1
  have hl : lv_has ls 2 [(0, .int 4), (1, .int v)] := hl
  refine lv_iload_n hx hb dX8_isNamed_0 rfl (lv_at hl 0 rfl) ?_
  refine lv_tableIn (tgt := 68) hx hb dX8_isNamed_1 (by decide) (by decide) (by rfl) (by decide) ?_
  refine lv_iload_n hx hb dX8_isNamed_68 rfl (lv_at hl 1 rfl) ?_
  refine lv_if_lt (tgt := 81) hx hb dX8_isNamed_69 (by decide) (fun c_1 => ?_) (fun c_1 => ?_)
  · refine lv_iconst (v := 0) hx hb dX8_isNamed_81 (by decide) ?_
    exact r_zret hC hr (by decide) hlk hw () rfl (if_neg (fun h => (of_decide_eq_true h).1 c_1)).symm (Nat.le_of_ble_eq_true rfl) (Nat.le_of_ble_eq_true rfl) dX8_isNamed_82
  · refine lv_iload_n hx hb dX8_isNamed_72 rfl (lv_at hl 1 rfl) ?_
    refine lv_iconst (v := 4) hx hb dX8_isNamed_73 (by decide) ?_
    refine lv_icmp_ge (tgt := 81) hx hb dX8_isNamed_74 (by decide) (fun c_2 => ?_) (fun c_2 => ?_)
    · refine lv_iconst (v := 0) hx hb dX8_isNamed_81 (by decide) ?_
      exact r_zret hC hr (by decide) hlk hw () rfl (if_neg (fun h => (of_decide_eq_true h).2 (le_lt1 (a := 3) (by decide) c_2))).symm (Nat.le_of_ble_eq_true rfl) (Nat.le_of_ble_eq_true rfl) dX8_isNamed_82
    · refine lv_iconst (v := 1) hx hb dX8_isNamed_77 (by decide) ?_
      refine lv_goto (tgt := 82) hx hb dX8_isNamed_78 (by decide) ?_
      exact r_zret hC hr (by decide) hlk hw () rfl (if_pos (decide_eq_true ⟨c_1, (fun h => c_2 (lt_le1 (a := 3) (by decide) h))⟩)).symm (Nat.le_of_ble_eq_true rfl) (Nat.le_of_ble_eq_true rfl) dX8_isNamed_82

set_option maxHeartbeats 4000000 in
set_option maxRecDepth 100000 in
theorem c_X8_isNamed_5 (l : Launch) {D : va_G} {q : Nat → ClassId} (w : wT) (sz : Nat) (v : Int32) : Met l yX8_isNamed wsX8_isNamed (rmz 1 20) (va_Pc [.int 5, .int v] (rPre D q w sz)) (va_Qi (fun (r : Int32) (u : Unit) => r = if tld 5 v = true then 1 else 0) (fun (u : Unit) tt => rPo D (rA w sz) w tt) (rA w sz)) 0 0 (rA w sz) := by
  refine r_start (cc := cX8_isNamed) (maxL := 2) (ret := (some .boolean)) (by decide) rfl (Nat.le_of_ble_eq_true rfl) ?_
  intro p e s m below meth c ls hC hr hlk hnm hsz hw hl
  have hx := hC.1
  have hb := hC.2.1
  have hl : lv_has ls 2 [(0, .int 5), (1, .int v)] := hl
  refine lv_iload_n hx hb dX8_isNamed_0 rfl (lv_at hl 0 rfl) ?_
  refine lv_tableIn (tgt := 52) hx hb dX8_isNamed_1 (by decide) (by decide) (by rfl) (by decide) ?_
  refine lv_iload_n hx hb dX8_isNamed_52 rfl (lv_at hl 1 rfl) ?_
  refine lv_if_lt (tgt := 66) hx hb dX8_isNamed_53 (by decide) (fun c_1 => ?_) (fun c_1 => ?_)
  · refine lv_iconst (v := 0) hx hb dX8_isNamed_66 (by decide) ?_
    exact r_zret hC hr (by decide) hlk hw () rfl (if_neg (fun h => (of_decide_eq_true h).1 c_1)).symm (Nat.le_of_ble_eq_true rfl) (Nat.le_of_ble_eq_true rfl) dX8_isNamed_67
  · refine lv_iload_n hx hb dX8_isNamed_56 rfl (lv_at hl 1 rfl) ?_
    refine lv_bipush (v := 8) hx hb dX8_isNamed_57 (by decide) ?_
    refine lv_icmp_ge (tgt := 66) hx hb dX8_isNamed_59 (by decide) (fun c_2 => ?_) (fun c_2 => ?_)
    · refine lv_iconst (v := 0) hx hb dX8_isNamed_66 (by decide) ?_
      exact r_zret hC hr (by decide) hlk hw () rfl (if_neg (fun h => (of_decide_eq_true h).2 (le_lt1 (a := 7) (by decide) c_2))).symm (Nat.le_of_ble_eq_true rfl) (Nat.le_of_ble_eq_true rfl) dX8_isNamed_67
    · refine lv_iconst (v := 1) hx hb dX8_isNamed_62 (by decide) ?_
      refine lv_goto (tgt := 67) hx hb dX8_isNamed_63 (by decide) ?_
      exact r_zret hC hr (by decide) hlk hw () rfl (if_pos (decide_eq_true ⟨c_1, (fun h => c_2 (lt_le1 (a := 7) (by decide) h))⟩)).symm (Nat.le_of_ble_eq_true rfl) (Nat.le_of_ble_eq_true rfl) dX8_isNamed_67

set_option maxHeartbeats 4000000 in
set_option maxRecDepth 100000 in
theorem c_X8_isNamed_6 (l : Launch) {D : va_G} {q : Nat → ClassId} (w : wT) (sz : Nat) (v : Int32) : Met l yX8_isNamed wsX8_isNamed (rmz 1 20) (va_Pc [.int 6, .int v] (rPre D q w sz)) (va_Qi (fun (r : Int32) (u : Unit) => r = if tld 6 v = true then 1 else 0) (fun (u : Unit) tt => rPo D (rA w sz) w tt) (rA w sz)) 0 0 (rA w sz) := by
  refine r_start (cc := cX8_isNamed) (maxL := 2) (ret := (some .boolean)) (by decide) rfl (Nat.le_of_ble_eq_true rfl) ?_
  intro p e s m below meth c ls hC hr hlk hnm hsz hw hl
  have hx := hC.1
  have hb := hC.2.1
  have hl : lv_has ls 2 [(0, .int 6), (1, .int v)] := hl
  refine lv_iload_n hx hb dX8_isNamed_0 rfl (lv_at hl 0 rfl) ?_
  refine lv_tableIn (tgt := 83) hx hb dX8_isNamed_1 (by decide) (by decide) (by rfl) (by decide) ?_
  refine lv_iload_n hx hb dX8_isNamed_83 rfl (lv_at hl 1 rfl) ?_
  refine r_ki hw (r_runS (rest := []) hC hw (c_X8_isPlace l _ _ v) 1 gX8_isNamed_X8_isPlace rfl rfl rfl (by decide +kernel) ⟨Nat.le_of_ble_eq_true rfl, Nat.le_of_ble_eq_true rfl⟩ rfl hl.1 rfl (Nat.le_of_ble_eq_true rfl) dX8_isNamed_84 ⟨Nat.le_of_ble_eq_true rfl, Nat.le_of_ble_eq_true rfl⟩) (fun r_2 u_3 H locs h_1 hw => ?_)
  by_cases c_4 : pIn v 0 199
  · rw [if_pos c_4] at h_1
    subst h_1
    exact r_zret hC hr (by decide) hlk hw () rfl (if_pos (decide_eq_true c_4)).symm (Nat.le_of_ble_eq_true rfl) (Nat.le_of_ble_eq_true rfl) dX8_isNamed_87
  · rw [if_neg c_4] at h_1
    subst h_1
    exact r_zret hC hr (by decide) hlk hw () rfl (if_neg (fun h => c_4 (of_decide_eq_true h))).symm (Nat.le_of_ble_eq_true rfl) (Nat.le_of_ble_eq_true rfl) dX8_isNamed_87

set_option maxHeartbeats 4000000 in
set_option maxRecDepth 100000 in
theorem c_X8_isNamed_7 (l : Launch) {D : va_G} {q : Nat → ClassId} (w : wT) (sz : Nat) (v : Int32) : Met l yX8_isNamed wsX8_isNamed (rmz 1 20) (va_Pc [.int 7, .int v] (rPre D q w sz)) (va_Qi (fun (r : Int32) (u : Unit) => r = if tld 7 v = true then 1 else 0) (fun (u : Unit) tt => rPo D (rA w sz) w tt) (rA w sz)) 0 0 (rA w sz) := by
  refine r_start (cc := cX8_isNamed) (maxL := 2) (ret := (some .boolean)) (by decide) rfl (Nat.le_of_ble_eq_true rfl) ?_
  intro p e s m below meth c ls hC hr hlk hnm hsz hw hl
  have hx := hC.1
  have hb := hC.2.1
  have hl : lv_has ls 2 [(0, .int 7), (1, .int v)] := hl
  refine lv_iload_n hx hb dX8_isNamed_0 rfl (lv_at hl 0 rfl) ?_
  refine lv_tableIn (tgt := 88) hx hb dX8_isNamed_1 (by decide) (by decide) (by rfl) (by decide) ?_
  refine lv_iload_n hx hb dX8_isNamed_88 rfl (lv_at hl 1 rfl) ?_
  refine lv_if_lt (tgt := 102) hx hb dX8_isNamed_89 (by decide) (fun c_1 => ?_) (fun c_1 => ?_)
  · refine lv_iconst (v := 0) hx hb dX8_isNamed_102 (by decide) ?_
    exact r_zret hC hr (by decide) hlk hw () rfl (if_neg (fun h => (of_decide_eq_true h).1 c_1)).symm (Nat.le_of_ble_eq_true rfl) (Nat.le_of_ble_eq_true rfl) dX8_isNamed_103
  · refine lv_iload_n hx hb dX8_isNamed_92 rfl (lv_at hl 1 rfl) ?_
    refine lv_bipush (v := 9) hx hb dX8_isNamed_93 (by decide) ?_
    refine lv_icmp_gt (tgt := 102) hx hb dX8_isNamed_95 (by decide) (fun c_2 => ?_) (fun c_2 => ?_)
    · refine lv_iconst (v := 0) hx hb dX8_isNamed_102 (by decide) ?_
      exact r_zret hC hr (by decide) hlk hw () rfl (if_neg (fun h => (of_decide_eq_true h).2 c_2)).symm (Nat.le_of_ble_eq_true rfl) (Nat.le_of_ble_eq_true rfl) dX8_isNamed_103
    · refine lv_iconst (v := 1) hx hb dX8_isNamed_98 (by decide) ?_
      refine lv_goto (tgt := 103) hx hb dX8_isNamed_99 (by decide) ?_
      exact r_zret hC hr (by decide) hlk hw () rfl (if_pos (decide_eq_true ⟨c_1, c_2⟩)).symm (Nat.le_of_ble_eq_true rfl) (Nat.le_of_ble_eq_true rfl) dX8_isNamed_103

set_option maxHeartbeats 4000000 in
set_option maxRecDepth 100000 in
theorem c_X8_isNamed_8 (l : Launch) {D : va_G} {q : Nat → ClassId} (w : wT) (sz : Nat) (v : Int32) : Met l yX8_isNamed wsX8_isNamed (rmz 1 20) (va_Pc [.int 8, .int v] (rPre D q w sz)) (va_Qi (fun (r : Int32) (u : Unit) => r = if tld 8 v = true then 1 else 0) (fun (u : Unit) tt => rPo D (rA w sz) w tt) (rA w sz)) 0 0 (rA w sz) := by
  refine r_start (cc := cX8_isNamed) (maxL := 2) (ret := (some .boolean)) (by decide) rfl (Nat.le_of_ble_eq_true rfl) ?_
  intro p e s m below meth c ls hC hr hlk hnm hsz hw hl
  have hx := hC.1
  have hb := hC.2.1
  have hl : lv_has ls 2 [(0, .int 8), (1, .int v)] := hl
  refine lv_iload_n hx hb dX8_isNamed_0 rfl (lv_at hl 0 rfl) ?_
  refine lv_tableIn (tgt := 104) hx hb dX8_isNamed_1 (by decide) (by decide) (by rfl) (by decide) ?_
  refine lv_iload_n hx hb dX8_isNamed_104 rfl (lv_at hl 1 rfl) ?_
  refine lv_bipush (v := 11) hx hb dX8_isNamed_105 (by decide) ?_
  refine lv_icmp_lt (tgt := 120) hx hb dX8_isNamed_107 (by decide) (fun c_1 => ?_) (fun c_1 => ?_)
  · refine lv_iconst (v := 0) hx hb dX8_isNamed_120 (by decide) ?_
    exact r_zret hC hr (by decide) hlk hw () rfl (if_neg (fun h => (of_decide_eq_true h).1 c_1)).symm (Nat.le_of_ble_eq_true rfl) (Nat.le_of_ble_eq_true rfl) dX8_isNamed_121
  · refine lv_iload_n hx hb dX8_isNamed_110 rfl (lv_at hl 1 rfl) ?_
    refine lv_bipush (v := 14) hx hb dX8_isNamed_111 (by decide) ?_
    refine lv_icmp_gt (tgt := 120) hx hb dX8_isNamed_113 (by decide) (fun c_2 => ?_) (fun c_2 => ?_)
    · refine lv_iconst (v := 0) hx hb dX8_isNamed_120 (by decide) ?_
      exact r_zret hC hr (by decide) hlk hw () rfl (if_neg (fun h => (of_decide_eq_true h).2 c_2)).symm (Nat.le_of_ble_eq_true rfl) (Nat.le_of_ble_eq_true rfl) dX8_isNamed_121
    · refine lv_iconst (v := 1) hx hb dX8_isNamed_116 (by decide) ?_
      refine lv_goto (tgt := 121) hx hb dX8_isNamed_117 (by decide) ?_
      exact r_zret hC hr (by decide) hlk hw () rfl (if_pos (decide_eq_true ⟨c_1, c_2⟩)).symm (Nat.le_of_ble_eq_true rfl) (Nat.le_of_ble_eq_true rfl) dX8_isNamed_121

set_option maxHeartbeats 4000000 in
set_option maxRecDepth 100000 in
theorem c_X8_isNamed_9 (l : Launch) {D : va_G} {q : Nat → ClassId} (w : wT) (sz : Nat) (v : Int32) : Met l yX8_isNamed wsX8_isNamed (rmz 1 20) (va_Pc [.int 9, .int v] (rPre D q w sz)) (va_Qi (fun (r : Int32) (u : Unit) => r = if tld 9 v = true then 1 else 0) (fun (u : Unit) tt => rPo D (rA w sz) w tt) (rA w sz)) 0 0 (rA w sz) := by
  refine r_start (cc := cX8_isNamed) (maxL := 2) (ret := (some .boolean)) (by decide) rfl (Nat.le_of_ble_eq_true rfl) ?_
  intro p e s m below meth c ls hC hr hlk hnm hsz hw hl
  have hx := hC.1
  have hb := hC.2.1
  have hl : lv_has ls 2 [(0, .int 9), (1, .int v)] := hl
  refine lv_iload_n hx hb dX8_isNamed_0 rfl (lv_at hl 0 rfl) ?_
  refine lv_tableIn (tgt := 122) hx hb dX8_isNamed_1 (by decide) (by decide) (by rfl) (by decide) ?_
  refine lv_iload_n hx hb dX8_isNamed_122 rfl (lv_at hl 1 rfl) ?_
  refine lv_if_lt (tgt := 136) hx hb dX8_isNamed_123 (by decide) (fun c_1 => ?_) (fun c_1 => ?_)
  · refine lv_iconst (v := 0) hx hb dX8_isNamed_136 (by decide) ?_
    exact r_zret hC hr (by decide) hlk hw () rfl (if_neg (fun h => (of_decide_eq_true h).1 c_1)).symm (Nat.le_of_ble_eq_true rfl) (Nat.le_of_ble_eq_true rfl) dX8_isNamed_137
  · refine lv_iload_n hx hb dX8_isNamed_126 rfl (lv_at hl 1 rfl) ?_
    refine lv_bipush (v := 16) hx hb dX8_isNamed_127 (by decide) ?_
    refine lv_icmp_gt (tgt := 136) hx hb dX8_isNamed_129 (by decide) (fun c_2 => ?_) (fun c_2 => ?_)
    · refine lv_iconst (v := 0) hx hb dX8_isNamed_136 (by decide) ?_
      exact r_zret hC hr (by decide) hlk hw () rfl (if_neg (fun h => (of_decide_eq_true h).2 c_2)).symm (Nat.le_of_ble_eq_true rfl) (Nat.le_of_ble_eq_true rfl) dX8_isNamed_137
    · refine lv_iconst (v := 1) hx hb dX8_isNamed_132 (by decide) ?_
      refine lv_goto (tgt := 137) hx hb dX8_isNamed_133 (by decide) ?_
      exact r_zret hC hr (by decide) hlk hw () rfl (if_pos (decide_eq_true ⟨c_1, c_2⟩)).symm (Nat.le_of_ble_eq_true rfl) (Nat.le_of_ble_eq_true rfl) dX8_isNamed_137

theorem c_X8_isNamed (l : Launch) {D : va_G} {q : Nat → ClassId} (w : wT) (sz : Nat) (d : Nat) (hd : d < 10) (v : Int32) : Met l yX8_isNamed wsX8_isNamed (rmz 1 20) (va_Pc [.int (nI d), .int v] (rPre D q w sz)) (va_Qi (fun (r : Int32) (u : Unit) => r = if tld d v = true then 1 else 0) (fun (u : Unit) tt => rPo D (rA w sz) w tt) (rA w sz)) 0 0 (rA w sz) := by
  match d, hd with
  | 0, _ => exact c_X8_isNamed_0 l w sz v
  | 1, _ => exact c_X8_isNamed_1 l w sz v
  | 2, _ => exact c_X8_isNamed_2 l w sz v
  | 3, _ => exact c_X8_isNamed_3 l w sz v
  | 4, _ => exact c_X8_isNamed_4 l w sz v
  | 5, _ => exact c_X8_isNamed_5 l w sz v
  | 6, _ => exact c_X8_isNamed_6 l w sz v
  | 7, _ => exact c_X8_isNamed_7 l w sz v
  | 8, _ => exact c_X8_isNamed_8 l w sz v
  | 9, _ => exact c_X8_isNamed_9 l w sz v
  | d + 10, hd => exact absurd hd (by omega)

set_option maxHeartbeats 4000000 in
set_option maxRecDepth 100000 in
theorem c_X8_fitsShape (l : Launch) {D : va_G} {q : Nat → ClassId} (w : wT) (sz : Nat) (op xa xb xc : Int32) : Met l yX8_fitsShape wsX8_fitsShape (rmz 2 41) (va_Pc [.int op, .int xa, .int xb, .int xc] (rPreZ D q w sz)) (va_Qi (fun (r : Int32) (u : Unit) => r = if fitP op xa xb xc then 1 else 0) (fun (u : Unit) tt => rPo D (rA w sz) w tt) (rA w sz)) 0 0 (rA w sz) := by
  refine r_startZ (cc := cX8_fitsShape) (maxL := 5) (ret := (some .boolean)) (by decide) rfl (Nat.le_of_ble_eq_true rfl) ?_
  intro p e s m below meth c ls hC hr hlk hnm hsz hw hZZ hl
  have hx := hC.1
  have hb := hC.2.1
  have hl : lv_has ls 5 [(0, .int op), (1, .int xa), (2, .int xb), (3, .int xc)] := hl
  obtain ⟨t0, hZ, hT⟩ := hZZ
  by_cases hin : pIn op 0 73
  · obtain ⟨k, hk, hop⟩ : ∃ k, k < 74 ∧ op = nI k := by
      obtain ⟨j, hj, e⟩ := nI_of2 (M := 73) (n := 73) (by decide) hin.1 (Int32.not_lt.mp hin.2)
      exact ⟨j, by omega, e⟩
    have hka : aN op = k := by rw [hop]; exact nI_clamp (by omega)
    refine lv_iload_n hx hb dX8_fitsShape_0 rfl (lv_at hl 0 rfl) ?_
    refine lv_if_lt (tgt := 12) hx hb dX8_fitsShape_1 (by decide) (fun c_ => absurd c_ hin.1) (fun _ => ?_)
    refine lv_iload_n hx hb dX8_fitsShape_4 rfl (lv_at hl 0 rfl) ?_
    refine va_gets hx hb hZ hw.2.2.2.2.1 hC.2.2.2.1 (hC.2.2.2.2 _ lk_X8_fitsShape_153) (fun _ h => h) dX8_fitsShape_5 ?_
    refine va_tlen hx hb hT hw.2.2.2.2.1 (v := 74) rfl dX8_fitsShape_8 ?_
    refine lv_icmp_lt (tgt := 14) hx hb dX8_fitsShape_9 (by decide) (fun _ => ?_) (fun c_ => absurd (by rw [hop]; exact nI_lt hk (by decide)) c_)
    refine va_gets hx hb hZ hw.2.2.2.2.1 hC.2.2.2.1 (hC.2.2.2.2 _ lk_X8_fitsShape_153) (fun _ h => h) dX8_fitsShape_14 ?_
    refine lv_iload_n hx hb dX8_fitsShape_17 rfl (lv_at hl 0 rfl) ?_
    refine va_ti hx hb hT hw.2.2.2.2.1 (v := .int (nI (dg k))) (by rw [hop]; exact vp_in_nI hk (by decide)) (by show Value.int (nI (dg (aN op))) = _; rw [hop, show aN (nI k) = k from nI_clamp (by omega)]) dX8_fitsShape_18 ?_
    refine lv_istore (lv' := [(4, .int (nI (dg k))), (0, .int op), (1, .int xa), (2, .int xb), (3, .int xc)]) hx hb dX8_fitsShape_19 hl (by decide) rfl (fun ls hl => ?_)
    refine lv_iload hx hb dX8_fitsShape_21 (lv_at hl 0 rfl) ?_
    refine lv_bipush (v := 100) hx hb dX8_fitsShape_23 (by decide) ?_
    refine lv_idiv hx hb dX8_fitsShape_25 (by decide) ?_
    refine lv_iload_n hx hb dX8_fitsShape_26 rfl (lv_at hl 2 rfl) ?_
    refine r_tops (y := [.int xa, .int (nI (dg k / 100))]) (by rw [(dgdiv k hk).1]) ?_
    refine r_ki hw (r_runS (rest := []) hC hw (c_X8_isNamed l _ _ (dg k / 100) (dg9 k hk).1 xa) 2 gX8_fitsShape_X8_isNamed rfl rfl rfl (by decide +kernel) ⟨Nat.le_of_ble_eq_true rfl, Nat.le_of_ble_eq_true rfl⟩ rfl hl.1 rfl (Nat.le_of_ble_eq_true rfl) dX8_fitsShape_27 ⟨Nat.le_of_ble_eq_true rfl, Nat.le_of_ble_eq_true rfl⟩) (fun r_2 u_3 H locs h_1 hw => ?_)
    by_cases c_4 : tld (dg k / 100) xa = true
    · rw [if_pos c_4] at h_1
      subst h_1
      refine lv_if_eq (tgt := 64) hx hb dX8_fitsShape_30 (by decide) (fun c_ => absurd c_ (by decide)) (fun _ => ?_)
      refine lv_iload hx hb dX8_fitsShape_33 (lv_at hl 0 rfl) ?_
      refine lv_bipush (v := 10) hx hb dX8_fitsShape_35 (by decide) ?_
      refine lv_idiv hx hb dX8_fitsShape_37 (by decide) ?_
      refine lv_bipush (v := 10) hx hb dX8_fitsShape_38 (by decide) ?_
      refine lv_irem hx hb dX8_fitsShape_40 (by decide) ?_
      refine lv_iload_n hx hb dX8_fitsShape_41 rfl (lv_at hl 3 rfl) ?_
      refine r_tops (y := [.int xb, .int (nI (dg k / 10 % 10))]) (by rw [(dgdiv k hk).2.1]) ?_
      refine r_ki hw (r_runS (rest := []) hC hw (c_X8_isNamed l _ _ (dg k / 10 % 10) (dg9 k hk).2.1 xb) 2 gX8_fitsShape_X8_isNamed rfl rfl rfl (by decide +kernel) ⟨Nat.le_of_ble_eq_true rfl, Nat.le_of_ble_eq_true rfl⟩ rfl hl.1 rfl (Nat.le_of_ble_eq_true rfl) dX8_fitsShape_42 ⟨Nat.le_of_ble_eq_true rfl, Nat.le_of_ble_eq_true rfl⟩) (fun r_6 u_7 H locs h_5 hw => ?_)
      by_cases c_8 : tld (dg k / 10 % 10) xb = true
      · rw [if_pos c_8] at h_5
        subst h_5
        refine lv_if_eq (tgt := 64) hx hb dX8_fitsShape_45 (by decide) (fun c_ => absurd c_ (by decide)) (fun _ => ?_)
        refine lv_iload hx hb dX8_fitsShape_48 (lv_at hl 0 rfl) ?_
        refine lv_bipush (v := 10) hx hb dX8_fitsShape_50 (by decide) ?_
        refine lv_irem hx hb dX8_fitsShape_52 (by decide) ?_
        refine lv_iload_n hx hb dX8_fitsShape_53 rfl (lv_at hl 4 rfl) ?_
        refine r_tops (y := [.int xc, .int (nI (dg k % 10))]) (by rw [(dgdiv k hk).2.2]) ?_
        refine r_ki hw (r_runS (rest := []) hC hw (c_X8_isNamed l _ _ (dg k % 10) (dg9 k hk).2.2 xc) 2 gX8_fitsShape_X8_isNamed rfl rfl rfl (by decide +kernel) ⟨Nat.le_of_ble_eq_true rfl, Nat.le_of_ble_eq_true rfl⟩ rfl hl.1 rfl (Nat.le_of_ble_eq_true rfl) dX8_fitsShape_54 ⟨Nat.le_of_ble_eq_true rfl, Nat.le_of_ble_eq_true rfl⟩) (fun r_10 u_11 H locs h_9 hw => ?_)
        by_cases c_12 : tld (dg k % 10) xc = true
        · rw [if_pos c_12] at h_9
          subst h_9
          refine lv_if_eq (tgt := 64) hx hb dX8_fitsShape_57 (by decide) (fun c_ => absurd c_ (by decide)) (fun _ => ?_)
          refine lv_iconst (v := 1) hx hb dX8_fitsShape_60 (by decide) ?_
          refine lv_goto (tgt := 65) hx hb dX8_fitsShape_61 (by decide) ?_
          exact r_zret hC hr (by decide) hlk hw () rfl (if_pos ⟨hin, (by rw [hka]; exact c_4), (by rw [hka]; exact c_8), (by rw [hka]; exact c_12)⟩).symm (Nat.le_of_ble_eq_true rfl) (Nat.le_of_ble_eq_true rfl) dX8_fitsShape_65
        · rw [if_neg c_12] at h_9
          subst h_9
          refine lv_if_eq (tgt := 64) hx hb dX8_fitsShape_57 (by decide) (fun _ => ?_) (fun c_ => absurd (by decide) c_)
          refine lv_iconst (v := 0) hx hb dX8_fitsShape_64 (by decide) ?_
          exact r_zret hC hr (by decide) hlk hw () rfl (if_neg (fun h => c_12 (by unfold fitP at h; rw [hka] at h; exact h.2.2.2))).symm (Nat.le_of_ble_eq_true rfl) (Nat.le_of_ble_eq_true rfl) dX8_fitsShape_65
      · rw [if_neg c_8] at h_5
        subst h_5
        refine lv_if_eq (tgt := 64) hx hb dX8_fitsShape_45 (by decide) (fun _ => ?_) (fun c_ => absurd (by decide) c_)
        refine lv_iconst (v := 0) hx hb dX8_fitsShape_64 (by decide) ?_
        exact r_zret hC hr (by decide) hlk hw () rfl (if_neg (fun h => c_8 (by unfold fitP at h; rw [hka] at h; exact h.2.2.1))).symm (Nat.le_of_ble_eq_true rfl) (Nat.le_of_ble_eq_true rfl) dX8_fitsShape_65
    · rw [if_neg c_4] at h_1
      subst h_1
      refine lv_if_eq (tgt := 64) hx hb dX8_fitsShape_30 (by decide) (fun _ => ?_) (fun c_ => absurd (by decide) c_)
      refine lv_iconst (v := 0) hx hb dX8_fitsShape_64 (by decide) ?_
      exact r_zret hC hr (by decide) hlk hw () rfl (if_neg (fun h => c_4 (by unfold fitP at h; rw [hka] at h; exact h.2.1))).symm (Nat.le_of_ble_eq_true rfl) (Nat.le_of_ble_eq_true rfl) dX8_fitsShape_65
  · refine lv_iload_n hx hb dX8_fitsShape_0 rfl (lv_at hl 0 rfl) ?_
    refine lv_if_lt (tgt := 12) hx hb dX8_fitsShape_1 (by decide) (fun c_1 => ?_) (fun c_1 => ?_)
    · refine lv_iconst (v := 0) hx hb dX8_fitsShape_12 (by decide) ?_
      exact r_zret hC hr (by decide) hlk hw () rfl (if_neg (fun h => hin h.1)).symm (Nat.le_of_ble_eq_true rfl) (Nat.le_of_ble_eq_true rfl) dX8_fitsShape_13
    · refine lv_iload_n hx hb dX8_fitsShape_4 rfl (lv_at hl 0 rfl) ?_
      refine va_gets hx hb hZ hw.2.2.2.2.1 hC.2.2.2.1 (hC.2.2.2.2 _ lk_X8_fitsShape_153) (fun _ h => h) dX8_fitsShape_5 ?_
      refine va_tlen hx hb hT hw.2.2.2.2.1 (v := 74) rfl dX8_fitsShape_8 ?_
      refine lv_icmp_lt (tgt := 14) hx hb dX8_fitsShape_9 (by decide) (fun c_ => absurd c_ (fun h => hin ⟨c_1, fun h2 => Int32.not_lt.mpr (lt_le1 (a := 73) (b := 74) (by decide) h2) h⟩)) (fun _ => ?_)
      refine lv_iconst (v := 0) hx hb dX8_fitsShape_12 (by decide) ?_
      exact r_zret hC hr (by decide) hlk hw () rfl (if_neg (fun h => hin h.1)).symm (Nat.le_of_ble_eq_true rfl) (Nat.le_of_ble_eq_true rfl) dX8_fitsShape_13

