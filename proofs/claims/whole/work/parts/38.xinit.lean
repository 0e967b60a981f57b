/-! making: worlds by facts -/
def At (W : wT) (r a : Nat) (e : va_E) : Prop := W.2.1 r ∧ W.1 r = a ∧ W.2.2 r = e
def Nl (W : wT) (r : Nat) : Prop := ¬ W.2.1 r
/-- what was there in w stands in W, but for the contents of X; what is new is of N -/
def Kp (w W : wT) (X N : Nat → Prop) : Prop := (∀ r, w.2.1 r → W.2.1 r ∧ W.1 r = w.1 r ∧ (¬ X r → W.2.2 r = w.2.2 r)) ∧ ∀ r, W.2.1 r → w.2.1 r ∨ N r
def Up (W : wT) (r : Nat) (e : va_E) (W2 : wT) : Prop := W2 = wU W r e
def Nw (W : wT) (r a : Nat) (e : va_E) (W2 : wT) : Prop := W2 = wN W r a e
theorem At.u {W W2 : wT} {r a : Nat} {e e2 : va_E} (h : At W r a e) (hu : Up W r e2 W2) : At W2 r a e2 := by
  cases hu; exact ⟨h.1, h.2.1, va_up_self _ _ _⟩
theorem At.v {W W2 : wT} {r r2 a : Nat} {e e2 : va_E} (h : At W r a e) (hu : Up W r2 e2 W2) (hn : r ≠ r2) : At W2 r a e := by
  cases hu; exact ⟨h.1, h.2.1, (va_up_ne _ _ hn).trans h.2.2⟩
theorem At.n {W W2 : wT} {r a : Nat} {e : va_E} (hu : Nw W r a e W2) : At W2 r a e := by
  cases hu; exact ⟨Or.inr rfl, va_up_self _ _ _, va_up_self _ _ _⟩
theorem At.m {W W2 : wT} {r r2 a a2 : Nat} {e e2 : va_E} (h : At W r a e) (hu : Nw W r2 a2 e2 W2) (hn : r ≠ r2) : At W2 r a e := by
  cases hu; exact ⟨Or.inl h.1, (va_up_ne _ _ hn).trans h.2.1, (va_up_ne _ _ hn).trans h.2.2⟩
theorem At.k {W W2 : wT} {r a : Nat} {e : va_E} {X N : Nat → Prop} (h : At W r a e) (hk : Kp W W2 X N) (hn : ¬ X r) : At W2 r a e :=
  have z := hk.1 r h.1
  ⟨z.1, z.2.1.trans h.2.1, (z.2.2 hn).trans h.2.2⟩
theorem Nl.u {W W2 : wT} {j r : Nat} {e : va_E} (h : Nl W j) (hu : Up W r e W2) : Nl W2 j := by cases hu; exact h
theorem Nl.n {W W2 : wT} {j r a : Nat} {e : va_E} (h : Nl W j) (hu : Nw W r a e W2) (hn : j ≠ r) : Nl W2 j := by
  cases hu; exact fun q => q.elim h hn
theorem Nl.k {W W2 : wT} {j : Nat} {X N : Nat → Prop} (h : Nl W j) (hk : Kp W W2 X N) (hn : ¬ N j) : Nl W2 j := fun q => (hk.2 j q).elim h hn
theorem Kp.rf {w : wT} {X N : Nat → Prop} : Kp w w X N := ⟨fun _ h => ⟨h, rfl, fun _ => rfl⟩, fun _ h => Or.inl h⟩
theorem Kp.u {w W W2 : wT} {r : Nat} {e : va_E} {X N : Nat → Prop} (h : Kp w W X N) (hu : Up W r e W2) (hx : X r ∨ ¬ w.2.1 r) : Kp w W2 X N := by
  cases hu
  refine ⟨fun k hk => ?_, h.2⟩
  obtain ⟨h1, h2, h3⟩ := h.1 k hk
  refine ⟨h1, h2, fun hn => ?_⟩
  have : k ≠ r := fun q => by subst q; exact hx.elim hn (fun z => z hk)
  exact (va_up_ne _ _ this).trans (h3 hn)
theorem Kp.n {w W W2 : wT} {r a : Nat} {e : va_E} {X N : Nat → Prop} (h : Kp w W X N) (hu : Nw W r a e W2) (hn : N r) (hl : ¬ w.2.1 r) : Kp w W2 X N := by
  cases hu
  refine ⟨fun k hk => ?_, fun k hk => hk.elim (h.2 k) (fun q => by subst q; exact Or.inr hn)⟩
  obtain ⟨h1, h2, h3⟩ := h.1 k hk
  have : k ≠ r := fun q => hl (q ▸ hk)
  exact ⟨Or.inl h1, (va_up_ne _ _ this).trans h2, fun hx => (va_up_ne _ _ this).trans (h3 hx)⟩
theorem Kp.t {w W W2 : wT} {X N X2 N2 : Nat → Prop} (h : Kp w W X N) (h2 : Kp W W2 X2 N2) (hx : ∀ r, w.2.1 r → X2 r → X r) (hn : ∀ r, N2 r → N r) : Kp w W2 X N := by
  refine ⟨fun k hk => ?_, fun k hk => (h2.2 k hk).elim (h.2 k) (fun q => Or.inr (hn k q))⟩
  obtain ⟨a1, a2, a3⟩ := h.1 k hk
  obtain ⟨b1, b2, b3⟩ := h2.1 k a1
  exact ⟨b1, b2.trans a2, fun q => (b3 (fun z => q (hx k hk z))).trans (a3 q)⟩
section AA
variable {p : Program} {l : Launch} {e : Env} {R : Room} {s : State} {m : MethodId} {args : Array Value} {below : List Frame} {meth : Method} {c : Code} {H : Heap} {locs : List Loc} {cells slots : Nat} {Q : State → Prop}
variable {cc : ByteArray} {nL pc : Nat} {ls : Array Slot} {rest : List Value} {D : va_G} {q : Nat → ClassId} {A : Nat → Prop} {H0 : Heap} {w : wT} {Ts : List Cond} {own : String} {C : String} {T : u_T} {N ci index : Nat} {ty : Nat → FieldType} {j : Int32}
theorem a_get (hC : CallFix p m c cc nL s args Ts own) (hw : rX D q A H0 s w H locs) (hk0 : rCl ci C T N ty) (hin : ∀ z ∈ u_ws C T N, z ∈ Ts) {i a : Nat} {fs : List Value} (hA : At w i a (.inr (ci, fs))) (k : Nat) (hk : k < N) (hlink : Cond.fieldLink own index (T k).1 (T k).2.1 (T k).2.2.1 ∈ Ts) {v : Value} (hv : fs[k]? = some v) (hdg : decode cc pc = .ok (.getfield index, 3))
    (kk : W p l e R s m args below meth c H locs cells slots Q (F0 m (pc + 3) ls (v :: rest))) : W p l e R s m args below meth c H locs cells slots Q (F0 m pc ls (.ref a :: rest)) := by
  obtain ⟨hl, rfl, hc⟩ := hA
  exact r_get hC hw hk0 hin i hl hc k hk hlink hv hdg kk
theorem a_put (hC : CallFix p m c cc nL s args Ts own) (hw : rX D q A H0 s w H locs) (hk0 : rCl ci C T N ty) (hin : ∀ z ∈ u_ws C T N, z ∈ Ts) {i a : Nat} {fs : List Value} (hA : At w i a (.inr (ci, fs))) (k : Nat) (hk : k < N) (hlink : Cond.fieldLink own index (T k).1 (T k).2.1 (T k).2.2.1 ∈ Ts) (hfin : (T k).2.2.2 = false) {v : Value} (hn : narrow (ty k) v = v) (hfit : fits (ty k) v = true) (hlen : k < fs.length) (hdg : decode cc pc = .ok (.putfield index, 3))
    (kk : ∀ (W2 : wT) (H1 : Heap) (locs1 : List Loc), Up w i (.inr (ci, fs.set k v)) W2 → rX D q A H0 s W2 H1 locs1 → W p l e R s m args below meth c H1 locs1 cells slots Q (F0 m (pc + 3) ls rest)) : W p l e R s m args below meth c H locs cells slots Q (F0 m pc ls (v :: .ref a :: rest)) := by
  obtain ⟨hl, rfl, hc⟩ := hA
  exact r_put hC hw hk0 hin i hl hc k hk hlink hfin hn hfit hlen hdg (fun H1 locs1 h => kk _ H1 locs1 rfl h)
theorem a_putF (hC : CallFix p m c cc nL s args Ts own) (hw : rX D q A H0 s w H locs) (hk0 : rCl ci C T N ty) (hin : ∀ z ∈ u_ws C T N, z ∈ Ts) {i a : Nat} {fs : List Value} (hA : At w i a (.inr (ci, fs))) (k : Nat) (hk : k < N) (hlink : Cond.fieldLink own index (T k).1 (T k).2.1 (T k).2.2.1 ∈ Ts) (hfin : (T k).2.2.2 = true) (hin2 : meth.name = "<init>") (hdecl : (T k).1 = own) {v : Value} (hn : narrow (ty k) v = v) (hfit : fits (ty k) v = true) (hlen : k < fs.length) (hdg : decode cc pc = .ok (.putfield index, 3))
    (kk : ∀ (W2 : wT) (H1 : Heap) (locs1 : List Loc), Up w i (.inr (ci, fs.set k v)) W2 → rX D q A H0 s W2 H1 locs1 → W p l e R s m args below meth c H1 locs1 cells slots Q (F0 m (pc + 3) ls rest)) : W p l e R s m args below meth c H locs cells slots Q (F0 m pc ls (v :: .ref a :: rest)) := by
  obtain ⟨hl, rfl, hc⟩ := hA
  exact r_putF hC hw hk0 hin i hl hc k hk hlink hfin hin2 hdecl hn hfit hlen hdg (fun H1 locs1 h => kk _ H1 locs1 rfl h)
theorem a_new (hC : CallFix p m c cc nL s args Ts own) (hw : rX D q A H0 s w H locs) (hk0 : rCl ci C T N ty) (hin : ∀ z ∈ u_ws C T N, z ∈ Ts) (hcl : Cond.classLink own index C ∈ Ts) (hinst : Cond.instantiable C N ∈ Ts) (hini : Cond.initialized C ∈ Ts) (i : Nat) (hl : Nl w i) {fs : List Value} (hfs : ∀ j, j < N → defaultValue (ty j) = vp_V fs j) (hcells : cells + 1 ≤ R.cells) (hslots : slots + N ≤ R.slots) (hdg : decode cc pc = .ok (.new index, 3))
    (kk : ∀ (a : Nat) (W2 : wT) (H1 : Heap), Nw w i a (.inr (ci, fs)) W2 → rX D q A H0 s W2 H1 locs → W p l e R s m args below meth c H1 locs (cells + 1) (slots + N) Q (F0 m (pc + 3) ls (.ref a :: rest))) : W p l e R s m args below meth c H locs cells slots Q (F0 m pc ls rest) :=
  r_new hC hw hk0 hin hcl hinst hini i hl hfs hcells hslots hdg (fun a H1 h => kk a _ H1 rfl h)
theorem a_newa (hC : CallFix p m c cc nL s args Ts own) (hw : rX D q A H0 s w H locs) (t0 : Nat) {atype : ArrayType} {ty : FieldType} (harr : Cond.arrayClass (newarray.typeOf atype) ∈ Ts) (hty : newarray.typeOf atype = ty) (ht : (qT q)[t0]? = some (q t0, ty)) (hnr : ∀ C, ty ≠ .object C) (i : Nat) (hl : Nl w i) {N' : Nat} {a0 : vp_A} (ha : ∀ cA : ClassId, vp_cell cA a0 = arrV cA N' (fun _ => defaultValue ty)) (hn : ¬ j < 0) (hN : j.toNatClampNeg = N') (hbytes : N' * componentBytes ty ≤ 536870912) (hcells : cells + 1 ≤ R.cells) (hslots : slots + N' ≤ R.slots) (hdg : decode cc pc = .ok (.newarray atype, 2))
    (kk : ∀ (a : Nat) (W2 : wT) (H1 : Heap), Nw w i a (.inl (q t0, a0)) W2 → rX D q A H0 s W2 H1 locs → W p l e R s m args below meth c H1 locs (cells + 1) (slots + N') Q (F0 m (pc + 2) ls (.ref a :: rest))) : W p l e R s m args below meth c H locs cells slots Q (F0 m pc ls (.int j :: rest)) :=
  r_newa hC hw t0 harr hty ht hnr i hl ha hn hN hbytes hcells hslots hdg (fun a H1 h => kk a _ H1 rfl h)
theorem a_newq (hC : CallFix p m c cc nL s args Ts own) (hw : rX D q A H0 s w H locs) (t0 : Nat) {C : String} {index : Nat} (hclink : Cond.classLink own index C ∈ Ts) (hover : va_AO C s) (ht : (qT q)[t0]? = some (q t0, .object C)) (i : Nat) (hl : Nl w i) {N' : Nat} (hn : ¬ j < 0) (hN : j.toNatClampNeg = N') (hbytes : N' * 4 ≤ 536870912) (hcells : cells + 1 ≤ R.cells) (hslots : slots + N' ≤ R.slots) (hdg : decode cc pc = .ok (.anewarray index, 3))
    (kk : ∀ (a : Nat) (W2 : wT) (H1 : Heap), Nw w i a (.inl (q t0, N', .inr (.inr (.inr (.inr (fun _ => none)))))) W2 → rX D q A H0 s W2 H1 locs → W p l e R s m args below meth c H1 locs (cells + 1) (slots + N') Q (F0 m (pc + 3) ls (.ref a :: rest))) : W p l e R s m args below meth c H locs cells slots Q (F0 m pc ls (.int j :: rest)) :=
  r_newq hC hw t0 hclink hover ht i hl hn hN hbytes hcells hslots hdg (fun a H1 h => kk a _ H1 rfl h)
theorem a_obj (hC : CallFix p m c cc nL s args Ts own) {idx : Nat} (hlink : Cond.methodLink own idx objectInit ∈ Ts) (hinst : Cond.instanceMethod objectInit ∈ Ts) (hcode : Cond.code objectInit ⟨#[0xb1]⟩ 1 none ∈ Ts) {a : Nat} (hsize : ls.size = nL) (hdg : decode cc pc = .ok (.invokespecial idx, 3)) (hf : 1 ≤ R.frames) (hlo : 12 ≤ R.locals)
    (kk : W p l e R s m args below meth c H locs cells slots Q (F0 m (pc + 3) ls [])) : W p l e R s m args below meth c H locs cells slots Q (F0 m pc ls [.ref a]) := by
  refine W.objInit hC.1 hC.2.1 hC.2.2.2.1 (hC.2.2.2.2 _ hlink) (hC.2.2.2.2 _ hinst) (hC.2.2.2.2 _ hcode) rfl (hsize.trans hC.2.2.1.symm) rfl hdg hf hlo ?_
  exact W.eq (g2 := F0 m (pc + 3) ls []) rfl kk
end AA
theorem cell_i0 (cA : ClassId) (n : Nat) : vp_cell cA (n, .inl (fun _ => 0)) = arrV cA n (fun _ => defaultValue .int) := rfl
theorem cell_j0 (cA : ClassId) (n : Nat) : vp_cell cA (n, .inr (.inl (fun _ => 0))) = arrV cA n (fun _ => defaultValue .long) := rfl
theorem cell_f0 (cA : ClassId) (n : Nat) : vp_cell cA (n, .inr (.inr (.inl (fun _ => FP.fconst0)))) = arrV cA n (fun _ => defaultValue .float) := rfl
theorem cell_d0 (cA : ClassId) (n : Nat) : vp_cell cA (n, .inr (.inr (.inr (.inl (fun _ => FP.dconst0))))) = arrV cA n (fun _ => defaultValue .double) := rfl
theorem len12 {p : Prop} [Decidable p] {z : Int32} (h : vp_in z 13) : (if p then aN z else 0) ≤ 12 := by
  have h1 : aN z ≤ 12 := by
    obtain ⟨n, hn, rfl⟩ := vp_in_of h (by decide)
    rw [show aN (nI n) = n from nI_clamp (by omega)]; omega
  by_cases hp : p
  · rw [if_pos hp]; exact h1
  · rw [if_neg hp]; exact Nat.zero_le _
def nNum (kd pl : Int32) : Nat := if kd ≤ 5 then aN pl else 0
def nPts (kd pl : Int32) : Nat := if kd = 6 ∨ kd = 7 then aN pl else 0
def nMem (kd pl : Int32) : Nat := if 8 ≤ kd ∧ kd ≤ 10 then aN pl else 0
/-- the thing at the role i, with its arrays at the three roles behind it -/
def ThP (q : Nat → ClassId) (w W : wT) (i : Nat) (kd pl : Int32) : Prop := Kp w W (fun r => r = i) (fun r => r = i + 1 ∨ r = i + 2 ∨ r = i + 3) ∧ ∃ a1 a2 a3, At W i (w.1 i) (.inr (6, [.int kd, .int pl, .ref a1, .ref a2, .ref a3, .int 0, .long 0, .null])) ∧ At W (i + 1) a1 (.inl (q 1, nNum kd pl, .inr (.inl (fun _ => 0)))) ∧ At W (i + 2) a2 (.inl (q 3, nPts kd pl, .inr (.inr (.inr (.inl (fun _ => FP.dconst0)))))) ∧ At W (i + 3) a3 (.inl (q 6, nMem kd pl, .inr (.inr (.inr (.inr (fun _ => none))))))
theorem hb12 {n : Nat} (h : n ≤ 12) {ty : FieldType} (hty : componentBytes ty ≤ 8 := by decide) : n * componentBytes ty ≤ 536870912 := Nat.le_trans (Nat.mul_le_mul h hty) (by decide)
theorem hb12q {n : Nat} (h : n ≤ 12) : n * 4 ≤ 536870912 := by omega
set_option maxHeartbeats 4000000 in
set_option maxRecDepth 100000 in
theorem c_X6_init (l : Launch) {D : va_G} {q : Nat → ClassId} (w : wT) (sz : Nat) (i : Nat) (kd pl : Int32) (hpl : vp_in pl 13) (hl_i : w.2.1 i) (hc_i : w.2.2 i = .inr (6, [.int 0, .int 0, .null, .null, .null, .int 0, .long 0, .null])) (h1 : ¬ w.2.1 (i + 1)) (h2 : ¬ w.2.1 (i + 2)) (h3 : ¬ w.2.1 (i + 3)) : Met l yX6_init wsX6_init (rmc 1 12 3 36) (va_Pc [.ref (w.1 i), .int kd, .int pl] (rPre D q w sz)) (va_Qv (fun (u : wT) => ThP q w u i kd pl) (fun (u : wT) tt => rPo D (rA w sz) u tt) (rA w sz)) 3 36 (rA w sz) := by
  refine r_start (cc := cX6_init) (maxL := 3) (ret := none) (by decide) rfl (Nat.le_of_ble_eq_true rfl) ?_
  intro p e s m below meth c ls hC hr hlk hnm hsz hw hl
  have hx := hC.1
  have hb := hC.2.1
  have hl : lv_has ls 3 [(0, .ref (w.1 i)), (1, .int kd), (2, .int pl)] := hl
  have k_i : At w i (w.1 i) (.inr (6, [.int 0, .int 0, .null, .null, .null, .int 0, .long 0, .null])) := ⟨hl_i, rfl, hc_i⟩
  have n_j1 : Nl w (i + 1) := h1
  have n_j2 : Nl w (i + 2) := h2
  have n_j3 : Nl w (i + 3) := h3
  have kp : Kp w w (fun r => r = i) (fun r => r = i + 1 ∨ r = i + 2 ∨ r = i + 3) := Kp.rf
  have h_nNum : nNum kd pl ≤ 12 := len12 hpl
  have h_nPts : nPts kd pl ≤ 12 := len12 hpl
  have h_nMem : nMem kd pl ≤ 12 := len12 hpl
  refine lv_aload_n hx hb dX6_init_0 rfl (lv_at hl 0 rfl) ?_
  refine a_obj hC lk_X6_init_3 lki_X6_init_3 lkc_X6_init_3 hl.1 dX6_init_1 (Nat.le_of_ble_eq_true rfl) (Nat.le_of_ble_eq_true rfl) ?_
  refine lv_aload_n hx hb dX6_init_4 rfl (lv_at hl 0 rfl) ?_
  refine lv_iload_n hx hb dX6_init_5 rfl (lv_at hl 1 rfl) ?_
  refine a_putF hC hw rk6 in_X6_init_6 k_i 0 (by decide) lk_X6_init_9 rfl hnm rfl rfl rfl (Nat.le_of_ble_eq_true rfl) dX6_init_6 (fun W H locs hup hw => ?_)
  replace k_i : At W i (w.1 i) (.inr (6, [.int kd, .int 0, .null, .null, .null, .int 0, .long 0, .null])) := k_i.u hup
  replace n_j1 := n_j1.u hup
  replace n_j2 := n_j2.u hup
  replace n_j3 := n_j3.u hup
  replace kp := kp.u hup (by first | exact Or.inl (by omega) | exact Or.inr (by assumption))
  clear hup
  refine lv_aload_n hx hb dX6_init_9 rfl (lv_at hl 0 rfl) ?_
  refine lv_iload_n hx hb dX6_init_10 rfl (lv_at hl 2 rfl) ?_
  refine lv_if_ge (tgt := 18) hx hb dX6_init_11 (by decide) (fun _ => ?_) (fun c_ => absurd (Int32.not_lt.mp (hN_toN hpl)) c_)
  refine lv_iload_n hx hb dX6_init_18 rfl (lv_at hl 2 rfl) ?_
  refine a_putF hC hw rk6 in_X6_init_6 k_i 1 (by decide) lk_X6_init_15 rfl hnm rfl rfl rfl (Nat.le_of_ble_eq_true rfl) dX6_init_19 (fun W H locs hup hw => ?_)
  replace k_i : At W i (w.1 i) (.inr (6, [.int kd, .int pl, .null, .null, .null, .int 0, .long 0, .null])) := k_i.u hup
  replace n_j1 := n_j1.u hup
  replace n_j2 := n_j2.u hup
  replace n_j3 := n_j3.u hup
  replace kp := kp.u hup (by first | exact Or.inl (by omega) | exact Or.inr (by assumption))
  clear hup
  refine lv_aload_n hx hb dX6_init_22 rfl (lv_at hl 0 rfl) ?_
  refine lv_iload_n hx hb dX6_init_23 rfl (lv_at hl 1 rfl) ?_
  refine lv_iconst (v := 5) hx hb dX6_init_24 (by decide) ?_
  refine lv_icmp_gt (tgt := 35) hx hb dX6_init_25 (by decide) (fun c_1 => ?_) (fun c_1 => ?_)
  · refine lv_iconst (v := 0) hx hb dX6_init_35 (by decide) ?_
    refine a_newa hC hw 1 lka_X6_init_long rfl rfl (fun _ h => by cases h) (i + 1) n_j1 (N' := (nNum kd pl)) (fun cA => cell_j0 cA _) (by decide) (if_neg (Int32.not_le.mpr c_1)).symm (hb12 h_nNum) (Nat.le_of_ble_eq_true rfl) (show (0) + (nNum kd pl) ≤ 36 by omega) dX6_init_36 (fun a_j1 W H hup hw => ?_)
    replace k_i := k_i.m hup (by omega)
    have k_j1 := At.n hup
    replace n_j2 := n_j2.n hup (by omega)
    replace n_j3 := n_j3.n hup (by omega)
    replace kp := kp.n hup (by omega) (by assumption)
    clear hup
    refine a_putF hC hw rk6 in_X6_init_6 k_i 2 (by decide) lk_X6_init_18 rfl hnm rfl rfl rfl (Nat.le_of_ble_eq_true rfl) dX6_init_38 (fun W H locs hup hw => ?_)
    replace k_j1 := k_j1.v hup (by omega)
    replace k_i : At W i (w.1 i) (.inr (6, [.int kd, .int pl, .ref a_j1, .null, .null, .int 0, .long 0, .null])) := k_i.u hup
    replace n_j2 := n_j2.u hup
    replace n_j3 := n_j3.u hup
    replace kp := kp.u hup (by first | exact Or.inl (by omega) | exact Or.inr (by assumption))
    clear hup
    refine lv_aload_n hx hb dX6_init_41 rfl (lv_at hl 0 rfl) ?_
    refine lv_iload_n hx hb dX6_init_42 rfl (lv_at hl 1 rfl) ?_
    refine lv_bipush (v := 6) hx hb dX6_init_43 (by decide) ?_
    refine lv_icmp_eq (tgt := 54) hx hb dX6_init_45 (by decide) (fun c_2 => ?_) (fun c_2 => ?_)
    · refine lv_aload_n hx hb dX6_init_54 rfl (lv_at hl 0 rfl) ?_
      refine a_get hC hw rk6 in_X6_init_6 k_i 1 (by decide) lk_X6_init_15 (v := .int pl) rfl dX6_init_55 ?_
      refine lv_goto (tgt := 62) hx hb dX6_init_58 (by decide) ?_
      refine a_newa hC hw 3 lka_X6_init_double rfl rfl (fun _ h => by cases h) (i + 2) n_j2 (N' := (nPts kd pl)) (fun cA => cell_d0 cA _) (hN_toN hpl) (if_pos (Or.inl c_2)).symm (hb12 h_nPts) (Nat.le_of_ble_eq_true rfl) (show ((0 + (nNum kd pl))) + (nPts kd pl) ≤ 36 by omega) dX6_init_62 (fun a_j2 W H hup hw => ?_)
      replace k_i := k_i.m hup (by omega)
      replace k_j1 := k_j1.m hup (by omega)
      have k_j2 := At.n hup
      replace n_j3 := n_j3.n hup (by omega)
      replace kp := kp.n hup (by omega) (by assumption)
      clear hup
      refine a_putF hC hw rk6 in_X6_init_6 k_i 3 (by decide) lk_X6_init_22 rfl hnm rfl rfl rfl (Nat.le_of_ble_eq_true rfl) dX6_init_64 (fun W H locs hup hw => ?_)
      replace k_j1 := k_j1.v hup (by omega)
      replace k_j2 := k_j2.v hup (by omega)
      replace k_i : At W i (w.1 i) (.inr (6, [.int kd, .int pl, .ref a_j1, .ref a_j2, .null, .int 0, .long 0, .null])) := k_i.u hup
      replace n_j3 := n_j3.u hup
      replace kp := kp.u hup (by first | exact Or.inl (by omega) | exact Or.inr (by assumption))
      clear hup
      refine lv_aload_n hx hb dX6_init_67 rfl (lv_at hl 0 rfl) ?_
      refine lv_iload_n hx hb dX6_init_68 rfl (lv_at hl 1 rfl) ?_
      refine lv_bipush (v := 8) hx hb dX6_init_69 (by decide) ?_
      refine lv_icmp_lt (tgt := 87) hx hb dX6_init_71 (by decide) (fun c_3 => ?_) (fun c_3 => ?_)
      · refine lv_iconst (v := 0) hx hb dX6_init_87 (by decide) ?_
        refine a_newq hC hw 6 lk_X6_init_10 hw.1.2.2.1 rfl (i + 3) n_j3 (N' := (nMem kd pl)) (by decide) (if_neg (fun h => Int32.not_le.mpr c_3 h.1)).symm (hb12q h_nMem) (Nat.le_of_ble_eq_true rfl) (show (((0 + (nNum kd pl)) + (nPts kd pl))) + (nMem kd pl) ≤ 36 by omega) dX6_init_88 (fun a_j3 W H hup hw => ?_)
        replace k_i := k_i.m hup (by omega)
        replace k_j1 := k_j1.m hup (by omega)
        replace k_j2 := k_j2.m hup (by omega)
        have k_j3 := At.n hup
        replace kp := kp.n hup (by omega) (by assumption)
        clear hup
        refine a_putF hC hw rk6 in_X6_init_6 k_i 4 (by decide) lk_X6_init_26 rfl hnm rfl rfl rfl (Nat.le_of_ble_eq_true rfl) dX6_init_91 (fun W H locs hup hw => ?_)
        replace k_j1 := k_j1.v hup (by omega)
        replace k_j2 := k_j2.v hup (by omega)
        replace k_j3 := k_j3.v hup (by omega)
        replace k_i : At W i (w.1 i) (.inr (6, [.int kd, .int pl, .ref a_j1, .ref a_j2, .ref a_j3, .int 0, .long 0, .null])) := k_i.u hup
        replace kp := kp.u hup (by first | exact Or.inl (by omega) | exact Or.inr (by assumption))
        clear hup
        exact r_vret hC hr hlk hw W rfl ⟨kp, a_j1, a_j2, a_j3, k_i, k_j1, k_j2, k_j3⟩ (Nat.le_of_ble_eq_true rfl) (show _ ≤ 36 by omega) dX6_init_94
      · refine lv_iload_n hx hb dX6_init_74 rfl (lv_at hl 1 rfl) ?_
        refine lv_bipush (v := 10) hx hb dX6_init_75 (by decide) ?_
        refine lv_icmp_gt (tgt := 87) hx hb dX6_init_77 (by decide) (fun c_4 => ?_) (fun c_4 => ?_)
        · refine lv_iconst (v := 0) hx hb dX6_init_87 (by decide) ?_
          refine a_newq hC hw 6 lk_X6_init_10 hw.1.2.2.1 rfl (i + 3) n_j3 (N' := (nMem kd pl)) (by decide) (if_neg (fun h => Int32.not_le.mpr c_4 h.2)).symm (hb12q h_nMem) (Nat.le_of_ble_eq_true rfl) (show (((0 + (nNum kd pl)) + (nPts kd pl))) + (nMem kd pl) ≤ 36 by omega) dX6_init_88 (fun a_j3 W H hup hw => ?_)
          replace k_i := k_i.m hup (by omega)
          replace k_j1 := k_j1.m hup (by omega)
          replace k_j2 := k_j2.m hup (by omega)
          have k_j3 := At.n hup
          replace kp := kp.n hup (by omega) (by assumption)
          clear hup
          refine a_putF hC hw rk6 in_X6_init_6 k_i 4 (by decide) lk_X6_init_26 rfl hnm rfl rfl rfl (Nat.le_of_ble_eq_true rfl) dX6_init_91 (fun W H locs hup hw => ?_)
          replace k_j1 := k_j1.v hup (by omega)
          replace k_j2 := k_j2.v hup (by omega)
          replace k_j3 := k_j3.v hup (by omega)
          replace k_i : At W i (w.1 i) (.inr (6, [.int kd, .int pl, .ref a_j1, .ref a_j2, .ref a_j3, .int 0, .long 0, .null])) := k_i.u hup
          replace kp := kp.u hup (by first | exact Or.inl (by omega) | exact Or.inr (by assumption))
          clear hup
          exact r_vret hC hr hlk hw W rfl ⟨kp, a_j1, a_j2, a_j3, k_i, k_j1, k_j2, k_j3⟩ (Nat.le_of_ble_eq_true rfl) (show _ ≤ 36 by omega) dX6_init_94
        · refine lv_aload_n hx hb dX6_init_80 rfl (lv_at hl 0 rfl) ?_
          refine a_get hC hw rk6 in_X6_init_6 k_i 1 (by decide) lk_X6_init_15 (v := .int pl) rfl dX6_init_81 ?_
          refine lv_goto (tgt := 88) hx hb dX6_init_84 (by decide) ?_
          refine a_newq hC hw 6 lk_X6_init_10 hw.1.2.2.1 rfl (i + 3) n_j3 (N' := (nMem kd pl)) (hN_toN hpl) (if_pos ⟨Int32.not_lt.mp c_3, Int32.not_lt.mp c_4⟩).symm (hb12q h_nMem) (Nat.le_of_ble_eq_true rfl) (show (((0 + (nNum kd pl)) + (nPts kd pl))) + (nMem kd pl) ≤ 36 by omega) dX6_init_88 (fun a_j3 W H hup hw => ?_)
          replace k_i := k_i.m hup (by omega)
          replace k_j1 := k_j1.m hup (by omega)
          replace k_j2 := k_j2.m hup (by omega)
          have k_j3 := At.n hup
          replace kp := kp.n hup (by omega) (by assumption)
          clear hup
          refine a_putF hC hw rk6 in_X6_init_6 k_i 4 (by decide) lk_X6_init_26 rfl hnm rfl rfl rfl (Nat.le_of_ble_eq_true rfl) dX6_init_91 (fun W H locs hup hw => ?_)
          replace k_j1 := k_j1.v hup (by omega)
          replace k_j2 := k_j2.v hup (by omega)
          replace k_j3 := k_j3.v hup (by omega)
          replace k_i : At W i (w.1 i) (.inr (6, [.int kd, .int pl, .ref a_j1, .ref a_j2, .ref a_j3, .int 0, .long 0, .null])) := k_i.u hup
          replace kp := kp.u hup (by first | exact Or.inl (by omega) | exact Or.inr (by assumption))
          clear hup
          exact r_vret hC hr hlk hw W rfl ⟨kp, a_j1, a_j2, a_j3, k_i, k_j1, k_j2, k_j3⟩ (Nat.le_of_ble_eq_true rfl) (show _ ≤ 36 by omega) dX6_init_94
    · refine lv_iload_n hx hb dX6_init_48 rfl (lv_at hl 1 rfl) ?_
      refine lv_bipush (v := 7) hx hb dX6_init_49 (by decide) ?_
      refine lv_icmp_ne (tgt := 61) hx hb dX6_init_51 (by decide) (fun c_5 => ?_) (fun c_5 => ?_)
      · refine lv_iconst (v := 0) hx hb dX6_init_61 (by decide) ?_
        refine a_newa hC hw 3 lka_X6_init_double rfl rfl (fun _ h => by cases h) (i + 2) n_j2 (N' := (nPts kd pl)) (fun cA => cell_d0 cA _) (by decide) (if_neg (fun h => h.elim c_2 c_5)).symm (hb12 h_nPts) (Nat.le_of_ble_eq_true rfl) (show ((0 + (nNum kd pl))) + (nPts kd pl) ≤ 36 by omega) dX6_init_62 (fun a_j2 W H hup hw => ?_)
        replace k_i := k_i.m hup (by omega)
        replace k_j1 := k_j1.m hup (by omega)
        have k_j2 := At.n hup
        replace n_j3 := n_j3.n hup (by omega)
        replace kp := kp.n hup (by omega) (by assumption)
        clear hup
        refine a_putF hC hw rk6 in_X6_init_6 k_i 3 (by decide) lk_X6_init_22 rfl hnm rfl rfl rfl (Nat.le_of_ble_eq_true rfl) dX6_init_64 (fun W H locs hup hw => ?_)
        replace k_j1 := k_j1.v hup (by omega)
        replace k_j2 := k_j2.v hup (by omega)
        replace k_i : At W i (w.1 i) (.inr (6, [.int kd, .int pl, .ref a_j1, .ref a_j2, .null, .int 0, .long 0, .null])) := k_i.u hup
        replace n_j3 := n_j3.u hup
        replace kp := kp.u hup (by first | exact Or.inl (by omega) | exact Or.inr (by assumption))
        clear hup
        refine lv_aload_n hx hb dX6_init_67 rfl (lv_at hl 0 rfl) ?_
        refine lv_iload_n hx hb dX6_init_68 rfl (lv_at hl 1 rfl) ?_
        refine lv_bipush (v := 8) hx hb dX6_init_69 (by decide) ?_
        refine lv_icmp_lt (tgt := 87) hx hb dX6_init_71 (by decide) (fun c_6 => ?_) (fun c_6 => ?_)
        · refine lv_iconst (v := 0) hx hb dX6_init_87 (by decide) ?_
          refine a_newq hC hw 6 lk_X6_init_10 hw.1.2.2.1 rfl (i + 3) n_j3 (N' := (nMem kd pl)) (by decide) (if_neg (fun h => Int32.not_le.mpr c_6 h.1)).symm (hb12q h_nMem) (Nat.le_of_ble_eq_true rfl) (show (((0 + (nNum kd pl)) + (nPts kd pl))) + (nMem kd pl) ≤ 36 by omega) dX6_init_88 (fun a_j3 W H hup hw => ?_)
          replace k_i := k_i.m hup (by omega)
          replace k_j1 := k_j1.m hup (by omega)
          replace k_j2 := k_j2.m hup (by omega)
          have k_j3 := At.n hup
          replace kp := kp.n hup (by omega) (by assumption)
          clear hup
          refine a_putF hC hw rk6 in_X6_init_6 k_i 4 (by decide) lk_X6_init_26 rfl hnm rfl rfl rfl (Nat.le_of_ble_eq_true rfl) dX6_init_91 (fun W H locs hup hw => ?_)
          replace k_j1 := k_j1.v hup (by omega)
          replace k_j2 := k_j2.v hup (by omega)
          replace k_j3 := k_j3.v hup (by omega)
          replace k_i : At W i (w.1 i) (.inr (6, [.int kd, .int pl, .ref a_j1, .ref a_j2, .ref a_j3, .int 0, .long 0, .null])) := k_i.u hup
          replace kp := kp.u hup (by first | exact Or.inl (by omega) | exact Or.inr (by assumption))
          clear hup
          exact r_vret hC hr hlk hw W rfl ⟨kp, a_j1, a_j2, a_j3, k_i, k_j1, k_j2, k_j3⟩ (Nat.le_of_ble_eq_true rfl) (show _ ≤ 36 by omega) dX6_init_94
        · refine lv_iload_n hx hb dX6_init_74 rfl (lv_at hl 1 rfl) ?_
          refine lv_bipush (v := 10) hx hb dX6_init_75 (by decide) ?_
          refine lv_icmp_gt (tgt := 87) hx hb dX6_init_77 (by decide) (fun c_7 => ?_) (fun c_7 => ?_)
          · refine lv_iconst (v := 0) hx hb dX6_init_87 (by decide) ?_
            refine a_newq hC hw 6 lk_X6_init_10 hw.1.2.2.1 rfl (i + 3) n_j3 (N' := (nMem kd pl)) (by decide) (if_neg (fun h => Int32.not_le.mpr c_7 h.2)).symm (hb12q h_nMem) (Nat.le_of_ble_eq_true rfl) (show (((0 + (nNum kd pl)) + (nPts kd pl))) + (nMem kd pl) ≤ 36 by omega) dX6_init_88 (fun a_j3 W H hup hw => ?_)
            replace k_i := k_i.m hup (by omega)
            replace k_j1 := k_j1.m hup (by omega)
            replace k_j2 := k_j2.m hup (by omega)
            have k_j3 := At.n hup
            replace kp := kp.n hup (by omega) (by assumption)
            clear hup
            refine a_putF hC hw rk6 in_X6_init_6 k_i 4 (by decide) lk_X6_init_26 rfl hnm rfl rfl rfl (Nat.le_of_ble_eq_true rfl) dX6_init_91 (fun W H locs hup hw => ?_)
            replace k_j1 := k_j1.v hup (by omega)
            replace k_j2 := k_j2.v hup (by omega)
            replace k_j3 := k_j3.v hup (by omega)
            replace k_i : At W i (w.1 i) (.inr (6, [.int kd, .int pl, .ref a_j1, .ref a_j2, .ref a_j3, .int 0, .long 0, .null])) := k_i.u hup
            replace kp := kp.u hup (by first | exact Or.inl (by omega) | exact Or.inr (by assumption))
            clear hup
            exact r_vret hC hr hlk hw W rfl ⟨kp, a_j1, a_j2, a_j3, k_i, k_j1, k_j2, k_j3⟩ (Nat.le_of_ble_eq_true rfl) (show _ ≤ 36 by omega) dX6_init_94
          · refine lv_aload_n hx hb dX6_init_80 rfl (lv_at hl 0 rfl) ?_
            refine a_get hC hw rk6 in_X6_init_6 k_i 1 (by decide) lk_X6_init_15 (v := .int pl) rfl dX6_init_81 ?_
            refine lv_goto (tgt := 88) hx hb dX6_init_84 (by decide) ?_
            refine a_newq hC hw 6 lk_X6_init_10 hw.1.2.2.1 rfl (i + 3) n_j3 (N' := (nMem kd pl)) (hN_toN hpl) (if_pos ⟨Int32.not_lt.mp c_6, Int32.not_lt.mp c_7⟩).symm (hb12q h_nMem) (Nat.le_of_ble_eq_true rfl) (show (((0 + (nNum kd pl)) + (nPts kd pl))) + (nMem kd pl) ≤ 36 by omega) dX6_init_88 (fun a_j3 W H hup hw => ?_)
            replace k_i := k_i.m hup (by omega)
            replace k_j1 := k_j1.m hup (by omega)
            replace k_j2 := k_j2.m hup (by omega)
            have k_j3 := At.n hup
            replace kp := kp.n hup (by omega) (by assumption)
            clear hup
            refine a_putF hC hw rk6 in_X6_init_6 k_i 4 (by decide) lk_X6_init_26 rfl hnm rfl rfl rfl (Nat.le_of_ble_eq_true rfl) dX6_init_91 (fun W H locs hup hw => ?_)
            replace k_j1 := k_j1.v hup (by omega)
            replace k_j2 := k_j2.v hup (by omega)
            replace k_j3 := k_j3.v hup (by omega)
            replace k_i : At W i (w.1 i) (.inr (6, [.int kd, .int pl, .ref a_j1, .ref a_j2, .ref a_j3, .int 0, .long 0, .null])) := k_i.u hup
            replace kp := kp.u hup (by first | exact Or.inl (by omega) | exact Or.inr (by assumption))
            clear hup
            exact r_vret hC hr hlk hw W rfl ⟨kp, a_j1, a_j2, a_j3, k_i, k_j1, k_j2, k_j3⟩ (Nat.le_of_ble_eq_true rfl) (show _ ≤ 36 by omega) dX6_init_94
      · refine lv_aload_n hx hb dX6_init_54 rfl (lv_at hl 0 rfl) ?_
        refine a_get hC hw rk6 in_X6_init_6 k_i 1 (by decide) lk_X6_init_15 (v := .int pl) rfl dX6_init_55 ?_
        refine lv_goto (tgt := 62) hx hb dX6_init_58 (by decide) ?_
        refine a_newa hC hw 3 lka_X6_init_double rfl rfl (fun _ h => by cases h) (i + 2) n_j2 (N' := (nPts kd pl)) (fun cA => cell_d0 cA _) (hN_toN hpl) (if_pos (Or.inr c_5)).symm (hb12 h_nPts) (Nat.le_of_ble_eq_true rfl) (show ((0 + (nNum kd pl))) + (nPts kd pl) ≤ 36 by omega) dX6_init_62 (fun a_j2 W H hup hw => ?_)
        replace k_i := k_i.m hup (by omega)
        replace k_j1 := k_j1.m hup (by omega)
        have k_j2 := At.n hup
        replace n_j3 := n_j3.n hup (by omega)
        replace kp := kp.n hup (by omega) (by assumption)
        clear hup
        refine a_putF hC hw rk6 in_X6_init_6 k_i 3 (by decide) lk_X6_init_22 rfl hnm rfl rfl rfl (Nat.le_of_ble_eq_true rfl) dX6_init_64 (fun W H locs hup hw => ?_)
        replace k_j1 := k_j1.v hup (by omega)
        replace k_j2 := k_j2.v hup (by omega)
        replace k_i : At W i (w.1 i) (.inr (6, [.int kd, .int pl, .ref a_j1, .ref a_j2, .null, .int 0, .long 0, .null])) := k_i.u hup
        replace n_j3 := n_j3.u hup
        replace kp := kp.u hup (by first | exact Or.inl (by omega) | exact Or.inr (by assumption))
        clear hup
        refine lv_aload_n hx hb dX6_init_67 rfl (lv_at hl 0 rfl) ?_
        refine lv_iload_n hx hb dX6_init_68 rfl (lv_at hl 1 rfl) ?_
        refine lv_bipush (v := 8) hx hb dX6_init_69 (by decide) ?_
        refine lv_icmp_lt (tgt := 87) hx hb dX6_init_71 (by decide) (fun c_8 => ?_) (fun c_8 => ?_)
        · refine lv_iconst (v := 0) hx hb dX6_init_87 (by decide) ?_
          refine a_newq hC hw 6 lk_X6_init_10 hw.1.2.2.1 rfl (i + 3) n_j3 (N' := (nMem kd pl)) (by decide) (if_neg (fun h => Int32.not_le.mpr c_8 h.1)).symm (hb12q h_nMem) (Nat.le_of_ble_eq_true rfl) (show (((0 + (nNum kd pl)) + (nPts kd pl))) + (nMem kd pl) ≤ 36 by omega) dX6_init_88 (fun a_j3 W H hup hw => ?_)
          replace k_i := k_i.m hup (by omega)
          replace k_j1 := k_j1.m hup (by omega)
          replace k_j2 := k_j2.m hup (by omega)
          have k_j3 := At.n hup
          replace kp := kp.n hup (by omega) (by assumption)
          clear hup
          refine a_putF hC hw rk6 in_X6_init_6 k_i 4 (by decide) lk_X6_init_26 rfl hnm rfl rfl rfl (Nat.le_of_ble_eq_true rfl) dX6_init_91 (fun W H locs hup hw => ?_)
          replace k_j1 := k_j1.v hup (by omega)
          replace k_j2 := k_j2.v hup (by omega)
          replace k_j3 := k_j3.v hup (by omega)
          replace k_i : At W i (w.1 i) (.inr (6, [.int kd, .int pl, .ref a_j1, .ref a_j2, .ref a_j3, .int 0, .long 0, .null])) := k_i.u hup
          replace kp := kp.u hup (by first | exact Or.inl (by omega) | exact Or.inr (by assumption))
          clear hup
          exact r_vret hC hr hlk hw W rfl ⟨kp, a_j1, a_j2, a_j3, k_i, k_j1, k_j2, k_j3⟩ (Nat.le_of_ble_eq_true rfl) (show _ ≤ 36 by omega) dX6_init_94
        · refine lv_iload_n hx hb dX6_init_74 rfl (lv_at hl 1 rfl) ?_
          refine lv_bipush (v := 10) hx hb dX6_init_75 (by decide) ?_
          refine lv_icmp_gt (tgt := 87) hx hb dX6_init_77 (by decide) (fun c_9 => ?_) (fun c_9 => ?_)
          · refine lv_iconst (v := 0) hx hb dX6_init_87 (by decide) ?_
            refine a_newq hC hw 6 lk_X6_init_10 hw.1.2.2.1 rfl (i + 3) n_j3 (N' := (nMem kd pl)) (by decide) (if_neg (fun h => Int32.not_le.mpr c_9 h.2)).symm (hb12q h_nMem) (Nat.le_of_ble_eq_true rfl) (show (((0 + (nNum kd pl)) + (nPts kd pl))) + (nMem kd pl) ≤ 36 by omega) dX6_init_88 (fun a_j3 W H hup hw => ?_)
            replace k_i := k_i.m hup (by omega)
            replace k_j1 := k_j1.m hup (by omega)
            replace k_j2 := k_j2.m hup (by omega)
            have k_j3 := At.n hup
            replace kp := kp.n hup (by omega) (by assumption)
            clear hup
            refine a_putF hC hw rk6 in_X6_init_6 k_i 4 (by decide) lk_X6_init_26 rfl hnm rfl rfl rfl (Nat.le_of_ble_eq_true rfl) dX6_init_91 (fun W H locs hup hw => ?_)
            replace k_j1 := k_j1.v hup (by omega)
            replace k_j2 := k_j2.v hup (by omega)
            replace k_j3 := k_j3.v hup (by omega)
            replace k_i : At W i (w.1 i) (.inr (6, [.int kd, .int pl, .ref a_j1, .ref a_j2, .ref a_j3, .int 0, .long 0, .null])) := k_i.u hup
            replace kp := kp.u hup (by first | exact Or.inl (by omega) | exact Or.inr (by assumption))
            clear hup
            exact r_vret hC hr hlk hw W rfl ⟨kp, a_j1, a_j2, a_j3, k_i, k_j1, k_j2, k_j3⟩ (Nat.le_of_ble_eq_true rfl) (show _ ≤ 36 by omega) dX6_init_94
          · refine lv_aload_n hx hb dX6_init_80 rfl (lv_at hl 0 rfl) ?_
            refine a_get hC hw rk6 in_X6_init_6 k_i 1 (by decide) lk_X6_init_15 (v := .int pl) rfl dX6_init_81 ?_
            refine lv_goto (tgt := 88) hx hb dX6_init_84 (by decide) ?_
            refine a_newq hC hw 6 lk_X6_init_10 hw.1.2.2.1 rfl (i + 3) n_j3 (N' := (nMem kd pl)) (hN_toN hpl) (if_pos ⟨Int32.not_lt.mp c_8, Int32.not_lt.mp c_9⟩).symm (hb12q h_nMem) (Nat.le_of_ble_eq_true rfl) (show (((0 + (nNum kd pl)) + (nPts kd pl))) + (nMem kd pl) ≤ 36 by omega) dX6_init_88 (fun a_j3 W H hup hw => ?_)
            replace k_i := k_i.m hup (by omega)
            replace k_j1 := k_j1.m hup (by omega)
            replace k_j2 := k_j2.m hup (by omega)
            have k_j3 := At.n hup
            replace kp := kp.n hup (by omega) (by assumption)
            clear hup
            refine a_putF hC hw rk6 in_X6_init_6 k_i 4 (by decide) lk_X6_init_26 rfl hnm rfl rfl rfl (Nat.le_of_ble_eq_true rfl) dX6_init_91 (fun W H locs hup hw => ?_)
            replace k_j1 := k_j1.v hup (by omega)
            replace k_j2 := k_j2.v hup (by omega)
            replace k_j3 := k_j3.v hup (by omega)
            replace k_i : At W i (w.1 i) (.inr (6, [.int kd, .int pl, .ref a_j1, .ref a_j2, .ref a_j3, .int 0, .long 0, .null])) := k_i.u hup
            replace kp := kp.u hup (by first | exact Or.inl (by omega) | exact Or.inr (by assumption))
            clear hup
            exact r_vret hC hr hlk hw W rfl ⟨kp, a_j1, a_j2, a_j3, k_i, k_j1, k_j2, k_j3⟩ (Nat.le_of_ble_eq_true rfl) (show _ ≤ 36 by omega) dX6_init_94
  · refine lv_aload_n hx hb dX6_init_28 rfl (lv_at hl 0 rfl) ?_
    refine a_get hC hw rk6 in_X6_init_6 k_i 1 (by decide) lk_X6_init_15 (v := .int pl) rfl dX6_init_29 ?_
    refine lv_goto (tgt := 36) hx hb dX6_init_32 (by decide) ?_
    refine a_newa hC hw 1 lka_X6_init_long rfl rfl (fun _ h => by cases h) (i + 1) n_j1 (N' := (nNum kd pl)) (fun cA => cell_j0 cA _) (hN_toN hpl) (if_pos (Int32.not_lt.mp c_1)).symm (hb12 h_nNum) (Nat.le_of_ble_eq_true rfl) (show (0) + (nNum kd pl) ≤ 36 by omega) dX6_init_36 (fun a_j1 W H hup hw => ?_)
    replace k_i := k_i.m hup (by omega)
    have k_j1 := At.n hup
    replace n_j2 := n_j2.n hup (by omega)
    replace n_j3 := n_j3.n hup (by omega)
    replace kp := kp.n hup (by omega) (by assumption)
    clear hup
    refine a_putF hC hw rk6 in_X6_init_6 k_i 2 (by decide) lk_X6_init_18 rfl hnm rfl rfl rfl (Nat.le_of_ble_eq_true rfl) dX6_init_38 (fun W H locs hup hw => ?_)
    replace k_j1 := k_j1.v hup (by omega)
    replace k_i : At W i (w.1 i) (.inr (6, [.int kd, .int pl, .ref a_j1, .null, .null, .int 0, .long 0, .null])) := k_i.u hup
    replace n_j2 := n_j2.u hup
    replace n_j3 := n_j3.u hup
    replace kp := kp.u hup (by first | exact Or.inl (by omega) | exact Or.inr (by assumption))
    clear hup
    refine lv_aload_n hx hb dX6_init_41 rfl (lv_at hl 0 rfl) ?_
    refine lv_iload_n hx hb dX6_init_42 rfl (lv_at hl 1 rfl) ?_
    refine lv_bipush (v := 6) hx hb dX6_init_43 (by decide) ?_
    refine lv_icmp_eq (tgt := 54) hx hb dX6_init_45 (by decide) (fun c_10 => ?_) (fun c_10 => ?_)
    · refine lv_aload_n hx hb dX6_init_54 rfl (lv_at hl 0 rfl) ?_
      refine a_get hC hw rk6 in_X6_init_6 k_i 1 (by decide) lk_X6_init_15 (v := .int pl) rfl dX6_init_55 ?_
      refine lv_goto (tgt := 62) hx hb dX6_init_58 (by decide) ?_
      refine a_newa hC hw 3 lka_X6_init_double rfl rfl (fun _ h => by cases h) (i + 2) n_j2 (N' := (nPts kd pl)) (fun cA => cell_d0 cA _) (hN_toN hpl) (if_pos (Or.inl c_10)).symm (hb12 h_nPts) (Nat.le_of_ble_eq_true rfl) (show ((0 + (nNum kd pl))) + (nPts kd pl) ≤ 36 by omega) dX6_init_62 (fun a_j2 W H hup hw => ?_)
      replace k_i := k_i.m hup (by omega)
      replace k_j1 := k_j1.m hup (by omega)
      have k_j2 := At.n hup
      replace n_j3 := n_j3.n hup (by omega)
      replace kp := kp.n hup (by omega) (by assumption)
      clear hup
      refine a_putF hC hw rk6 in_X6_init_6 k_i 3 (by decide) lk_X6_init_22 rfl hnm rfl rfl rfl (Nat.le_of_ble_eq_true rfl) dX6_init_64 (fun W H locs hup hw => ?_)
      replace k_j1 := k_j1.v hup (by omega)
      replace k_j2 := k_j2.v hup (by omega)
      replace k_i : At W i (w.1 i) (.inr (6, [.int kd, .int pl, .ref a_j1, .ref a_j2, .null, .int 0, .long 0, .null])) := k_i.u hup
      replace n_j3 := n_j3.u hup
      replace kp := kp.u hup (by first | exact Or.inl (by omega) | exact Or.inr (by assumption))
      clear hup
      refine lv_aload_n hx hb dX6_init_67 rfl (lv_at hl 0 rfl) ?_
      refine lv_iload_n hx hb dX6_init_68 rfl (lv_at hl 1 rfl) ?_
      refine lv_bipush (v := 8) hx hb dX6_init_69 (by decide) ?_
      refine lv_icmp_lt (tgt := 87) hx hb dX6_init_71 (by decide) (fun c_11 => ?_) (fun c_11 => ?_)
      · refine lv_iconst (v := 0) hx hb dX6_init_87 (by decide) ?_
        refine a_newq hC hw 6 lk_X6_init_10 hw.1.2.2.1 rfl (i + 3) n_j3 (N' := (nMem kd pl)) (by decide) (if_neg (fun h => Int32.not_le.mpr c_11 h.1)).symm (hb12q h_nMem) (Nat.le_of_ble_eq_true rfl) (show (((0 + (nNum kd pl)) + (nPts kd pl))) + (nMem kd pl) ≤ 36 by omega) dX6_init_88 (fun a_j3 W H hup hw => ?_)
        replace k_i := k_i.m hup (by omega)
        replace k_j1 := k_j1.m hup (by omega)
        replace k_j2 := k_j2.m hup (by omega)
        have k_j3 := At.n hup
        replace kp := kp.n hup (by omega) (by assumption)
        clear hup
        refine a_putF hC hw rk6 in_X6_init_6 k_i 4 (by decide) lk_X6_init_26 rfl hnm rfl rfl rfl (Nat.le_of_ble_eq_true rfl) dX6_init_91 (fun W H locs hup hw => ?_)
        replace k_j1 := k_j1.v hup (by omega)
        replace k_j2 := k_j2.v hup (by omega)
        replace k_j3 := k_j3.v hup (by omega)
        replace k_i : At W i (w.1 i) (.inr (6, [.int kd, .int pl, .ref a_j1, .ref a_j2, .ref a_j3, .int 0, .long 0, .null])) := k_i.u hup
        replace kp := kp.u hup (by first | exact Or.inl (by omega) | exact Or.inr (by assumption))
        clear hup
        exact r_vret hC hr hlk hw W rfl ⟨kp, a_j1, a_j2, a_j3, k_i, k_j1, k_j2, k_j3⟩ (Nat.le_of_ble_eq_true rfl) (show _ ≤ 36 by omega) dX6_init_94
      · refine lv_iload_n hx hb dX6_init_74 rfl (lv_at hl 1 rfl) ?_
        refine lv_bipush (v := 10) hx hb dX6_init_75 (by decide) ?_
        refine lv_icmp_gt (tgt := 87) hx hb dX6_init_77 (by decide) (fun c_12 => ?_) (fun c_12 => ?_)
        · refine lv_iconst (v := 0) hx hb dX6_init_87 (by decide) ?_
          refine a_newq hC hw 6 lk_X6_init_10 hw.1.2.2.1 rfl (i + 3) n_j3 (N' := (nMem kd pl)) (by decide) (if_neg (fun h => Int32.not_le.mpr c_12 h.2)).symm (hb12q h_nMem) (Nat.le_of_ble_eq_true rfl) (show (((0 + (nNum kd pl)) + (nPts kd pl))) + (nMem kd pl) ≤ 36 by omega) dX6_init_88 (fun a_j3 W H hup hw => ?_)
          replace k_i := k_i.m hup (by omega)
          replace k_j1 := k_j1.m hup (by omega)
          replace k_j2 := k_j2.m hup (by omega)
          have k_j3 := At.n hup
          replace kp := kp.n hup (by omega) (by assumption)
          clear hup
          refine a_putF hC hw rk6 in_X6_init_6 k_i 4 (by decide) lk_X6_init_26 rfl hnm rfl rfl rfl (Nat.le_of_ble_eq_true rfl) dX6_init_91 (fun W H locs hup hw => ?_)
          replace k_j1 := k_j1.v hup (by omega)
          replace k_j2 := k_j2.v hup (by omega)
          replace k_j3 := k_j3.v hup (by omega)
          replace k_i : At W i (w.1 i) (.inr (6, [.int kd, .int pl, .ref a_j1, .ref a_j2, .ref a_j3, .int 0, .long 0, .null])) := k_i.u hup
          replace kp := kp.u hup (by first | exact Or.inl (by omega) | exact Or.inr (by assumption))
          clear hup
          exact r_vret hC hr hlk hw W rfl ⟨kp, a_j1, a_j2, a_j3, k_i, k_j1, k_j2, k_j3⟩ (Nat.le_of_ble_eq_true rfl) (show _ ≤ 36 by omega) dX6_init_94
        · refine lv_aload_n hx hb dX6_init_80 rfl (lv_at hl 0 rfl) ?_
          refine a_get hC hw rk6 in_X6_init_6 k_i 1 (by decide) lk_X6_init_15 (v := .int pl) rfl dX6_init_81 ?_
          refine lv_goto (tgt := 88) hx hb dX6_init_84 (by decide) ?_
          refine a_newq hC hw 6 lk_X6_init_10 hw.1.2.2.1 rfl (i + 3) n_j3 (N' := (nMem kd pl)) (hN_toN hpl) (if_pos ⟨Int32.not_lt.mp c_11, Int32.not_lt.mp c_12⟩).symm (hb12q h_nMem) (Nat.le_of_ble_eq_true rfl) (show (((0 + (nNum kd pl)) + (nPts kd pl))) + (nMem kd pl) ≤ 36 by omega) dX6_init_88 (fun a_j3 W H hup hw => ?_)
          replace k_i := k_i.m hup (by omega)
          replace k_j1 := k_j1.m hup (by omega)
          replace k_j2 := k_j2.m hup (by omega)
          have k_j3 := At.n hup
          replace kp := kp.n hup (by omega) (by assumption)
          clear hup
          refine a_putF hC hw rk6 in_X6_init_6 k_i 4 (by decide) lk_X6_init_26 rfl hnm rfl rfl rfl (Nat.le_of_ble_eq_true rfl) dX6_init_91 (fun W H locs hup hw => ?_)
          replace k_j1 := k_j1.v hup (by omega)
          replace k_j2 := k_j2.v hup (by omega)
          replace k_j3 := k_j3.v hup (by omega)
          replace k_i : At W i (w.1 i) (.inr (6, [.int kd, .int pl, .ref a_j1, .ref a_j2, .ref a_j3, .int 0, .long 0, .null])) := k_i.u hup
          replace kp := kp.u hup (by first | exact Or.inl (by omega) | exact Or.inr (by assumption))
          clear hup
          exact r_vret hC hr hlk hw W rfl ⟨kp, a_j1, a_j2, a_j3, k_i, k_j1, k_j2, k_j3⟩ (Nat.le_of_ble_eq_true rfl) (show _ ≤ 36 by omega) dX6_init_94
    · refine lv_iload_n hx hb dX6_init_48 rfl (lv_at hl 1 rfl) ?_
      refine lv_bipush (v := 7) hx hb dX6_init_49 (by decide) ?_
      refine lv_icmp_ne (tgt := 61) hx hb dX6_init_51 (by decide) (fun c_13 => ?_) (fun c_13 => ?_)
      · refine lv_iconst (v := 0) hx hb dX6_init_61 (by decide) ?_
        refine a_newa hC hw 3 lka_X6_init_double rfl rfl (fun _ h => by cases h) (i + 2) n_j2 (N' := (nPts kd pl)) (fun cA => cell_d0 cA _) (by decide) (if_neg (fun h => h.elim c_10 c_13)).symm (hb12 h_nPts) (Nat.le_of_ble_eq_true rfl) (show ((0 + (nNum kd pl))) + (nPts kd pl) ≤ 36 by omega) dX6_init_62 (fun a_j2 W H hup hw => ?_)
        replace k_i := k_i.m hup (by omega)
        replace k_j1 := k_j1.m hup (by omega)
        have k_j2 := At.n hup
        replace n_j3 := n_j3.n hup (by omega)
        replace kp := kp.n hup (by omega) (by assumption)
        clear hup
        refine a_putF hC hw rk6 in_X6_init_6 k_i 3 (by decide) lk_X6_init_22 rfl hnm rfl rfl rfl (Nat.le_of_ble_eq_true rfl) dX6_init_64 (fun W H locs hup hw => ?_)
        replace k_j1 := k_j1.v hup (by omega)
        replace k_j2 := k_j2.v hup (by omega)
        replace k_i : At W i (w.1 i) (.inr (6, [.int kd, .int pl, .ref a_j1, .ref a_j2, .null, .int 0, .long 0, .null])) := k_i.u hup
        replace n_j3 := n_j3.u hup
        replace kp := kp.u hup (by first | exact Or.inl (by omega) | exact Or.inr (by assumption))
        clear hup
        refine lv_aload_n hx hb dX6_init_67 rfl (lv_at hl 0 rfl) ?_
        refine lv_iload_n hx hb dX6_init_68 rfl (lv_at hl 1 rfl) ?_
        refine lv_bipush (v := 8) hx hb dX6_init_69 (by decide) ?_
        refine lv_icmp_lt (tgt := 87) hx hb dX6_init_71 (by decide) (fun c_14 => ?_) (fun c_14 => ?_)
        · refine lv_iconst (v := 0) hx hb dX6_init_87 (by decide) ?_
          refine a_newq hC hw 6 lk_X6_init_10 hw.1.2.2.1 rfl (i + 3) n_j3 (N' := (nMem kd pl)) (by decide) (if_neg (fun h => Int32.not_le.mpr c_14 h.1)).symm (hb12q h_nMem) (Nat.le_of_ble_eq_true rfl) (show (((0 + (nNum kd pl)) + (nPts kd pl))) + (nMem kd pl) ≤ 36 by omega) dX6_init_88 (fun a_j3 W H hup hw => ?_)
          replace k_i := k_i.m hup (by omega)
          replace k_j1 := k_j1.m hup (by omega)
          replace k_j2 := k_j2.m hup (by omega)
          have k_j3 := At.n hup
          replace kp := kp.n hup (by omega) (by assumption)
          clear hup
          refine a_putF hC hw rk6 in_X6_init_6 k_i 4 (by decide) lk_X6_init_26 rfl hnm rfl rfl rfl (Nat.le_of_ble_eq_true rfl) dX6_init_91 (fun W H locs hup hw => ?_)
          replace k_j1 := k_j1.v hup (by omega)
          replace k_j2 := k_j2.v hup (by omega)
          replace k_j3 := k_j3.v hup (by omega)
          replace k_i : At W i (w.1 i) (.inr (6, [.int kd, .int pl, .ref a_j1, .ref a_j2, .ref a_j3, .int 0, .long 0, .null])) := k_i.u hup
          replace kp := kp.u hup (by first | exact Or.inl (by omega) | exact Or.inr (by assumption))
          clear hup
          exact r_vret hC hr hlk hw W rfl ⟨kp, a_j1, a_j2, a_j3, k_i, k_j1, k_j2, k_j3⟩ (Nat.le_of_ble_eq_true rfl) (show _ ≤ 36 by omega) dX6_init_94
        · refine lv_iload_n hx hb dX6_init_74 rfl (lv_at hl 1 rfl) ?_
          refine lv_bipush (v := 10) hx hb dX6_init_75 (by decide) ?_
          refine lv_icmp_gt (tgt := 87) hx hb dX6_init_77 (by decide) (fun c_15 => ?_) (fun c_15 => ?_)
          · refine lv_iconst (v := 0) hx hb dX6_init_87 (by decide) ?_
            refine a_newq hC hw 6 lk_X6_init_10 hw.1.2.2.1 rfl (i + 3) n_j3 (N' := (nMem kd pl)) (by decide) (if_neg (fun h => Int32.not_le.mpr c_15 h.2)).symm (hb12q h_nMem) (Nat.le_of_ble_eq_true rfl) (show (((0 + (nNum kd pl)) + (nPts kd pl))) + (nMem kd pl) ≤ 36 by omega) dX6_init_88 (fun a_j3 W H hup hw => ?_)
            replace k_i := k_i.m hup (by omega)
            replace k_j1 := k_j1.m hup (by omega)
            replace k_j2 := k_j2.m hup (by omega)
            have k_j3 := At.n hup
            replace kp := kp.n hup (by omega) (by assumption)
            clear hup
            refine a_putF hC hw rk6 in_X6_init_6 k_i 4 (by decide) lk_X6_init_26 rfl hnm rfl rfl rfl (Nat.le_of_ble_eq_true rfl) dX6_init_91 (fun W H locs hup hw => ?_)
            replace k_j1 := k_j1.v hup (by omega)
            replace k_j2 := k_j2.v hup (by omega)
            replace k_j3 := k_j3.v hup (by omega)
            replace k_i : At W i (w.1 i) (.inr (6, [.int kd, .int pl, .ref a_j1, .ref a_j2, .ref a_j3, .int 0, .long 0, .null])) := k_i.u hup
            replace kp := kp.u hup (by first | exact Or.inl (by omega) | exact Or.inr (by assumption))
            clear hup
            exact r_vret hC hr hlk hw W rfl ⟨kp, a_j1, a_j2, a_j3, k_i, k_j1, k_j2, k_j3⟩ (Nat.le_of_ble_eq_true rfl) (show _ ≤ 36 by omega) dX6_init_94
          · refine lv_aload_n hx hb dX6_init_80 rfl (lv_at hl 0 rfl) ?_
            refine a_get hC hw rk6 in_X6_init_6 k_i 1 (by decide) lk_X6_init_15 (v := .int pl) rfl dX6_init_81 ?_
            refine lv_goto (tgt := 88) hx hb dX6_init_84 (by decide) ?_
            refine a_newq hC hw 6 lk_X6_init_10 hw.1.2.2.1 rfl (i + 3) n_j3 (N' := (nMem kd pl)) (hN_toN hpl) (if_pos ⟨Int32.not_lt.mp c_14, Int32.not_lt.mp c_15⟩).symm (hb12q h_nMem) (Nat.le_of_ble_eq_true rfl) (show (((0 + (nNum kd pl)) + (nPts kd pl))) + (nMem kd pl) ≤ 36 by omega) dX6_init_88 (fun a_j3 W H hup hw => ?_)
            replace k_i := k_i.m hup (by omega)
            replace k_j1 := k_j1.m hup (by omega)
            replace k_j2 := k_j2.m hup (by omega)
            have k_j3 := At.n hup
            replace kp := kp.n hup (by omega) (by assumption)
            clear hup
            refine a_putF hC hw rk6 in_X6_init_6 k_i 4 (by decide) lk_X6_init_26 rfl hnm rfl rfl rfl (Nat.le_of_ble_eq_true rfl) dX6_init_91 (fun W H locs hup hw => ?_)
            replace k_j1 := k_j1.v hup (by omega)
            replace k_j2 := k_j2.v hup (by omega)
            replace k_j3 := k_j3.v hup (by omega)
            replace k_i : At W i (w.1 i) (.inr (6, [.int kd, .int pl, .ref a_j1, .ref a_j2, .ref a_j3, .int 0, .long 0, .null])) := k_i.u hup
            replace kp := kp.u hup (by first | exact Or.inl (by omega) | exact Or.inr (by assumption))
            clear hup
            exact r_vret hC hr hlk hw W rfl ⟨kp, a_j1, a_j2, a_j3, k_i, k_j1, k_j2, k_j3⟩ (Nat.le_of_ble_eq_true rfl) (show _ ≤ 36 by omega) dX6_init_94
      · refine lv_aload_n hx hb dX6_init_54 rfl (lv_at hl 0 rfl) ?_
        refine a_get hC hw rk6 in_X6_init_6 k_i 1 (by decide) lk_X6_init_15 (v := .int pl) rfl dX6_init_55 ?_
        refine lv_goto (tgt := 62) hx hb dX6_init_58 (by decide) ?_
        refine a_newa hC hw 3 lka_X6_init_double rfl rfl (fun _ h => by cases h) (i + 2) n_j2 (N' := (nPts kd pl)) (fun cA => cell_d0 cA _) (hN_toN hpl) (if_pos (Or.inr c_13)).symm (hb12 h_nPts) (Nat.le_of_ble_eq_true rfl) (show ((0 + (nNum kd pl))) + (nPts kd pl) ≤ 36 by omega) dX6_init_62 (fun a_j2 W H hup hw => ?_)
        replace k_i := k_i.m hup (by omega)
        replace k_j1 := k_j1.m hup (by omega)
        have k_j2 := At.n hup
        replace n_j3 := n_j3.n hup (by omega)
        replace kp := kp.n hup (by omega) (by assumption)
        clear hup
        refine a_putF hC hw rk6 in_X6_init_6 k_i 3 (by decide) lk_X6_init_22 rfl hnm rfl rfl rfl (Nat.le_of_ble_eq_true rfl) dX6_init_64 (fun W H locs hup hw => ?_)
        replace k_j1 := k_j1.v hup (by omega)
        replace k_j2 := k_j2.v hup (by omega)
        replace k_i : At W i (w.1 i) (.inr (6, [.int kd, .int pl, .ref a_j1, .ref a_j2, .null, .int 0, .long 0, .null])) := k_i.u hup
        replace n_j3 := n_j3.u hup
        replace kp := kp.u hup (by first | exact Or.inl (by omega) | exact Or.inr (by assumption))
        clear hup
        refine lv_aload_n hx hb dX6_init_67 rfl (lv_at hl 0 rfl) ?_
        refine lv_iload_n hx hb dX6_init_68 rfl (lv_at hl 1 rfl) ?_
        refine lv_bipush (v := 8) hx hb dX6_init_69 (by decide) ?_
        refine lv_icmp_lt (tgt := 87) hx hb dX6_init_71 (by decide) (fun c_16 => ?_) (fun c_16 => ?_)
        · refine lv_iconst (v := 0) hx hb dX6_init_87 (by decide) ?_
          refine a_newq hC hw 6 lk_X6_init_10 hw.1.2.2.1 rfl (i + 3) n_j3 (N' := (nMem kd pl)) (by decide) (if_neg (fun h => Int32.not_le.mpr c_16 h.1)).symm (hb12q h_nMem) (Nat.le_of_ble_eq_true rfl) (show (((0 + (nNum kd pl)) + (nPts kd pl))) + (nMem kd pl) ≤ 36 by omega) dX6_init_88 (fun a_j3 W H hup hw => ?_)
          replace k_i := k_i.m hup (by omega)
          replace k_j1 := k_j1.m hup (by omega)
          replace k_j2 := k_j2.m hup (by omega)
          have k_j3 := At.n hup
          replace kp := kp.n hup (by omega) (by assumption)
          clear hup
          refine a_putF hC hw rk6 in_X6_init_6 k_i 4 (by decide) lk_X6_init_26 rfl hnm rfl rfl rfl (Nat.le_of_ble_eq_true rfl) dX6_init_91 (fun W H locs hup hw => ?_)
          replace k_j1 := k_j1.v hup (by omega)
          replace k_j2 := k_j2.v hup (by omega)
          replace k_j3 := k_j3.v hup (by omega)
          replace k_i : At W i (w.1 i) (.inr (6, [.int kd, .int pl, .ref a_j1, .ref a_j2, .ref a_j3, .int 0, .long 0, .null])) := k_i.u hup
          replace kp := kp.u hup (by first | exact Or.inl (by omega) | exact Or.inr (by assumption))
          clear hup
          exact r_vret hC hr hlk hw W rfl ⟨kp, a_j1, a_j2, a_j3, k_i, k_j1, k_j2, k_j3⟩ (Nat.le_of_ble_eq_true rfl) (show _ ≤ 36 by omega) dX6_init_94
        · refine lv_iload_n hx hb dX6_init_74 rfl (lv_at hl 1 rfl) ?_
          refine lv_bipush (v := 10) hx hb dX6_init_75 (by decide) ?_
          refine lv_icmp_gt (tgt := 87) hx hb dX6_init_77 (by decide) (fun c_17 => ?_) (fun c_17 => ?_)
          · refine lv_iconst (v := 0) hx hb dX6_init_87 (by decide) ?_
            refine a_newq hC hw 6 lk_X6_init_10 hw.1.2.2.1 rfl (i + 3) n_j3 (N' := (nMem kd pl)) (by decide) (if_neg (fun h => Int32.not_le.mpr c_17 h.2)).symm (hb12q h_nMem) (Nat.le_of_ble_eq_true rfl) (show (((0 + (nNum kd pl)) + (nPts kd pl))) + (nMem kd pl) ≤ 36 by omega) dX6_init_88 (fun a_j3 W H hup hw => ?_)
            replace k_i := k_i.m hup (by omega)
            replace k_j1 := k_j1.m hup (by omega)
            replace k_j2 := k_j2.m hup (by omega)
            have k_j3 := At.n hup
            replace kp := kp.n hup (by omega) (by assumption)
            clear hup
            refine a_putF hC hw rk6 in_X6_init_6 k_i 4 (by decide) lk_X6_init_26 rfl hnm rfl rfl rfl (Nat.le_of_ble_eq_true rfl) dX6_init_91 (fun W H locs hup hw => ?_)
            replace k_j1 := k_j1.v hup (by omega)
            replace k_j2 := k_j2.v hup (by omega)
            replace k_j3 := k_j3.v hup (by omega)
            replace k_i : At W i (w.1 i) (.inr (6, [.int kd, .int pl, .ref a_j1, .ref a_j2, .ref a_j3, .int 0, .long 0, .null])) := k_i.u hup
            replace kp := kp.u hup (by first | exact Or.inl (by omega) | exact Or.inr (by assumption))
            clear hup
            exact r_vret hC hr hlk hw W rfl ⟨kp, a_j1, a_j2, a_j3, k_i, k_j1, k_j2, k_j3⟩ (Nat.le_of_ble_eq_true rfl) (show _ ≤ 36 by omega) dX6_init_94
          · refine lv_aload_n hx hb dX6_init_80 rfl (lv_at hl 0 rfl) ?_
            refine a_get hC hw rk6 in_X6_init_6 k_i 1 (by decide) lk_X6_init_15 (v := .int pl) rfl dX6_init_81 ?_
            refine lv_goto (tgt := 88) hx hb dX6_init_84 (by decide) ?_
            refine a_newq hC hw 6 lk_X6_init_10 hw.1.2.2.1 rfl (i + 3) n_j3 (N' := (nMem kd pl)) (hN_toN hpl) (if_pos ⟨Int32.not_lt.mp c_16, Int32.not_lt.mp c_17⟩).symm (hb12q h_nMem) (Nat.le_of_ble_eq_true rfl) (show (((0 + (nNum kd pl)) + (nPts kd pl))) + (nMem kd pl) ≤ 36 by omega) dX6_init_88 (fun a_j3 W H hup hw => ?_)
            replace k_i := k_i.m hup (by omega)
            replace k_j1 := k_j1.m hup (by omega)
            replace k_j2 := k_j2.m hup (by omega)
            have k_j3 := At.n hup
            replace kp := kp.n hup (by omega) (by assumption)
            clear hup
            refine a_putF hC hw rk6 in_X6_init_6 k_i 4 (by decide) lk_X6_init_26 rfl hnm rfl rfl rfl (Nat.le_of_ble_eq_true rfl) dX6_init_91 (fun W H locs hup hw => ?_)
            replace k_j1 := k_j1.v hup (by omega)
            replace k_j2 := k_j2.v hup (by omega)
            replace k_j3 := k_j3.v hup (by omega)
            replace k_i : At W i (w.1 i) (.inr (6, [.int kd, .int pl, .ref a_j1, .ref a_j2, .ref a_j3, .int 0, .long 0, .null])) := k_i.u hup
            replace kp := kp.u hup (by first | exact Or.inl (by omega) | exact Or.inr (by assumption))
            clear hup
            exact r_vret hC hr hlk hw W rfl ⟨kp, a_j1, a_j2, a_j3, k_i, k_j1, k_j2, k_j3⟩ (Nat.le_of_ble_eq_true rfl) (show _ ≤ 36 by omega) dX6_init_94

