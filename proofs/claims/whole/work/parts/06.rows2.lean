section RA
variable {p : Program} {l : Launch} {e : Env} {R : Room} {s : State} {m : MethodId} {args : Array Value} {below : List Frame} {meth : Method} {c : Code} {H : Heap} {locs : List Loc} {cells slots : Nat} {Q : State → Prop}
variable {cc : ByteArray} {nL pc : Nat} {ls : Array Slot} {rest : List Value} {D : va_G} {q : Nat → ClassId} {A : Nat → Prop} {H0 : Heap} {w : wT} {Ts : List Cond} {own : String} {n : Nat} {j : Int32}
theorem r_iald (hC : CallFix p m c cc nL s args Ts own) (hw : rX D q A H0 s w H locs) (i : Nat) (hl : w.2.1 i) {f : Nat → Int32} (hc : w.2.2 i = .inl (q 0, n, .inl f)) (hin : vp_in j n) (hdg : decode cc pc = .ok (.iaload, 1))
    (kk : W p l e R s m args below meth c H locs cells slots Q (F0 m (pc + 1) ls (.int (f j.toNatClampNeg) :: rest))) : W p l e R s m args below meth c H locs cells slots Q (F0 m pc ls (.int j :: .ref (w.1 i) :: rest)) :=
  va_iald hC.1 hC.2.1 hw.1.1 (hw.one hl hc) 0 0 rfl rfl hin hdg kk
theorem r_lald (hC : CallFix p m c cc nL s args Ts own) (hw : rX D q A H0 s w H locs) (i : Nat) (hl : w.2.1 i) {f : Nat → Int64} (hc : w.2.2 i = .inl (q 1, n, .inr (.inl f))) (hin : vp_in j n) (hdg : decode cc pc = .ok (.laload, 1))
    (kk : W p l e R s m args below meth c H locs cells slots Q (F0 m (pc + 1) ls (.long (f j.toNatClampNeg) :: rest))) : W p l e R s m args below meth c H locs cells slots Q (F0 m pc ls (.int j :: .ref (w.1 i) :: rest)) :=
  va_lald hC.1 hC.2.1 hw.1.1 (hw.one hl hc) 0 1 rfl rfl hin hdg kk
theorem r_fald (hC : CallFix p m c cc nL s args Ts own) (hw : rX D q A H0 s w H locs) (i : Nat) (hl : w.2.1 i) {f : Nat → UInt32} (hc : w.2.2 i = .inl (q 2, n, .inr (.inr (.inl f)))) (hin : vp_in j n) (hdg : decode cc pc = .ok (.faload, 1))
    (kk : W p l e R s m args below meth c H locs cells slots Q (F0 m (pc + 1) ls (.float (f j.toNatClampNeg) :: rest))) : W p l e R s m args below meth c H locs cells slots Q (F0 m pc ls (.int j :: .ref (w.1 i) :: rest)) :=
  va_fald hC.1 hC.2.1 hw.1.1 (hw.one hl hc) 0 2 rfl rfl hin hdg kk
theorem r_dald (hC : CallFix p m c cc nL s args Ts own) (hw : rX D q A H0 s w H locs) (i : Nat) (hl : w.2.1 i) {f : Nat → UInt64} (hc : w.2.2 i = .inl (q 3, n, .inr (.inr (.inr (.inl f))))) (hin : vp_in j n) (hdg : decode cc pc = .ok (.daload, 1))
    (kk : W p l e R s m args below meth c H locs cells slots Q (F0 m (pc + 1) ls (.double (f j.toNatClampNeg) :: rest))) : W p l e R s m args below meth c H locs cells slots Q (F0 m pc ls (.int j :: .ref (w.1 i) :: rest)) :=
  va_dald hC.1 hC.2.1 hw.1.1 (hw.one hl hc) 0 3 rfl rfl hin hdg kk
/-- arrays of references: t0 is 4 (steps), 5 (handlers) or 6 (things) -/
theorem r_aald (hC : CallFix p m c cc nL s args Ts own) (hw : rX D q A H0 s w H locs) (t0 : Nat) {C : String} (ht : (qT q)[t0]? = some (q t0, .object C)) (i : Nat) (hl : w.2.1 i) {f : Nat → Option Nat} (hc : w.2.2 i = .inl (q t0, n, .inr (.inr (.inr (.inr f))))) (hin : vp_in j n) (hdg : decode cc pc = .ok (.aaload, 1))
    (kk : W p l e R s m args below meth c H locs cells slots Q (F0 m (pc + 1) ls (va_rf (f j.toNatClampNeg) :: rest))) : W p l e R s m args below meth c H locs cells slots Q (F0 m pc ls (.int j :: .ref (w.1 i) :: rest)) :=
  va_aldq hC.1 hC.2.1 hw.1.1 (hw.one hl hc) 0 t0 rfl ht hin hdg kk
theorem r_alen (hC : CallFix p m c cc nL s args Ts own) (hw : rX D q A H0 s w H locs) (t0 : Nat) {ty : FieldType} (ht : (qT q)[t0]? = some (q t0, ty)) (i : Nat) (hl : w.2.1 i) {x : vp_A} (hc : w.2.2 i = .inl (q t0, x)) {v : Int32} (hv : Int32.ofNat x.1 = v) (hdg : decode cc pc = .ok (.arraylength, 1))
    (kk : W p l e R s m args below meth c H locs cells slots Q (F0 m (pc + 1) ls (.int v :: rest))) : W p l e R s m args below meth c H locs cells slots Q (F0 m pc ls (.ref (w.1 i) :: rest)) :=
  va_alen hC.1 hC.2.1 hw.1.1 (hw.one hl hc) 0 t0 rfl ht hv hdg kk
theorem r_iast (hC : CallFix p m c cc nL s args Ts own) (hw : rX D q A H0 s w H locs) (i : Nat) (hl : w.2.1 i) {f : Nat → Int32} (hc : w.2.2 i = .inl (q 0, n, .inl f)) (hin : vp_in j n) {x : Int32} (hdg : decode cc pc = .ok (.iastore, 1))
    (kk : ∀ (H1 : Heap) (locs1 : List Loc), rX D q A H0 s (wU w i (.inl (q 0, n, .inl (va_up f j.toNatClampNeg x)))) H1 locs1 → W p l e R s m args below meth c H1 locs1 cells slots Q (F0 m (pc + 1) ls rest)) : W p l e R s m args below meth c H locs cells slots Q (F0 m pc ls (.int x :: .int j :: .ref (w.1 i) :: rest)) := by
  refine W.iast hC.1 hC.2.1 (hw.one hl hc 0 _ rfl) ((hw.1.1.2 0 _ rfl).1 n (fun j => .int (f j))) (fun q => by cases q) (by show ¬ (j < 0 ∨ (arrV _ _ _).slots.size ≤ _); rw [arrV_size]; exact hin) rfl rfl hdg fun H1 e z oq => ?_
  refine kk H1 _ (hw.put hl z oq ?_)
  show H1[w.1 i]? = some (vp_cell _ _)
  rw [e, vp_cell_i, vp_cell_i, arrV_store]
  congr 2
  funext k
  by_cases hk : k = j.toNatClampNeg <;> simp [updV, va_up, hk]
theorem r_last (hC : CallFix p m c cc nL s args Ts own) (hw : rX D q A H0 s w H locs) (i : Nat) (hl : w.2.1 i) {f : Nat → Int64} (hc : w.2.2 i = .inl (q 1, n, .inr (.inl f))) (hin : vp_in j n) {x : Int64} (hdg : decode cc pc = .ok (.lastore, 1))
    (kk : ∀ (H1 : Heap) (locs1 : List Loc), rX D q A H0 s (wU w i (.inl (q 1, n, .inr (.inl (va_up f j.toNatClampNeg x))))) H1 locs1 → W p l e R s m args below meth c H1 locs1 cells slots Q (F0 m (pc + 1) ls rest)) : W p l e R s m args below meth c H locs cells slots Q (F0 m pc ls (.long x :: .int j :: .ref (w.1 i) :: rest)) := by
  refine W.last hC.1 hC.2.1 (hw.one hl hc 0 _ rfl) ((hw.1.1.2 1 _ rfl).1 n (fun j => .long (f j))) (fun q => by cases q) (by show ¬ (j < 0 ∨ (arrV _ _ _).slots.size ≤ _); rw [arrV_size]; exact hin) rfl rfl hdg fun H1 e z oq => ?_
  refine kk H1 _ (hw.put hl z oq ?_)
  show H1[w.1 i]? = some (vp_cell _ _)
  rw [e, vp_cell_l, vp_cell_l, arrV_store]
  congr 2
  funext k
  by_cases hk : k = j.toNatClampNeg <;> simp [updV, va_up, hk]
theorem r_fast (hC : CallFix p m c cc nL s args Ts own) (hw : rX D q A H0 s w H locs) (i : Nat) (hl : w.2.1 i) {f : Nat → UInt32} (hc : w.2.2 i = .inl (q 2, n, .inr (.inr (.inl f)))) (hin : vp_in j n) {x : UInt32} (hdg : decode cc pc = .ok (.fastore, 1))
    (kk : ∀ (H1 : Heap) (locs1 : List Loc), rX D q A H0 s (wU w i (.inl (q 2, n, .inr (.inr (.inl (va_up f j.toNatClampNeg x)))))) H1 locs1 → W p l e R s m args below meth c H1 locs1 cells slots Q (F0 m (pc + 1) ls rest)) : W p l e R s m args below meth c H locs cells slots Q (F0 m pc ls (.float x :: .int j :: .ref (w.1 i) :: rest)) := by
  refine W.fast hC.1 hC.2.1 (hw.one hl hc 0 _ rfl) ((hw.1.1.2 2 _ rfl).1 n (fun j => .float (f j))) (fun q => by cases q) (by show ¬ (j < 0 ∨ (arrV _ _ _).slots.size ≤ _); rw [arrV_size]; exact hin) rfl rfl hdg fun H1 e z oq => ?_
  refine kk H1 _ (hw.put hl z oq ?_)
  show H1[w.1 i]? = some (vp_cell _ _)
  rw [e, vp_cell_f, vp_cell_f, arrV_store]
  congr 2
  funext k
  by_cases hk : k = j.toNatClampNeg <;> simp [updV, va_up, hk]
theorem r_dast (hC : CallFix p m c cc nL s args Ts own) (hw : rX D q A H0 s w H locs) (i : Nat) (hl : w.2.1 i) {f : Nat → UInt64} (hc : w.2.2 i = .inl (q 3, n, .inr (.inr (.inr (.inl f))))) (hin : vp_in j n) {x : UInt64} (hdg : decode cc pc = .ok (.dastore, 1))
    (kk : ∀ (H1 : Heap) (locs1 : List Loc), rX D q A H0 s (wU w i (.inl (q 3, n, .inr (.inr (.inr (.inl (va_up f j.toNatClampNeg x))))))) H1 locs1 → W p l e R s m args below meth c H1 locs1 cells slots Q (F0 m (pc + 1) ls rest)) : W p l e R s m args below meth c H locs cells slots Q (F0 m pc ls (.double x :: .int j :: .ref (w.1 i) :: rest)) := by
  refine W.dast hC.1 hC.2.1 (hw.one hl hc 0 _ rfl) ((hw.1.1.2 3 _ rfl).1 n (fun j => .double (f j))) (fun q => by cases q) (by show ¬ (j < 0 ∨ (arrV _ _ _).slots.size ≤ _); rw [arrV_size]; exact hin) rfl rfl hdg fun H1 e z oq => ?_
  refine kk H1 _ (hw.put hl z oq ?_)
  show H1[w.1 i]? = some (vp_cell _ _)
  rw [e, vp_cell_d, vp_cell_d, arrV_store]
  congr 2
  funext k
  by_cases hk : k = j.toNatClampNeg <;> simp [updV, va_up, hk]
theorem r_aastN (hC : CallFix p m c cc nL s args Ts own) (hw : rX D q A H0 s w H locs) (t0 : Nat) {C : String} (ht : (qT q)[t0]? = some (q t0, .object C)) (i : Nat) (hl : w.2.1 i) {f : Nat → Option Nat} (hc : w.2.2 i = .inl (q t0, n, .inr (.inr (.inr (.inr f))))) (hin : vp_in j n) (hdg : decode cc pc = .ok (.aastore, 1))
    (kk : ∀ (H1 : Heap) (locs1 : List Loc), rX D q A H0 s (wU w i (.inl (q t0, n, .inr (.inr (.inr (.inr (va_up f j.toNatClampNeg none))))))) H1 locs1 → W p l e R s m args below meth c H1 locs1 cells slots Q (F0 m (pc + 1) ls rest)) : W p l e R s m args below meth c H locs cells slots Q (F0 m pc ls (.null :: .int j :: .ref (w.1 i) :: rest)) := by
  refine va_WaastN (C := C) hC.1 hC.2.1 (hw.one hl hc 0 _ rfl) ((hw.1.1.2 t0 _ ht).1 n (fun j => va_rf (f j))) (fun h => by cases h) (by show ¬ (j < 0 ∨ (arrV _ _ _).slots.size ≤ _); rw [arrV_size]; exact hin) rfl rfl hdg fun H1 e z oq => ?_
  refine kk H1 _ (hw.put hl z oq ?_)
  show H1[w.1 i]? = some (vp_cell _ _)
  rw [e, vp_cell_q, vp_cell_q, arrV_store]
  congr 2
  funext k
  by_cases hk : k = j.toNatClampNeg <;> simp [updV, va_up, va_rf, hk]
theorem r_aast (hC : CallFix p m c cc nL s args Ts own) (hw : rX D q A H0 s w H locs) (t0 : Nat) {C : String} {T : u_T} {N ci : Nat} {ty : Nat → FieldType} (hk0 : rCl ci C T N ty) (ht : (qT q)[t0]? = some (q t0, .object C)) (i : Nat) (hl : w.2.1 i) {f : Nat → Option Nat} (hc : w.2.2 i = .inl (q t0, n, .inr (.inr (.inr (.inr f))))) (hin : vp_in j n) (i2 : Nat) (hl2 : w.2.1 i2) {vs : List Value} (hc2 : w.2.2 i2 = .inr (ci, vs)) (hdg : decode cc pc = .ok (.aastore, 1))
    (kk : ∀ (H1 : Heap) (locs1 : List Loc), rX D q A H0 s (wU w i (.inl (q t0, n, .inr (.inr (.inr (.inr (va_up f j.toNatClampNeg (some (w.1 i2)))))))) ) H1 locs1 → W p l e R s m args below meth c H1 locs1 cells slots Q (F0 m (pc + 1) ls rest)) : W p l e R s m args below meth c H locs cells slots Q (F0 m pc ls (.ref (w.1 i2) :: .int j :: .ref (w.1 i) :: rest)) := by
  have hK := hw.1.1
  have hlt : j.toNatClampNeg < n := Nat.not_le.mp fun q => hin (Or.inr q)
  have h0 : ¬ j < 0 := fun q => hin (Or.inl q)
  obtain ⟨r', hr', cellV, g1, g2, g3, -⟩ := hw.one hl2 hc2 0 _ rfl
  have hcls := (hK.1 ci _ hk0.1).2
  obtain ⟨kA, comp, k1, k2, k3, -⟩ := (hK.2 t0 _ ht).2
  have hcomp : comp = D.1 ci := Option.some.inj (k3.symm.trans hcls.1)
  subst hcomp
  obtain ⟨kC, hkC, -⟩ := hcls.2
  refine W.aast hC.1 hC.2.1 (hw.one hl hc 0 _ rfl) (fun q h => by cases h) (fun h => by cases h) k1 k2 rfl hkC ⟨h0, by show _ < (arrV _ _ _).slots.size; rw [arrV_size]; exact hlt⟩ g1 (fun q h => by rw [g3] at h; cases h) (by rw [g2]; exact hkC) (by rw [g2]; exact va_assign hcls) rfl rfl hdg fun H1 e z oq => ?_
  refine kk H1 _ (hw.put hl z oq ?_)
  show H1[w.1 i]? = some (vp_cell _ _)
  rw [e, vp_cell_q, vp_cell_q, arrV_store]
  congr 2
  funext k
  by_cases hk : k = j.toNatClampNeg <;> simp [updV, va_up, va_rf, hk]
/-- a new array of numbers: t0 is 0 (int), 1 (long), 2 (float) or 3 (double) -/
theorem r_newa (hC : CallFix p m c cc nL s args Ts own) (hw : rX D q A H0 s w H locs) (t0 : Nat) {atype : ArrayType} {ty : FieldType} (harr : Cond.arrayClass (newarray.typeOf atype) ∈ Ts) (hty : newarray.typeOf atype = ty) (ht : (qT q)[t0]? = some (q t0, ty)) (hnr : ∀ C, ty ≠ .object C) (i : Nat) (hl : ¬ w.2.1 i) {N' : Nat} {a0 : vp_A} (ha : ∀ cA : ClassId, vp_cell cA a0 = arrV cA N' (fun _ => defaultValue ty)) (hn : ¬ j < 0) (hN : j.toNatClampNeg = N') (hbytes : N' * componentBytes ty ≤ 536870912) (hcells : cells + 1 ≤ R.cells) (hslots : slots + N' ≤ R.slots) (hdg : decode cc pc = .ok (.newarray atype, 2))
    (kk : ∀ (a : Nat) (H1 : Heap), rX D q A H0 s (wN w i a (.inl (q t0, a0))) H1 locs → W p l e R s m args below meth c H1 locs (cells + 1) (slots + N') Q (F0 m (pc + 2) ls (.ref a :: rest))) : W p l e R s m args below meth c H locs cells slots Q (F0 m pc ls (.int j :: rest)) := by
  subst hty
  refine va_newaK hC.1 hC.2.1 (hC.2.2.2.2 _ harr) rfl hdg rfl hn hN hbytes hcells hslots rfl fun H1 cA e1 z1 o1 hAr hNm => ?_
  have hq : s.vm.findClass ("[" ++ (newarray.typeOf atype).toString) = some (q t0) := by
    have h := (hw.1.1.2 t0 _ ht).2
    cases atype <;> exact h
  have hcA : cA = q t0 := Option.some.inj (hNm.symm.trans hq)
  subst hcA
  refine kk H.size H1 (hw.new hl z1 o1 ?_)
  show H1[H.size]? = some (vp_cell _ _)
  rw [ha]
  exact e1
theorem r_newq (hC : CallFix p m c cc nL s args Ts own) (hw : rX D q A H0 s w H locs) (t0 : Nat) {C : String} {index : Nat} (hclink : Cond.classLink own index C ∈ Ts) (hover : va_AO C s) (ht : (qT q)[t0]? = some (q t0, .object C)) (i : Nat) (hl : ¬ w.2.1 i) {N' : Nat} (hn : ¬ j < 0) (hN : j.toNatClampNeg = N') (hbytes : N' * 4 ≤ 536870912) (hcells : cells + 1 ≤ R.cells) (hslots : slots + N' ≤ R.slots) (hdg : decode cc pc = .ok (.anewarray index, 3))
    (kk : ∀ (a : Nat) (H1 : Heap), rX D q A H0 s (wN w i a (.inl (q t0, N', .inr (.inr (.inr (.inr (fun _ => none))))))) H1 locs → W p l e R s m args below meth c H1 locs (cells + 1) (slots + N') Q (F0 m (pc + 3) ls (.ref a :: rest))) : W p l e R s m args below meth c H locs cells slots Q (F0 m pc ls (.int j :: rest)) := by
  subst hN
  refine W.anew hC.1 hC.2.1 hC.2.2.2.1 (hC.2.2.2.2 _ hclink) (va_AO.use hover) rfl hdg rfl hn hbytes hcells hslots fun cA kA comp f1 f2 f3 f4 => ?_
  obtain ⟨_, _, _, _, _, k4⟩ := (hw.1.1.2 t0 _ ht).2
  have hcA : cA = q t0 := Option.some.inj (f1.symm.trans k4)
  subst hcA
  generalize hH1 : H.push ({ cls := q t0, slots := Array.replicate j.toNatClampNeg .null, vm := .none } : Cell) = H1
  have z1 : H1.size = H.size + 1 := by rw [← hH1, Array.size_push]
  have e1 : H1[H.size]? = some (arrV (q t0) j.toNatClampNeg (fun _ => .null)) := by rw [← hH1, Array.getElem?_push_size, ← arrV_new]
  have o1 : ∀ x : Nat, x < H.size → H1[x]? = H[x]? := fun x hx => by rw [← hH1, Array.getElem?_push, if_neg (Nat.ne_of_lt hx)]
  refine kk H.size H1 (hw.new hl z1 o1 ?_)
  show H1[H.size]? = some (vp_cell _ _)
  rw [vp_cell_q]
  exact e1
end RA
/-! contracts over worlds by roles -/
def rPre (D : va_G) (q : Nat → ClassId) (w : wT) (sz : Nat) (U : State) : Prop := U.heap.size = sz ∧ rK D q U ∧ rW D w U.heap ∧ rJ w
def rA (w : wT) (sz : Nat) : Nat → Prop := fun x => (∃ i, w.2.1 i ∧ x = w.1 i) ∨ sz ≤ x
def rPo (D : va_G) (A : Nat → Prop) (w : wT) (t : State) : Prop := rW D w t.heap ∧ rJ w ∧ ∀ i, w.2.1 i → A (w.1 i)
theorem rPre.blind {D : va_G} {q : Nat → ClassId} {w : wT} {sz : Nat} {av : List Value} : FrameBlind (va_Pc av (rPre D q w sz)) := by
  intro a U g mk h
  obtain ⟨h0, h1, ⟨h2, h3, h6, h7, h8⟩, h4, h5⟩ := h
  exact ⟨h0, h1, ⟨va_K.moved (u := U) (U := U.calling g mk a) (Vm.Alike.refl U.vm) h2, va_Nw.same rfl rfl h3, va_AO.moved (u := U) (U := U.calling g mk a) (Vm.Alike.refl U.vm) h6, va_AO.moved (u := U) (U := U.calling g mk a) (Vm.Alike.refl U.vm) h7, va_AO.moved (u := U) (U := U.calling g mk a) (Vm.Alike.refl U.vm) h8⟩, h4, h5⟩
section RCALL
variable {p : Program} {l : Launch} {e : Env} {R : Room} {s : State} {m : MethodId} {args : Array Value} {below : List Frame} {meth : Method} {c : Code} {H : Heap} {locs : List Loc} {cells slots : Nat} {Q : State → Prop}
variable {cc : ByteArray} {nL pc : Nat} {ls : Array Slot} {rest st0 : List Value} {D : va_G} {q : Nat → ClassId} {A : Nat → Prop} {H0 : Heap} {w : wT} {Ts : List Cond} {own : String}
variable {y : MethodName} {bytes : ByteArray} {maxL mc ms n index : Nat} {ret : Option FieldType} {ws ws' : List Cond} {rm : Room} {Qc : Array Value → State → Outcome → State → Prop} {As : List Value}
theorem rX.pre (hw : rX D q A H0 s w H locs) {av : List Value} : ∀ U : State, U.heap = H → s.WarmedH U.vm → va_Pc av (rPre D q w H.size) av.toArray U := fun U hU hW => ⟨rfl, by rw [hU], hw.1.moved hW, by rw [hU]; exact hw.2.1, hw.2.2.1⟩
theorem rX.sub (hw : rX D q A H0 s w H locs) : ∀ x, rA w H.size x → A x := by
  intro x h
  rcases h with ⟨i, hi, rfl⟩ | h
  · exact hw.2.2.2.1 i hi
  · exact hw.2.2.2.2.2 x (Nat.le_trans hw.2.2.2.2.1.1 h)
theorem r_runV (hC : CallFix p m c cc nL s args Ts own) (hw : rX D q A H0 s w H locs) (i : Nat) (hM : Met l y ws rm (va_Pc (.ref (w.1 i) :: As) (rPre D q w H.size)) Qc mc ms (rA w H.size)) {C : String} {T : u_T} {N ci : Nat} {ty : Nat → FieldType} (hk0 : rCl ci C T N ty) (hl : w.2.1 i) {fs : List Value} (hc : w.2.2 i = .inr (ci, fs)) (n : Nat) (hG : GoodIn Ts (wsV own index C y ws)) (hwc : ws = Cond.code y bytes maxL ret :: ws') (hrc : rm.cells = mc) (hrs : rm.slots = ms)
    (hd : y.cls = C ∧ y.cls ≠ "java/lang/invoke/MethodHandle" ∧ y.cls ≠ "java/lang/invoke/VarHandle" ∧ (parseMethodDescriptor y.desc).map (fun d => d.parameters.length) = some n) (hR : rm.frames + 1 ≤ R.frames ∧ 8 + (maxL + 11) + rm.locals ≤ R.locals)
    (hn : As.length = n) (hsize : ls.size = nL) (hstack : st0 = As.reverse ++ .ref (w.1 i) :: rest) (hroom : (rest.map fun v => v.category).sum ≤ 8) (hdg : decode cc pc = .ok (.invokevirtual index, 3)) (hf : cells + mc ≤ R.cells ∧ slots + ms ≤ R.slots) :
    va_Run p l e R s m args below meth c H locs cells slots mc ms (F0 m pc ls st0) rest (Qc (Value.ref (w.1 i) :: As).toArray) (rA w H.size) :=
  va_runV hC hM (cwV n hC.2.2.2.2 hG hwc hrc hrs hd hR) ⟨rPre.blind, va_recv (q := (C, T, N)) hw.1.1 (hw.one hl hc) (ci := ci) (q0 := 0) hk0.1 rfl, hw.pre⟩ rfl hn hsize hstack (lv_room hroom) hdg hf
theorem r_runS (hC : CallFix p m c cc nL s args Ts own) (hw : rX D q A H0 s w H locs) (hM : Met l y ws rm (va_Pc As (rPre D q w H.size)) Qc mc ms (rA w H.size)) (n : Nat) (hG : GoodIn Ts (va_wsS own index y ws)) (hwc : ws = Cond.code y bytes maxL ret :: ws') (hrc : rm.cells = mc) (hrs : rm.slots = ms)
    (hd : y.cls ≠ "java/lang/invoke/MethodHandle" ∧ y.cls ≠ "java/lang/invoke/VarHandle" ∧ (parseMethodDescriptor y.desc).map (fun d => d.parameters.length) = some n) (hR : rm.frames + 1 ≤ R.frames ∧ 8 + (maxL + 11) + rm.locals ≤ R.locals)
    (hn : As.length = n) (hsize : ls.size = nL) (hstack : st0 = As.reverse ++ rest) (hroom : (rest.map fun v => v.category).sum ≤ 8) (hdg : decode cc pc = .ok (.invokestatic index, 3)) (hf : cells + mc ≤ R.cells ∧ slots + ms ≤ R.slots) :
    va_Run p l e R s m args below meth c H locs cells slots mc ms (F0 m pc ls st0) rest (Qc As.toArray) (rA w H.size) :=
  va_runS hC hM (va_cwS n hC.2.2.2.2 hG hwc hrc hrs hd hR) ⟨rPre.blind, hw.pre⟩ rfl hn hsize hstack (lv_room hroom) hdg hf
theorem r_runSN (hC : CallFix p m c cc nL s args Ts own) (hw : rX D q A H0 s w H locs) {host : String} (hNw : va_Nw (.methodLinkNest own index y host) s) (hst : Cond.static y ∈ Ts) (hini : Cond.initialized y.cls ∈ Ts) (hM : Met l y ws rm (va_Pc As (rPre D q w H.size)) Qc mc ms (rA w H.size)) (n : Nat) (hG : GoodIn Ts ws) (hwc : ws = Cond.code y bytes maxL ret :: ws') (hrc : rm.cells = mc) (hrs : rm.slots = ms)
    (hd : y.cls ≠ "java/lang/invoke/MethodHandle" ∧ y.cls ≠ "java/lang/invoke/VarHandle" ∧ (parseMethodDescriptor y.desc).map (fun d => d.parameters.length) = some n) (hR : rm.frames + 1 ≤ R.frames ∧ 8 + (maxL + 11) + rm.locals ≤ R.locals)
    (hn : As.length = n) (hsize : ls.size = nL) (hstack : st0 = As.reverse ++ rest) (hroom : (rest.map fun v => v.category).sum ≤ 8) (hdg : decode cc pc = .ok (.invokestatic index, 3)) (hf : cells + mc ≤ R.cells ∧ slots + ms ≤ R.slots) :
    va_Run p l e R s m args below meth c H locs cells slots mc ms (F0 m pc ls st0) rest (Qc As.toArray) (rA w H.size) :=
  va_runSN hC hM ⟨va_cnB n hC.2.2.2.2 hG hwc hrc hrs hNw (hC.2.2.2.2 _ hini) hd hR, hC.2.2.2.2 _ hst, trivial⟩ ⟨rPre.blind, hw.pre⟩ rfl hn hsize hstack (lv_room hroom) hdg hf
theorem r_runI (hC : CallFix p m c cc nL s args Ts own) (hw : rX D q A H0 s w H locs) {b : Nat} (hM : Met l y ws rm (va_Pc (.ref b :: As) (rPre D q w H.size)) Qc mc ms (rA w H.size)) (n : Nat) (hG : GoodIn Ts ws) (hwc : ws = Cond.code y bytes maxL none :: ws') (hrc : rm.cells = mc) (hrs : rm.slots = ms) (hini : Cond.initialized y.cls ∈ Ts) (hlk : Cond.methodLink own index y ∈ Ts) (hins : Cond.instanceMethod y ∈ Ts) (hy1 : y.name = "<init>")
    (hd : y.cls ≠ "java/lang/invoke/MethodHandle" ∧ y.cls ≠ "java/lang/invoke/VarHandle" ∧ (parseMethodDescriptor y.desc).map (fun d => d.parameters.length) = some n) (hR : rm.frames + 1 ≤ R.frames ∧ 8 + (maxL + 11) + rm.locals ≤ R.locals)
    (hn : As.length = n) (hsize : ls.size = nL) (hstack : st0 = As.reverse ++ .ref b :: rest) (hroom : (rest.map fun v => v.category).sum ≤ 8) (hdg : decode cc pc = .ok (.invokespecial index, 3)) (hf : cells + mc ≤ R.cells ∧ slots + ms ≤ R.slots) :
    va_Run p l e R s m args below meth c H locs cells slots mc ms (F0 m pc ls st0) rest (Qc (Value.ref b :: As).toArray) (rA w H.size) :=
  va_runI hC hM (cwI n hC.2.2.2.2 hG hwc hrc hrs (hC.2.2.2.2 _ hini) (hC.2.2.2.2 _ hlk) (hC.2.2.2.2 _ hins) hy1 hd hR) ⟨rPre.blind, hw.pre⟩ rfl hn hsize hstack (lv_room hroom) hdg hf
theorem rX.after (hw : rX D q A H0 s w H locs) {w' : wT} {t : State} {H1 : Heap} {locs1 : List Loc} (ht : t.heap = H1) (hB : rPo D (rA w H.size) w' t) (hS : va_S A H0 H1 locs1) : rX D q A H0 s w' H1 locs1 :=
  ⟨hw.1, by rw [← ht]; exact hB.1, hB.2.1, fun i hi => hw.sub _ (hB.2.2 i hi), hS, hw.2.2.2.2.2⟩
variable {S : Type} {wf : S → wT} {a : Array Value}
theorem r_ki {post : Int32 → S → Prop} (hw : rX D q A H0 s w H locs) (hr : va_Run p l e R s m args below meth c H locs cells slots mc ms (F0 m pc ls st0) rest (va_Qi post (fun u t => rPo D (rA w H.size) (wf u) t) (rA w H.size) a) (rA w H.size))
    (kk : ∀ (r : Int32) (u : S) (H1 : Heap) (locs1 : List Loc), post r u → rX D q A H0 s (wf u) H1 locs1 → W p l e R s m args below meth c H1 locs1 (cells + mc) (slots + ms) Q (F0 m (pc + 3) ls (.int r :: rest))) : W p l e R s m args below meth c H locs cells slots Q (F0 m pc ls st0) :=
  va_calli hr hw.2.2.2.2.1 (fun x _ h => hw.sub x h) hw.sub (fun r u _ H1 locs1 ht _ hp hB _ _ hS => kk r u H1 locs1 hp (hw.after ht hB hS))
theorem r_kl {post : Int64 → S → Prop} (hw : rX D q A H0 s w H locs) (hr : va_Run p l e R s m args below meth c H locs cells slots mc ms (F0 m pc ls st0) rest (va_Ql post (fun u t => rPo D (rA w H.size) (wf u) t) (rA w H.size) a) (rA w H.size))
    (kk : ∀ (r : Int64) (u : S) (H1 : Heap) (locs1 : List Loc), post r u → rX D q A H0 s (wf u) H1 locs1 → W p l e R s m args below meth c H1 locs1 (cells + mc) (slots + ms) Q (F0 m (pc + 3) ls (.long r :: rest))) : W p l e R s m args below meth c H locs cells slots Q (F0 m pc ls st0) :=
  va_calll hr hw.2.2.2.2.1 (fun x _ h => hw.sub x h) hw.sub (fun r u _ H1 locs1 ht _ hp hB _ _ hS => kk r u H1 locs1 hp (hw.after ht hB hS))
theorem r_kf {post : UInt32 → S → Prop} (hw : rX D q A H0 s w H locs) (hr : va_Run p l e R s m args below meth c H locs cells slots mc ms (F0 m pc ls st0) rest (va_Qf post (fun u t => rPo D (rA w H.size) (wf u) t) (rA w H.size) a) (rA w H.size))
    (kk : ∀ (r : UInt32) (u : S) (H1 : Heap) (locs1 : List Loc), post r u → rX D q A H0 s (wf u) H1 locs1 → W p l e R s m args below meth c H1 locs1 (cells + mc) (slots + ms) Q (F0 m (pc + 3) ls (.float r :: rest))) : W p l e R s m args below meth c H locs cells slots Q (F0 m pc ls st0) :=
  va_callf hr hw.2.2.2.2.1 (fun x _ h => hw.sub x h) hw.sub (fun r u _ H1 locs1 ht _ hp hB _ _ hS => kk r u H1 locs1 hp (hw.after ht hB hS))
theorem r_kd {post : UInt64 → S → Prop} (hw : rX D q A H0 s w H locs) (hr : va_Run p l e R s m args below meth c H locs cells slots mc ms (F0 m pc ls st0) rest (va_Qd post (fun u t => rPo D (rA w H.size) (wf u) t) (rA w H.size) a) (rA w H.size))
    (kk : ∀ (r : UInt64) (u : S) (H1 : Heap) (locs1 : List Loc), post r u → rX D q A H0 s (wf u) H1 locs1 → W p l e R s m args below meth c H1 locs1 (cells + mc) (slots + ms) Q (F0 m (pc + 3) ls (.double r :: rest))) : W p l e R s m args below meth c H locs cells slots Q (F0 m pc ls st0) :=
  va_calld hr hw.2.2.2.2.1 (fun x _ h => hw.sub x h) hw.sub (fun r u _ H1 locs1 ht _ hp hB _ _ hS => kk r u H1 locs1 hp (hw.after ht hB hS))
theorem r_kv {post : S → Prop} (hw : rX D q A H0 s w H locs) (hr : va_Run p l e R s m args below meth c H locs cells slots mc ms (F0 m pc ls st0) rest (va_Qv post (fun u t => rPo D (rA w H.size) (wf u) t) (rA w H.size) a) (rA w H.size))
    (kk : ∀ (u : S) (H1 : Heap) (locs1 : List Loc), post u → rX D q A H0 s (wf u) H1 locs1 → W p l e R s m args below meth c H1 locs1 (cells + mc) (slots + ms) Q (F0 m (pc + 3) ls rest)) : W p l e R s m args below meth c H locs cells slots Q (F0 m pc ls st0) :=
  va_callv hr hw.2.2.2.2.1 (fun x _ h => hw.sub x h) hw.sub (fun u _ H1 locs1 ht _ hp hB _ _ hS => kk u H1 locs1 hp (hw.after ht hB hS))
theorem r_kq {post : Option Nat → S → Prop} (hw : rX D q A H0 s w H locs) (hr : va_Run p l e R s m args below meth c H locs cells slots mc ms (F0 m pc ls st0) rest (va_Qq post (fun u t => rPo D (rA w H.size) (wf u) t) (rA w H.size) a) (rA w H.size))
    (kk : ∀ (r : Option Nat) (u : S) (H1 : Heap) (locs1 : List Loc), post r u → rX D q A H0 s (wf u) H1 locs1 → W p l e R s m args below meth c H1 locs1 (cells + mc) (slots + ms) Q (F0 m (pc + 3) ls (va_rf r :: rest))) : W p l e R s m args below meth c H locs cells slots Q (F0 m pc ls st0) :=
  va_callq hr hw.2.2.2.2.1 (fun x _ h => hw.sub x h) hw.sub (fun r u _ H1 locs1 ht _ hp hB _ _ hS => kk r u H1 locs1 hp (hw.after ht hB hS))
/-- a contract, from a walk of the body -/
theorem r_start {av : List Value} {sz : Nat} (hy : plainName y.cls = true) (hwc : ws = Cond.code y cc maxL ret :: ws') (hle : (lg_sl av).length ≤ maxL)
    (body : ∀ (p : Program) (e : Env) (s : State) (m : MethodId) (below : List Frame) (meth : Method) (c : Code) (ls : Array Slot), CallFix p m c cc maxL s av.toArray ws y.cls → meth.sig.returnType = ret → meth.locks = false → meth.name = y.name → s.heap.size = sz → rX D q (rA w sz) s.heap s w s.heap [] → lv_has ls maxL (lv_args 0 av) → W p l e rm s m av.toArray below meth c s.heap [] 0 0 (MQ below Qc av.toArray s mc ms (rA w sz)) (F0 m 0 ls [])) :
    Met l y ws rm (va_Pc av (rPre D q w sz)) Qc mc ms (rA w sz) := by
  refine Met.ofW (cc := cc) (maxL := maxL) (ret := ret) hy hwc ?_
  intro p e s m args below meth c s₁ B hml hv
  obtain ⟨rfl, hsz, hK, hW, hJ⟩ := hv
  have hts := atoms_spec (ws := ws) B.pre
  have hown : s.vm.findClass y.cls = some m.cls := findClass_of_methodNamed B.named
  rw [lg_entry_eq]
  exact body p e s m below meth c _ ⟨B.exec, B.bytes, hml, hown, hts⟩ B.returns B.notSynchronized (name_of_methodNamed B.named B.method).1 hsz ⟨hK, hW, hJ, fun i hi => Or.inl ⟨i, hi, rfl⟩, va_S.rf, fun x hx => Or.inr (by rw [← hsz]; exact hx)⟩ (lv_entry av hle)
variable {v : Int32} {mc' ms' : Nat}
theorem r_iret {post : Int32 → S → Prop} (hC : CallFix p m c cc nL s args Ts own) (hr : meth.sig.returnType = some .int) (hlocks : meth.locks = false) (hw : rX D q A s.heap s w H locs) (u : S) (hu : w = wf u) (hp : post v u) (h1 : cells ≤ mc') (h2 : slots ≤ ms') (hdg : decode cc pc = .ok (.ireturn, 1)) : W p l e R s m args below meth c H locs cells slots (MQ below (va_Qi post (fun u t => rPo D A (wf u) t) A) args s mc' ms' A) (F0 m pc ls [.int v]) := by
  subst hu
  refine W.widen h1 h2 ?_
  exact W.iret hC.1 hC.2.1 hr (fun t ht _ => ⟨⟨v, u, rfl, hp, by rw [ht]; exact hw.2.1, hw.2.2.1, hw.2.2.2.1⟩, hw.2.2.2.2.1.F ht⟩) hw.2.2.2.2.1.2.2 hdg
theorem r_zret {post : Int32 → S → Prop} (hC : CallFix p m c cc nL s args Ts own) (hr : meth.sig.returnType = some .boolean) (hn : narrow .boolean (.int v) = .int v) (hlocks : meth.locks = false) (hw : rX D q A s.heap s w H locs) (u : S) (hu : w = wf u) (hp : post v u) (h1 : cells ≤ mc') (h2 : slots ≤ ms') (hdg : decode cc pc = .ok (.ireturn, 1)) : W p l e R s m args below meth c H locs cells slots (MQ below (va_Qi post (fun u t => rPo D A (wf u) t) A) args s mc' ms' A) (F0 m pc ls [.int v]) := by
  subst hu
  refine W.widen h1 h2 ?_
  exact W.zret hC.1 hC.2.1 hr hn (fun t ht _ => ⟨⟨v, u, rfl, hp, by rw [ht]; exact hw.2.1, hw.2.2.1, hw.2.2.2.1⟩, hw.2.2.2.2.1.F ht⟩) hw.2.2.2.2.1.2.2 hdg
theorem r_lret {x : Int64} {post : Int64 → S → Prop} (hC : CallFix p m c cc nL s args Ts own) (hr : meth.sig.returnType = some .long) (hlocks : meth.locks = false) (hw : rX D q A s.heap s w H locs) (u : S) (hu : w = wf u) (hp : post x u) (h1 : cells ≤ mc') (h2 : slots ≤ ms') (hdg : decode cc pc = .ok (.lreturn, 1)) : W p l e R s m args below meth c H locs cells slots (MQ below (va_Ql post (fun u t => rPo D A (wf u) t) A) args s mc' ms' A) (F0 m pc ls [.long x]) := by
  subst hu
  refine W.widen h1 h2 ?_
  exact W.lret hC.1 hC.2.1 hr (fun t ht _ => ⟨⟨x, u, rfl, hp, by rw [ht]; exact hw.2.1, hw.2.2.1, hw.2.2.2.1⟩, hw.2.2.2.2.1.F ht⟩) hw.2.2.2.2.1.2.2 hdg
theorem r_fret {x : UInt32} {post : UInt32 → S → Prop} (hC : CallFix p m c cc nL s args Ts own) (hr : meth.sig.returnType = some .float) (hlocks : meth.locks = false) (hw : rX D q A s.heap s w H locs) (u : S) (hu : w = wf u) (hp : post x u) (h1 : cells ≤ mc') (h2 : slots ≤ ms') (hdg : decode cc pc = .ok (.freturn, 1)) : W p l e R s m args below meth c H locs cells slots (MQ below (va_Qf post (fun u t => rPo D A (wf u) t) A) args s mc' ms' A) (F0 m pc ls [.float x]) := by
  subst hu
  refine W.widen h1 h2 ?_
  exact W.fret hC.1 hC.2.1 hr (fun t ht _ => ⟨⟨x, u, rfl, hp, by rw [ht]; exact hw.2.1, hw.2.2.1, hw.2.2.2.1⟩, hw.2.2.2.2.1.F ht⟩) hw.2.2.2.2.1.2.2 hdg
theorem r_dret {x : UInt64} {post : UInt64 → S → Prop} (hC : CallFix p m c cc nL s args Ts own) (hr : meth.sig.returnType = some .double) (hlocks : meth.locks = false) (hw : rX D q A s.heap s w H locs) (u : S) (hu : w = wf u) (hp : post x u) (h1 : cells ≤ mc') (h2 : slots ≤ ms') (hdg : decode cc pc = .ok (.dreturn, 1)) : W p l e R s m args below meth c H locs cells slots (MQ below (va_Qd post (fun u t => rPo D A (wf u) t) A) args s mc' ms' A) (F0 m pc ls [.double x]) := by
  subst hu
  refine W.widen h1 h2 ?_
  exact W.dret hC.1 hC.2.1 hr (fun t ht _ => ⟨⟨x, u, rfl, hp, by rw [ht]; exact hw.2.1, hw.2.2.1, hw.2.2.2.1⟩, hw.2.2.2.2.1.F ht⟩) hw.2.2.2.2.1.2.2 hdg
theorem r_vret {post : S → Prop} (hC : CallFix p m c cc nL s args Ts own) (hr : meth.sig.returnType = none) (hlocks : meth.locks = false) (hw : rX D q A s.heap s w H locs) (u : S) (hu : w = wf u) (hp : post u) (h1 : cells ≤ mc') (h2 : slots ≤ ms') (hdg : decode cc pc = .ok (.return_, 1)) : W p l e R s m args below meth c H locs cells slots (MQ below (va_Qv post (fun u t => rPo D A (wf u) t) A) args s mc' ms' A) (F0 m pc ls []) := by
  subst hu
  refine W.widen h1 h2 ?_
  exact W.vret hC.1 hC.2.1 hr (fun t ht _ => ⟨⟨u, rfl, hp, by rw [ht]; exact hw.2.1, hw.2.2.1, hw.2.2.2.1⟩, hw.2.2.2.2.1.F ht⟩) hw.2.2.2.2.1.2.2 hdg
theorem r_qret {x : Option Nat} {C : String} {post : Option Nat → S → Prop} (hC : CallFix p m c cc nL s args Ts own) (hr : meth.sig.returnType = some (.object C)) (hlocks : meth.locks = false) (hw : rX D q A s.heap s w H locs) (u : S) (hu : w = wf u) (hp : post x u) (h1 : cells ≤ mc') (h2 : slots ≤ ms') (hdg : decode cc pc = .ok (.areturn, 1)) : W p l e R s m args below meth c H locs cells slots (MQ below (va_Qq post (fun u t => rPo D A (wf u) t) A) args s mc' ms' A) (F0 m pc ls [va_rf x]) := by
  subst hu
  refine W.widen h1 h2 ?_
  exact W.aret hC.1 hC.2.1 hr (Or.inl ⟨_, rfl⟩) (va_rf_or x) (fun t ht _ => ⟨⟨x, u, rfl, hp, by rw [ht]; exact hw.2.1, hw.2.2.1, hw.2.2.2.1⟩, hw.2.2.2.2.1.F ht⟩) hw.2.2.2.2.1.2.2 hdg
end RCALL
