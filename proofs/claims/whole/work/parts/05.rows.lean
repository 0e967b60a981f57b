/-! worlds by roles: w.1 where each role lies, w.2.1 which roles there are, w.2.2 what each holds -/
abbrev wT : Type := (Nat → Nat) × (Nat → Prop) × (Nat → va_E)
abbrev qT (q : Nat → ClassId) : List (ClassId × FieldType) := [(q 0, .int), (q 1, .long), (q 2, .float), (q 3, .double), (q 4, .object RX5), (q 5, .object RX0), (q 6, .object RX6)]
def rW (D : va_G) (w : wT) (H : Heap) : Prop := ∀ i, w.2.1 i → va_at D vwCl (w.1 i, w.2.2 i) H
def rJ (w : wT) : Prop := ∀ i j, w.2.1 i → w.2.1 j → w.1 i = w.1 j → i = j
/-- what the tables say: classes, array classes, and the one call between nest mates -/
def rK (D : va_G) (q : Nat → ClassId) (s : State) : Prop := va_K D vwCl (qT q) s ∧ va_Nw (.methodLinkNest RX7 94 yX8_misfits RX8) s ∧ va_AO RX6 s ∧ va_AO RX5 s ∧ va_AO RX0 s
def rX (D : va_G) (q : Nat → ClassId) (A : Nat → Prop) (H0 : Heap) (s : State) (w : wT) (H : Heap) (locs : List Loc) : Prop :=
  rK D q s ∧ rW D w H ∧ rJ w ∧ (∀ i, w.2.1 i → A (w.1 i)) ∧ va_S A H0 H locs ∧ ∀ x, H0.size ≤ x → A x
def wU (w : wT) (i : Nat) (e : va_E) : wT := (w.1, w.2.1, va_up w.2.2 i e)
def wN (w : wT) (i a : Nat) (e : va_E) : wT := (va_up w.1 i a, (fun j => w.2.1 j ∨ j = i), va_up w.2.2 i e)
theorem rK.moved {D : va_G} {q : Nat → ClassId} {s U : State} (h : rK D q s) (hW : s.WarmedH U.vm) : rK D q U := ⟨va_K.moved hW.alike h.1, va_Nw.warmM hW h.2.1, h.2.2.1.moved hW.alike, h.2.2.2.1.moved hW.alike, h.2.2.2.2.moved hW.alike⟩
theorem rX.one {D : va_G} {q : Nat → ClassId} {A : Nat → Prop} {H0 : Heap} {s : State} {w : wT} {H : Heap} {locs : List Loc} (h : rX D q A H0 s w H locs) {i : Nat} (hl : w.2.1 i) {e : va_E} (hc : w.2.2 i = e) : va_P D vwCl [(w.1 i, e)] H := by
  intro k x hx
  match k, hx with
  | 0, hx => cases hx; rw [← hc]; exact h.2.1 i hl
  | k + 1, hx => simp at hx
theorem rX.put {D : va_G} {q : Nat → ClassId} {A : Nat → Prop} {H0 : Heap} {s : State} {w : wT} {H H1 : Heap} {locs : List Loc} (h : rX D q A H0 s w H locs) {i k : Nat} {e : va_E} (hl : w.2.1 i) (z : H1.size = H.size) (oq : ∀ x : Nat, x ≠ w.1 i → H1[x]? = H[x]?) (hat : va_at D vwCl (w.1 i, e) H1) : rX D q A H0 s (wU w i e) H1 (locs ++ [⟨w.1 i, k⟩]) := by
  obtain ⟨hK, hW, hJ, hA, hS, hN⟩ := h
  refine ⟨hK, ?_, hJ, hA, hS.put z oq (hA i hl), hN⟩
  intro j hj
  show va_at D vwCl (w.1 j, va_up w.2.2 i e j) H1
  by_cases e1 : j = i
  · subst e1; rw [va_up_self]; exact hat
  · rw [va_up_ne _ _ e1]; exact (hW j hj).kept (oq _ (fun h => e1 (hJ j i hj hl h)))
theorem rX.new {D : va_G} {q : Nat → ClassId} {A : Nat → Prop} {H0 : Heap} {s : State} {w : wT} {H H1 : Heap} {locs : List Loc} (h : rX D q A H0 s w H locs) {i : Nat} {e : va_E} (hl : ¬ w.2.1 i) (z : H1.size = H.size + 1) (oq : ∀ x : Nat, x < H.size → H1[x]? = H[x]?) (hat : va_at D vwCl (H.size, e) H1) : rX D q A H0 s (wN w i H.size e) H1 locs := by
  obtain ⟨hK, hW, hJ, hA, hS, hN⟩ := h
  have hne : ∀ j, w.2.1 j → j ≠ i := fun j hj h => hl (h ▸ hj)
  have hlt : ∀ j, w.2.1 j → w.1 j < H.size := fun j hj => (hW j hj).lt
  refine ⟨hK, ?_, ?_, ?_, ⟨Nat.le_trans hS.1 (by omega), fun x h1 h2 => (oq x (Nat.lt_of_lt_of_le h1 hS.1)).trans (hS.2.1 x h1 h2), hS.2.2⟩, hN⟩
  · intro j hj
    show va_at D vwCl (va_up w.1 i H.size j, va_up w.2.2 i e j) H1
    by_cases e1 : j = i
    · subst e1; rw [va_up_self, va_up_self]; exact hat
    · have hj : w.2.1 j := hj.resolve_right e1
      rw [va_up_ne _ _ e1, va_up_ne _ _ e1]
      exact (hW j hj).kept (oq _ (hlt j hj))
  · intro j k hj hk hjk
    have hjk : va_up w.1 i H.size j = va_up w.1 i H.size k := hjk
    by_cases e1 : j = i <;> by_cases e2 : k = i
    · rw [e1, e2]
    · have hk : w.2.1 k := hk.resolve_right e2
      rw [e1, va_up_self, va_up_ne _ _ e2] at hjk
      have := hlt k hk
      omega
    · have hj : w.2.1 j := hj.resolve_right e1
      rw [e2, va_up_self, va_up_ne _ _ e1] at hjk
      have := hlt j hj
      omega
    · rw [va_up_ne _ _ e1, va_up_ne _ _ e2] at hjk
      exact hJ j k (hj.resolve_right e1) (hk.resolve_right e2) hjk
  · intro j hj
    show A (va_up w.1 i H.size j)
    by_cases e1 : j = i
    · subst e1; rw [va_up_self]; exact hN _ hS.1
    · rw [va_up_ne _ _ e1]; exact hA j (hj.resolve_right e1)
/-- the roles' contents may be said in other words -/
theorem rX.as {D : va_G} {q : Nat → ClassId} {A : Nat → Prop} {H0 : Heap} {s : State} {w w' : wT} {H : Heap} {locs : List Loc} (h : rX D q A H0 s w H locs) (h1 : ∀ i, w'.2.1 i → w.2.1 i) (h2 : ∀ i, w'.2.1 i → w'.1 i = w.1 i) (h3 : ∀ i, w'.2.1 i → w'.2.2 i = w.2.2 i) : rX D q A H0 s w' H locs := by
  obtain ⟨hK, hW, hJ, hA, hS, hN⟩ := h
  refine ⟨hK, fun i hi => ?_, fun i j hi hj e => hJ i j (h1 i hi) (h1 j hj) (by rw [← h2 i hi, ← h2 j hj]; exact e), fun i hi => by rw [h2 i hi]; exact hA i (h1 i hi), hS, hN⟩
  rw [h2 i hi, h3 i hi]
  exact hW i (h1 i hi)
/-- a class by its number: its fields' types, and that their names differ -/
def rCl (ci : Nat) (C : String) (T : u_T) (N : Nat) (ty : Nat → FieldType) : Prop := vwCl[ci]? = some (C, T, N) ∧ (∀ k, k < N → parseFieldDescriptor (T k).2.2.1 = some (ty k)) ∧ ∀ a, a < N → ∀ b, b < N → a ≠ b → (T a).2.1 ≠ (T b).2.1
theorem rk0 : rCl 0 RX0 TX0 4 tyX0 := ⟨rfl, tyX0_ok, nmX0⟩
theorem rk1 : rCl 1 RX1 TX1 4 tyX1 := ⟨rfl, tyX1_ok, nmX1⟩
theorem rk2 : rCl 2 RX2 TX2 1 tyX2 := ⟨rfl, tyX2_ok, nmX2⟩
theorem rk3 : rCl 3 RX3 TX3 5 tyX3 := ⟨rfl, tyX3_ok, nmX3⟩
theorem rk4 : rCl 4 RX4 TX4 16 tyX4 := ⟨rfl, tyX4_ok, nmX4⟩
theorem rk5 : rCl 5 RX5 TX5 4 tyX5 := ⟨rfl, tyX5_ok, nmX5⟩
theorem rk6 : rCl 6 RX6 TX6 8 tyX6 := ⟨rfl, tyX6_ok, nmX6⟩
theorem rk7 : rCl 7 RX7 TX7 2 tyX7 := ⟨rfl, tyX7_ok, nmX7⟩
theorem rk8 : rCl 8 RX8 TX8 3 tyX8 := ⟨rfl, tyX8_ok, nmX8⟩
theorem rk9 : rCl 9 RX9 TX9 34 tyX9 := ⟨rfl, tyX9_ok, nmX9⟩
section RR
variable {p : Program} {l : Launch} {e : Env} {R : Room} {s : State} {m : MethodId} {args : Array Value} {below : List Frame} {meth : Method} {c : Code} {H : Heap} {locs : List Loc} {cells slots : Nat} {Q : State → Prop}
variable {cc : ByteArray} {nL pc : Nat} {ls : Array Slot} {rest : List Value} {D : va_G} {q : Nat → ClassId} {A : Nat → Prop} {H0 : Heap} {w : wT} {Ts : List Cond} {own : String} {C : String} {T : u_T} {N ci index : Nat} {ty : Nat → FieldType}
theorem r_get (hC : CallFix p m c cc nL s args Ts own) (hw : rX D q A H0 s w H locs) (hk0 : rCl ci C T N ty) (hin : ∀ z ∈ u_ws C T N, z ∈ Ts) (i : Nat) (hl : w.2.1 i) {fs : List Value} (hc : w.2.2 i = .inr (ci, fs)) (k : Nat) (hk : k < N) (hlink : Cond.fieldLink own index (T k).1 (T k).2.1 (T k).2.2.1 ∈ Ts) {v : Value} (hv : fs[k]? = some v) (hdg : decode cc pc = .ok (.getfield index, 3))
    (kk : W p l e R s m args below meth c H locs cells slots Q (F0 m (pc + 3) ls (v :: rest))) : W p l e R s m args below meth c H locs cells slots Q (F0 m pc ls (.ref (w.1 i) :: rest)) :=
  va_get (D := D) (cl := vwCl) hC.1 hC.2.1 hC.2.2.2.2 hin hC.2.2.2.1 hw.1.1 (hw.one hl hc) 0 rfl hk0.1 k hk (hC.2.2.2.2 _ hlink) (fun _ h => h) hv hdg kk
theorem r_put (hC : CallFix p m c cc nL s args Ts own) (hw : rX D q A H0 s w H locs) (hk0 : rCl ci C T N ty) (hin : ∀ z ∈ u_ws C T N, z ∈ Ts) (i : Nat) (hl : w.2.1 i) {fs : List Value} (hc : w.2.2 i = .inr (ci, fs)) (k : Nat) (hk : k < N) (hlink : Cond.fieldLink own index (T k).1 (T k).2.1 (T k).2.2.1 ∈ Ts) (hfin : (T k).2.2.2 = false) {v : Value} (hn : narrow (ty k) v = v) (hfit : fits (ty k) v = true) (hlen : k < fs.length) (hdg : decode cc pc = .ok (.putfield index, 3))
    (kk : ∀ (H1 : Heap) (locs1 : List Loc), rX D q A H0 s (wU w i (.inr (ci, fs.set k v))) H1 locs1 → W p l e R s m args below meth c H1 locs1 cells slots Q (F0 m (pc + 3) ls rest)) : W p l e R s m args below meth c H locs cells slots Q (F0 m pc ls (v :: .ref (w.1 i) :: rest)) := by
  obtain ⟨hcl, hty, hnm⟩ := hk0
  have hK := hw.1.1
  have hts := hC.2.2.2.2
  have hap := va_apart (own := own) hts hin ty hty hnm hK hcl
  obtain ⟨r, h1, cell, q1, q2, q3, q4⟩ := hw.one hl hc 0 _ rfl
  have hr : r = (C, T, N) := Option.some.inj (h1.symm.trans hcl)
  subst hr
  obtain ⟨hS, hfc, kC, hkC, hkind⟩ := hK.1 ci _ hcl
  obtain ⟨cf, kf, fi, f, hi, hsl⟩ := hS k hk
  have hlay := hts _ (hin _ (u_in_lay hk))
  unfold u_lay at hlay
  rw [if_neg (by rw [hfin]; decide)] at hlay
  have hst := (u_facts hfc hkC (u_lays hts hin hk) hi).1
  have h6 := u_store hfc hkC hkind hlay hi (hty k hk) hn hfit
  refine W.putK hC.1 hC.2.1 (f := f) ⟨hC.2.2.2.1, hts _ hlink, ⟨_, _, _, hi⟩, hst⟩ (by rw [q2]; exact h6) q1 q3 (by rw [hsl]; exact k2_hasslot (q4 k hk)) rfl rfl hdg fun H' e1 e2 e3 => ?_
  rw [hsl] at e1 ⊢
  exact kk H' _ (hw.put hl e2 e3 ⟨_, hcl, t_OB.to (V := updV (vp_V fs) k v) ⟨_, e1, q2, q3, t_set q4 hap hk v⟩ (fun j _ => vp_updV_set hlen v j)⟩)
theorem r_putF (hC : CallFix p m c cc nL s args Ts own) (hw : rX D q A H0 s w H locs) (hk0 : rCl ci C T N ty) (hin : ∀ z ∈ u_ws C T N, z ∈ Ts) (i : Nat) (hl : w.2.1 i) {fs : List Value} (hc : w.2.2 i = .inr (ci, fs)) (k : Nat) (hk : k < N) (hlink : Cond.fieldLink own index (T k).1 (T k).2.1 (T k).2.2.1 ∈ Ts) (hfin : (T k).2.2.2 = true) (hin2 : meth.name = "<init>") (hdecl : (T k).1 = own) {v : Value} (hn : narrow (ty k) v = v) (hfit : fits (ty k) v = true) (hlen : k < fs.length) (hdg : decode cc pc = .ok (.putfield index, 3))
    (kk : ∀ (H1 : Heap) (locs1 : List Loc), rX D q A H0 s (wU w i (.inr (ci, fs.set k v))) H1 locs1 → W p l e R s m args below meth c H1 locs1 cells slots Q (F0 m (pc + 3) ls rest)) : W p l e R s m args below meth c H locs cells slots Q (F0 m pc ls (v :: .ref (w.1 i) :: rest)) := by
  obtain ⟨hcl, hty, hnm⟩ := hk0
  have hK := hw.1.1
  have hts := hC.2.2.2.2
  have hown := hC.2.2.2.1
  have hap := va_apart (own := own) hts hin ty hty hnm hK hcl
  obtain ⟨r, h1, cell, q1, q2, q3, q4⟩ := hw.one hl hc 0 _ rfl
  have hr : r = (C, T, N) := Option.some.inj (h1.symm.trans hcl)
  subst hr
  obtain ⟨hS, hfc, kC, hkC, hkind⟩ := hK.1 ci _ hcl
  obtain ⟨cf, kf, fi, f, hi, hsl⟩ := hS k hk
  have hlay := hts _ (hin _ (u_in_lay hk))
  unfold u_lay at hlay
  rw [if_pos hfin] at hlay
  have hst := (u_facts hfc hkC (u_lays hts hin hk) hi).1
  have hcf : m.cls = cf := by
    obtain ⟨_, _, c', _, _, _, -, -, hf', -, -, -, hown2, -⟩ := Cond.laysFinal_spec hlay
    have e1 : c' = cf := by have := hi.symm.trans hf'; simp at this; exact this.1.symm
    rw [hdecl] at hown2
    rw [← e1]; exact Option.some.inj (hown.symm.trans hown2)
  have h6 := u_fits hfc hkC hkind (Or.inr hlay) hi (hty k hk) hn hfit
  refine W.putFinK hC.1 hC.2.1 hown (hts _ hlink) hi hst hcf hin2 (by rw [q2]; exact h6) q1 q3 (by rw [hsl]; exact k2_hasslot (q4 k hk)) rfl rfl hdg fun H' e1 e2 e3 => ?_
  rw [hsl] at e1 ⊢
  exact kk H' _ (hw.put hl e2 e3 ⟨_, hcl, t_OB.to (V := updV (vp_V fs) k v) ⟨_, e1, q2, q3, t_set q4 hap hk v⟩ (fun j _ => vp_updV_set hlen v j)⟩)
theorem r_new (hC : CallFix p m c cc nL s args Ts own) (hw : rX D q A H0 s w H locs) (hk0 : rCl ci C T N ty) (hin : ∀ z ∈ u_ws C T N, z ∈ Ts) (hcl : Cond.classLink own index C ∈ Ts) (hinst : Cond.instantiable C N ∈ Ts) (hini : Cond.initialized C ∈ Ts) (i : Nat) (hl : ¬ w.2.1 i) {fs : List Value} (hfs : ∀ j, j < N → defaultValue (ty j) = vp_V fs j) (hcells : cells + 1 ≤ R.cells) (hslots : slots + N ≤ R.slots) (hdg : decode cc pc = .ok (.new index, 3))
    (kk : ∀ (a : Nat) (H1 : Heap), rX D q A H0 s (wN w i a (.inr (ci, fs))) H1 locs → W p l e R s m args below meth c H1 locs (cells + 1) (slots + N) Q (F0 m (pc + 3) ls (.ref a :: rest))) : W p l e R s m args below meth c H locs cells slots Q (F0 m pc ls rest) := by
  have hts := hC.2.2.2.2
  have hKn := hw.1.1.1 ci _ hk0.1
  refine W.newcK hC.1 hC.2.1 hC.2.2.2.1 (hts _ hcl) (hts _ hinst) (hts _ hini) rfl hdg hcells hslots hKn.2.1 rfl fun H1 kC hkC e1 z1 o1 => ?_
  exact kk H.size H1 (hw.new hl z1 o1 ⟨_, hk0.1, (u_born ty hts hin hKn hkC e1 hk0.2.1).to hfs⟩)
end RR
