/-! the numbers of the machine: ints, int arrays, long arrays, singles, double arrays -/
abbrev KS : Type := (Nat → Int32) × (Nat → Nat → Int32) × (Nat → Nat → Int64) × (Nat → UInt32) × (Nat → Nat → UInt64)
abbrev sI (κ : KS) : Nat → Int32 := κ.1
abbrev sA (κ : KS) : Nat → Nat → Int32 := κ.2.1
abbrev sJ (κ : KS) : Nat → Nat → Int64 := κ.2.2.1
abbrev sF (κ : KS) : Nat → UInt32 := κ.2.2.2.1
abbrev sD (κ : KS) : Nat → Nat → UInt64 := κ.2.2.2.2
abbrev aN (x : Int32) : Nat := x.toNatClampNeg
def uI (κ : KS) (k : Nat) (v : Int32) : KS := (va_up κ.1 k v, κ.2)
def uA (κ : KS) (k i : Nat) (v : Int32) : KS := (κ.1, va_up κ.2.1 k (va_up (κ.2.1 k) i v), κ.2.2)
def uJ (κ : KS) (k i : Nat) (v : Int64) : KS := (κ.1, κ.2.1, va_up κ.2.2.1 k (va_up (κ.2.2.1 k) i v), κ.2.2.2)
def uF (κ : KS) (i : Nat) (v : UInt32) : KS := (κ.1, κ.2.1, κ.2.2.1, va_up κ.2.2.2.1 i v, κ.2.2.2.2)
def uD (κ : KS) (k i : Nat) (v : UInt64) : KS := (κ.1, κ.2.1, κ.2.2.1, κ.2.2.2.1, va_up κ.2.2.2.2 k (va_up (κ.2.2.2.2 k) i v))
/-! the reference: its object (role 0), its arrays (roles 1 to 17); t: its numbers of the moment (a, b, c, after, handled, thrown) -/
def fsM (ad : Nat → Nat) (κ : KS) (t : Nat → Int32) : List Value := [.ref (ad 1), .int (sI κ 0), .ref (ad 2), .int (sI κ 1), .ref (ad 3), .ref (ad 4), .ref (ad 5), .ref (ad 6), .ref (ad 7), .ref (ad 8), .ref (ad 9), .ref (ad 10), .ref (ad 11), .ref (ad 12), .ref (ad 13), .ref (ad 14), .ref (ad 15), .int (sI κ 2), .int (sI κ 3), .int (sI κ 4), .int (sI κ 5), .ref (ad 16), .int (sI κ 6), .ref (ad 17), .int (sI κ 7), .int (sI κ 8), .int (sI κ 9), .int (sI κ 10), .int (t 4), .int (t 5), .int (t 0), .int (t 1), .int (t 2), .int (t 3)]
def exA (q : Nat → ClassId) (κ : KS) : Nat → va_E := fun i => match i with
  | 1 => .inl (q 0, 600, .inl (sA κ 0))
  | 2 => .inl (q 0, 64, .inl (sA κ 1))
  | 3 => .inl (q 0, 8, .inl (sA κ 2))
  | 4 => .inl (q 1, 4, .inr (.inl (sJ κ 0)))
  | 5 => .inl (q 2, 4, .inr (.inr (.inl (sF κ))))
  | 6 => .inl (q 3, 4, .inr (.inr (.inr (.inl (sD κ 0)))))
  | 7 => .inl (q 0, 8, .inl (sA κ 3))
  | 8 => .inl (q 0, 60, .inl (sA κ 4))
  | 9 => .inl (q 0, 60, .inl (sA κ 5))
  | 10 => .inl (q 1, 720, .inr (.inl (sJ κ 1)))
  | 11 => .inl (q 3, 720, .inr (.inr (.inr (.inl (sD κ 1)))))
  | 12 => .inl (q 0, 720, .inl (sA κ 6))
  | 13 => .inl (q 0, 60, .inl (sA κ 7))
  | 14 => .inl (q 1, 60, .inr (.inl (sJ κ 2)))
  | 15 => .inl (q 0, 60, .inl (sA κ 8))
  | 16 => .inl (q 0, 12, .inl (sA κ 9))
  | _ => .inl (q 0, 200, .inl (sA κ 10))
def exM (q : Nat → ClassId) (ad : Nat → Nat) (κ : KS) (t : Nat → Int32) : Nat → va_E := fun i => if i = 0 then .inr (9, fsM ad κ t) else exA q κ i
def wM (q : Nat → ClassId) (ad : Nat → Nat) (κ : KS) (t : Nat → Int32) : wT := (ad, (fun i => i < 18), exM q ad κ t)
theorem wM0 {q : Nat → ClassId} {ad : Nat → Nat} {κ : KS} {t : Nat → Int32} : (wM q ad κ t).2.2 0 = .inr (9, fsM ad κ t) := rfl
theorem wM1 {q : Nat → ClassId} {ad : Nat → Nat} {κ : KS} {t : Nat → Int32} : (wM q ad κ t).2.2 1 = .inl (q 0, 600, .inl (sA κ 0)) := rfl
theorem wM2 {q : Nat → ClassId} {ad : Nat → Nat} {κ : KS} {t : Nat → Int32} : (wM q ad κ t).2.2 2 = .inl (q 0, 64, .inl (sA κ 1)) := rfl
theorem wM3 {q : Nat → ClassId} {ad : Nat → Nat} {κ : KS} {t : Nat → Int32} : (wM q ad κ t).2.2 3 = .inl (q 0, 8, .inl (sA κ 2)) := rfl
theorem wM4 {q : Nat → ClassId} {ad : Nat → Nat} {κ : KS} {t : Nat → Int32} : (wM q ad κ t).2.2 4 = .inl (q 1, 4, .inr (.inl (sJ κ 0))) := rfl
theorem wM5 {q : Nat → ClassId} {ad : Nat → Nat} {κ : KS} {t : Nat → Int32} : (wM q ad κ t).2.2 5 = .inl (q 2, 4, .inr (.inr (.inl (sF κ)))) := rfl
theorem wM6 {q : Nat → ClassId} {ad : Nat → Nat} {κ : KS} {t : Nat → Int32} : (wM q ad κ t).2.2 6 = .inl (q 3, 4, .inr (.inr (.inr (.inl (sD κ 0))))) := rfl
theorem wM7 {q : Nat → ClassId} {ad : Nat → Nat} {κ : KS} {t : Nat → Int32} : (wM q ad κ t).2.2 7 = .inl (q 0, 8, .inl (sA κ 3)) := rfl
theorem wM8 {q : Nat → ClassId} {ad : Nat → Nat} {κ : KS} {t : Nat → Int32} : (wM q ad κ t).2.2 8 = .inl (q 0, 60, .inl (sA κ 4)) := rfl
theorem wM9 {q : Nat → ClassId} {ad : Nat → Nat} {κ : KS} {t : Nat → Int32} : (wM q ad κ t).2.2 9 = .inl (q 0, 60, .inl (sA κ 5)) := rfl
theorem wM10 {q : Nat → ClassId} {ad : Nat → Nat} {κ : KS} {t : Nat → Int32} : (wM q ad κ t).2.2 10 = .inl (q 1, 720, .inr (.inl (sJ κ 1))) := rfl
theorem wM11 {q : Nat → ClassId} {ad : Nat → Nat} {κ : KS} {t : Nat → Int32} : (wM q ad κ t).2.2 11 = .inl (q 3, 720, .inr (.inr (.inr (.inl (sD κ 1))))) := rfl
theorem wM12 {q : Nat → ClassId} {ad : Nat → Nat} {κ : KS} {t : Nat → Int32} : (wM q ad κ t).2.2 12 = .inl (q 0, 720, .inl (sA κ 6)) := rfl
theorem wM13 {q : Nat → ClassId} {ad : Nat → Nat} {κ : KS} {t : Nat → Int32} : (wM q ad κ t).2.2 13 = .inl (q 0, 60, .inl (sA κ 7)) := rfl
theorem wM14 {q : Nat → ClassId} {ad : Nat → Nat} {κ : KS} {t : Nat → Int32} : (wM q ad κ t).2.2 14 = .inl (q 1, 60, .inr (.inl (sJ κ 2))) := rfl
theorem wM15 {q : Nat → ClassId} {ad : Nat → Nat} {κ : KS} {t : Nat → Int32} : (wM q ad κ t).2.2 15 = .inl (q 0, 60, .inl (sA κ 8)) := rfl
theorem wM16 {q : Nat → ClassId} {ad : Nat → Nat} {κ : KS} {t : Nat → Int32} : (wM q ad κ t).2.2 16 = .inl (q 0, 12, .inl (sA κ 9)) := rfl
theorem wM17 {q : Nat → ClassId} {ad : Nat → Nat} {κ : KS} {t : Nat → Int32} : (wM q ad κ t).2.2 17 = .inl (q 0, 200, .inl (sA κ 10)) := rfl
theorem wMl {q : Nat → ClassId} {ad : Nat → Nat} {κ : KS} {t : Nat → Int32} (i : Nat) (h : i < 18) : (wM q ad κ t).2.1 i := h
theorem mP_many {D : va_G} {q : Nat → ClassId} {A : Nat → Prop} {H0 : Heap} {s : State} {ad : Nat → Nat} {κ : KS} {t : Nat → Int32} {H : Heap} {locs : List Loc} {v : Int32} (h : rX D q A H0 s (wU (wM q ad κ t) 0 (.inr (9, (fsM ad κ t).set 1 (.int v)))) H locs) : rX D q A H0 s (wM q ad (uI κ 0 v) t) H locs := by
  refine h.as (fun i hi => hi) (fun i hi => rfl) (fun i hi => ?_)
  have hi : i < 18 := hi
  match i, hi with
  | 0, _ => rfl
  | 1, _ => rfl
  | 2, _ => rfl
  | 3, _ => rfl
  | 4, _ => rfl
  | 5, _ => rfl
  | 6, _ => rfl
  | 7, _ => rfl
  | 8, _ => rfl
  | 9, _ => rfl
  | 10, _ => rfl
  | 11, _ => rfl
  | 12, _ => rfl
  | 13, _ => rfl
  | 14, _ => rfl
  | 15, _ => rfl
  | 16, _ => rfl
  | 17, _ => rfl
  | i + 18, hi => exact absurd hi (by omega)
theorem mP_handlerMany {D : va_G} {q : Nat → ClassId} {A : Nat → Prop} {H0 : Heap} {s : State} {ad : Nat → Nat} {κ : KS} {t : Nat → Int32} {H : Heap} {locs : List Loc} {v : Int32} (h : rX D q A H0 s (wU (wM q ad κ t) 0 (.inr (9, (fsM ad κ t).set 3 (.int v)))) H locs) : rX D q A H0 s (wM q ad (uI κ 1 v) t) H locs := by
  refine h.as (fun i hi => hi) (fun i hi => rfl) (fun i hi => ?_)
  have hi : i < 18 := hi
  match i, hi with
  | 0, _ => rfl
  | 1, _ => rfl
  | 2, _ => rfl
  | 3, _ => rfl
  | 4, _ => rfl
  | 5, _ => rfl
  | 6, _ => rfl
  | 7, _ => rfl
  | 8, _ => rfl
  | 9, _ => rfl
  | 10, _ => rfl
  | 11, _ => rfl
  | 12, _ => rfl
  | 13, _ => rfl
  | 14, _ => rfl
  | 15, _ => rfl
  | 16, _ => rfl
  | 17, _ => rfl
  | i + 18, hi => exact absurd hi (by omega)
theorem mP_made {D : va_G} {q : Nat → ClassId} {A : Nat → Prop} {H0 : Heap} {s : State} {ad : Nat → Nat} {κ : KS} {t : Nat → Int32} {H : Heap} {locs : List Loc} {v : Int32} (h : rX D q A H0 s (wU (wM q ad κ t) 0 (.inr (9, (fsM ad κ t).set 17 (.int v)))) H locs) : rX D q A H0 s (wM q ad (uI κ 2 v) t) H locs := by
  refine h.as (fun i hi => hi) (fun i hi => rfl) (fun i hi => ?_)
  have hi : i < 18 := hi
  match i, hi with
  | 0, _ => rfl
  | 1, _ => rfl
  | 2, _ => rfl
  | 3, _ => rfl
  | 4, _ => rfl
  | 5, _ => rfl
  | 6, _ => rfl
  | 7, _ => rfl
  | 8, _ => rfl
  | 9, _ => rfl
  | 10, _ => rfl
  | 11, _ => rfl
  | 12, _ => rfl
  | 13, _ => rfl
  | 14, _ => rfl
  | 15, _ => rfl
  | 16, _ => rfl
  | 17, _ => rfl
  | i + 18, hi => exact absurd hi (by omega)
theorem mP_status {D : va_G} {q : Nat → ClassId} {A : Nat → Prop} {H0 : Heap} {s : State} {ad : Nat → Nat} {κ : KS} {t : Nat → Int32} {H : Heap} {locs : List Loc} {v : Int32} (h : rX D q A H0 s (wU (wM q ad κ t) 0 (.inr (9, (fsM ad κ t).set 18 (.int v)))) H locs) : rX D q A H0 s (wM q ad (uI κ 3 v) t) H locs := by
  refine h.as (fun i hi => hi) (fun i hi => rfl) (fun i hi => ?_)
  have hi : i < 18 := hi
  match i, hi with
  | 0, _ => rfl
  | 1, _ => rfl
  | 2, _ => rfl
  | 3, _ => rfl
  | 4, _ => rfl
  | 5, _ => rfl
  | 6, _ => rfl
  | 7, _ => rfl
  | 8, _ => rfl
  | 9, _ => rfl
  | 10, _ => rfl
  | 11, _ => rfl
  | 12, _ => rfl
  | 13, _ => rfl
  | 14, _ => rfl
  | 15, _ => rfl
  | 16, _ => rfl
  | 17, _ => rfl
  | i + 18, hi => exact absurd hi (by omega)
theorem mP_place {D : va_G} {q : Nat → ClassId} {A : Nat → Prop} {H0 : Heap} {s : State} {ad : Nat → Nat} {κ : KS} {t : Nat → Int32} {H : Heap} {locs : List Loc} {v : Int32} (h : rX D q A H0 s (wU (wM q ad κ t) 0 (.inr (9, (fsM ad κ t).set 19 (.int v)))) H locs) : rX D q A H0 s (wM q ad (uI κ 4 v) t) H locs := by
  refine h.as (fun i hi => hi) (fun i hi => rfl) (fun i hi => ?_)
  have hi : i < 18 := hi
  match i, hi with
  | 0, _ => rfl
  | 1, _ => rfl
  | 2, _ => rfl
  | 3, _ => rfl
  | 4, _ => rfl
  | 5, _ => rfl
  | 6, _ => rfl
  | 7, _ => rfl
  | 8, _ => rfl
  | 9, _ => rfl
  | 10, _ => rfl
  | 11, _ => rfl
  | 12, _ => rfl
  | 13, _ => rfl
  | 14, _ => rfl
  | 15, _ => rfl
  | 16, _ => rfl
  | 17, _ => rfl
  | i + 18, hi => exact absurd hi (by omega)
theorem mP_done {D : va_G} {q : Nat → ClassId} {A : Nat → Prop} {H0 : Heap} {s : State} {ad : Nat → Nat} {κ : KS} {t : Nat → Int32} {H : Heap} {locs : List Loc} {v : Int32} (h : rX D q A H0 s (wU (wM q ad κ t) 0 (.inr (9, (fsM ad κ t).set 20 (.int v)))) H locs) : rX D q A H0 s (wM q ad (uI κ 5 v) t) H locs := by
  refine h.as (fun i hi => hi) (fun i hi => rfl) (fun i hi => ?_)
  have hi : i < 18 := hi
  match i, hi with
  | 0, _ => rfl
  | 1, _ => rfl
  | 2, _ => rfl
  | 3, _ => rfl
  | 4, _ => rfl
  | 5, _ => rfl
  | 6, _ => rfl
  | 7, _ => rfl
  | 8, _ => rfl
  | 9, _ => rfl
  | 10, _ => rfl
  | 11, _ => rfl
  | 12, _ => rfl
  | 13, _ => rfl
  | 14, _ => rfl
  | 15, _ => rfl
  | 16, _ => rfl
  | 17, _ => rfl
  | i + 18, hi => exact absurd hi (by omega)
theorem mP_calls {D : va_G} {q : Nat → ClassId} {A : Nat → Prop} {H0 : Heap} {s : State} {ad : Nat → Nat} {κ : KS} {t : Nat → Int32} {H : Heap} {locs : List Loc} {v : Int32} (h : rX D q A H0 s (wU (wM q ad κ t) 0 (.inr (9, (fsM ad κ t).set 22 (.int v)))) H locs) : rX D q A H0 s (wM q ad (uI κ 6 v) t) H locs := by
  refine h.as (fun i hi => hi) (fun i hi => rfl) (fun i hi => ?_)
  have hi : i < 18 := hi
  match i, hi with
  | 0, _ => rfl
  | 1, _ => rfl
  | 2, _ => rfl
  | 3, _ => rfl
  | 4, _ => rfl
  | 5, _ => rfl
  | 6, _ => rfl
  | 7, _ => rfl
  | 8, _ => rfl
  | 9, _ => rfl
  | 10, _ => rfl
  | 11, _ => rfl
  | 12, _ => rfl
  | 13, _ => rfl
  | 14, _ => rfl
  | 15, _ => rfl
  | 16, _ => rfl
  | 17, _ => rfl
  | i + 18, hi => exact absurd hi (by omega)
theorem mP_toldMany {D : va_G} {q : Nat → ClassId} {A : Nat → Prop} {H0 : Heap} {s : State} {ad : Nat → Nat} {κ : KS} {t : Nat → Int32} {H : Heap} {locs : List Loc} {v : Int32} (h : rX D q A H0 s (wU (wM q ad κ t) 0 (.inr (9, (fsM ad κ t).set 24 (.int v)))) H locs) : rX D q A H0 s (wM q ad (uI κ 7 v) t) H locs := by
  refine h.as (fun i hi => hi) (fun i hi => rfl) (fun i hi => ?_)
  have hi : i < 18 := hi
  match i, hi with
  | 0, _ => rfl
  | 1, _ => rfl
  | 2, _ => rfl
  | 3, _ => rfl
  | 4, _ => rfl
  | 5, _ => rfl
  | 6, _ => rfl
  | 7, _ => rfl
  | 8, _ => rfl
  | 9, _ => rfl
  | 10, _ => rfl
  | 11, _ => rfl
  | 12, _ => rfl
  | 13, _ => rfl
  | 14, _ => rfl
  | 15, _ => rfl
  | 16, _ => rfl
  | 17, _ => rfl
  | i + 18, hi => exact absurd hi (by omega)
theorem mP_failures {D : va_G} {q : Nat → ClassId} {A : Nat → Prop} {H0 : Heap} {s : State} {ad : Nat → Nat} {κ : KS} {t : Nat → Int32} {H : Heap} {locs : List Loc} {v : Int32} (h : rX D q A H0 s (wU (wM q ad κ t) 0 (.inr (9, (fsM ad κ t).set 25 (.int v)))) H locs) : rX D q A H0 s (wM q ad (uI κ 8 v) t) H locs := by
  refine h.as (fun i hi => hi) (fun i hi => rfl) (fun i hi => ?_)
  have hi : i < 18 := hi
  match i, hi with
  | 0, _ => rfl
  | 1, _ => rfl
  | 2, _ => rfl
  | 3, _ => rfl
  | 4, _ => rfl
  | 5, _ => rfl
  | 6, _ => rfl
  | 7, _ => rfl
  | 8, _ => rfl
  | 9, _ => rfl
  | 10, _ => rfl
  | 11, _ => rfl
  | 12, _ => rfl
  | 13, _ => rfl
  | 14, _ => rfl
  | 15, _ => rfl
  | 16, _ => rfl
  | 17, _ => rfl
  | i + 18, hi => exact absurd hi (by omega)
theorem mP_latest {D : va_G} {q : Nat → ClassId} {A : Nat → Prop} {H0 : Heap} {s : State} {ad : Nat → Nat} {κ : KS} {t : Nat → Int32} {H : Heap} {locs : List Loc} {v : Int32} (h : rX D q A H0 s (wU (wM q ad κ t) 0 (.inr (9, (fsM ad κ t).set 26 (.int v)))) H locs) : rX D q A H0 s (wM q ad (uI κ 9 v) t) H locs := by
  refine h.as (fun i hi => hi) (fun i hi => rfl) (fun i hi => ?_)
  have hi : i < 18 := hi
  match i, hi with
  | 0, _ => rfl
  | 1, _ => rfl
  | 2, _ => rfl
  | 3, _ => rfl
  | 4, _ => rfl
  | 5, _ => rfl
  | 6, _ => rfl
  | 7, _ => rfl
  | 8, _ => rfl
  | 9, _ => rfl
  | 10, _ => rfl
  | 11, _ => rfl
  | 12, _ => rfl
  | 13, _ => rfl
  | 14, _ => rfl
  | 15, _ => rfl
  | 16, _ => rfl
  | 17, _ => rfl
  | i + 18, hi => exact absurd hi (by omega)
theorem mP_latestPlace {D : va_G} {q : Nat → ClassId} {A : Nat → Prop} {H0 : Heap} {s : State} {ad : Nat → Nat} {κ : KS} {t : Nat → Int32} {H : Heap} {locs : List Loc} {v : Int32} (h : rX D q A H0 s (wU (wM q ad κ t) 0 (.inr (9, (fsM ad κ t).set 27 (.int v)))) H locs) : rX D q A H0 s (wM q ad (uI κ 10 v) t) H locs := by
  refine h.as (fun i hi => hi) (fun i hi => rfl) (fun i hi => ?_)
  have hi : i < 18 := hi
  match i, hi with
  | 0, _ => rfl
  | 1, _ => rfl
  | 2, _ => rfl
  | 3, _ => rfl
  | 4, _ => rfl
  | 5, _ => rfl
  | 6, _ => rfl
  | 7, _ => rfl
  | 8, _ => rfl
  | 9, _ => rfl
  | 10, _ => rfl
  | 11, _ => rfl
  | 12, _ => rfl
  | 13, _ => rfl
  | 14, _ => rfl
  | 15, _ => rfl
  | 16, _ => rfl
  | 17, _ => rfl
  | i + 18, hi => exact absurd hi (by omega)
theorem mP_a {D : va_G} {q : Nat → ClassId} {A : Nat → Prop} {H0 : Heap} {s : State} {ad : Nat → Nat} {κ : KS} {t : Nat → Int32} {H : Heap} {locs : List Loc} {v : Int32} (h : rX D q A H0 s (wU (wM q ad κ t) 0 (.inr (9, (fsM ad κ t).set 30 (.int v)))) H locs) : rX D q A H0 s (wM q ad κ (va_up t 0 v)) H locs := by
  refine h.as (fun i hi => hi) (fun i hi => rfl) (fun i hi => ?_)
  have hi : i < 18 := hi
  match i, hi with
  | 0, _ => rfl
  | 1, _ => rfl
  | 2, _ => rfl
  | 3, _ => rfl
  | 4, _ => rfl
  | 5, _ => rfl
  | 6, _ => rfl
  | 7, _ => rfl
  | 8, _ => rfl
  | 9, _ => rfl
  | 10, _ => rfl
  | 11, _ => rfl
  | 12, _ => rfl
  | 13, _ => rfl
  | 14, _ => rfl
  | 15, _ => rfl
  | 16, _ => rfl
  | 17, _ => rfl
  | i + 18, hi => exact absurd hi (by omega)
theorem mP_b {D : va_G} {q : Nat → ClassId} {A : Nat → Prop} {H0 : Heap} {s : State} {ad : Nat → Nat} {κ : KS} {t : Nat → Int32} {H : Heap} {locs : List Loc} {v : Int32} (h : rX D q A H0 s (wU (wM q ad κ t) 0 (.inr (9, (fsM ad κ t).set 31 (.int v)))) H locs) : rX D q A H0 s (wM q ad κ (va_up t 1 v)) H locs := by
  refine h.as (fun i hi => hi) (fun i hi => rfl) (fun i hi => ?_)
  have hi : i < 18 := hi
  match i, hi with
  | 0, _ => rfl
  | 1, _ => rfl
  | 2, _ => rfl
  | 3, _ => rfl
  | 4, _ => rfl
  | 5, _ => rfl
  | 6, _ => rfl
  | 7, _ => rfl
  | 8, _ => rfl
  | 9, _ => rfl
  | 10, _ => rfl
  | 11, _ => rfl
  | 12, _ => rfl
  | 13, _ => rfl
  | 14, _ => rfl
  | 15, _ => rfl
  | 16, _ => rfl
  | 17, _ => rfl
  | i + 18, hi => exact absurd hi (by omega)
theorem mP_c {D : va_G} {q : Nat → ClassId} {A : Nat → Prop} {H0 : Heap} {s : State} {ad : Nat → Nat} {κ : KS} {t : Nat → Int32} {H : Heap} {locs : List Loc} {v : Int32} (h : rX D q A H0 s (wU (wM q ad κ t) 0 (.inr (9, (fsM ad κ t).set 32 (.int v)))) H locs) : rX D q A H0 s (wM q ad κ (va_up t 2 v)) H locs := by
  refine h.as (fun i hi => hi) (fun i hi => rfl) (fun i hi => ?_)
  have hi : i < 18 := hi
  match i, hi with
  | 0, _ => rfl
  | 1, _ => rfl
  | 2, _ => rfl
  | 3, _ => rfl
  | 4, _ => rfl
  | 5, _ => rfl
  | 6, _ => rfl
  | 7, _ => rfl
  | 8, _ => rfl
  | 9, _ => rfl
  | 10, _ => rfl
  | 11, _ => rfl
  | 12, _ => rfl
  | 13, _ => rfl
  | 14, _ => rfl
  | 15, _ => rfl
  | 16, _ => rfl
  | 17, _ => rfl
  | i + 18, hi => exact absurd hi (by omega)
theorem mP_after {D : va_G} {q : Nat → ClassId} {A : Nat → Prop} {H0 : Heap} {s : State} {ad : Nat → Nat} {κ : KS} {t : Nat → Int32} {H : Heap} {locs : List Loc} {v : Int32} (h : rX D q A H0 s (wU (wM q ad κ t) 0 (.inr (9, (fsM ad κ t).set 33 (.int v)))) H locs) : rX D q A H0 s (wM q ad κ (va_up t 3 v)) H locs := by
  refine h.as (fun i hi => hi) (fun i hi => rfl) (fun i hi => ?_)
  have hi : i < 18 := hi
  match i, hi with
  | 0, _ => rfl
  | 1, _ => rfl
  | 2, _ => rfl
  | 3, _ => rfl
  | 4, _ => rfl
  | 5, _ => rfl
  | 6, _ => rfl
  | 7, _ => rfl
  | 8, _ => rfl
  | 9, _ => rfl
  | 10, _ => rfl
  | 11, _ => rfl
  | 12, _ => rfl
  | 13, _ => rfl
  | 14, _ => rfl
  | 15, _ => rfl
  | 16, _ => rfl
  | 17, _ => rfl
  | i + 18, hi => exact absurd hi (by omega)
theorem mP_handled {D : va_G} {q : Nat → ClassId} {A : Nat → Prop} {H0 : Heap} {s : State} {ad : Nat → Nat} {κ : KS} {t : Nat → Int32} {H : Heap} {locs : List Loc} {v : Int32} (h : rX D q A H0 s (wU (wM q ad κ t) 0 (.inr (9, (fsM ad κ t).set 28 (.int v)))) H locs) : rX D q A H0 s (wM q ad κ (va_up t 4 v)) H locs := by
  refine h.as (fun i hi => hi) (fun i hi => rfl) (fun i hi => ?_)
  have hi : i < 18 := hi
  match i, hi with
  | 0, _ => rfl
  | 1, _ => rfl
  | 2, _ => rfl
  | 3, _ => rfl
  | 4, _ => rfl
  | 5, _ => rfl
  | 6, _ => rfl
  | 7, _ => rfl
  | 8, _ => rfl
  | 9, _ => rfl
  | 10, _ => rfl
  | 11, _ => rfl
  | 12, _ => rfl
  | 13, _ => rfl
  | 14, _ => rfl
  | 15, _ => rfl
  | 16, _ => rfl
  | 17, _ => rfl
  | i + 18, hi => exact absurd hi (by omega)
theorem mP_thrown {D : va_G} {q : Nat → ClassId} {A : Nat → Prop} {H0 : Heap} {s : State} {ad : Nat → Nat} {κ : KS} {t : Nat → Int32} {H : Heap} {locs : List Loc} {v : Int32} (h : rX D q A H0 s (wU (wM q ad κ t) 0 (.inr (9, (fsM ad κ t).set 29 (.int v)))) H locs) : rX D q A H0 s (wM q ad κ (va_up t 5 v)) H locs := by
  refine h.as (fun i hi => hi) (fun i hi => rfl) (fun i hi => ?_)
  have hi : i < 18 := hi
  match i, hi with
  | 0, _ => rfl
  | 1, _ => rfl
  | 2, _ => rfl
  | 3, _ => rfl
  | 4, _ => rfl
  | 5, _ => rfl
  | 6, _ => rfl
  | 7, _ => rfl
  | 8, _ => rfl
  | 9, _ => rfl
  | 10, _ => rfl
  | 11, _ => rfl
  | 12, _ => rfl
  | 13, _ => rfl
  | 14, _ => rfl
  | 15, _ => rfl
  | 16, _ => rfl
  | 17, _ => rfl
  | i + 18, hi => exact absurd hi (by omega)
theorem mS_steps {D : va_G} {q : Nat → ClassId} {A : Nat → Prop} {H0 : Heap} {s : State} {ad : Nat → Nat} {κ : KS} {t : Nat → Int32} {H : Heap} {locs : List Loc} {v : Int32} {i0 : Nat} (h : rX D q A H0 s (wU (wM q ad κ t) 1 (.inl (q 0, 600, .inl (va_up (sA κ 0) i0 v)))) H locs) : rX D q A H0 s (wM q ad (uA κ 0 i0 v) t) H locs := by
  refine h.as (fun i hi => hi) (fun i hi => rfl) (fun i hi => ?_)
  have hi : i < 18 := hi
  match i, hi with
  | 0, _ => rfl
  | 1, _ => rfl
  | 2, _ => rfl
  | 3, _ => rfl
  | 4, _ => rfl
  | 5, _ => rfl
  | 6, _ => rfl
  | 7, _ => rfl
  | 8, _ => rfl
  | 9, _ => rfl
  | 10, _ => rfl
  | 11, _ => rfl
  | 12, _ => rfl
  | 13, _ => rfl
  | 14, _ => rfl
  | 15, _ => rfl
  | 16, _ => rfl
  | 17, _ => rfl
  | i + 18, hi => exact absurd hi (by omega)
theorem mS_handlers {D : va_G} {q : Nat → ClassId} {A : Nat → Prop} {H0 : Heap} {s : State} {ad : Nat → Nat} {κ : KS} {t : Nat → Int32} {H : Heap} {locs : List Loc} {v : Int32} {i0 : Nat} (h : rX D q A H0 s (wU (wM q ad κ t) 2 (.inl (q 0, 64, .inl (va_up (sA κ 1) i0 v)))) H locs) : rX D q A H0 s (wM q ad (uA κ 1 i0 v) t) H locs := by
  refine h.as (fun i hi => hi) (fun i hi => rfl) (fun i hi => ?_)
  have hi : i < 18 := hi
  match i, hi with
  | 0, _ => rfl
  | 1, _ => rfl
  | 2, _ => rfl
  | 3, _ => rfl
  | 4, _ => rfl
  | 5, _ => rfl
  | 6, _ => rfl
  | 7, _ => rfl
  | 8, _ => rfl
  | 9, _ => rfl
  | 10, _ => rfl
  | 11, _ => rfl
  | 12, _ => rfl
  | 13, _ => rfl
  | 14, _ => rfl
  | 15, _ => rfl
  | 16, _ => rfl
  | 17, _ => rfl
  | i + 18, hi => exact absurd hi (by omega)
theorem mS_words {D : va_G} {q : Nat → ClassId} {A : Nat → Prop} {H0 : Heap} {s : State} {ad : Nat → Nat} {κ : KS} {t : Nat → Int32} {H : Heap} {locs : List Loc} {v : Int32} {i0 : Nat} (h : rX D q A H0 s (wU (wM q ad κ t) 3 (.inl (q 0, 8, .inl (va_up (sA κ 2) i0 v)))) H locs) : rX D q A H0 s (wM q ad (uA κ 2 i0 v) t) H locs := by
  refine h.as (fun i hi => hi) (fun i hi => rfl) (fun i hi => ?_)
  have hi : i < 18 := hi
  match i, hi with
  | 0, _ => rfl
  | 1, _ => rfl
  | 2, _ => rfl
  | 3, _ => rfl
  | 4, _ => rfl
  | 5, _ => rfl
  | 6, _ => rfl
  | 7, _ => rfl
  | 8, _ => rfl
  | 9, _ => rfl
  | 10, _ => rfl
  | 11, _ => rfl
  | 12, _ => rfl
  | 13, _ => rfl
  | 14, _ => rfl
  | 15, _ => rfl
  | 16, _ => rfl
  | 17, _ => rfl
  | i + 18, hi => exact absurd hi (by omega)
theorem mS_wides {D : va_G} {q : Nat → ClassId} {A : Nat → Prop} {H0 : Heap} {s : State} {ad : Nat → Nat} {κ : KS} {t : Nat → Int32} {H : Heap} {locs : List Loc} {v : Int64} {i0 : Nat} (h : rX D q A H0 s (wU (wM q ad κ t) 4 (.inl (q 1, 4, .inr (.inl (va_up (sJ κ 0) i0 v))))) H locs) : rX D q A H0 s (wM q ad (uJ κ 0 i0 v) t) H locs := by
  refine h.as (fun i hi => hi) (fun i hi => rfl) (fun i hi => ?_)
  have hi : i < 18 := hi
  match i, hi with
  | 0, _ => rfl
  | 1, _ => rfl
  | 2, _ => rfl
  | 3, _ => rfl
  | 4, _ => rfl
  | 5, _ => rfl
  | 6, _ => rfl
  | 7, _ => rfl
  | 8, _ => rfl
  | 9, _ => rfl
  | 10, _ => rfl
  | 11, _ => rfl
  | 12, _ => rfl
  | 13, _ => rfl
  | 14, _ => rfl
  | 15, _ => rfl
  | 16, _ => rfl
  | 17, _ => rfl
  | i + 18, hi => exact absurd hi (by omega)
theorem mS_singles {D : va_G} {q : Nat → ClassId} {A : Nat → Prop} {H0 : Heap} {s : State} {ad : Nat → Nat} {κ : KS} {t : Nat → Int32} {H : Heap} {locs : List Loc} {v : UInt32} {i0 : Nat} (h : rX D q A H0 s (wU (wM q ad κ t) 5 (.inl (q 2, 4, .inr (.inr (.inl (va_up (sF κ) i0 v)))))) H locs) : rX D q A H0 s (wM q ad (uF κ i0 v) t) H locs := by
  refine h.as (fun i hi => hi) (fun i hi => rfl) (fun i hi => ?_)
  have hi : i < 18 := hi
  match i, hi with
  | 0, _ => rfl
  | 1, _ => rfl
  | 2, _ => rfl
  | 3, _ => rfl
  | 4, _ => rfl
  | 5, _ => rfl
  | 6, _ => rfl
  | 7, _ => rfl
  | 8, _ => rfl
  | 9, _ => rfl
  | 10, _ => rfl
  | 11, _ => rfl
  | 12, _ => rfl
  | 13, _ => rfl
  | 14, _ => rfl
  | 15, _ => rfl
  | 16, _ => rfl
  | 17, _ => rfl
  | i + 18, hi => exact absurd hi (by omega)
theorem mS_reals {D : va_G} {q : Nat → ClassId} {A : Nat → Prop} {H0 : Heap} {s : State} {ad : Nat → Nat} {κ : KS} {t : Nat → Int32} {H : Heap} {locs : List Loc} {v : UInt64} {i0 : Nat} (h : rX D q A H0 s (wU (wM q ad κ t) 6 (.inl (q 3, 4, .inr (.inr (.inr (.inl (va_up (sD κ 0) i0 v))))))) H locs) : rX D q A H0 s (wM q ad (uD κ 0 i0 v) t) H locs := by
  refine h.as (fun i hi => hi) (fun i hi => rfl) (fun i hi => ?_)
  have hi : i < 18 := hi
  match i, hi with
  | 0, _ => rfl
  | 1, _ => rfl
  | 2, _ => rfl
  | 3, _ => rfl
  | 4, _ => rfl
  | 5, _ => rfl
  | 6, _ => rfl
  | 7, _ => rfl
  | 8, _ => rfl
  | 9, _ => rfl
  | 10, _ => rfl
  | 11, _ => rfl
  | 12, _ => rfl
  | 13, _ => rfl
  | 14, _ => rfl
  | 15, _ => rfl
  | 16, _ => rfl
  | 17, _ => rfl
  | i + 18, hi => exact absurd hi (by omega)
theorem mS_refs {D : va_G} {q : Nat → ClassId} {A : Nat → Prop} {H0 : Heap} {s : State} {ad : Nat → Nat} {κ : KS} {t : Nat → Int32} {H : Heap} {locs : List Loc} {v : Int32} {i0 : Nat} (h : rX D q A H0 s (wU (wM q ad κ t) 7 (.inl (q 0, 8, .inl (va_up (sA κ 3) i0 v)))) H locs) : rX D q A H0 s (wM q ad (uA κ 3 i0 v) t) H locs := by
  refine h.as (fun i hi => hi) (fun i hi => rfl) (fun i hi => ?_)
  have hi : i < 18 := hi
  match i, hi with
  | 0, _ => rfl
  | 1, _ => rfl
  | 2, _ => rfl
  | 3, _ => rfl
  | 4, _ => rfl
  | 5, _ => rfl
  | 6, _ => rfl
  | 7, _ => rfl
  | 8, _ => rfl
  | 9, _ => rfl
  | 10, _ => rfl
  | 11, _ => rfl
  | 12, _ => rfl
  | 13, _ => rfl
  | 14, _ => rfl
  | 15, _ => rfl
  | 16, _ => rfl
  | 17, _ => rfl
  | i + 18, hi => exact absurd hi (by omega)
theorem mS_kinds {D : va_G} {q : Nat → ClassId} {A : Nat → Prop} {H0 : Heap} {s : State} {ad : Nat → Nat} {κ : KS} {t : Nat → Int32} {H : Heap} {locs : List Loc} {v : Int32} {i0 : Nat} (h : rX D q A H0 s (wU (wM q ad κ t) 8 (.inl (q 0, 60, .inl (va_up (sA κ 4) i0 v)))) H locs) : rX D q A H0 s (wM q ad (uA κ 4 i0 v) t) H locs := by
  refine h.as (fun i hi => hi) (fun i hi => rfl) (fun i hi => ?_)
  have hi : i < 18 := hi
  match i, hi with
  | 0, _ => rfl
  | 1, _ => rfl
  | 2, _ => rfl
  | 3, _ => rfl
  | 4, _ => rfl
  | 5, _ => rfl
  | 6, _ => rfl
  | 7, _ => rfl
  | 8, _ => rfl
  | 9, _ => rfl
  | 10, _ => rfl
  | 11, _ => rfl
  | 12, _ => rfl
  | 13, _ => rfl
  | 14, _ => rfl
  | 15, _ => rfl
  | 16, _ => rfl
  | 17, _ => rfl
  | i + 18, hi => exact absurd hi (by omega)
theorem mS_sizes {D : va_G} {q : Nat → ClassId} {A : Nat → Prop} {H0 : Heap} {s : State} {ad : Nat → Nat} {κ : KS} {t : Nat → Int32} {H : Heap} {locs : List Loc} {v : Int32} {i0 : Nat} (h : rX D q A H0 s (wU (wM q ad κ t) 9 (.inl (q 0, 60, .inl (va_up (sA κ 5) i0 v)))) H locs) : rX D q A H0 s (wM q ad (uA κ 5 i0 v) t) H locs := by
  refine h.as (fun i hi => hi) (fun i hi => rfl) (fun i hi => ?_)
  have hi : i < 18 := hi
  match i, hi with
  | 0, _ => rfl
  | 1, _ => rfl
  | 2, _ => rfl
  | 3, _ => rfl
  | 4, _ => rfl
  | 5, _ => rfl
  | 6, _ => rfl
  | 7, _ => rfl
  | 8, _ => rfl
  | 9, _ => rfl
  | 10, _ => rfl
  | 11, _ => rfl
  | 12, _ => rfl
  | 13, _ => rfl
  | 14, _ => rfl
  | 15, _ => rfl
  | 16, _ => rfl
  | 17, _ => rfl
  | i + 18, hi => exact absurd hi (by omega)
theorem mS_cells {D : va_G} {q : Nat → ClassId} {A : Nat → Prop} {H0 : Heap} {s : State} {ad : Nat → Nat} {κ : KS} {t : Nat → Int32} {H : Heap} {locs : List Loc} {v : Int64} {i0 : Nat} (h : rX D q A H0 s (wU (wM q ad κ t) 10 (.inl (q 1, 720, .inr (.inl (va_up (sJ κ 1) i0 v))))) H locs) : rX D q A H0 s (wM q ad (uJ κ 1 i0 v) t) H locs := by
  refine h.as (fun i hi => hi) (fun i hi => rfl) (fun i hi => ?_)
  have hi : i < 18 := hi
  match i, hi with
  | 0, _ => rfl
  | 1, _ => rfl
  | 2, _ => rfl
  | 3, _ => rfl
  | 4, _ => rfl
  | 5, _ => rfl
  | 6, _ => rfl
  | 7, _ => rfl
  | 8, _ => rfl
  | 9, _ => rfl
  | 10, _ => rfl
  | 11, _ => rfl
  | 12, _ => rfl
  | 13, _ => rfl
  | 14, _ => rfl
  | 15, _ => rfl
  | 16, _ => rfl
  | 17, _ => rfl
  | i + 18, hi => exact absurd hi (by omega)
theorem mS_points {D : va_G} {q : Nat → ClassId} {A : Nat → Prop} {H0 : Heap} {s : State} {ad : Nat → Nat} {κ : KS} {t : Nat → Int32} {H : Heap} {locs : List Loc} {v : UInt64} {i0 : Nat} (h : rX D q A H0 s (wU (wM q ad κ t) 11 (.inl (q 3, 720, .inr (.inr (.inr (.inl (va_up (sD κ 1) i0 v))))))) H locs) : rX D q A H0 s (wM q ad (uD κ 1 i0 v) t) H locs := by
  refine h.as (fun i hi => hi) (fun i hi => rfl) (fun i hi => ?_)
  have hi : i < 18 := hi
  match i, hi with
  | 0, _ => rfl
  | 1, _ => rfl
  | 2, _ => rfl
  | 3, _ => rfl
  | 4, _ => rfl
  | 5, _ => rfl
  | 6, _ => rfl
  | 7, _ => rfl
  | 8, _ => rfl
  | 9, _ => rfl
  | 10, _ => rfl
  | 11, _ => rfl
  | 12, _ => rfl
  | 13, _ => rfl
  | 14, _ => rfl
  | 15, _ => rfl
  | 16, _ => rfl
  | 17, _ => rfl
  | i + 18, hi => exact absurd hi (by omega)
theorem mS_inner {D : va_G} {q : Nat → ClassId} {A : Nat → Prop} {H0 : Heap} {s : State} {ad : Nat → Nat} {κ : KS} {t : Nat → Int32} {H : Heap} {locs : List Loc} {v : Int32} {i0 : Nat} (h : rX D q A H0 s (wU (wM q ad κ t) 12 (.inl (q 0, 720, .inl (va_up (sA κ 6) i0 v)))) H locs) : rX D q A H0 s (wM q ad (uA κ 6 i0 v) t) H locs := by
  refine h.as (fun i hi => hi) (fun i hi => rfl) (fun i hi => ?_)
  have hi : i < 18 := hi
  match i, hi with
  | 0, _ => rfl
  | 1, _ => rfl
  | 2, _ => rfl
  | 3, _ => rfl
  | 4, _ => rfl
  | 5, _ => rfl
  | 6, _ => rfl
  | 7, _ => rfl
  | 8, _ => rfl
  | 9, _ => rfl
  | 10, _ => rfl
  | 11, _ => rfl
  | 12, _ => rfl
  | 13, _ => rfl
  | 14, _ => rfl
  | 15, _ => rfl
  | 16, _ => rfl
  | 17, _ => rfl
  | i + 18, hi => exact absurd hi (by omega)
theorem mS_tags {D : va_G} {q : Nat → ClassId} {A : Nat → Prop} {H0 : Heap} {s : State} {ad : Nat → Nat} {κ : KS} {t : Nat → Int32} {H : Heap} {locs : List Loc} {v : Int32} {i0 : Nat} (h : rX D q A H0 s (wU (wM q ad κ t) 13 (.inl (q 0, 60, .inl (va_up (sA κ 7) i0 v)))) H locs) : rX D q A H0 s (wM q ad (uA κ 7 i0 v) t) H locs := by
  refine h.as (fun i hi => hi) (fun i hi => rfl) (fun i hi => ?_)
  have hi : i < 18 := hi
  match i, hi with
  | 0, _ => rfl
  | 1, _ => rfl
  | 2, _ => rfl
  | 3, _ => rfl
  | 4, _ => rfl
  | 5, _ => rfl
  | 6, _ => rfl
  | 7, _ => rfl
  | 8, _ => rfl
  | 9, _ => rfl
  | 10, _ => rfl
  | 11, _ => rfl
  | 12, _ => rfl
  | 13, _ => rfl
  | 14, _ => rfl
  | 15, _ => rfl
  | 16, _ => rfl
  | 17, _ => rfl
  | i + 18, hi => exact absurd hi (by omega)
theorem mS_weights {D : va_G} {q : Nat → ClassId} {A : Nat → Prop} {H0 : Heap} {s : State} {ad : Nat → Nat} {κ : KS} {t : Nat → Int32} {H : Heap} {locs : List Loc} {v : Int64} {i0 : Nat} (h : rX D q A H0 s (wU (wM q ad κ t) 14 (.inl (q 1, 60, .inr (.inl (va_up (sJ κ 2) i0 v))))) H locs) : rX D q A H0 s (wM q ad (uJ κ 2 i0 v) t) H locs := by
  refine h.as (fun i hi => hi) (fun i hi => rfl) (fun i hi => ?_)
  have hi : i < 18 := hi
  match i, hi with
  | 0, _ => rfl
  | 1, _ => rfl
  | 2, _ => rfl
  | 3, _ => rfl
  | 4, _ => rfl
  | 5, _ => rfl
  | 6, _ => rfl
  | 7, _ => rfl
  | 8, _ => rfl
  | 9, _ => rfl
  | 10, _ => rfl
  | 11, _ => rfl
  | 12, _ => rfl
  | 13, _ => rfl
  | 14, _ => rfl
  | 15, _ => rfl
  | 16, _ => rfl
  | 17, _ => rfl
  | i + 18, hi => exact absurd hi (by omega)
theorem mS_nexts {D : va_G} {q : Nat → ClassId} {A : Nat → Prop} {H0 : Heap} {s : State} {ad : Nat → Nat} {κ : KS} {t : Nat → Int32} {H : Heap} {locs : List Loc} {v : Int32} {i0 : Nat} (h : rX D q A H0 s (wU (wM q ad κ t) 15 (.inl (q 0, 60, .inl (va_up (sA κ 8) i0 v)))) H locs) : rX D q A H0 s (wM q ad (uA κ 8 i0 v) t) H locs := by
  refine h.as (fun i hi => hi) (fun i hi => rfl) (fun i hi => ?_)
  have hi : i < 18 := hi
  match i, hi with
  | 0, _ => rfl
  | 1, _ => rfl
  | 2, _ => rfl
  | 3, _ => rfl
  | 4, _ => rfl
  | 5, _ => rfl
  | 6, _ => rfl
  | 7, _ => rfl
  | 8, _ => rfl
  | 9, _ => rfl
  | 10, _ => rfl
  | 11, _ => rfl
  | 12, _ => rfl
  | 13, _ => rfl
  | 14, _ => rfl
  | 15, _ => rfl
  | 16, _ => rfl
  | 17, _ => rfl
  | i + 18, hi => exact absurd hi (by omega)
theorem mS_callPlaces {D : va_G} {q : Nat → ClassId} {A : Nat → Prop} {H0 : Heap} {s : State} {ad : Nat → Nat} {κ : KS} {t : Nat → Int32} {H : Heap} {locs : List Loc} {v : Int32} {i0 : Nat} (h : rX D q A H0 s (wU (wM q ad κ t) 16 (.inl (q 0, 12, .inl (va_up (sA κ 9) i0 v)))) H locs) : rX D q A H0 s (wM q ad (uA κ 9 i0 v) t) H locs := by
  refine h.as (fun i hi => hi) (fun i hi => rfl) (fun i hi => ?_)
  have hi : i < 18 := hi
  match i, hi with
  | 0, _ => rfl
  | 1, _ => rfl
  | 2, _ => rfl
  | 3, _ => rfl
  | 4, _ => rfl
  | 5, _ => rfl
  | 6, _ => rfl
  | 7, _ => rfl
  | 8, _ => rfl
  | 9, _ => rfl
  | 10, _ => rfl
  | 11, _ => rfl
  | 12, _ => rfl
  | 13, _ => rfl
  | 14, _ => rfl
  | 15, _ => rfl
  | 16, _ => rfl
  | 17, _ => rfl
  | i + 18, hi => exact absurd hi (by omega)
theorem mS_tolds {D : va_G} {q : Nat → ClassId} {A : Nat → Prop} {H0 : Heap} {s : State} {ad : Nat → Nat} {κ : KS} {t : Nat → Int32} {H : Heap} {locs : List Loc} {v : Int32} {i0 : Nat} (h : rX D q A H0 s (wU (wM q ad κ t) 17 (.inl (q 0, 200, .inl (va_up (sA κ 10) i0 v)))) H locs) : rX D q A H0 s (wM q ad (uA κ 10 i0 v) t) H locs := by
  refine h.as (fun i hi => hi) (fun i hi => rfl) (fun i hi => ?_)
  have hi : i < 18 := hi
  match i, hi with
  | 0, _ => rfl
  | 1, _ => rfl
  | 2, _ => rfl
  | 3, _ => rfl
  | 4, _ => rfl
  | 5, _ => rfl
  | 6, _ => rfl
  | 7, _ => rfl
  | 8, _ => rfl
  | 9, _ => rfl
  | 10, _ => rfl
  | 11, _ => rfl
  | 12, _ => rfl
  | 13, _ => rfl
  | 14, _ => rfl
  | 15, _ => rfl
  | 16, _ => rfl
  | 17, _ => rfl
  | i + 18, hi => exact absurd hi (by omega)
