def rDbl (y : UInt64) : Nat → UInt64
  | 0 => y
  | n + 1 => FP.dadd (rDbl y n) (rDbl y n)
theorem rDbl_U {y : UInt64} {m : Nat} (hy : fdU y false m) : ∀ n, 2 ^ n * m ≤ 2 * 2 ^ 1137 → fdU (rDbl y n) false (2 ^ n * m)
  | 0, _ => by rw [Nat.pow_zero, Nat.one_mul]; exact hy
  | n + 1, h => by
    rw [Nat.pow_succ, Nat.mul_comm (2 ^ n) 2, Nat.mul_assoc] at h ⊢
    have h2 : 2 ^ n * m ≤ 2 ^ 1137 := Nat.le_of_mul_le_mul_left h (by decide)
    exact fd_dbl (rDbl_U hy n (Nat.le_trans h2 (Nat.le_mul_of_pos_left _ (by decide)))) h2
theorem rGt {a b : UInt64} {sl : Bool} {n k : Nat} (ha : fdU a false n) (hb : fdU b sl k) (hz : FP.Core.signed sl k = (k : Int)) : (0 : Int32) < Op.cmpValue (FP.dcmp a b) .g ↔ k < n := by
  rw [fd_order ha hb, fq_gt, hz]
  show (k : Int) < (n : Int) ↔ _
  omega
theorem rNeg {x : UInt64} {s : Bool} {n : Nat} (hx : fdU x s n) : (0 : Int32) ≤ Op.cmpValue (FP.dcmp x FP.dconst0) .g ↔ FP.Core.signed s n = (n : Int) := by
  rw [fd_order hx fd_0, fq_ge]
  cases s
  · show ((0 : Nat) : Int) ≤ (n : Int) ↔ (n : Int) = n
    omega
  · show ((0 : Nat) : Int) ≤ -(n : Int) ↔ -(n : Int) = n
    omega
theorem rNeg2 {x : UInt64} {s : Bool} {n : Nat} (hx : fdU x s n) (h : ¬ FP.Core.signed s n = (n : Int)) : s = true := by
  cases s
  · exact absurd rfl h
  · rfl
theorem rTop {n m : Nat} (h : n ≤ 2 ^ 1137) (hm : ¬ m = 0) : n < 2 * (2 ^ 1137 * m) := by
  have h1 : 2 ^ 1137 ≤ 2 ^ 1137 * m := Nat.le_mul_of_pos_right _ (by omega)
  have h2 := Nat.two_pow_pos 1137
  generalize 2 ^ 1137 = B at *
  generalize B * m = C at *
  omega
theorem rSubM {l L P m : Nat} {k : Nat} (hP : P = 2 ^ k * m) (h1 : P ≤ l) (h : l % m = L % m) : (l - P) % m = L % m := by
  rw [← h]
  obtain ⟨r, rfl⟩ : ∃ r, l = P + r := ⟨l - P, by omega⟩
  rw [show P + r - P = r by omega, hP, Nat.mul_comm, Nat.mul_add_mod]
set_option maxHeartbeats 4000000 in
set_option maxRecDepth 100000 in
theorem lp1_X2_restOf {p : Program} {l : Launch} {e : Env} {R : Room} {s : State} {mm : MethodId} {args : Array Value} {below : List Frame} {meth : Method} {c : Code} {Q : State → Prop} {D : va_G} {q : Nat → ClassId} {A : Nat → Prop} {H0 : Heap} {w : wT} (hC : CallFix p mm c cX2_restOf 10 s args wsX2_restOf RX2) (hR : R = (rmz 0 0)) (x y left yp : UInt64) (sl : Bool) (L m : Nat) (hL : fdU left sl L) (hz : FP.Core.signed sl L = (L : Int)) (hLB : L ≤ 2 ^ 1137) (hm : ¬ m = 0) (hy : fdU yp false m) (kk : ∀ (i : Nat) (I : Int32) (part : UInt64) (H : Heap) (locs : List Loc) (ls : Array Slot), I = nI i → part = rDbl yp i → L < 2 * (2 ^ i * m) → 2 ^ i * m ≤ 2 ^ 1137 → rX D q A H0 s w H locs → lv_has ls 10 [(8, .int I), (6, .double part), (4, .double left), (0, .double x), (2, .double y)] → W p l e (rmz 0 0) s mm args below meth c H locs 0 0 Q (F0 mm 63 ls [])) : ∀ (n i : Nat) (I : Int32) (part : UInt64) (H : Heap) (locs : List Loc) (ls : Array Slot), I = nI i → i + n = 1137 → part = rDbl yp i → 2 ^ i * m ≤ 2 ^ 1137 → rX D q A H0 s w H locs → lv_has ls 10 [(8, .int I), (6, .double part), (4, .double left), (0, .double x), (2, .double y)] → W p l e (rmz 0 0) s mm args below meth c H locs 0 0 Q (F0 mm 31 ls []) := by
  subst hR
  have hx := hC.1
  have hb := hC.2.1
  intro n
  induction n with
  | zero =>
    intro i I part H locs ls hI hi hp hP hw hl
    refine lv_iload hx hb dX2_restOf_31 (lv_at hl 0 rfl) ?_
    refine lv_sipush (v := 1137) hx hb dX2_restOf_33 (by decide) ?_
    refine lv_icmp_ge (tgt := 63) hx hb dX2_restOf_36 (by decide) (fun _ => ?_) (fun c_ => absurd (by rw [hI, show (1137 : Int32) = nI 1137 from rfl]; exact nI_le (by omega) (by omega)) c_)
    obtain rfl : i = 1137 := by omega
    exact kk 1137 I _ H locs ls hI hp (rTop hLB hm) hP hw (lv_sub hl [0, 1, 2, 3, 4] rfl)
  | succ n ih =>
    intro i I part H locs ls hI hi hp hP hw hl
    subst hp
    have hpi := rDbl_U hy i (Nat.le_trans hP (Nat.le_mul_of_pos_left _ (by decide)))
    have hdd := fd_dbl hpi hP
    refine lv_iload hx hb dX2_restOf_31 (lv_at hl 0 rfl) ?_
    refine lv_sipush (v := 1137) hx hb dX2_restOf_33 (by decide) ?_
    refine lv_icmp_ge (tgt := 63) hx hb dX2_restOf_36 (by decide) (fun c_ => absurd c_ (by rw [hI, show (1137 : Int32) = nI 1137 from rfl]; exact nI_ge (by omega) (by omega))) (fun _ => ?_)
    refine lv_dload hx hb dX2_restOf_39 (lv_at hl 1 rfl) ?_
    refine lv_dload hx hb dX2_restOf_41 (lv_at hl 1 rfl) ?_
    refine lv_dadd hx hb dX2_restOf_43 (fd_nn hdd) ?_
    refine lv_dload hx hb dX2_restOf_44 (lv_at hl 2 rfl) ?_
    refine lv_dcmp hx hb dX2_restOf_46 ?_
    refine lv_if_gt (tgt := 63) hx hb dX2_restOf_47 (by decide) (fun c_1 => ?_) (fun c_1 => ?_)
    · exact kk i I _ H locs ls hI rfl ((rGt hdd hL hz).mp c_1) hP hw (lv_sub hl [0, 1, 2, 3, 4] rfl)
    · refine lv_dload hx hb dX2_restOf_50 (lv_at hl 1 rfl) ?_
      refine lv_dload hx hb dX2_restOf_52 (lv_at hl 1 rfl) ?_
      refine lv_dadd hx hb dX2_restOf_54 (fd_nn hdd) ?_
      refine lv_dstore (lv' := [(6, .double (FP.dadd (rDbl yp i) (rDbl yp i))), (8, .int I), (4, .double left), (0, .double x), (2, .double y)]) hx hb dX2_restOf_55 hl (by decide) rfl (fun ls hl => ?_)
      refine lv_iinc (v := I + 1) (lv' := [(8, .int (I + 1)), (6, .double (FP.dadd (rDbl yp i) (rDbl yp i))), (4, .double left), (0, .double x), (2, .double y)]) hx hb dX2_restOf_57 hl (k := 1) rfl (by first | rfl | decide) (by decide) rfl (fun ls hl => ?_)
      refine lv_goto (tgt := 31) hx hb dX2_restOf_60 (by decide) ?_
      have hle : 2 * (2 ^ i * m) ≤ L := Nat.le_of_not_lt (fun h => c_1 ((rGt hdd hL hz).mpr h))
      exact ih (i + 1) (I + 1) (FP.dadd (rDbl yp i) (rDbl yp i)) H locs ls (by rw [hI]; exact nI_1 i) (by omega) rfl (by rw [Nat.pow_succ, Nat.mul_comm (2 ^ i) 2, Nat.mul_assoc]; exact Nat.le_trans hle hLB) hw (lv_sub hl [0, 1, 2, 3, 4] rfl)

theorem nI_m1 (k : Nat) : nI (k + 1) + (-1) = nI k := by
  rw [← nI_1]
  apply Int32.toBitVec_inj.mp
  rw [Int32.toBitVec_add, Int32.toBitVec_add, BitVec.add_assoc, show (1 : Int32).toBitVec + (-1 : Int32).toBitVec = 0#32 from by decide, BitVec.add_zero]
theorem nI_nn2 {k : Nat} (h : k < 2 ^ 31) : ¬ nI k < 0 := Int32.not_lt.mpr (by rw [show (0 : Int32) = nI 0 from rfl]; exact nI_le (Nat.zero_le _) h)
theorem nI_nle0 {k : Nat} (h : k + 1 < 2 ^ 31) : ¬ nI (k + 1) ≤ 0 := by rw [show (0 : Int32) = nI 0 from rfl]; exact nI_ge (by omega) h
set_option maxHeartbeats 4000000 in
set_option maxRecDepth 100000 in
theorem lp2_X2_restOf {p : Program} {l : Launch} {e : Env} {R : Room} {s : State} {mm : MethodId} {args : Array Value} {below : List Frame} {meth : Method} {c : Code} {Q : State → Prop} {D : va_G} {q : Nat → ClassId} {A : Nat → Prop} {H0 : Heap} {w : wT} (hC : CallFix p mm c cX2_restOf 10 s args wsX2_restOf RX2) (hR : R = (rmz 0 0)) (x yp : UInt64) (sl : Bool) (L m : Nat) (hm : ¬ m = 0) (hy : fdU yp false m) (kk : ∀ (left : UInt64) (H : Heap) (locs : List Loc) (ls : Array Slot), fdU left sl (L % m) → rX D q A H0 s w H locs → lv_has ls 10 [(4, .double left), (0, .double x)] → W p l e (rmz 0 0) s mm args below meth c H locs 0 0 Q (F0 mm 106 ls [])) : ∀ (k : Nat) (K : Int32) (part : UInt64) (lu : Nat) (left : UInt64) (H : Heap) (locs : List Loc) (ls : Array Slot), K = nI k → part = rDbl yp k → fdU left sl lu → FP.Core.signed sl lu = (lu : Int) → lu < 2 * (2 ^ k * m) → lu % m = L % m → 2 ^ k * m ≤ 2 ^ 1137 → k < 2 ^ 30 → rX D q A H0 s w H locs → lv_has ls 10 [(9, .int K), (6, .double part), (4, .double left), (0, .double x)] → W p l e (rmz 0 0) s mm args below meth c H locs 0 0 Q (F0 mm 67 ls []) := by
  subst hR
  have hx := hC.1
  have hb := hC.2.1
  intro k
  induction k with
  | zero =>
    intro K part lu left H locs ls hK hp hlu hz hlt hmd hPB hk30 hw hl
    have hpi : fdU (part) false (2 ^ 0 * m) := by rw [hp]; exact rDbl_U hy _ (Nat.le_trans hPB (Nat.le_mul_of_pos_left _ (by decide)))
    have hpos : 0 < 2 ^ 0 * m := Nat.mul_pos (Nat.two_pow_pos _) (by omega)
    refine lv_iload hx hb dX2_restOf_67 (lv_at hl 0 rfl) ?_
    refine lv_if_lt (tgt := 106) hx hb dX2_restOf_69 (by decide) (fun c_ => absurd c_ (by rw [hK]; exact nI_nn2 (by omega))) (fun _ => ?_)
    refine lv_dload hx hb dX2_restOf_72 (lv_at hl 1 rfl) ?_
    refine lv_dload hx hb dX2_restOf_74 (lv_at hl 2 rfl) ?_
    refine lv_dcmp hx hb dX2_restOf_76 ?_
    refine lv_if_gt (tgt := 87) hx hb dX2_restOf_77 (by decide) (fun c_1 => ?_) (fun c_1 => ?_)
    · refine lv_iload hx hb dX2_restOf_87 (lv_at hl 0 rfl) ?_
      refine lv_if_le (tgt := 100) hx hb dX2_restOf_89 (by decide) (fun _ => ?_) (fun c_ => absurd (by rw [hK]; decide) c_)
      refine lv_iinc (v := K + (-1)) (lv' := [(9, .int (K + (-1))), (6, .double part), (4, .double left), (0, .double x)]) hx hb dX2_restOf_100 hl (k := 0) rfl (by first | rfl | decide) (by decide) rfl (fun ls hl => ?_)
      refine lv_goto (tgt := 67) hx hb dX2_restOf_103 (by decide) ?_
      refine lv_iload hx hb dX2_restOf_67 (lv_at hl 0 rfl) ?_
      refine lv_if_lt (tgt := 106) hx hb dX2_restOf_69 (by decide) (fun _ => ?_) (fun c_ => absurd (by rw [hK]; decide) c_)
      have hfl : lu = L % m := by rw [← hmd]; exact (Nat.mod_eq_of_lt (by have h := (rGt hpi hlu hz).mp c_1; rw [Nat.pow_zero, Nat.one_mul] at h; exact h)).symm
      rw [hfl] at hlu
      exact kk _ H locs ls hlu hw (lv_sub hl [2, 3] rfl)
    · have hle : 2 ^ 0 * m ≤ lu := Nat.le_of_not_lt (fun h => c_1 ((rGt hpi hlu hz).mpr h))
      have hsl : sl = false := by
        cases sl
        · rfl
        · exact absurd hz (by show ¬ -(lu : Int) = lu; have := hpos; omega)
      subst hsl
      have hsb := fd_sub hlu hpi hle (Nat.le_of_lt hlt)
      refine lv_dload hx hb dX2_restOf_80 (lv_at hl 2 rfl) ?_
      refine lv_dload hx hb dX2_restOf_82 (lv_at hl 1 rfl) ?_
      refine lv_dsub hx hb dX2_restOf_84 (fd_nn hsb) ?_
      refine lv_dstore (lv' := [(4, .double (FP.dsub left part)), (9, .int K), (6, .double part), (0, .double x)]) hx hb dX2_restOf_85 hl (by decide) rfl (fun ls hl => ?_)
      refine lv_iload hx hb dX2_restOf_87 (lv_at hl 1 rfl) ?_
      refine lv_if_le (tgt := 100) hx hb dX2_restOf_89 (by decide) (fun _ => ?_) (fun c_ => absurd (by rw [hK]; decide) c_)
      refine lv_iinc (v := K + (-1)) (lv' := [(9, .int (K + (-1))), (4, .double (FP.dsub left part)), (6, .double part), (0, .double x)]) hx hb dX2_restOf_100 hl (k := 1) rfl (by first | rfl | decide) (by decide) rfl (fun ls hl => ?_)
      refine lv_goto (tgt := 67) hx hb dX2_restOf_103 (by decide) ?_
      refine lv_iload hx hb dX2_restOf_67 (lv_at hl 0 rfl) ?_
      refine lv_if_lt (tgt := 106) hx hb dX2_restOf_69 (by decide) (fun _ => ?_) (fun c_ => absurd (by rw [hK]; decide) c_)
      have hfl : lu - 2 ^ 0 * m = L % m := by rw [← rSubM (k := 0) rfl hle hmd]; exact (Nat.mod_eq_of_lt (by rw [Nat.pow_zero, Nat.one_mul] at hlt hle ⊢; omega)).symm
      rw [hfl] at hsb
      exact kk _ H locs ls hsb hw (lv_sub hl [1, 3] rfl)
  | succ k ih =>
    intro K part lu left H locs ls hK hp hlu hz hlt hmd hPB hk30 hw hl
    subst hp
    have hpi : fdU (rDbl yp (k + 1)) false (2 ^ (k + 1) * m) := rDbl_U hy _ (Nat.le_trans hPB (Nat.le_mul_of_pos_left _ (by decide)))
    have hpos : 0 < 2 ^ (k + 1) * m := Nat.mul_pos (Nat.two_pow_pos _) (by omega)
    have hpe : 2 ^ (k + 1) * m = 2 * (2 ^ k * m) := by rw [Nat.pow_succ, Nat.mul_comm (2 ^ k) 2, Nat.mul_assoc]
    have hpk : fdU (rDbl yp k) false (2 ^ k * m) := rDbl_U hy _ (Nat.le_trans (Nat.le_trans (Nat.le_mul_of_pos_left _ (by decide)) (hpe ▸ hPB)) (Nat.le_mul_of_pos_left _ (by decide)))
    have hpi2 := hpi; rw [hpe] at hpi2
    refine lv_iload hx hb dX2_restOf_67 (lv_at hl 0 rfl) ?_
    refine lv_if_lt (tgt := 106) hx hb dX2_restOf_69 (by decide) (fun c_ => absurd c_ (by rw [hK]; exact nI_nn2 (by omega))) (fun _ => ?_)
    refine lv_dload hx hb dX2_restOf_72 (lv_at hl 1 rfl) ?_
    refine lv_dload hx hb dX2_restOf_74 (lv_at hl 2 rfl) ?_
    refine lv_dcmp hx hb dX2_restOf_76 ?_
    refine lv_if_gt (tgt := 87) hx hb dX2_restOf_77 (by decide) (fun c_1 => ?_) (fun c_1 => ?_)
    · refine lv_iload hx hb dX2_restOf_87 (lv_at hl 0 rfl) ?_
      refine lv_if_le (tgt := 100) hx hb dX2_restOf_89 (by decide) (fun c_ => absurd c_ (by rw [hK]; exact nI_nle0 (by omega))) (fun _ => ?_)
      refine lv_dload hx hb dX2_restOf_92 (lv_at hl 1 rfl) ?_
      refine lv_ldc2d hx hb hC.2.2.2.1 (hC.2.2.2.2 _ lk_X2_restOf_81) dX2_restOf_94 ?_
      refine lv_ddiv hx hb dX2_restOf_97 (by rw [fd_half hpi2 hpk]; exact fd_nn hpk) ?_
      refine lv_dstore (lv' := [(6, .double (FP.ddiv (rDbl yp (k + 1)) (4611686018427387904))), (9, .int K), (4, .double left), (0, .double x)]) hx hb dX2_restOf_98 hl (by decide) rfl (fun ls hl => ?_)
      refine lv_iinc (v := K + (-1)) (lv' := [(9, .int (K + (-1))), (6, .double (FP.ddiv (rDbl yp (k + 1)) (4611686018427387904))), (4, .double left), (0, .double x)]) hx hb dX2_restOf_100 hl (k := 1) rfl (by first | rfl | decide) (by decide) rfl (fun ls hl => ?_)
      refine lv_goto (tgt := 67) hx hb dX2_restOf_103 (by decide) ?_
      exact ih (K + (-1)) _ lu _ H locs ls (by rw [hK]; exact nI_m1 k) (fd_half hpi2 hpk) hlu hz (by have h := (rGt hpi hlu hz).mp c_1; rw [hpe] at h; exact h) hmd (Nat.le_trans (Nat.le_mul_of_pos_left _ (by decide)) (hpe ▸ hPB)) (by omega) hw (lv_sub hl [0, 1, 2, 3] rfl)
    · have hle : 2 ^ (k + 1) * m ≤ lu := Nat.le_of_not_lt (fun h => c_1 ((rGt hpi hlu hz).mpr h))
      have hsl : sl = false := by
        cases sl
        · rfl
        · exact absurd hz (by show ¬ -(lu : Int) = lu; have := hpos; omega)
      subst hsl
      have hsb := fd_sub hlu hpi hle (Nat.le_of_lt hlt)
      refine lv_dload hx hb dX2_restOf_80 (lv_at hl 2 rfl) ?_
      refine lv_dload hx hb dX2_restOf_82 (lv_at hl 1 rfl) ?_
      refine lv_dsub hx hb dX2_restOf_84 (fd_nn hsb) ?_
      refine lv_dstore (lv' := [(4, .double (FP.dsub left (rDbl yp (k + 1)))), (9, .int K), (6, .double (rDbl yp (k + 1))), (0, .double x)]) hx hb dX2_restOf_85 hl (by decide) rfl (fun ls hl => ?_)
      refine lv_iload hx hb dX2_restOf_87 (lv_at hl 1 rfl) ?_
      refine lv_if_le (tgt := 100) hx hb dX2_restOf_89 (by decide) (fun c_ => absurd c_ (by rw [hK]; exact nI_nle0 (by omega))) (fun _ => ?_)
      refine lv_dload hx hb dX2_restOf_92 (lv_at hl 2 rfl) ?_
      refine lv_ldc2d hx hb hC.2.2.2.1 (hC.2.2.2.2 _ lk_X2_restOf_81) dX2_restOf_94 ?_
      refine lv_ddiv hx hb dX2_restOf_97 (by rw [fd_half hpi2 hpk]; exact fd_nn hpk) ?_
      refine lv_dstore (lv' := [(6, .double (FP.ddiv (rDbl yp (k + 1)) (4611686018427387904))), (4, .double (FP.dsub left (rDbl yp (k + 1)))), (9, .int K), (0, .double x)]) hx hb dX2_restOf_98 hl (by decide) rfl (fun ls hl => ?_)
      refine lv_iinc (v := K + (-1)) (lv' := [(9, .int (K + (-1))), (6, .double (FP.ddiv (rDbl yp (k + 1)) (4611686018427387904))), (4, .double (FP.dsub left (rDbl yp (k + 1)))), (0, .double x)]) hx hb dX2_restOf_100 hl (k := 2) rfl (by first | rfl | decide) (by decide) rfl (fun ls hl => ?_)
      refine lv_goto (tgt := 67) hx hb dX2_restOf_103 (by decide) ?_
      exact ih (K + (-1)) _ (lu - 2 ^ (k + 1) * m) _ H locs ls (by rw [hK]; exact nI_m1 k) (fd_half hpi2 hpk) hsb rfl (by have e := hpe; omega) (rSubM (k := k + 1) rfl hle hmd) (Nat.le_trans (Nat.le_mul_of_pos_left _ (by decide)) (hpe ▸ hPB)) (by omega) hw (lv_sub hl [0, 1, 2, 3] rfl)

theorem rI30 {i m : Nat} (h : 2 ^ i * m ≤ 2 ^ 1137) (hm : ¬ m = 0) : i < 2 ^ 30 := by
  have h1 : 2 ^ i ≤ 2 ^ 1137 := Nat.le_trans (Nat.le_mul_of_pos_right _ (by omega)) h
  have h2 := (Nat.pow_le_pow_iff_right (by decide)).mp h1
  exact Nat.lt_of_le_of_lt h2 (by decide)
theorem rPos {t : Bool} {m : Nat} (h : FP.Core.signed t m = (m : Int)) (hm : ¬ m = 0) : t = false := by
  cases t
  · rfl
  · exact absurd h (by show ¬ -(m : Int) = m; omega)
theorem rS {x y : UInt32} {s t : Bool} {n m : Nat} (hx : ffU x s n) (hy : ffU y t m) (hm : ¬ m = 0) : FP.d2f (FP.drem (FP.f2d x) (FP.f2d y)) = FP.frem x y := by
  have hm2 : ¬ m * 2 ^ 925 = 0 := Nat.mul_ne_zero hm (Nat.pos_iff_ne_zero.mp (Nat.two_pow_pos _))
  have h1 := fd_rem (ff_f2d hx) (ff_f2d hy) hm2
  rw [Nat.mul_mod_mul_right] at h1
  exact fd_d2f h1 (ff_rem hx hy hm)
/-- all singles and doubles are finite, at most 2^63 -/
def FB (κ : KS) : Prop := (∀ i, ffB (sF κ i)) ∧ ∀ j i, fdB (sD κ j i)
theorem rZ64 {y : UInt64} {t : Bool} {m : Nat} (hy : fdU y t m) (h : ¬ Op.cmpValue (FP.dcmp y FP.dconst0) .l = 0) : ¬ m = 0 := by
  intro e
  apply h
  rw [fd_order hy fd_0, fq_eq, e]
  cases t <;> rfl
theorem rZ32 {y : UInt32} {t : Bool} {m : Nat} (hy : ffU y t m) (h : ¬ Op.cmpValue (FP.fcmp y FP.fconst0) .l = 0) : ¬ m = 0 := by
  intro e
  apply h
  rw [ff_order hy ff_0, fq_eq, e]
  cases t <;> rfl
set_option maxHeartbeats 4000000 in
set_option maxRecDepth 100000 in
theorem c_X2_restOf (l : Launch) {D : va_G} {q : Nat → ClassId} (w : wT) (sz : Nat) (x y : UInt64) (sx t : Bool) (n m : Nat) (hxv : fdU x sx n) (hy : fdU y t m) (hm : ¬ m = 0) (hn : n ≤ 2 ^ 1137) (hmB : m ≤ 2 ^ 1137) : Met l yX2_restOf wsX2_restOf (rmz 0 0) (va_Pc [.double x, .double y] (rPre D q w sz)) (va_Qd (fun (r : UInt64) (u : Unit) => r = FP.drem x y) (fun (u : Unit) tt => rPo D (rA w sz) w tt) (rA w sz)) 0 0 (rA w sz) := by
  refine r_start (cc := cX2_restOf) (maxL := 10) (ret := (some .double)) (by decide) rfl (Nat.le_of_ble_eq_true rfl) ?_
  intro p e s mm below meth c ls hC hr hlk hnm hsz hw hl
  have hx := hC.1
  have hb := hC.2.1
  have hl : lv_has ls 10 [(0, .double x), (2, .double y)] := hl
  refine lv_dload_n hx hb dX2_restOf_0 rfl (lv_at hl 0 rfl) ?_
  refine lv_dconst0 hx hb dX2_restOf_1 ?_
  refine lv_dcmp hx hb dX2_restOf_2 ?_
  refine lv_if_ge (tgt := 11) hx hb dX2_restOf_3 (by decide) (fun c_1 => ?_) (fun c_1 => ?_)
  · refine lv_dload_n hx hb dX2_restOf_11 rfl (lv_at hl 0 rfl) ?_
    refine lv_dstore (lv' := [(4, .double x), (0, .double x), (2, .double y)]) hx hb dX2_restOf_12 hl (by decide) rfl (fun ls hl => ?_)
    refine lv_dload_n hx hb dX2_restOf_14 rfl (lv_at hl 2 rfl) ?_
    refine lv_dconst0 hx hb dX2_restOf_15 ?_
    refine lv_dcmp hx hb dX2_restOf_16 ?_
    refine lv_if_ge (tgt := 25) hx hb dX2_restOf_17 (by decide) (fun c_2 => ?_) (fun c_2 => ?_)
    · refine lv_dload_n hx hb dX2_restOf_25 rfl (lv_at hl 2 rfl) ?_
      refine lv_dstore (lv' := [(6, .double y), (4, .double x), (0, .double x), (2, .double y)]) hx hb dX2_restOf_26 hl (by decide) rfl (fun ls hl => ?_)
      refine lv_iconst (v := 0) hx hb dX2_restOf_28 (by decide) ?_
      refine lv_istore (lv' := [(8, .int 0), (6, .double y), (4, .double x), (0, .double x), (2, .double y)]) hx hb dX2_restOf_29 hl (by decide) rfl (fun ls hl => ?_)
      have hz := (rNeg hxv).mp c_1
      have hLf := hxv
      obtain rfl : t = false := rPos ((rNeg hy).mp c_2) hm
      have hyp := hy
      refine lp1_X2_restOf (w := w) hC rfl x y x y sx n m hLf hz hn hm hyp (fun i I part H locs ls hI hp hlt hPB hw hl => ?_) 1137 0 0 y _ _ _ nI_0.symm (by omega) rfl (by rw [Nat.pow_zero, Nat.one_mul]; exact hmB) hw (lv_sub hl [0, 1, 2, 3, 4] rfl)
      refine lv_iload hx hb dX2_restOf_63 (lv_at hl 0 rfl) ?_
      refine lv_istore (lv' := [(9, .int I), (8, .int I), (6, .double part), (4, .double x), (0, .double x), (2, .double y)]) hx hb dX2_restOf_65 hl (by decide) rfl (fun ls hl => ?_)
      refine lp2_X2_restOf (w := w) hC rfl x y sx n m hm hyp (fun left H locs ls hlf hw hl => ?_) i I part n x _ _ _ hI hp hLf hz hlt rfl hPB (rI30 hPB hm) hw (lv_sub hl [0, 2, 3, 4] rfl)
      refine lv_dload_n hx hb dX2_restOf_106 rfl (lv_at hl 1 rfl) ?_
      refine lv_dconst0 hx hb dX2_restOf_107 ?_
      refine lv_dcmp hx hb dX2_restOf_108 ?_
      refine lv_if_ge (tgt := 118) hx hb dX2_restOf_109 (by decide) (fun _ => ?_) (fun c_ => absurd c_1 c_)
      refine lv_dload hx hb dX2_restOf_118 (lv_at hl 0 rfl) ?_
      exact r_dret hC hr hlk hw () rfl (fd_inj hlf (fd_rem hxv hy hm)) (Nat.le_of_ble_eq_true rfl) (Nat.le_of_ble_eq_true rfl) dX2_restOf_120
    · refine lv_dload_n hx hb dX2_restOf_20 rfl (lv_at hl 2 rfl) ?_
      refine lv_dneg hx hb dX2_restOf_21 ?_
      refine lv_goto (tgt := 26) hx hb dX2_restOf_22 (by decide) ?_
      refine lv_dstore (lv' := [(6, .double (FP.dneg y)), (4, .double x), (0, .double x), (2, .double y)]) hx hb dX2_restOf_26 hl (by decide) rfl (fun ls hl => ?_)
      refine lv_iconst (v := 0) hx hb dX2_restOf_28 (by decide) ?_
      refine lv_istore (lv' := [(8, .int 0), (6, .double (FP.dneg y)), (4, .double x), (0, .double x), (2, .double y)]) hx hb dX2_restOf_29 hl (by decide) rfl (fun ls hl => ?_)
      have hz := (rNeg hxv).mp c_1
      have hLf := hxv
      obtain rfl : t = true := rNeg2 hy (fun h => c_2 ((rNeg hy).mpr h))
      have hyp : fdU (FP.dneg y) false m := fd_neg hy
      refine lp1_X2_restOf (w := w) hC rfl x y x (FP.dneg y) sx n m hLf hz hn hm hyp (fun i I part H locs ls hI hp hlt hPB hw hl => ?_) 1137 0 0 (FP.dneg y) _ _ _ nI_0.symm (by omega) rfl (by rw [Nat.pow_zero, Nat.one_mul]; exact hmB) hw (lv_sub hl [0, 1, 2, 3, 4] rfl)
      refine lv_iload hx hb dX2_restOf_63 (lv_at hl 0 rfl) ?_
      refine lv_istore (lv' := [(9, .int I), (8, .int I), (6, .double part), (4, .double x), (0, .double x), (2, .double y)]) hx hb dX2_restOf_65 hl (by decide) rfl (fun ls hl => ?_)
      refine lp2_X2_restOf (w := w) hC rfl x (FP.dneg y) sx n m hm hyp (fun left H locs ls hlf hw hl => ?_) i I part n x _ _ _ hI hp hLf hz hlt rfl hPB (rI30 hPB hm) hw (lv_sub hl [0, 2, 3, 4] rfl)
      refine lv_dload_n hx hb dX2_restOf_106 rfl (lv_at hl 1 rfl) ?_
      refine lv_dconst0 hx hb dX2_restOf_107 ?_
      refine lv_dcmp hx hb dX2_restOf_108 ?_
      refine lv_if_ge (tgt := 118) hx hb dX2_restOf_109 (by decide) (fun _ => ?_) (fun c_ => absurd c_1 c_)
      refine lv_dload hx hb dX2_restOf_118 (lv_at hl 0 rfl) ?_
      exact r_dret hC hr hlk hw () rfl (fd_inj hlf (fd_rem hxv hy hm)) (Nat.le_of_ble_eq_true rfl) (Nat.le_of_ble_eq_true rfl) dX2_restOf_120
  · refine lv_dload_n hx hb dX2_restOf_6 rfl (lv_at hl 0 rfl) ?_
    refine lv_dneg hx hb dX2_restOf_7 ?_
    refine lv_goto (tgt := 12) hx hb dX2_restOf_8 (by decide) ?_
    refine lv_dstore (lv' := [(4, .double (FP.dneg x)), (0, .double x), (2, .double y)]) hx hb dX2_restOf_12 hl (by decide) rfl (fun ls hl => ?_)
    refine lv_dload_n hx hb dX2_restOf_14 rfl (lv_at hl 2 rfl) ?_
    refine lv_dconst0 hx hb dX2_restOf_15 ?_
    refine lv_dcmp hx hb dX2_restOf_16 ?_
    refine lv_if_ge (tgt := 25) hx hb dX2_restOf_17 (by decide) (fun c_3 => ?_) (fun c_3 => ?_)
    · refine lv_dload_n hx hb dX2_restOf_25 rfl (lv_at hl 2 rfl) ?_
      refine lv_dstore (lv' := [(6, .double y), (4, .double (FP.dneg x)), (0, .double x), (2, .double y)]) hx hb dX2_restOf_26 hl (by decide) rfl (fun ls hl => ?_)
      refine lv_iconst (v := 0) hx hb dX2_restOf_28 (by decide) ?_
      refine lv_istore (lv' := [(8, .int 0), (6, .double y), (4, .double (FP.dneg x)), (0, .double x), (2, .double y)]) hx hb dX2_restOf_29 hl (by decide) rfl (fun ls hl => ?_)
      obtain rfl : sx = true := rNeg2 hxv (fun h => c_1 ((rNeg hxv).mpr h))
      have hLf : fdU (FP.dneg x) false n := fd_neg hxv
      have hz : FP.Core.signed false n = (n : Int) := rfl
      obtain rfl : t = false := rPos ((rNeg hy).mp c_3) hm
      have hyp := hy
      refine lp1_X2_restOf (w := w) hC rfl x y (FP.dneg x) y false n m hLf hz hn hm hyp (fun i I part H locs ls hI hp hlt hPB hw hl => ?_) 1137 0 0 y _ _ _ nI_0.symm (by omega) rfl (by rw [Nat.pow_zero, Nat.one_mul]; exact hmB) hw (lv_sub hl [0, 1, 2, 3, 4] rfl)
      refine lv_iload hx hb dX2_restOf_63 (lv_at hl 0 rfl) ?_
      refine lv_istore (lv' := [(9, .int I), (8, .int I), (6, .double part), (4, .double (FP.dneg x)), (0, .double x), (2, .double y)]) hx hb dX2_restOf_65 hl (by decide) rfl (fun ls hl => ?_)
      refine lp2_X2_restOf (w := w) hC rfl x y false n m hm hyp (fun left H locs ls hlf hw hl => ?_) i I part n (FP.dneg x) _ _ _ hI hp hLf hz hlt rfl hPB (rI30 hPB hm) hw (lv_sub hl [0, 2, 3, 4] rfl)
      refine lv_dload_n hx hb dX2_restOf_106 rfl (lv_at hl 1 rfl) ?_
      refine lv_dconst0 hx hb dX2_restOf_107 ?_
      refine lv_dcmp hx hb dX2_restOf_108 ?_
      refine lv_if_ge (tgt := 118) hx hb dX2_restOf_109 (by decide) (fun c_ => absurd c_ c_1) (fun _ => ?_)
      refine lv_dload hx hb dX2_restOf_112 (lv_at hl 0 rfl) ?_
      refine lv_dneg hx hb dX2_restOf_114 ?_
      refine lv_goto (tgt := 120) hx hb dX2_restOf_115 (by decide) ?_
      exact r_dret hC hr hlk hw () rfl (fd_inj (fd_neg hlf) (fd_rem hxv hy hm)) (Nat.le_of_ble_eq_true rfl) (Nat.le_of_ble_eq_true rfl) dX2_restOf_120
    · refine lv_dload_n hx hb dX2_restOf_20 rfl (lv_at hl 2 rfl) ?_
      refine lv_dneg hx hb dX2_restOf_21 ?_
      refine lv_goto (tgt := 26) hx hb dX2_restOf_22 (by decide) ?_
      refine lv_dstore (lv' := [(6, .double (FP.dneg y)), (4, .double (FP.dneg x)), (0, .double x), (2, .double y)]) hx hb dX2_restOf_26 hl (by decide) rfl (fun ls hl => ?_)
      refine lv_iconst (v := 0) hx hb dX2_restOf_28 (by decide) ?_
      refine lv_istore (lv' := [(8, .int 0), (6, .double (FP.dneg y)), (4, .double (FP.dneg x)), (0, .double x), (2, .double y)]) hx hb dX2_restOf_29 hl (by decide) rfl (fun ls hl => ?_)
      obtain rfl : sx = true := rNeg2 hxv (fun h => c_1 ((rNeg hxv).mpr h))
      have hLf : fdU (FP.dneg x) false n := fd_neg hxv
      have hz : FP.Core.signed false n = (n : Int) := rfl
      obtain rfl : t = true := rNeg2 hy (fun h => c_3 ((rNeg hy).mpr h))
      have hyp : fdU (FP.dneg y) false m := fd_neg hy
      refine lp1_X2_restOf (w := w) hC rfl x y (FP.dneg x) (FP.dneg y) false n m hLf hz hn hm hyp (fun i I part H locs ls hI hp hlt hPB hw hl => ?_) 1137 0 0 (FP.dneg y) _ _ _ nI_0.symm (by omega) rfl (by rw [Nat.pow_zero, Nat.one_mul]; exact hmB) hw (lv_sub hl [0, 1, 2, 3, 4] rfl)
      refine lv_iload hx hb dX2_restOf_63 (lv_at hl 0 rfl) ?_
      refine lv_istore (lv' := [(9, .int I), (8, .int I), (6, .double part), (4, .double (FP.dneg x)), (0, .double x), (2, .double y)]) hx hb dX2_restOf_65 hl (by decide) rfl (fun ls hl => ?_)
      refine lp2_X2_restOf (w := w) hC rfl x (FP.dneg y) false n m hm hyp (fun left H locs ls hlf hw hl => ?_) i I part n (FP.dneg x) _ _ _ hI hp hLf hz hlt rfl hPB (rI30 hPB hm) hw (lv_sub hl [0, 2, 3, 4] rfl)
      refine lv_dload_n hx hb dX2_restOf_106 rfl (lv_at hl 1 rfl) ?_
      refine lv_dconst0 hx hb dX2_restOf_107 ?_
      refine lv_dcmp hx hb dX2_restOf_108 ?_
      refine lv_if_ge (tgt := 118) hx hb dX2_restOf_109 (by decide) (fun c_ => absurd c_ c_1) (fun _ => ?_)
      refine lv_dload hx hb dX2_restOf_112 (lv_at hl 0 rfl) ?_
      refine lv_dneg hx hb dX2_restOf_114 ?_
      refine lv_goto (tgt := 120) hx hb dX2_restOf_115 (by decide) ?_
      exact r_dret hC hr hlk hw () rfl (fd_inj (fd_neg hlf) (fd_rem hxv hy hm)) (Nat.le_of_ble_eq_true rfl) (Nat.le_of_ble_eq_true rfl) dX2_restOf_120

