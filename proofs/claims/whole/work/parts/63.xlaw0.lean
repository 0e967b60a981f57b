def wsL : List Cond := Cond.code objectInit ⟨#[0xb1]⟩ 1 none :: wA
theorem wsL_in : ∀ w ∈ wsL, w ∈ lw_tbl := by
  intro w h
  rcases List.mem_cons.mp h with rfl | h
  · exact (List.mem_filter.mp wa_0_18).1
  · exact (List.mem_filter.mp h).1
theorem inL (C : Nat → Prop) {ws : List Cond} (h : ∀ w ∈ ws, w ∈ wA) : ∀ w ∈ ws, w ∈ wsL := fun w hw => List.mem_cons_of_mem _ (h w hw)
theorem lk_L_law_7 : Cond.classLink RL 7 RX8 ∈ wsL := List.mem_cons_of_mem _ wa_0_11
theorem lki_L_law_7 : Cond.instantiable RX8 3 ∈ wsL := List.mem_cons_of_mem _ wa_0_12
theorem lkz_L_law_7 : Cond.initialized RX8 ∈ wsL := List.mem_cons_of_mem _ wa_0_1
theorem lk_L_law_9 : Cond.methodLink RL 9 yX8_init ∈ wsL := List.mem_cons_of_mem _ wa_0_13
theorem lki_L_law_9 : Cond.instanceMethod yX8_init ∈ wsL := List.mem_cons_of_mem _ wa_0_14
theorem lkz_L_law_9 : Cond.initialized yX8_init.cls ∈ wsL := List.mem_cons_of_mem _ wa_0_1
theorem gL_law_X8_init : GoodIn wsL wsX8_init := gIl wa_0_15
theorem in_L_law_8 : ∀ w ∈ wsX80, w ∈ wsL := fun w h => List.mem_cons_of_mem _ (inA8 w h)
theorem lk_L_law_10 : Cond.classLink RL 10 RX9 ∈ wsL := List.mem_cons_of_mem _ wa_2_142
theorem lki_L_law_10 : Cond.instantiable RX9 34 ∈ wsL := List.mem_cons_of_mem _ wa_2_143
theorem lkz_L_law_10 : Cond.initialized RX9 ∈ wsL := List.mem_cons_of_mem _ wa_0_7
theorem lk_L_law_12 : Cond.methodLink RL 12 yX9_init ∈ wsL := List.mem_cons_of_mem _ wa_2_144
theorem lki_L_law_12 : Cond.instanceMethod yX9_init ∈ wsL := List.mem_cons_of_mem _ wa_2_145
theorem lkz_L_law_12 : Cond.initialized yX9_init.cls ∈ wsL := List.mem_cons_of_mem _ wa_0_7
theorem gL_law_X9_init : GoodIn wsL wsX9_init := gIl wa_2_146
theorem in_L_law_9 : ∀ w ∈ wsX90, w ∈ wsL := fun w h => List.mem_cons_of_mem _ (inA9 w h)
theorem gL_law_X8_put : GoodIn wsL (wsV RL 13 RX8 yX8_put wsX8_put) := gVl wa_0_163 wa_0_164 wa_0_165 wa_0_1 wa_0_166
theorem gL_law_X9_put : GoodIn wsL (wsV RL 17 RX9 yX9_put wsX9_put) := gVl wa_3_11 wa_3_12 wa_3_13 wa_0_7 wa_3_14
theorem gL_law_X8_handler : GoodIn wsL (wsV RL 18 RX8 yX8_handler wsX8_handler) := gVl wa_0_216 wa_0_217 wa_0_218 wa_0_1 wa_0_219
theorem gL_law_X9_handler : GoodIn wsL (wsV RL 21 RX9 yX9_handler wsX9_handler) := gVl wa_3_24 wa_3_25 wa_3_26 wa_0_7 wa_3_27
theorem gL_law_X8_clear : GoodIn wsL (wsV RL 22 RX8 yX8_clear wsX8_clear) := gVl wa_1_4 wa_1_5 wa_1_6 wa_0_1 wa_1_7
theorem gL_law_X9_clear : GoodIn wsL (wsV RL 26 RX9 yX9_clear wsX9_clear) := gVl wa_3_28 wa_3_29 wa_3_30 wa_0_7 wa_3_31
theorem gL_law_X8_start : GoodIn wsL (wsV RL 27 RX8 yX8_start wsX8_start) := gVl wa_1_12 wa_1_13 wa_1_14 wa_0_1 wa_1_15
theorem gL_law_X9_start : GoodIn wsL (wsV RL 31 RX9 yX9_start wsX9_start) := gVl wa_3_32 wa_3_33 wa_3_34 wa_0_7 wa_3_35
theorem gL_law_X8_step : GoodIn wsL (wsV RL 32 RX8 yX8_step wsX8_step) := gVl wa_1_52 wa_1_53 wa_1_54 wa_0_1 wa_1_55
theorem gL_law_X9_step : GoodIn wsL (wsV RL 36 RX9 yX9_step wsX9_step) := gVl wa_3_36 wa_3_37 wa_3_38 wa_0_7 wa_3_39
theorem gL_law_X8_word : GoodIn wsL (wsV RL 37 RX8 yX8_word wsX8_word) := gVl wa_2_66 wa_2_67 wa_2_68 wa_0_1 wa_2_69
theorem gL_law_X9_word : GoodIn wsL (wsV RL 40 RX9 yX9_word wsX9_word) := gVl wa_3_123 wa_3_124 wa_3_125 wa_0_7 wa_3_126
theorem gL_law_X8_wide : GoodIn wsL (wsV RL 41 RX8 yX8_wide wsX8_wide) := gVl wa_2_71 wa_2_72 wa_2_73 wa_0_1 wa_2_74
theorem gL_law_X9_wide : GoodIn wsL (wsV RL 45 RX9 yX9_wide wsX9_wide) := gVl wa_3_127 wa_3_128 wa_3_129 wa_0_7 wa_3_130
theorem gL_law_X8_single : GoodIn wsL (wsV RL 46 RX8 yX8_single wsX8_single) := gVl wa_2_76 wa_2_77 wa_2_78 wa_0_1 wa_2_79
theorem gL_law_X9_single : GoodIn wsL (wsV RL 50 RX9 yX9_single wsX9_single) := gVl wa_3_131 wa_3_132 wa_3_133 wa_0_7 wa_3_134
theorem gL_law_X8_real : GoodIn wsL (wsV RL 51 RX8 yX8_real wsX8_real) := gVl wa_2_81 wa_2_82 wa_2_83 wa_0_1 wa_2_84
theorem gL_law_X9_real : GoodIn wsL (wsV RL 54 RX9 yX9_real wsX9_real) := gVl wa_3_135 wa_3_136 wa_3_137 wa_0_7 wa_3_138
theorem gL_law_X8_kind : GoodIn wsL (wsV RL 55 RX8 yX8_kind wsX8_kind) := gVl wa_2_86 wa_2_87 wa_2_88 wa_0_1 wa_2_89
theorem gL_law_X9_kind : GoodIn wsL (wsV RL 58 RX9 yX9_kind wsX9_kind) := gVl wa_3_139 wa_3_140 wa_3_141 wa_0_7 wa_3_142
theorem gL_law_X8_size : GoodIn wsL (wsV RL 59 RX8 yX8_size wsX8_size) := gVl wa_2_98 wa_2_99 wa_2_100 wa_0_1 wa_2_101
theorem gL_law_X9_size : GoodIn wsL (wsV RL 62 RX9 yX9_size wsX9_size) := gVl wa_3_147 wa_3_148 wa_3_149 wa_0_7 wa_3_150
theorem gL_law_X8_cell : GoodIn wsL (wsV RL 63 RX8 yX8_cell wsX8_cell) := gVl wa_2_106 wa_2_107 wa_2_108 wa_0_1 wa_2_109
theorem gL_law_X9_cell : GoodIn wsL (wsV RL 67 RX9 yX9_cell wsX9_cell) := gVl wa_3_155 wa_3_156 wa_3_157 wa_0_7 wa_3_158
theorem gL_law_X8_point : GoodIn wsL (wsV RL 68 RX8 yX8_point wsX8_point) := gVl wa_2_113 wa_2_114 wa_2_115 wa_0_1 wa_2_116
theorem gL_law_X9_point : GoodIn wsL (wsV RL 72 RX9 yX9_point wsX9_point) := gVl wa_3_160 wa_3_161 wa_3_162 wa_0_7 wa_3_163
theorem gL_law_X8_field : GoodIn wsL (wsV RL 73 RX8 yX8_field wsX8_field) := gVl wa_2_118 wa_2_119 wa_2_120 wa_0_1 wa_2_121
theorem gL_law_X9_field : GoodIn wsL (wsV RL 76 RX9 yX9_field wsX9_field) := gVl wa_3_164 wa_3_165 wa_3_166 wa_0_7 wa_3_167
theorem gL_law_X8_same : GoodIn wsL (wsV RL 77 RX8 yX8_same wsX8_same) := gVl wa_2_122 wa_2_123 wa_2_124 wa_0_1 wa_2_125
theorem gL_law_X9_same : GoodIn wsL (wsV RL 81 RX9 yX9_same wsX9_same) := gVl wa_3_168 wa_3_169 wa_3_170 wa_0_7 wa_3_171
theorem gL_law_X8_told : GoodIn wsL (wsV RL 82 RX8 yX8_told wsX8_told) := gVl wa_2_126 wa_2_127 wa_2_128 wa_0_1 wa_2_129
theorem gL_law_X9_told : GoodIn wsL (wsV RL 85 RX9 yX9_told wsX9_told) := gVl wa_3_172 wa_3_173 wa_3_174 wa_0_7 wa_3_175
theorem gL_law_X8_state : GoodIn wsL (wsV RL 86 RX8 yX8_state wsX8_state) := gVl wa_2_134 wa_2_135 wa_2_136 wa_0_1 wa_2_137
theorem gL_law_X9_state : GoodIn wsL (wsV RL 89 RX9 yX9_state wsX9_state) := gVl wa_3_176 wa_3_177 wa_3_178 wa_0_7 wa_3_179
def dj (w wo : wT) : Prop := ∀ i j, w.2.1 i → wo.2.1 j → w.1 i ≠ wo.1 j
theorem dj.symm {w wo : wT} (h : dj w wo) : dj wo w := fun i j hi hj e => h j i hj hi e.symm
/-- the roles by other numbers -/
theorem rX.re {D : va_G} {q : Nat → ClassId} {A : Nat → Prop} {H0 : Heap} {s : State} {w w' : wT} {H : Heap} {locs : List Loc} (h : rX D q A H0 s w H locs) (f : Nat → Nat) (hf : ∀ i j, w'.2.1 i → w'.2.1 j → f i = f j → i = j) (h1 : ∀ i, w'.2.1 i → w.2.1 (f i)) (h2 : ∀ i, w'.2.1 i → w'.1 i = w.1 (f i)) (h3 : ∀ i, w'.2.1 i → w'.2.2 i = w.2.2 (f i)) : rX D q A H0 s w' H locs := by
  obtain ⟨hK, hW, hJ, hA, hS, hN⟩ := h
  refine ⟨hK, fun i hi => ?_, fun i j hi hj e => hf i j hi hj (hJ _ _ (h1 i hi) (h1 j hj) (by rw [← h2 i hi, ← h2 j hj]; exact e)), fun i hi => by rw [h2 i hi]; exact hA _ (h1 i hi), hS, hN⟩
  rw [h2 i hi, h3 i hi]
  exact hW _ (h1 i hi)
section LK
variable {p : Program} {l : Launch} {e : Env} {R : Room} {s : State} {m : MethodId} {args : Array Value} {below : List Frame} {meth : Method} {c : Code} {H : Heap} {locs : List Loc} {cells slots : Nat} {Q : State → Prop}
variable {pc mc ms : Nat} {ls : Array Slot} {rest st0 : List Value} {D : va_G} {q : Nat → ClassId} {A : Nat → Prop} {H0 : Heap} {w wo : wT} {a : Array Value}
theorem l_other (hw : rX D q A H0 s w H locs) (ho : rX D q A H0 s wo H locs) (hd : dj w wo) {H1 : Heap} {locs1 : List Loc} (hk : ∀ x : Nat, x < H.size → ¬ rA w H.size x → H1[x]? = H[x]?) (hS : va_S A H0 H1 locs1) : rX D q A H0 s wo H1 locs1 := by
  refine ⟨ho.1, fun j hj => ?_, ho.2.2.1, ho.2.2.2.1, hS, ho.2.2.2.2.2⟩
  have z := ho.2.1 j hj
  have hlt : wo.1 j < H.size := z.lt
  refine z.kept (hk _ hlt ?_)
  rintro (⟨i, hi, e⟩ | h)
  · exact hd i j hi hj e.symm
  · omega
theorem l_dj (ho : rX D q A H0 s wo H locs) (hd : dj w wo) {w' : wT} {t : State} (hB : rPo D (rA w H.size) w' t) : dj w' wo := by
  intro i j hi hj e
  have hlt : wo.1 j < H.size := (ho.2.1 j hj).lt
  rcases hB.2.2 i hi with ⟨k, hk, e2⟩ | h
  · exact hd k j hk hj (by rw [← e2]; exact e)
  · rw [e] at h; omega
variable {S : Type} {wf : S → wT}
theorem l_ki {post : Int32 → S → Prop} (hw : rX D q A H0 s w H locs) (ho : rX D q A H0 s wo H locs) (hd : dj w wo) (hr : va_Run p l e R s m args below meth c H locs cells slots mc ms (F0 m pc ls st0) rest (va_Qi post (fun u t => rPo D (rA w H.size) (wf u) t) (rA w H.size) a) (rA w H.size))
    (kk : ∀ (r : Int32) (u : S) (H1 : Heap) (locs1 : List Loc), post r u → rX D q A H0 s (wf u) H1 locs1 → rX D q A H0 s wo H1 locs1 → dj (wf u) wo → W p l e R s m args below meth c H1 locs1 (cells + mc) (slots + ms) Q (F0 m (pc + 3) ls (.int r :: rest))) : W p l e R s m args below meth c H locs cells slots Q (F0 m pc ls st0) :=
  va_calli hr hw.2.2.2.2.1 (fun x _ h => hw.sub x h) hw.sub (fun r u _ H1 locs1 ht _ hp hB _ hk hS => kk r u H1 locs1 hp (hw.after ht hB hS) (l_other hw ho hd hk hS) (l_dj ho hd hB))
theorem l_kl {post : Int64 → S → Prop} (hw : rX D q A H0 s w H locs) (ho : rX D q A H0 s wo H locs) (hd : dj w wo) (hr : va_Run p l e R s m args below meth c H locs cells slots mc ms (F0 m pc ls st0) rest (va_Ql post (fun u t => rPo D (rA w H.size) (wf u) t) (rA w H.size) a) (rA w H.size))
    (kk : ∀ (r : Int64) (u : S) (H1 : Heap) (locs1 : List Loc), post r u → rX D q A H0 s (wf u) H1 locs1 → rX D q A H0 s wo H1 locs1 → dj (wf u) wo → W p l e R s m args below meth c H1 locs1 (cells + mc) (slots + ms) Q (F0 m (pc + 3) ls (.long r :: rest))) : W p l e R s m args below meth c H locs cells slots Q (F0 m pc ls st0) :=
  va_calll hr hw.2.2.2.2.1 (fun x _ h => hw.sub x h) hw.sub (fun r u _ H1 locs1 ht _ hp hB _ hk hS => kk r u H1 locs1 hp (hw.after ht hB hS) (l_other hw ho hd hk hS) (l_dj ho hd hB))
theorem l_kd {post : UInt64 → S → Prop} (hw : rX D q A H0 s w H locs) (ho : rX D q A H0 s wo H locs) (hd : dj w wo) (hr : va_Run p l e R s m args below meth c H locs cells slots mc ms (F0 m pc ls st0) rest (va_Qd post (fun u t => rPo D (rA w H.size) (wf u) t) (rA w H.size) a) (rA w H.size))
    (kk : ∀ (r : UInt64) (u : S) (H1 : Heap) (locs1 : List Loc), post r u → rX D q A H0 s (wf u) H1 locs1 → rX D q A H0 s wo H1 locs1 → dj (wf u) wo → W p l e R s m args below meth c H1 locs1 (cells + mc) (slots + ms) Q (F0 m (pc + 3) ls (.double r :: rest))) : W p l e R s m args below meth c H locs cells slots Q (F0 m pc ls st0) :=
  va_calld hr hw.2.2.2.2.1 (fun x _ h => hw.sub x h) hw.sub (fun r u _ H1 locs1 ht _ hp hB _ hk hS => kk r u H1 locs1 hp (hw.after ht hB hS) (l_other hw ho hd hk hS) (l_dj ho hd hB))
end LK
/-- the numbers at the start -/
def k0 : KS := ((fun i => if i = 10 then -1 else 0), (fun _ _ => 0), (fun _ _ => 0), (fun _ => FP.fconst0), (fun _ _ => FP.dconst0))
def t0 : Nat → Int32 := fun _ => 0
def τ0 : TAU := ((fun _ => none), (fun _ => none), 0, none)
def wE : wT := ((fun _ => 0), (fun _ => False), (fun _ => .inr (0, [])))
theorem lvX_k0 {i : Nat} (h : lvX k0 i) : i < 15 := by
  have e0 : aN (sI k0 0) = 0 := rfl
  have e1 : aN (sI k0 1) = 0 := rfl
  have e2 : aN (sI k0 2) = 0 := rfl
  unfold lvX at h
  rw [e0, e1, e2] at h
  omega
theorem INV_0 (B : Nat) : INV B 0 k0 (t0 5) := ⟨⟨0, by decide, rfl, fun k hk => absurd hk (by omega)⟩, ⟨0, by decide, rfl, fun k hk => absurd hk (by omega)⟩, ⟨by decide, rfl⟩, fun _ => vr0 _, fun k hk => absurd hk (by omega), ⟨fun _ => ffB_0, fun _ _ => fdB_0⟩, ⟨0, by decide, rfl⟩, fun _ => vp_in_nI (n := 0) (by decide) (by decide), ⟨0, Nat.zero_le _, rfl⟩, fun q => absurd q (by decide), vr0 _, fun _ => vr0 _, fun _ => vr0 _⟩
theorem R8_0 : R8 k0 := fun _ _ => rfl
theorem PR_0 (ad : Nat → Nat) : PR ad k0 τ0 := ⟨⟨0, by decide, rfl, fun k hk => absurd hk (by omega)⟩, 0, by decide, rfl, fun k hk => absurd hk (by omega)⟩
theorem WT_0 : WTk k0 τ0 := fun r hr => by cases hr
theorem RL_0 : RLk k0 t0 τ0 := fun q => absurd q (by decide)
theorem xInit {D : va_G} {q : Nat → ClassId} {A : Nat → Prop} {H0 : Heap} {s : State} {W : wT} {H : Heap} {locs : List Loc} {a0 a_z1 a_z2 a_z3 a_z4 a_z5 a_z6 a_z7 a_z8 a_z9 a_z10 a_z11 a_z12 a_z13 a_z14 : Nat} (k0_ : At W 0 a0 (.inr (8, [.ref a_z1, .ref a_z2, .ref a_z3]))) (k1_ : At W 1 a_z1 (.inr (1, [.ref a_z6, .ref a_z7, .int 0, .int 0]))) (k2_ : At W 2 a_z2 (.inr (3, [.ref a_z8, .ref a_z9, .ref a_z10, .ref a_z11, .ref a_z12]))) (k3_ : At W 3 a_z3 (.inr (4, [.ref a_z1, .ref a_z2, .ref a_z4, .ref a_z5, .ref a_z13, .ref a_z14, .int 0, .int 0, .int 0, .int 0, .int 0, .int 0, .int 0, .int 0, .int (-1), .null]))) (k4_ : At W 4 a_z4 (.inr (2, [.ref a_z2]))) (k5_ : At W 5 a_z5 (.inr (7, [.ref a_z2, .int 0]))) (k6_ : At W 6 a_z6 (.inl (q 4, 150, .inr (.inr (.inr (.inr (fun _ => none))))))) (k7_ : At W 7 a_z7 (.inl (q 5, 16, .inr (.inr (.inr (.inr (fun _ => none))))))) (k8_ : At W 8 a_z8 (.inl (q 0, 8, .inl (fun _ => 0)))) (k9_ : At W 9 a_z9 (.inl (q 1, 4, .inr (.inl (fun _ => 0))))) (k10_ : At W 10 a_z10 (.inl (q 2, 4, .inr (.inr (.inl (fun _ => FP.fconst0)))))) (k11_ : At W 11 a_z11 (.inl (q 3, 4, .inr (.inr (.inr (.inl (fun _ => FP.dconst0))))))) (k12_ : At W 12 a_z12 (.inl (q 6, 8, .inr (.inr (.inr (.inr (fun _ => none))))))) (k13_ : At W 13 a_z13 (.inl (q 0, 12, .inl (fun _ => 0)))) (k14_ : At W 14 a_z14 (.inl (q 0, 200, .inl (fun _ => 0)))) (hw : rX D q A H0 s W H locs) : rX D q A H0 s (wX q W.1 k0 τ0) H locs := by
  refine hw.as (fun i hi => ?_) (fun i hi => rfl) (fun i hi => ?_)
  · have hi := lvX_k0 hi
    match i, hi with
    | 0, _ => exact k0_.1
    | 1, _ => exact k1_.1
    | 2, _ => exact k2_.1
    | 3, _ => exact k3_.1
    | 4, _ => exact k4_.1
    | 5, _ => exact k5_.1
    | 6, _ => exact k6_.1
    | 7, _ => exact k7_.1
    | 8, _ => exact k8_.1
    | 9, _ => exact k9_.1
    | 10, _ => exact k10_.1
    | 11, _ => exact k11_.1
    | 12, _ => exact k12_.1
    | 13, _ => exact k13_.1
    | 14, _ => exact k14_.1
    | i + 15, h => exact absurd h (by omega)
  · have hi := lvX_k0 hi
    show exX q W.1 k0 τ0 i = W.2.2 i
    have e1 := k1_.2.1
    have e2 := k2_.2.1
    have e3 := k3_.2.1
    have e4 := k4_.2.1
    have e5 := k5_.2.1
    have e6 := k6_.2.1
    have e7 := k7_.2.1
    have e8 := k8_.2.1
    have e9 := k9_.2.1
    have e10 := k10_.2.1
    have e11 := k11_.2.1
    have e12 := k12_.2.1
    have e13 := k13_.2.1
    have e14 := k14_.2.1
    match i, hi with
    | 0, _ => rw [k0_.2.2, ← e1, ← e2, ← e3]; rfl
    | 1, _ => rw [k1_.2.2, ← e6, ← e7]; rfl
    | 2, _ => rw [k2_.2.2, ← e8, ← e9, ← e10, ← e11, ← e12]; rfl
    | 3, _ => rw [k3_.2.2, ← e1, ← e2, ← e4, ← e5, ← e13, ← e14]; rfl
    | 4, _ => rw [k4_.2.2, ← e2]; rfl
    | 5, _ => rw [k5_.2.2, ← e2]; rfl
    | 6, _ => rw [k6_.2.2]; rfl
    | 7, _ => rw [k7_.2.2]; rfl
    | 8, _ => rw [k8_.2.2]; rfl
    | 9, _ => rw [k9_.2.2]; rfl
    | 10, _ => rw [k10_.2.2]; rfl
    | 11, _ => rw [k11_.2.2]; rfl
    | 12, _ => rw [k12_.2.2]; rfl
    | 13, _ => rw [k13_.2.2]; rfl
    | 14, _ => rw [k14_.2.2]; rfl
    | i + 15, h => exact absurd h (by omega)
theorem mInit {D : va_G} {q : Nat → ClassId} {A : Nat → Prop} {H0 : Heap} {s : State} {W : wT} {H : Heap} {locs : List Loc} {a0 a_z1 a_z2 a_z3 a_z4 a_z5 a_z6 a_z7 a_z8 a_z9 a_z10 a_z11 a_z12 a_z13 a_z14 a_z15 a_z16 a_z17 : Nat} (k0_ : At W 0 a0 (.inr (9, [.ref a_z1, .int 0, .ref a_z2, .int 0, .ref a_z3, .ref a_z4, .ref a_z5, .ref a_z6, .ref a_z7, .ref a_z8, .ref a_z9, .ref a_z10, .ref a_z11, .ref a_z12, .ref a_z13, .ref a_z14, .ref a_z15, .int 0, .int 0, .int 0, .int 0, .ref a_z16, .int 0, .ref a_z17, .int 0, .int 0, .int 0, .int (-1), .int 0, .int 0, .int 0, .int 0, .int 0, .int 0]))) (k1_ : At W 1 a_z1 (.inl (q 0, 600, .inl (fun _ => 0)))) (k2_ : At W 2 a_z2 (.inl (q 0, 64, .inl (fun _ => 0)))) (k3_ : At W 3 a_z3 (.inl (q 0, 8, .inl (fun _ => 0)))) (k4_ : At W 4 a_z4 (.inl (q 1, 4, .inr (.inl (fun _ => 0))))) (k5_ : At W 5 a_z5 (.inl (q 2, 4, .inr (.inr (.inl (fun _ => FP.fconst0)))))) (k6_ : At W 6 a_z6 (.inl (q 3, 4, .inr (.inr (.inr (.inl (fun _ => FP.dconst0))))))) (k7_ : At W 7 a_z7 (.inl (q 0, 8, .inl (fun _ => 0)))) (k8_ : At W 8 a_z8 (.inl (q 0, 60, .inl (fun _ => 0)))) (k9_ : At W 9 a_z9 (.inl (q 0, 60, .inl (fun _ => 0)))) (k10_ : At W 10 a_z10 (.inl (q 1, 720, .inr (.inl (fun _ => 0))))) (k11_ : At W 11 a_z11 (.inl (q 3, 720, .inr (.inr (.inr (.inl (fun _ => FP.dconst0))))))) (k12_ : At W 12 a_z12 (.inl (q 0, 720, .inl (fun _ => 0)))) (k13_ : At W 13 a_z13 (.inl (q 0, 60, .inl (fun _ => 0)))) (k14_ : At W 14 a_z14 (.inl (q 1, 60, .inr (.inl (fun _ => 0))))) (k15_ : At W 15 a_z15 (.inl (q 0, 60, .inl (fun _ => 0)))) (k16_ : At W 16 a_z16 (.inl (q 0, 12, .inl (fun _ => 0)))) (k17_ : At W 17 a_z17 (.inl (q 0, 200, .inl (fun _ => 0)))) (hw : rX D q A H0 s W H locs) : rX D q A H0 s (wM q W.1 k0 t0) H locs := by
  refine hw.as (fun i hi => ?_) (fun i hi => rfl) (fun i hi => ?_)
  · have hi : i < 18 := hi
    match i, hi with
    | 0, _ => exact k0_.1
    | 1, _ => exact k1_.1
    | 2, _ => exact k2_.1
    | 3, _ => exact k3_.1
    | 4, _ => exact k4_.1
    | 5, _ => exact k5_.1
    | 6, _ => exact k6_.1
    | 7, _ => exact k7_.1
    | 8, _ => exact k8_.1
    | 9, _ => exact k9_.1
    | 10, _ => exact k10_.1
    | 11, _ => exact k11_.1
    | 12, _ => exact k12_.1
    | 13, _ => exact k13_.1
    | 14, _ => exact k14_.1
    | 15, _ => exact k15_.1
    | 16, _ => exact k16_.1
    | 17, _ => exact k17_.1
    | i + 18, h => exact absurd h (by omega)
  · have hi : i < 18 := hi
    show exM q W.1 k0 t0 i = W.2.2 i
    have e1 := k1_.2.1
    have e2 := k2_.2.1
    have e3 := k3_.2.1
    have e4 := k4_.2.1
    have e5 := k5_.2.1
    have e6 := k6_.2.1
    have e7 := k7_.2.1
    have e8 := k8_.2.1
    have e9 := k9_.2.1
    have e10 := k10_.2.1
    have e11 := k11_.2.1
    have e12 := k12_.2.1
    have e13 := k13_.2.1
    have e14 := k14_.2.1
    have e15 := k15_.2.1
    have e16 := k16_.2.1
    have e17 := k17_.2.1
    match i, hi with
    | 0, _ => rw [k0_.2.2, ← e1, ← e2, ← e3, ← e4, ← e5, ← e6, ← e7, ← e8, ← e9, ← e10, ← e11, ← e12, ← e13, ← e14, ← e15, ← e16, ← e17]; rfl
    | 1, _ => rw [k1_.2.2]; rfl
    | 2, _ => rw [k2_.2.2]; rfl
    | 3, _ => rw [k3_.2.2]; rfl
    | 4, _ => rw [k4_.2.2]; rfl
    | 5, _ => rw [k5_.2.2]; rfl
    | 6, _ => rw [k6_.2.2]; rfl
    | 7, _ => rw [k7_.2.2]; rfl
    | 8, _ => rw [k8_.2.2]; rfl
    | 9, _ => rw [k9_.2.2]; rfl
    | 10, _ => rw [k10_.2.2]; rfl
    | 11, _ => rw [k11_.2.2]; rfl
    | 12, _ => rw [k12_.2.2]; rfl
    | 13, _ => rw [k13_.2.2]; rfl
    | 14, _ => rw [k14_.2.2]; rfl
    | 15, _ => rw [k15_.2.2]; rfl
    | 16, _ => rw [k16_.2.2]; rfl
    | 17, _ => rw [k17_.2.2]; rfl
    | i + 18, h => exact absurd h (by omega)
