/-- all words that hold at every method: those of the tables that keep -/
def wA : List Cond := lw_tbl.filter goodWord
theorem wAin {w : Cond} (h : w ∈ tables_1) (hg : goodWord w = true) : w ∈ wA := List.mem_filter.mpr ⟨List.mem_append_right _ h, hg⟩
theorem wA1 {w : Cond} {i : Nat} (h : tables_1_1[i]? = some w) (hg : goodWord w = true) : w ∈ wA := wAin (List.mem_append_left _ (List.mem_of_getElem? h)) hg
theorem wA2 {w : Cond} {i : Nat} (h : tables_1_2[i]? = some w) (hg : goodWord w = true) : w ∈ wA := wAin (List.mem_append_right _ (List.mem_append_left _ (List.mem_of_getElem? h))) hg
theorem wA3 {w : Cond} {i : Nat} (h : tables_1_3[i]? = some w) (hg : goodWord w = true) : w ∈ wA := wAin (List.mem_append_right _ (List.mem_append_right _ (List.mem_append_left _ (List.mem_of_getElem? h)))) hg
theorem wA4 {w : Cond} {i : Nat} (h : tables_1_4[i]? = some w) (hg : goodWord w = true) : w ∈ wA := wAin (List.mem_append_right _ (List.mem_append_right _ (List.mem_append_right _ (List.mem_of_getElem? h)))) hg
theorem wAp {q : MethodName × Nat} {C : String} {y : MethodName} (h : q ∈ lw_privs) (hC : q.1.cls = C) (hy : q.1 = y) (hg : goodWord (Cond.selects C y y) = true) : Cond.selects C y y ∈ wA := by
  subst hC; subst hy
  exact List.mem_filter.mpr ⟨List.mem_append_left _ (List.mem_map.mpr ⟨q, h, rfl⟩), hg⟩
theorem wAg {w : Cond} (h : w ∈ wA) : (w.onTables && w.keeps) = true ∨ ∃ ty, w = .arrayClass ty := good_of_word (List.mem_filter.mp h).2
theorem gVl {c c' : Cond} {own C : String} {idx : Nat} {y : MethodName} (h1 : Cond.methodLink own idx y ∈ wA) (h2 : Cond.instanceMethod y ∈ wA) (h3 : Cond.selects C y y ∈ wA) (h4 : Cond.initialized C ∈ wA) (h5 : c' ∈ wA) : GoodIn (c :: wA) (wsV own idx C y (c' :: wA)) := by
  intro w hw
  have hm : w ∈ wA := by
    simp only [wsV, List.cons_append, List.nil_append, List.mem_cons] at hw
    rcases hw with rfl | rfl | rfl | rfl | rfl | h
    · exact h1
    · exact h2
    · exact h3
    · exact h4
    · exact h5
    · exact h
  exact ⟨List.mem_cons_of_mem _ hm, wAg hm⟩
theorem gSl {c c' : Cond} {own : String} {idx : Nat} {y : MethodName} (h1 : Cond.methodLink own idx y ∈ wA) (h2 : Cond.static y ∈ wA) (h4 : Cond.initialized y.cls ∈ wA) (h5 : c' ∈ wA) : GoodIn (c :: wA) (va_wsS own idx y (c' :: wA)) := by
  intro w hw
  have hm : w ∈ wA := by
    simp only [va_wsS, List.cons_append, List.nil_append, List.mem_cons] at hw
    rcases hw with rfl | rfl | rfl | rfl | h
    · exact h1
    · exact h2
    · exact h4
    · exact h5
    · exact h
  exact ⟨List.mem_cons_of_mem _ hm, wAg hm⟩
theorem gIl {c c' : Cond} (h5 : c' ∈ wA) : GoodIn (c :: wA) (c' :: wA) := by
  intro w hw
  have hm : w ∈ wA := by
    rcases List.mem_cons.mp hw with rfl | h
    · exact h5
    · exact h
  exact ⟨List.mem_cons_of_mem _ hm, wAg hm⟩
theorem wa_0_0 : Cond.initialized RL ∈ wA := wA1 (i := 0) rfl rfl
theorem wa_0_1 : Cond.initialized RX8 ∈ wA := wA1 (i := 1) rfl rfl
theorem wa_0_2 : Cond.initialized RX1 ∈ wA := wA1 (i := 2) rfl rfl
theorem wa_0_3 : Cond.initialized RX3 ∈ wA := wA1 (i := 3) rfl rfl
theorem wa_0_4 : Cond.initialized RX4 ∈ wA := wA1 (i := 4) rfl rfl
theorem wa_0_5 : Cond.initialized RX2 ∈ wA := wA1 (i := 5) rfl rfl
theorem wa_0_6 : Cond.initialized RX7 ∈ wA := wA1 (i := 6) rfl rfl
theorem wa_0_7 : Cond.initialized RX9 ∈ wA := wA1 (i := 7) rfl rfl
theorem wa_0_8 : Cond.initialized RX5 ∈ wA := wA1 (i := 8) rfl rfl
theorem wa_0_9 : Cond.initialized RX0 ∈ wA := wA1 (i := 9) rfl rfl
theorem wa_0_10 : Cond.initialized RX6 ∈ wA := wA1 (i := 10) rfl rfl
theorem wa_0_11 : Cond.classLink RL 7 RX8 ∈ wA := wA1 (i := 11) rfl rfl
theorem wa_0_12 : Cond.instantiable RX8 3 ∈ wA := wA1 (i := 12) rfl rfl
theorem wa_0_13 : Cond.methodLink RL 9 yX8_init ∈ wA := wA1 (i := 13) rfl rfl
theorem wa_0_14 : Cond.instanceMethod yX8_init ∈ wA := wA1 (i := 14) rfl rfl
theorem wa_0_15 : Cond.code yX8_init cX8_init 1 none ∈ wA := wA1 (i := 15) rfl rfl
theorem wa_0_16 : Cond.methodLink RX8 1 objectInit ∈ wA := wA1 (i := 16) rfl rfl
theorem wa_0_17 : Cond.instanceMethod objectInit ∈ wA := wA1 (i := 17) rfl rfl
theorem wa_0_18 : Cond.code objectInit ⟨#[0xb1]⟩ 1 none ∈ wA := wA1 (i := 18) rfl rfl
theorem wa_0_19 : Cond.classLink RX8 7 RX1 ∈ wA := wA1 (i := 19) rfl rfl
theorem wa_0_20 : Cond.instantiable RX1 4 ∈ wA := wA1 (i := 20) rfl rfl
theorem wa_0_21 : Cond.methodLink RX8 9 yX1_init ∈ wA := wA1 (i := 21) rfl rfl
theorem wa_0_22 : Cond.instanceMethod yX1_init ∈ wA := wA1 (i := 22) rfl rfl
theorem wa_0_23 : Cond.code yX1_init cX1_init 1 none ∈ wA := wA1 (i := 23) rfl rfl
theorem wa_0_24 : Cond.methodLink RX1 3 objectInit ∈ wA := wA1 (i := 24) rfl rfl
theorem wa_0_25 : Cond.classLink RX1 9 RX5 ∈ wA := wA1 (i := 25) rfl rfl
theorem wa_0_27 : Cond.classLink RX1 17 RX0 ∈ wA := wA1 (i := 27) rfl rfl
theorem wa_0_29 : Cond.fieldLink RX1 11 "FaultLoom$Program" "steps" "[LFaultLoom$Step;" ∈ wA := wA1 (i := 29) rfl rfl
theorem wa_0_30 : Cond.fieldLink RX1 19 "FaultLoom$Program" "handlers" "[LFaultLoom$Handler;" ∈ wA := wA1 (i := 30) rfl rfl
theorem wa_0_31 : Cond.fieldLink RX1 23 "FaultLoom$Program" "stepCount" "I" ∈ wA := wA1 (i := 31) rfl rfl
theorem wa_0_32 : Cond.fieldLink RX8 36 "FaultLoom$Program" "stepCount" "I" ∈ wA := wA1 (i := 32) rfl rfl
theorem wa_0_33 : Cond.fieldLink RX1 27 "FaultLoom$Program" "handlerCount" "I" ∈ wA := wA1 (i := 33) rfl rfl
theorem wa_0_34 : Cond.fieldLink RX8 56 "FaultLoom$Program" "handlerCount" "I" ∈ wA := wA1 (i := 34) rfl rfl
theorem wa_0_35 : Cond.laysFinal "FaultLoom$Program" "FaultLoom$Program" "steps" "[LFaultLoom$Step;" ∈ wA := wA1 (i := 35) rfl rfl
theorem wa_0_37 : Cond.laysFinal "FaultLoom$Program" "FaultLoom$Program" "handlers" "[LFaultLoom$Handler;" ∈ wA := wA1 (i := 37) rfl rfl
theorem wa_0_39 : Cond.lays "FaultLoom$Program" "FaultLoom$Program" "stepCount" "I" ∈ wA := wA1 (i := 39) rfl rfl
theorem wa_0_41 : Cond.lays "FaultLoom$Program" "FaultLoom$Program" "handlerCount" "I" ∈ wA := wA1 (i := 41) rfl rfl
theorem wa_0_44 : Cond.classLink RX8 16 RX3 ∈ wA := wA1 (i := 44) rfl rfl
theorem wa_0_45 : Cond.instantiable RX3 5 ∈ wA := wA1 (i := 45) rfl rfl
theorem wa_0_46 : Cond.methodLink RX8 18 yX3_init ∈ wA := wA1 (i := 46) rfl rfl
theorem wa_0_47 : Cond.instanceMethod yX3_init ∈ wA := wA1 (i := 47) rfl rfl
theorem wa_0_48 : Cond.code yX3_init cX3_init 1 none ∈ wA := wA1 (i := 48) rfl rfl
theorem wa_0_49 : Cond.methodLink RX3 3 objectInit ∈ wA := wA1 (i := 49) rfl rfl
theorem wa_0_50 : Cond.classLink RX3 27 RX6 ∈ wA := wA1 (i := 50) rfl rfl
theorem wa_0_52 : Cond.fieldLink RX3 9 "FaultLoom$Registers" "words" "[I" ∈ wA := wA1 (i := 52) rfl rfl
theorem wa_0_53 : Cond.fieldLink RX3 15 "FaultLoom$Registers" "longs" "[J" ∈ wA := wA1 (i := 53) rfl rfl
theorem wa_0_54 : Cond.fieldLink RX3 19 "FaultLoom$Registers" "singles" "[F" ∈ wA := wA1 (i := 54) rfl rfl
theorem wa_0_55 : Cond.fieldLink RX3 23 "FaultLoom$Registers" "doubles" "[D" ∈ wA := wA1 (i := 55) rfl rfl
theorem wa_0_56 : Cond.fieldLink RX3 29 "FaultLoom$Registers" "things" "[LFaultLoom$Thing;" ∈ wA := wA1 (i := 56) rfl rfl
theorem wa_0_57 : Cond.laysFinal "FaultLoom$Registers" "FaultLoom$Registers" "words" "[I" ∈ wA := wA1 (i := 57) rfl rfl
theorem wa_0_59 : Cond.laysFinal "FaultLoom$Registers" "FaultLoom$Registers" "longs" "[J" ∈ wA := wA1 (i := 59) rfl rfl
theorem wa_0_61 : Cond.laysFinal "FaultLoom$Registers" "FaultLoom$Registers" "singles" "[F" ∈ wA := wA1 (i := 61) rfl rfl
theorem wa_0_63 : Cond.laysFinal "FaultLoom$Registers" "FaultLoom$Registers" "doubles" "[D" ∈ wA := wA1 (i := 63) rfl rfl
theorem wa_0_65 : Cond.laysFinal "FaultLoom$Registers" "FaultLoom$Registers" "things" "[LFaultLoom$Thing;" ∈ wA := wA1 (i := 65) rfl rfl
theorem wa_0_68 : Cond.arrayClass FieldType.int ∈ wA := wA1 (i := 68) rfl rfl
theorem wa_0_69 : Cond.arrayClass FieldType.long ∈ wA := wA1 (i := 69) rfl rfl
theorem wa_0_70 : Cond.arrayClass FieldType.float ∈ wA := wA1 (i := 70) rfl rfl
theorem wa_0_71 : Cond.arrayClass FieldType.double ∈ wA := wA1 (i := 71) rfl rfl
theorem wa_0_72 : Cond.classLink RX8 23 RX4 ∈ wA := wA1 (i := 72) rfl rfl
theorem wa_0_73 : Cond.instantiable RX4 16 ∈ wA := wA1 (i := 73) rfl rfl
theorem wa_0_74 : Cond.methodLink RX8 25 yX4_init ∈ wA := wA1 (i := 74) rfl rfl
theorem wa_0_75 : Cond.instanceMethod yX4_init ∈ wA := wA1 (i := 75) rfl rfl
theorem wa_0_76 : Cond.code yX4_init cX4_init 3 none ∈ wA := wA1 (i := 76) rfl rfl
theorem wa_0_77 : Cond.methodLink RX4 3 objectInit ∈ wA := wA1 (i := 77) rfl rfl
theorem wa_0_78 : Cond.classLink RX4 19 RX2 ∈ wA := wA1 (i := 78) rfl rfl
theorem wa_0_79 : Cond.instantiable RX2 1 ∈ wA := wA1 (i := 79) rfl rfl
theorem wa_0_80 : Cond.methodLink RX4 21 yX2_init ∈ wA := wA1 (i := 80) rfl rfl
theorem wa_0_81 : Cond.instanceMethod yX2_init ∈ wA := wA1 (i := 81) rfl rfl
theorem wa_0_82 : Cond.code yX2_init cX2_init 2 none ∈ wA := wA1 (i := 82) rfl rfl
theorem wa_0_83 : Cond.methodLink RX2 3 objectInit ∈ wA := wA1 (i := 83) rfl rfl
theorem wa_0_84 : Cond.fieldLink RX2 9 "FaultLoom$Reckoner" "registers" "LFaultLoom$Registers;" ∈ wA := wA1 (i := 84) rfl rfl
theorem wa_0_85 : Cond.laysFinal "FaultLoom$Reckoner" "FaultLoom$Reckoner" "registers" "LFaultLoom$Registers;" ∈ wA := wA1 (i := 85) rfl rfl
theorem wa_0_88 : Cond.classLink RX4 28 RX7 ∈ wA := wA1 (i := 88) rfl rfl
theorem wa_0_89 : Cond.instantiable RX7 2 ∈ wA := wA1 (i := 89) rfl rfl
theorem wa_0_90 : Cond.methodLink RX4 30 yX7_init ∈ wA := wA1 (i := 90) rfl rfl
theorem wa_0_91 : Cond.instanceMethod yX7_init ∈ wA := wA1 (i := 91) rfl rfl
theorem wa_0_92 : Cond.code yX7_init cX7_init 2 none ∈ wA := wA1 (i := 92) rfl rfl
theorem wa_0_93 : Cond.methodLink RX7 3 objectInit ∈ wA := wA1 (i := 93) rfl rfl
theorem wa_0_94 : Cond.fieldLink RX7 9 "FaultLoom$Weaver" "registers" "LFaultLoom$Registers;" ∈ wA := wA1 (i := 94) rfl rfl
theorem wa_0_95 : Cond.fieldLink RX4 65 "FaultLoom$Weaver" "made" "I" ∈ wA := wA1 (i := 95) rfl rfl
theorem wa_0_96 : Cond.fieldLink RX7 54 "FaultLoom$Weaver" "made" "I" ∈ wA := wA1 (i := 96) rfl rfl
theorem wa_0_97 : Cond.laysFinal "FaultLoom$Weaver" "FaultLoom$Weaver" "registers" "LFaultLoom$Registers;" ∈ wA := wA1 (i := 97) rfl rfl
theorem wa_0_99 : Cond.lays "FaultLoom$Weaver" "FaultLoom$Weaver" "made" "I" ∈ wA := wA1 (i := 99) rfl rfl
theorem wa_0_102 : Cond.fieldLink RX4 9 "FaultLoom$Run" "program" "LFaultLoom$Program;" ∈ wA := wA1 (i := 102) rfl rfl
theorem wa_0_103 : Cond.fieldLink RX4 15 "FaultLoom$Run" "registers" "LFaultLoom$Registers;" ∈ wA := wA1 (i := 103) rfl rfl
theorem wa_0_104 : Cond.fieldLink RX4 24 "FaultLoom$Run" "reckoner" "LFaultLoom$Reckoner;" ∈ wA := wA1 (i := 104) rfl rfl
theorem wa_0_105 : Cond.fieldLink RX4 31 "FaultLoom$Run" "weaver" "LFaultLoom$Weaver;" ∈ wA := wA1 (i := 105) rfl rfl
theorem wa_0_106 : Cond.fieldLink RX4 35 "FaultLoom$Run" "calls" "[I" ∈ wA := wA1 (i := 106) rfl rfl
theorem wa_0_107 : Cond.fieldLink RX4 39 "FaultLoom$Run" "numbersTold" "[I" ∈ wA := wA1 (i := 107) rfl rfl
theorem wa_0_108 : Cond.fieldLink RX4 68 "FaultLoom$Run" "phase" "I" ∈ wA := wA1 (i := 108) rfl rfl
theorem wa_0_109 : Cond.fieldLink RX8 75 "FaultLoom$Run" "phase" "I" ∈ wA := wA1 (i := 109) rfl rfl
theorem wa_0_110 : Cond.fieldLink RX4 75 "FaultLoom$Run" "place" "I" ∈ wA := wA1 (i := 110) rfl rfl
theorem wa_0_111 : Cond.fieldLink RX8 78 "FaultLoom$Run" "place" "I" ∈ wA := wA1 (i := 111) rfl rfl
theorem wa_0_112 : Cond.fieldLink RX4 78 "FaultLoom$Run" "next" "I" ∈ wA := wA1 (i := 112) rfl rfl
theorem wa_0_113 : Cond.fieldLink RX4 46 "FaultLoom$Run" "stepsDone" "I" ∈ wA := wA1 (i := 113) rfl rfl
theorem wa_0_114 : Cond.fieldLink RX4 49 "FaultLoom$Run" "callCount" "I" ∈ wA := wA1 (i := 114) rfl rfl
theorem wa_0_115 : Cond.fieldLink RX4 52 "FaultLoom$Run" "toldCount" "I" ∈ wA := wA1 (i := 115) rfl rfl
theorem wa_0_116 : Cond.fieldLink RX4 55 "FaultLoom$Run" "failureCount" "I" ∈ wA := wA1 (i := 116) rfl rfl
theorem wa_0_117 : Cond.fieldLink RX4 58 "FaultLoom$Run" "failure" "I" ∈ wA := wA1 (i := 117) rfl rfl
theorem wa_0_118 : Cond.fieldLink RX4 42 "FaultLoom$Run" "failurePlace" "I" ∈ wA := wA1 (i := 118) rfl rfl
theorem wa_0_119 : Cond.fieldLink RX4 61 "FaultLoom$Run" "thrown" "LFaultLoom$Thing;" ∈ wA := wA1 (i := 119) rfl rfl
theorem wa_0_120 : Cond.laysFinal "FaultLoom$Run" "FaultLoom$Run" "program" "LFaultLoom$Program;" ∈ wA := wA1 (i := 120) rfl rfl
theorem wa_0_122 : Cond.laysFinal "FaultLoom$Run" "FaultLoom$Run" "registers" "LFaultLoom$Registers;" ∈ wA := wA1 (i := 122) rfl rfl
theorem wa_0_124 : Cond.laysFinal "FaultLoom$Run" "FaultLoom$Run" "reckoner" "LFaultLoom$Reckoner;" ∈ wA := wA1 (i := 124) rfl rfl
theorem wa_0_126 : Cond.laysFinal "FaultLoom$Run" "FaultLoom$Run" "weaver" "LFaultLoom$Weaver;" ∈ wA := wA1 (i := 126) rfl rfl
theorem wa_0_128 : Cond.laysFinal "FaultLoom$Run" "FaultLoom$Run" "calls" "[I" ∈ wA := wA1 (i := 128) rfl rfl
theorem wa_0_130 : Cond.laysFinal "FaultLoom$Run" "FaultLoom$Run" "numbersTold" "[I" ∈ wA := wA1 (i := 130) rfl rfl
theorem wa_0_132 : Cond.lays "FaultLoom$Run" "FaultLoom$Run" "phase" "I" ∈ wA := wA1 (i := 132) rfl rfl
theorem wa_0_134 : Cond.lays "FaultLoom$Run" "FaultLoom$Run" "place" "I" ∈ wA := wA1 (i := 134) rfl rfl
theorem wa_0_136 : Cond.lays "FaultLoom$Run" "FaultLoom$Run" "next" "I" ∈ wA := wA1 (i := 136) rfl rfl
theorem wa_0_138 : Cond.lays "FaultLoom$Run" "FaultLoom$Run" "stepsDone" "I" ∈ wA := wA1 (i := 138) rfl rfl
theorem wa_0_140 : Cond.lays "FaultLoom$Run" "FaultLoom$Run" "callCount" "I" ∈ wA := wA1 (i := 140) rfl rfl
theorem wa_0_142 : Cond.lays "FaultLoom$Run" "FaultLoom$Run" "toldCount" "I" ∈ wA := wA1 (i := 142) rfl rfl
theorem wa_0_144 : Cond.lays "FaultLoom$Run" "FaultLoom$Run" "failureCount" "I" ∈ wA := wA1 (i := 144) rfl rfl
theorem wa_0_146 : Cond.lays "FaultLoom$Run" "FaultLoom$Run" "failure" "I" ∈ wA := wA1 (i := 146) rfl rfl
theorem wa_0_148 : Cond.lays "FaultLoom$Run" "FaultLoom$Run" "failurePlace" "I" ∈ wA := wA1 (i := 148) rfl rfl
theorem wa_0_150 : Cond.lays "FaultLoom$Run" "FaultLoom$Run" "thrown" "LFaultLoom$Thing;" ∈ wA := wA1 (i := 150) rfl rfl
theorem wa_0_153 : Cond.fieldLink RX8 10 "FaultLoom" "program" "LFaultLoom$Program;" ∈ wA := wA1 (i := 153) rfl rfl
theorem wa_0_154 : Cond.fieldLink RX8 19 "FaultLoom" "registers" "LFaultLoom$Registers;" ∈ wA := wA1 (i := 154) rfl rfl
theorem wa_0_155 : Cond.fieldLink RX8 28 "FaultLoom" "run" "LFaultLoom$Run;" ∈ wA := wA1 (i := 155) rfl rfl
theorem wa_0_156 : Cond.laysFinal "FaultLoom" "FaultLoom" "program" "LFaultLoom$Program;" ∈ wA := wA1 (i := 156) rfl rfl
theorem wa_0_158 : Cond.laysFinal "FaultLoom" "FaultLoom" "registers" "LFaultLoom$Registers;" ∈ wA := wA1 (i := 158) rfl rfl
theorem wa_0_160 : Cond.laysFinal "FaultLoom" "FaultLoom" "run" "LFaultLoom$Run;" ∈ wA := wA1 (i := 160) rfl rfl
theorem wa_0_163 : Cond.methodLink RL 13 yX8_put ∈ wA := wA1 (i := 163) rfl rfl
theorem wa_0_164 : Cond.instanceMethod yX8_put ∈ wA := wA1 (i := 164) rfl rfl
theorem wa_0_165 : Cond.selects RX8 yX8_put yX8_put ∈ wA := wA1 (i := 165) rfl rfl
theorem wa_0_166 : Cond.code yX8_put cX8_put 5 (some .int) ∈ wA := wA1 (i := 166) rfl rfl
theorem wa_0_167 : Cond.methodLink RX8 32 yX8_fitsShape ∈ wA := wA1 (i := 167) rfl rfl
theorem wa_0_168 : Cond.static yX8_fitsShape ∈ wA := wA1 (i := 168) rfl rfl
theorem wa_0_169 : Cond.code yX8_fitsShape cX8_fitsShape 5 (some .boolean) ∈ wA := wA1 (i := 169) rfl rfl
theorem wa_0_170 : Cond.fieldLink RX8 153 "FaultLoom" "SHAPES" "[I" ∈ wA := wA1 (i := 170) rfl rfl
theorem wa_0_172 : Cond.methodLink RX8 157 yX8_isNamed ∈ wA := wA1 (i := 172) rfl rfl
theorem wa_0_173 : Cond.static yX8_isNamed ∈ wA := wA1 (i := 173) rfl rfl
theorem wa_0_174 : Cond.code yX8_isNamed cX8_isNamed 2 (some .boolean) ∈ wA := wA1 (i := 174) rfl rfl
theorem wa_0_175 : Cond.methodLink RX8 52 yX8_isPlace ∈ wA := wA1 (i := 175) rfl rfl
theorem wa_0_176 : Cond.static yX8_isPlace ∈ wA := wA1 (i := 176) rfl rfl
theorem wa_0_177 : Cond.code yX8_isPlace cX8_isPlace 1 (some .boolean) ∈ wA := wA1 (i := 177) rfl rfl
theorem wa_0_178 : Cond.methodLink RX8 40 yX4_giveUp ∈ wA := wA1 (i := 178) rfl rfl
theorem wa_0_179 : Cond.instanceMethod yX4_giveUp ∈ wA := wA1 (i := 179) rfl rfl
theorem wa_0_180 : Cond.selects RX4 yX4_giveUp yX4_giveUp ∈ wA := wA1 (i := 180) rfl rfl
theorem wa_0_181 : Cond.code yX4_giveUp cX4_giveUp 1 none ∈ wA := wA1 (i := 181) rfl rfl
theorem wa_0_182 : Cond.classLink RX8 43 RX5 ∈ wA := wA1 (i := 182) rfl rfl
theorem wa_0_183 : Cond.instantiable RX5 4 ∈ wA := wA1 (i := 183) rfl rfl
theorem wa_0_184 : Cond.methodLink RX8 45 yX5_init ∈ wA := wA1 (i := 184) rfl rfl
theorem wa_0_185 : Cond.instanceMethod yX5_init ∈ wA := wA1 (i := 185) rfl rfl
theorem wa_0_186 : Cond.code yX5_init cX5_init 5 none ∈ wA := wA1 (i := 186) rfl rfl
theorem wa_0_187 : Cond.methodLink RX5 1 objectInit ∈ wA := wA1 (i := 187) rfl rfl
theorem wa_0_188 : Cond.fieldLink RX5 7 "FaultLoom$Step" "op" "I" ∈ wA := wA1 (i := 188) rfl rfl
theorem wa_0_189 : Cond.fieldLink RX2 15 "FaultLoom$Step" "op" "I" ∈ wA := wA1 (i := 189) rfl rfl
theorem wa_0_190 : Cond.fieldLink RX7 15 "FaultLoom$Step" "op" "I" ∈ wA := wA1 (i := 190) rfl rfl
theorem wa_0_191 : Cond.fieldLink RX4 95 "FaultLoom$Step" "op" "I" ∈ wA := wA1 (i := 191) rfl rfl
theorem wa_0_192 : Cond.fieldLink RX5 13 "FaultLoom$Step" "a" "I" ∈ wA := wA1 (i := 192) rfl rfl
theorem wa_0_193 : Cond.fieldLink RX2 44 "FaultLoom$Step" "a" "I" ∈ wA := wA1 (i := 193) rfl rfl
theorem wa_0_194 : Cond.fieldLink RX7 69 "FaultLoom$Step" "a" "I" ∈ wA := wA1 (i := 194) rfl rfl
theorem wa_0_195 : Cond.fieldLink RX4 103 "FaultLoom$Step" "a" "I" ∈ wA := wA1 (i := 195) rfl rfl
theorem wa_0_196 : Cond.fieldLink RX5 16 "FaultLoom$Step" "b" "I" ∈ wA := wA1 (i := 196) rfl rfl
theorem wa_0_197 : Cond.fieldLink RX2 28 "FaultLoom$Step" "b" "I" ∈ wA := wA1 (i := 197) rfl rfl
theorem wa_0_198 : Cond.fieldLink RX7 74 "FaultLoom$Step" "b" "I" ∈ wA := wA1 (i := 198) rfl rfl
theorem wa_0_199 : Cond.fieldLink RX4 112 "FaultLoom$Step" "b" "I" ∈ wA := wA1 (i := 199) rfl rfl
theorem wa_0_200 : Cond.fieldLink RX5 19 "FaultLoom$Step" "c" "I" ∈ wA := wA1 (i := 200) rfl rfl
theorem wa_0_201 : Cond.fieldLink RX2 37 "FaultLoom$Step" "c" "I" ∈ wA := wA1 (i := 201) rfl rfl
theorem wa_0_202 : Cond.fieldLink RX7 57 "FaultLoom$Step" "c" "I" ∈ wA := wA1 (i := 202) rfl rfl
theorem wa_0_203 : Cond.laysFinal "FaultLoom$Step" "FaultLoom$Step" "op" "I" ∈ wA := wA1 (i := 203) rfl rfl
theorem wa_0_205 : Cond.laysFinal "FaultLoom$Step" "FaultLoom$Step" "a" "I" ∈ wA := wA1 (i := 205) rfl rfl
theorem wa_0_207 : Cond.laysFinal "FaultLoom$Step" "FaultLoom$Step" "b" "I" ∈ wA := wA1 (i := 207) rfl rfl
theorem wa_0_209 : Cond.laysFinal "FaultLoom$Step" "FaultLoom$Step" "c" "I" ∈ wA := wA1 (i := 209) rfl rfl
theorem wa_0_212 : Cond.methodLink RX8 48 yX1_addStep ∈ wA := wA1 (i := 212) rfl rfl
theorem wa_0_213 : Cond.instanceMethod yX1_addStep ∈ wA := wA1 (i := 213) rfl rfl
theorem wa_0_214 : Cond.selects RX1 yX1_addStep yX1_addStep ∈ wA := wA1 (i := 214) rfl rfl
theorem wa_0_215 : Cond.code yX1_addStep cX1_addStep 2 (some .int) ∈ wA := wA1 (i := 215) rfl rfl
theorem wa_0_216 : Cond.methodLink RL 18 yX8_handler ∈ wA := wA1 (i := 216) rfl rfl
theorem wa_0_217 : Cond.instanceMethod yX8_handler ∈ wA := wA1 (i := 217) rfl rfl
theorem wa_0_218 : Cond.selects RX8 yX8_handler yX8_handler ∈ wA := wA1 (i := 218) rfl rfl
theorem wa_0_219 : Cond.code yX8_handler cX8_handler 5 (some .int) ∈ wA := wA1 (i := 219) rfl rfl
theorem wa_0_220 : Cond.classLink RX8 59 RX0 ∈ wA := wA1 (i := 220) rfl rfl
theorem wa_0_221 : Cond.instantiable RX0 4 ∈ wA := wA1 (i := 221) rfl rfl
theorem wa_0_222 : Cond.methodLink RX8 61 yX0_init ∈ wA := wA1 (i := 222) rfl rfl
theorem wa_0_223 : Cond.instanceMethod yX0_init ∈ wA := wA1 (i := 223) rfl rfl
theorem wa_0_224 : Cond.code yX0_init cX0_init 5 none ∈ wA := wA1 (i := 224) rfl rfl
theorem wa_0_225 : Cond.methodLink RX0 1 objectInit ∈ wA := wA1 (i := 225) rfl rfl
theorem wa_0_226 : Cond.fieldLink RX0 7 "FaultLoom$Handler" "from" "I" ∈ wA := wA1 (i := 226) rfl rfl
theorem wa_0_227 : Cond.fieldLink RX0 13 "FaultLoom$Handler" "to" "I" ∈ wA := wA1 (i := 227) rfl rfl
theorem wa_0_228 : Cond.fieldLink RX0 16 "FaultLoom$Handler" "mask" "I" ∈ wA := wA1 (i := 228) rfl rfl
theorem wa_0_229 : Cond.fieldLink RX0 19 "FaultLoom$Handler" "at" "I" ∈ wA := wA1 (i := 229) rfl rfl
theorem wa_0_230 : Cond.fieldLink RX1 34 "FaultLoom$Handler" "at" "I" ∈ wA := wA1 (i := 230) rfl rfl
theorem wa_0_231 : Cond.laysFinal "FaultLoom$Handler" "FaultLoom$Handler" "from" "I" ∈ wA := wA1 (i := 231) rfl rfl
theorem wa_0_233 : Cond.laysFinal "FaultLoom$Handler" "FaultLoom$Handler" "to" "I" ∈ wA := wA1 (i := 233) rfl rfl
theorem wa_0_235 : Cond.laysFinal "FaultLoom$Handler" "FaultLoom$Handler" "mask" "I" ∈ wA := wA1 (i := 235) rfl rfl
theorem wa_0_237 : Cond.laysFinal "FaultLoom$Handler" "FaultLoom$Handler" "at" "I" ∈ wA := wA1 (i := 237) rfl rfl
theorem wa_1_0 : Cond.methodLink RX8 62 yX1_addHandler ∈ wA := wA2 (i := 0) rfl rfl
theorem wa_1_1 : Cond.instanceMethod yX1_addHandler ∈ wA := wA2 (i := 1) rfl rfl
theorem wa_1_2 : Cond.selects RX1 yX1_addHandler yX1_addHandler ∈ wA := wA2 (i := 2) rfl rfl
theorem wa_1_3 : Cond.code yX1_addHandler cX1_addHandler 2 (some .int) ∈ wA := wA2 (i := 3) rfl rfl
theorem wa_1_4 : Cond.methodLink RL 22 yX8_clear ∈ wA := wA2 (i := 4) rfl rfl
theorem wa_1_5 : Cond.instanceMethod yX8_clear ∈ wA := wA2 (i := 5) rfl rfl
theorem wa_1_6 : Cond.selects RX8 yX8_clear yX8_clear ∈ wA := wA2 (i := 6) rfl rfl
theorem wa_1_7 : Cond.code yX8_clear cX8_clear 2 (some .int) ∈ wA := wA2 (i := 7) rfl rfl
theorem wa_1_8 : Cond.methodLink RX8 66 yX1_forget ∈ wA := wA2 (i := 8) rfl rfl
theorem wa_1_9 : Cond.instanceMethod yX1_forget ∈ wA := wA2 (i := 9) rfl rfl
theorem wa_1_10 : Cond.selects RX1 yX1_forget yX1_forget ∈ wA := wA2 (i := 10) rfl rfl
theorem wa_1_11 : Cond.code yX1_forget cX1_forget 1 none ∈ wA := wA2 (i := 11) rfl rfl
theorem wa_1_12 : Cond.methodLink RL 27 yX8_start ∈ wA := wA2 (i := 12) rfl rfl
theorem wa_1_13 : Cond.instanceMethod yX8_start ∈ wA := wA2 (i := 13) rfl rfl
theorem wa_1_14 : Cond.selects RX8 yX8_start yX8_start ∈ wA := wA2 (i := 14) rfl rfl
theorem wa_1_15 : Cond.code yX8_start cX8_start 1 (some .boolean) ∈ wA := wA2 (i := 15) rfl rfl
theorem wa_1_16 : Cond.methodLink RX8 69 yX3_reset ∈ wA := wA2 (i := 16) rfl rfl
theorem wa_1_17 : Cond.instanceMethod yX3_reset ∈ wA := wA2 (i := 17) rfl rfl
theorem wa_1_18 : Cond.selects RX3 yX3_reset yX3_reset ∈ wA := wA2 (i := 18) rfl rfl
theorem wa_1_19 : Cond.code yX3_reset cX3_reset 2 none ∈ wA := wA2 (i := 19) rfl rfl
theorem wa_1_20 : Cond.methodLink RX3 33 yX3_setWord ∈ wA := wA2 (i := 20) rfl rfl
theorem wa_1_21 : Cond.instanceMethod yX3_setWord ∈ wA := wA2 (i := 21) rfl rfl
theorem wa_1_22 : Cond.selects RX3 yX3_setWord yX3_setWord ∈ wA := wA2 (i := 22) rfl rfl
theorem wa_1_23 : Cond.code yX3_setWord cX3_setWord 3 none ∈ wA := wA2 (i := 23) rfl rfl
theorem wa_1_24 : Cond.methodLink RX3 37 yX3_setThing ∈ wA := wA2 (i := 24) rfl rfl
theorem wa_1_25 : Cond.instanceMethod yX3_setThing ∈ wA := wA2 (i := 25) rfl rfl
theorem wa_1_26 : Cond.selects RX3 yX3_setThing yX3_setThing ∈ wA := wA2 (i := 26) rfl rfl
theorem wa_1_27 : Cond.code yX3_setThing cX3_setThing 3 none ∈ wA := wA2 (i := 27) rfl rfl
theorem wa_1_28 : Cond.methodLink RX3 41 yX3_setLong ∈ wA := wA2 (i := 28) rfl rfl
theorem wa_1_29 : Cond.instanceMethod yX3_setLong ∈ wA := wA2 (i := 29) rfl rfl
theorem wa_1_30 : Cond.selects RX3 yX3_setLong yX3_setLong ∈ wA := wA2 (i := 30) rfl rfl
theorem wa_1_31 : Cond.code yX3_setLong cX3_setLong 4 none ∈ wA := wA2 (i := 31) rfl rfl
theorem wa_1_32 : Cond.methodLink RX3 45 yX3_setSingle ∈ wA := wA2 (i := 32) rfl rfl
theorem wa_1_33 : Cond.instanceMethod yX3_setSingle ∈ wA := wA2 (i := 33) rfl rfl
theorem wa_1_34 : Cond.selects RX3 yX3_setSingle yX3_setSingle ∈ wA := wA2 (i := 34) rfl rfl
theorem wa_1_35 : Cond.code yX3_setSingle cX3_setSingle 3 none ∈ wA := wA2 (i := 35) rfl rfl
theorem wa_1_36 : Cond.methodLink RX3 49 yX3_setDouble ∈ wA := wA2 (i := 36) rfl rfl
theorem wa_1_37 : Cond.instanceMethod yX3_setDouble ∈ wA := wA2 (i := 37) rfl rfl
theorem wa_1_38 : Cond.selects RX3 yX3_setDouble yX3_setDouble ∈ wA := wA2 (i := 38) rfl rfl
theorem wa_1_39 : Cond.code yX3_setDouble cX3_setDouble 4 none ∈ wA := wA2 (i := 39) rfl rfl
theorem wa_1_40 : Cond.methodLink RX8 72 yX4_begin ∈ wA := wA2 (i := 40) rfl rfl
theorem wa_1_41 : Cond.instanceMethod yX4_begin ∈ wA := wA2 (i := 41) rfl rfl
theorem wa_1_42 : Cond.selects RX4 yX4_begin yX4_begin ∈ wA := wA2 (i := 42) rfl rfl
theorem wa_1_43 : Cond.code yX4_begin cX4_begin 1 none ∈ wA := wA2 (i := 43) rfl rfl
theorem wa_1_44 : Cond.methodLink RX4 71 yX4_goTo ∈ wA := wA2 (i := 44) rfl rfl
theorem wa_1_46 : Cond.instanceMethod yX4_goTo ∈ wA := wA2 (i := 46) rfl rfl
theorem wa_1_47 : Cond.code yX4_goTo cX4_goTo 2 none ∈ wA := wA2 (i := 47) rfl rfl
theorem wa_1_48 : Cond.methodLink RX4 89 yX1_getStep ∈ wA := wA2 (i := 48) rfl rfl
theorem wa_1_49 : Cond.instanceMethod yX1_getStep ∈ wA := wA2 (i := 49) rfl rfl
theorem wa_1_50 : Cond.selects RX1 yX1_getStep yX1_getStep ∈ wA := wA2 (i := 50) rfl rfl
theorem wa_1_51 : Cond.code yX1_getStep cX1_getStep 2 (some (.object "FaultLoom$Step")) ∈ wA := wA2 (i := 51) rfl rfl
theorem wa_1_52 : Cond.methodLink RL 32 yX8_step ∈ wA := wA2 (i := 52) rfl rfl
theorem wa_1_53 : Cond.instanceMethod yX8_step ∈ wA := wA2 (i := 53) rfl rfl
theorem wa_1_54 : Cond.selects RX8 yX8_step yX8_step ∈ wA := wA2 (i := 54) rfl rfl
theorem wa_1_55 : Cond.code yX8_step cX8_step 3 (some .int) ∈ wA := wA2 (i := 55) rfl rfl
theorem wa_1_56 : Cond.methodLink RX8 81 yX1_getStep ∈ wA := wA2 (i := 56) rfl rfl
theorem wa_1_57 : Cond.methodLink RX8 85 yX4_doStep ∈ wA := wA2 (i := 57) rfl rfl
theorem wa_1_58 : Cond.instanceMethod yX4_doStep ∈ wA := wA2 (i := 58) rfl rfl
theorem wa_1_59 : Cond.selects RX4 yX4_doStep yX4_doStep ∈ wA := wA2 (i := 59) rfl rfl
theorem wa_1_60 : Cond.code yX4_doStep cX4_doStep 3 none ∈ wA := wA2 (i := 60) rfl rfl
theorem wa_1_61 : Cond.methodLink RX4 81 yX4_perform ∈ wA := wA2 (i := 61) rfl rfl
theorem wa_1_63 : Cond.instanceMethod yX4_perform ∈ wA := wA2 (i := 63) rfl rfl
theorem wa_1_64 : Cond.code yX4_perform cX4_perform 2 (some .int) ∈ wA := wA2 (i := 64) rfl rfl
theorem wa_1_65 : Cond.methodLink RX4 100 yX2_reckon ∈ wA := wA2 (i := 65) rfl rfl
theorem wa_1_66 : Cond.instanceMethod yX2_reckon ∈ wA := wA2 (i := 66) rfl rfl
theorem wa_1_67 : Cond.selects RX2 yX2_reckon yX2_reckon ∈ wA := wA2 (i := 67) rfl rfl
theorem wa_1_68 : Cond.code yX2_reckon cX2_reckon 2 (some .int) ∈ wA := wA2 (i := 68) rfl rfl
theorem wa_1_69 : Cond.methodLink RX2 21 yX2_reckonWhole ∈ wA := wA2 (i := 69) rfl rfl
theorem wa_1_71 : Cond.instanceMethod yX2_reckonWhole ∈ wA := wA2 (i := 71) rfl rfl
theorem wa_1_72 : Cond.code yX2_reckonWhole cX2_reckonWhole 8 (some .int) ∈ wA := wA2 (i := 72) rfl rfl
theorem wa_1_73 : Cond.methodLink RX2 31 yX3_getWord ∈ wA := wA2 (i := 73) rfl rfl
theorem wa_1_74 : Cond.instanceMethod yX3_getWord ∈ wA := wA2 (i := 74) rfl rfl
theorem wa_1_75 : Cond.selects RX3 yX3_getWord yX3_getWord ∈ wA := wA2 (i := 75) rfl rfl
theorem wa_1_76 : Cond.code yX3_getWord cX3_getWord 2 (some .int) ∈ wA := wA2 (i := 76) rfl rfl
theorem wa_1_77 : Cond.methodLink RX2 40 yX3_getLong ∈ wA := wA2 (i := 77) rfl rfl
theorem wa_1_78 : Cond.instanceMethod yX3_getLong ∈ wA := wA2 (i := 78) rfl rfl
theorem wa_1_79 : Cond.selects RX3 yX3_getLong yX3_getLong ∈ wA := wA2 (i := 79) rfl rfl
theorem wa_1_80 : Cond.code yX3_getLong cX3_getLong 2 (some .long) ∈ wA := wA2 (i := 80) rfl rfl
theorem wa_1_81 : Cond.methodLink RX2 47 yX3_setWord ∈ wA := wA2 (i := 81) rfl rfl
theorem wa_1_82 : Cond.constantLong RX2 51 (4294967295) ∈ wA := wA2 (i := 82) rfl rfl
theorem wa_1_83 : Cond.methodLink RX2 53 yX3_setLong ∈ wA := wA2 (i := 83) rfl rfl
theorem wa_1_84 : Cond.methodLink RX2 57 yX2_divideWords ∈ wA := wA2 (i := 84) rfl rfl
theorem wa_1_86 : Cond.instanceMethod yX2_divideWords ∈ wA := wA2 (i := 86) rfl rfl
theorem wa_1_87 : Cond.code yX2_divideWords cX2_divideWords 4 (some .int) ∈ wA := wA2 (i := 87) rfl rfl
theorem wa_1_88 : Cond.methodLink RX2 61 yX2_divideLongs ∈ wA := wA2 (i := 88) rfl rfl
theorem wa_1_90 : Cond.instanceMethod yX2_divideLongs ∈ wA := wA2 (i := 90) rfl rfl
theorem wa_1_91 : Cond.code yX2_divideLongs cX2_divideLongs 6 (some .int) ∈ wA := wA2 (i := 91) rfl rfl
theorem wa_1_92 : Cond.methodLink RX2 25 yX2_reckonBroken ∈ wA := wA2 (i := 92) rfl rfl
theorem wa_1_94 : Cond.instanceMethod yX2_reckonBroken ∈ wA := wA2 (i := 94) rfl rfl
theorem wa_1_95 : Cond.code yX2_reckonBroken cX2_reckonBroken 5 (some .int) ∈ wA := wA2 (i := 95) rfl rfl
theorem wa_1_96 : Cond.methodLink RX2 65 yX3_getSingle ∈ wA := wA2 (i := 96) rfl rfl
theorem wa_1_97 : Cond.instanceMethod yX3_getSingle ∈ wA := wA2 (i := 97) rfl rfl
theorem wa_1_98 : Cond.selects RX3 yX3_getSingle yX3_getSingle ∈ wA := wA2 (i := 98) rfl rfl
theorem wa_1_99 : Cond.code yX3_getSingle cX3_getSingle 2 (some .float) ∈ wA := wA2 (i := 99) rfl rfl
theorem wa_1_100 : Cond.methodLink RX2 69 yX3_getDouble ∈ wA := wA2 (i := 100) rfl rfl
theorem wa_1_101 : Cond.instanceMethod yX3_getDouble ∈ wA := wA2 (i := 101) rfl rfl
theorem wa_1_102 : Cond.selects RX3 yX3_getDouble yX3_getDouble ∈ wA := wA2 (i := 102) rfl rfl
theorem wa_1_103 : Cond.code yX3_getDouble cX3_getDouble 2 (some .double) ∈ wA := wA2 (i := 103) rfl rfl
theorem wa_1_104 : Cond.methodLink RX2 73 yX3_setSingle ∈ wA := wA2 (i := 104) rfl rfl
theorem wa_1_105 : Cond.methodLink RX2 77 yX3_setDouble ∈ wA := wA2 (i := 105) rfl rfl
theorem wa_1_106 : Cond.constantDouble RX2 81 (4611686018427387904) ∈ wA := wA2 (i := 106) rfl rfl
theorem wa_1_107 : Cond.methodLink RX2 83 yX2_restOfSingles ∈ wA := wA2 (i := 107) rfl rfl
theorem wa_1_109 : Cond.instanceMethod yX2_restOfSingles ∈ wA := wA2 (i := 109) rfl rfl
theorem wa_1_110 : Cond.code yX2_restOfSingles cX2_restOfSingles 4 (some .int) ∈ wA := wA2 (i := 110) rfl rfl
theorem wa_1_111 : Cond.methodLink RX2 91 yX2_restOf ∈ wA := wA2 (i := 111) rfl rfl
theorem wa_1_112 : Cond.static yX2_restOf ∈ wA := wA2 (i := 112) rfl rfl
theorem wa_1_113 : Cond.code yX2_restOf cX2_restOf 10 (some .double) ∈ wA := wA2 (i := 113) rfl rfl
theorem wa_1_114 : Cond.methodLink RX2 87 yX2_restOfDoubles ∈ wA := wA2 (i := 114) rfl rfl
theorem wa_1_116 : Cond.instanceMethod yX2_restOfDoubles ∈ wA := wA2 (i := 116) rfl rfl
theorem wa_1_117 : Cond.code yX2_restOfDoubles cX2_restOfDoubles 6 (some .int) ∈ wA := wA2 (i := 117) rfl rfl
theorem wa_1_118 : Cond.methodLink RX4 106 yX3_getWord ∈ wA := wA2 (i := 118) rfl rfl
theorem wa_1_119 : Cond.methodLink RX4 115 yX4_callPlace ∈ wA := wA2 (i := 119) rfl rfl
theorem wa_1_121 : Cond.instanceMethod yX4_callPlace ∈ wA := wA2 (i := 121) rfl rfl
theorem wa_1_122 : Cond.code yX4_callPlace cX4_callPlace 2 (some .int) ∈ wA := wA2 (i := 122) rfl rfl
theorem wa_1_123 : Cond.methodLink RX4 118 yX4_comeBack ∈ wA := wA2 (i := 123) rfl rfl
theorem wa_1_125 : Cond.instanceMethod yX4_comeBack ∈ wA := wA2 (i := 125) rfl rfl
theorem wa_1_126 : Cond.code yX4_comeBack cX4_comeBack 1 none ∈ wA := wA2 (i := 126) rfl rfl
theorem wa_1_127 : Cond.methodLink RX4 143 yX4_dropCall ∈ wA := wA2 (i := 127) rfl rfl
theorem wa_1_129 : Cond.instanceMethod yX4_dropCall ∈ wA := wA2 (i := 129) rfl rfl
theorem wa_1_130 : Cond.code yX4_dropCall cX4_dropCall 1 (some .int) ∈ wA := wA2 (i := 130) rfl rfl
theorem wa_1_131 : Cond.methodLink RX4 121 yX3_getThing ∈ wA := wA2 (i := 131) rfl rfl
theorem wa_1_132 : Cond.instanceMethod yX3_getThing ∈ wA := wA2 (i := 132) rfl rfl
theorem wa_1_133 : Cond.selects RX3 yX3_getThing yX3_getThing ∈ wA := wA2 (i := 133) rfl rfl
theorem wa_1_134 : Cond.code yX3_getThing cX3_getThing 2 (some (.object "FaultLoom$Thing")) ∈ wA := wA2 (i := 134) rfl rfl
theorem wa_1_135 : Cond.methodLink RX4 125 yX4_throwFault ∈ wA := wA2 (i := 135) rfl rfl
theorem wa_1_136 : Cond.static yX4_throwFault ∈ wA := wA2 (i := 136) rfl rfl
theorem wa_1_137 : Cond.code yX4_throwFault cX4_throwFault 1 (some .int) ∈ wA := wA2 (i := 137) rfl rfl
theorem wa_1_138 : Cond.methodLink RX4 147 yX6_isOf ∈ wA := wA2 (i := 138) rfl rfl
theorem wa_1_139 : Cond.instanceMethod yX6_isOf ∈ wA := wA2 (i := 139) rfl rfl
theorem wa_1_140 : Cond.selects RX6 yX6_isOf yX6_isOf ∈ wA := wA2 (i := 140) rfl rfl
theorem wa_1_141 : Cond.code yX6_isOf cX6_isOf 2 (some .boolean) ∈ wA := wA2 (i := 141) rfl rfl
theorem wa_1_142 : Cond.methodLink RX4 129 yX3_setThing ∈ wA := wA2 (i := 142) rfl rfl
theorem wa_1_143 : Cond.methodLink RX4 133 yX3_setWord ∈ wA := wA2 (i := 143) rfl rfl
theorem wa_1_144 : Cond.methodLink RX4 137 yX4_tell ∈ wA := wA2 (i := 144) rfl rfl
theorem wa_1_146 : Cond.instanceMethod yX4_tell ∈ wA := wA2 (i := 146) rfl rfl
theorem wa_1_147 : Cond.code yX4_tell cX4_tell 2 none ∈ wA := wA2 (i := 147) rfl rfl
theorem wa_1_148 : Cond.methodLink RX4 140 yX7_weave ∈ wA := wA2 (i := 148) rfl rfl
theorem wa_1_149 : Cond.instanceMethod yX7_weave ∈ wA := wA2 (i := 149) rfl rfl
theorem wa_1_150 : Cond.selects RX7 yX7_weave yX7_weave ∈ wA := wA2 (i := 150) rfl rfl
theorem wa_1_151 : Cond.code yX7_weave cX7_weave 2 (some .int) ∈ wA := wA2 (i := 151) rfl rfl
theorem wa_1_152 : Cond.methodLink RX7 21 yX7_rowKind ∈ wA := wA2 (i := 152) rfl rfl
theorem wa_1_153 : Cond.static yX7_rowKind ∈ wA := wA2 (i := 153) rfl rfl
theorem wa_1_154 : Cond.code yX7_rowKind cX7_rowKind 1 (some .int) ∈ wA := wA2 (i := 154) rfl rfl
theorem wa_1_155 : Cond.methodLink RX7 25 yX7_getFromRow ∈ wA := wA2 (i := 155) rfl rfl
theorem wa_1_157 : Cond.instanceMethod yX7_getFromRow ∈ wA := wA2 (i := 157) rfl rfl
theorem wa_1_158 : Cond.code yX7_getFromRow cX7_getFromRow 5 (some .int) ∈ wA := wA2 (i := 158) rfl rfl
theorem wa_1_159 : Cond.methodLink RX7 90 yX3_getThing ∈ wA := wA2 (i := 159) rfl rfl
theorem wa_1_160 : Cond.methodLink RX7 60 yX3_getWord ∈ wA := wA2 (i := 160) rfl rfl
theorem wa_1_162 : Cond.static yX8_misfits ∈ wA := wA2 (i := 162) rfl rfl
theorem wa_1_163 : Cond.code yX8_misfits cX8_misfits 2 (some .boolean) ∈ wA := wA2 (i := 163) rfl rfl
theorem wa_1_164 : Cond.methodLink RX8 124 yX6_isOf ∈ wA := wA2 (i := 164) rfl rfl
theorem wa_1_165 : Cond.methodLink RX7 119 yX6_hasPlace ∈ wA := wA2 (i := 165) rfl rfl
theorem wa_1_166 : Cond.instanceMethod yX6_hasPlace ∈ wA := wA2 (i := 166) rfl rfl
theorem wa_1_167 : Cond.selects RX6 yX6_hasPlace yX6_hasPlace ∈ wA := wA2 (i := 167) rfl rfl
theorem wa_1_168 : Cond.code yX6_hasPlace cX6_hasPlace 2 (some .boolean) ∈ wA := wA2 (i := 168) rfl rfl
theorem wa_1_169 : Cond.methodLink RX7 122 yX6_getNumber ∈ wA := wA2 (i := 169) rfl rfl
theorem wa_1_170 : Cond.instanceMethod yX6_getNumber ∈ wA := wA2 (i := 170) rfl rfl
theorem wa_1_171 : Cond.selects RX6 yX6_getNumber yX6_getNumber ∈ wA := wA2 (i := 171) rfl rfl
theorem wa_1_172 : Cond.code yX6_getNumber cX6_getNumber 2 (some .long) ∈ wA := wA2 (i := 172) rfl rfl
theorem wa_1_173 : Cond.methodLink RX7 102 yX3_setWord ∈ wA := wA2 (i := 173) rfl rfl
theorem wa_1_174 : Cond.methodLink RX7 126 yX3_setLong ∈ wA := wA2 (i := 174) rfl rfl
theorem wa_1_175 : Cond.methodLink RX7 130 yX6_getPoint ∈ wA := wA2 (i := 175) rfl rfl
theorem wa_1_176 : Cond.instanceMethod yX6_getPoint ∈ wA := wA2 (i := 176) rfl rfl
theorem wa_1_177 : Cond.selects RX6 yX6_getPoint yX6_getPoint ∈ wA := wA2 (i := 177) rfl rfl
theorem wa_1_178 : Cond.code yX6_getPoint cX6_getPoint 2 (some .double) ∈ wA := wA2 (i := 178) rfl rfl
theorem wa_1_179 : Cond.methodLink RX7 134 yX3_setSingle ∈ wA := wA2 (i := 179) rfl rfl
theorem wa_1_180 : Cond.methodLink RX7 138 yX3_setDouble ∈ wA := wA2 (i := 180) rfl rfl
theorem wa_1_181 : Cond.methodLink RX7 142 yX6_getMember ∈ wA := wA2 (i := 181) rfl rfl
theorem wa_1_182 : Cond.instanceMethod yX6_getMember ∈ wA := wA2 (i := 182) rfl rfl
theorem wa_1_183 : Cond.selects RX6 yX6_getMember yX6_getMember ∈ wA := wA2 (i := 183) rfl rfl
theorem wa_1_184 : Cond.code yX6_getMember cX6_getMember 2 (some (.object "FaultLoom$Thing")) ∈ wA := wA2 (i := 184) rfl rfl
theorem wa_1_185 : Cond.methodLink RX7 80 yX3_setThing ∈ wA := wA2 (i := 185) rfl rfl
theorem wa_1_186 : Cond.methodLink RX7 29 yX7_putIntoRow ∈ wA := wA2 (i := 186) rfl rfl
theorem wa_1_188 : Cond.instanceMethod yX7_putIntoRow ∈ wA := wA2 (i := 188) rfl rfl
theorem wa_1_189 : Cond.code yX7_putIntoRow cX7_putIntoRow 6 (some .int) ∈ wA := wA2 (i := 189) rfl rfl
theorem wa_1_190 : Cond.methodLink RX7 148 yX7_narrow ∈ wA := wA2 (i := 190) rfl rfl
theorem wa_1_191 : Cond.static yX7_narrow ∈ wA := wA2 (i := 191) rfl rfl
theorem wa_1_192 : Cond.code yX7_narrow cX7_narrow 2 (some .int) ∈ wA := wA2 (i := 192) rfl rfl
theorem wa_1_193 : Cond.methodLink RX7 152 yX6_setNumber ∈ wA := wA2 (i := 193) rfl rfl
theorem wa_1_194 : Cond.instanceMethod yX6_setNumber ∈ wA := wA2 (i := 194) rfl rfl
theorem wa_1_195 : Cond.selects RX6 yX6_setNumber yX6_setNumber ∈ wA := wA2 (i := 195) rfl rfl
theorem wa_1_196 : Cond.code yX6_setNumber cX6_setNumber 4 none ∈ wA := wA2 (i := 196) rfl rfl
theorem wa_1_197 : Cond.methodLink RX7 155 yX3_getLong ∈ wA := wA2 (i := 197) rfl rfl
theorem wa_1_198 : Cond.methodLink RX7 158 yX3_getSingle ∈ wA := wA2 (i := 198) rfl rfl
theorem wa_1_199 : Cond.methodLink RX7 162 yX6_setPoint ∈ wA := wA2 (i := 199) rfl rfl
theorem wa_1_200 : Cond.instanceMethod yX6_setPoint ∈ wA := wA2 (i := 200) rfl rfl
theorem wa_1_201 : Cond.selects RX6 yX6_setPoint yX6_setPoint ∈ wA := wA2 (i := 201) rfl rfl
theorem wa_1_202 : Cond.code yX6_setPoint cX6_setPoint 4 none ∈ wA := wA2 (i := 202) rfl rfl
theorem wa_1_203 : Cond.methodLink RX7 165 yX3_getDouble ∈ wA := wA2 (i := 203) rfl rfl
theorem wa_1_204 : Cond.methodLink RX7 84 yX6_setMember ∈ wA := wA2 (i := 204) rfl rfl
theorem wa_1_205 : Cond.instanceMethod yX6_setMember ∈ wA := wA2 (i := 205) rfl rfl
theorem wa_1_206 : Cond.selects RX6 yX6_setMember yX6_setMember ∈ wA := wA2 (i := 206) rfl rfl
theorem wa_1_207 : Cond.code yX6_setMember cX6_setMember 3 none ∈ wA := wA2 (i := 207) rfl rfl
theorem wa_1_208 : Cond.methodLink RX7 32 yX7_useKnot ∈ wA := wA2 (i := 208) rfl rfl
theorem wa_1_210 : Cond.instanceMethod yX7_useKnot ∈ wA := wA2 (i := 210) rfl rfl
theorem wa_1_211 : Cond.code yX7_useKnot cX7_useKnot 3 (some .int) ∈ wA := wA2 (i := 211) rfl rfl
theorem wa_1_212 : Cond.methodLink RX7 172 yX6_turn ∈ wA := wA2 (i := 212) rfl rfl
theorem wa_1_213 : Cond.instanceMethod yX6_turn ∈ wA := wA2 (i := 213) rfl rfl
theorem wa_1_214 : Cond.selects RX6 yX6_turn yX6_turn ∈ wA := wA2 (i := 214) rfl rfl
theorem wa_1_215 : Cond.code yX6_turn cX6_turn 2 (some .int) ∈ wA := wA2 (i := 215) rfl rfl
theorem wa_1_216 : Cond.methodLink RX7 36 yX7_makeRow ∈ wA := wA2 (i := 216) rfl rfl
theorem wa_1_218 : Cond.instanceMethod yX7_makeRow ∈ wA := wA2 (i := 218) rfl rfl
theorem wa_1_219 : Cond.code yX7_makeRow cX7_makeRow 3 (some .int) ∈ wA := wA2 (i := 219) rfl rfl
theorem wa_1_220 : Cond.methodLink RX7 65 yX7_hasRoom ∈ wA := wA2 (i := 220) rfl rfl
theorem wa_1_222 : Cond.instanceMethod yX7_hasRoom ∈ wA := wA2 (i := 222) rfl rfl
theorem wa_1_223 : Cond.code yX7_hasRoom cX7_hasRoom 2 (some .boolean) ∈ wA := wA2 (i := 223) rfl rfl
theorem wa_1_224 : Cond.classLink RX7 72 RX6 ∈ wA := wA2 (i := 224) rfl rfl
theorem wa_1_225 : Cond.instantiable RX6 8 ∈ wA := wA2 (i := 225) rfl rfl
theorem wa_1_226 : Cond.methodLink RX7 77 yX6_init ∈ wA := wA2 (i := 226) rfl rfl
theorem wa_1_227 : Cond.instanceMethod yX6_init ∈ wA := wA2 (i := 227) rfl rfl
theorem wa_1_228 : Cond.code yX6_init cX6_init 3 none ∈ wA := wA2 (i := 228) rfl rfl
theorem wa_1_229 : Cond.methodLink RX6 3 objectInit ∈ wA := wA2 (i := 229) rfl rfl
theorem wa_1_230 : Cond.classLink RX6 10 RX6 ∈ wA := wA2 (i := 230) rfl rfl
theorem wa_1_231 : Cond.fieldLink RX6 9 "FaultLoom$Thing" "kind" "I" ∈ wA := wA2 (i := 231) rfl rfl
theorem wa_1_232 : Cond.fieldLink RX7 145 "FaultLoom$Thing" "kind" "I" ∈ wA := wA2 (i := 232) rfl rfl
theorem wa_1_233 : Cond.fieldLink RX8 161 "FaultLoom$Thing" "kind" "I" ∈ wA := wA2 (i := 233) rfl rfl
theorem wa_1_234 : Cond.fieldLink RX6 15 "FaultLoom$Thing" "places" "I" ∈ wA := wA2 (i := 234) rfl rfl
theorem wa_1_235 : Cond.fieldLink RX7 116 "FaultLoom$Thing" "places" "I" ∈ wA := wA2 (i := 235) rfl rfl
theorem wa_1_236 : Cond.fieldLink RX8 168 "FaultLoom$Thing" "places" "I" ∈ wA := wA2 (i := 236) rfl rfl
theorem wa_1_237 : Cond.fieldLink RX6 18 "FaultLoom$Thing" "numbers" "[J" ∈ wA := wA2 (i := 237) rfl rfl
theorem wa_1_238 : Cond.fieldLink RX6 22 "FaultLoom$Thing" "points" "[D" ∈ wA := wA2 (i := 238) rfl rfl
theorem wa_1_239 : Cond.fieldLink RX6 26 "FaultLoom$Thing" "members" "[LFaultLoom$Thing;" ∈ wA := wA2 (i := 239) rfl rfl
theorem wa_2_0 : Cond.fieldLink RX7 87 "FaultLoom$Thing" "tag" "I" ∈ wA := wA3 (i := 0) rfl rfl
theorem wa_2_1 : Cond.fieldLink RX6 30 "FaultLoom$Thing" "tag" "I" ∈ wA := wA3 (i := 1) rfl rfl
theorem wa_2_2 : Cond.fieldLink RX4 153 "FaultLoom$Thing" "tag" "I" ∈ wA := wA3 (i := 2) rfl rfl
theorem wa_2_3 : Cond.fieldLink RX8 136 "FaultLoom$Thing" "tag" "I" ∈ wA := wA3 (i := 3) rfl rfl
theorem wa_2_4 : Cond.fieldLink RX7 168 "FaultLoom$Thing" "weight" "J" ∈ wA := wA3 (i := 4) rfl rfl
theorem wa_2_5 : Cond.fieldLink RX8 139 "FaultLoom$Thing" "weight" "J" ∈ wA := wA3 (i := 5) rfl rfl
theorem wa_2_6 : Cond.fieldLink RX7 98 "FaultLoom$Thing" "link" "LFaultLoom$Thing;" ∈ wA := wA3 (i := 6) rfl rfl
theorem wa_2_7 : Cond.fieldLink RX8 143 "FaultLoom$Thing" "link" "LFaultLoom$Thing;" ∈ wA := wA3 (i := 7) rfl rfl
theorem wa_2_8 : Cond.laysFinal "FaultLoom$Thing" "FaultLoom$Thing" "kind" "I" ∈ wA := wA3 (i := 8) rfl rfl
theorem wa_2_10 : Cond.laysFinal "FaultLoom$Thing" "FaultLoom$Thing" "places" "I" ∈ wA := wA3 (i := 10) rfl rfl
theorem wa_2_12 : Cond.laysFinal "FaultLoom$Thing" "FaultLoom$Thing" "numbers" "[J" ∈ wA := wA3 (i := 12) rfl rfl
theorem wa_2_14 : Cond.laysFinal "FaultLoom$Thing" "FaultLoom$Thing" "points" "[D" ∈ wA := wA3 (i := 14) rfl rfl
theorem wa_2_16 : Cond.laysFinal "FaultLoom$Thing" "FaultLoom$Thing" "members" "[LFaultLoom$Thing;" ∈ wA := wA3 (i := 16) rfl rfl
theorem wa_2_18 : Cond.lays "FaultLoom$Thing" "FaultLoom$Thing" "tag" "I" ∈ wA := wA3 (i := 18) rfl rfl
theorem wa_2_20 : Cond.lays "FaultLoom$Thing" "FaultLoom$Thing" "weight" "J" ∈ wA := wA3 (i := 20) rfl rfl
theorem wa_2_22 : Cond.lays "FaultLoom$Thing" "FaultLoom$Thing" "link" "LFaultLoom$Thing;" ∈ wA := wA3 (i := 22) rfl rfl
theorem wa_2_25 : Cond.methodLink RX7 39 yX7_makeGrid ∈ wA := wA3 (i := 25) rfl rfl
theorem wa_2_27 : Cond.instanceMethod yX7_makeGrid ∈ wA := wA3 (i := 27) rfl rfl
theorem wa_2_28 : Cond.code yX7_makeGrid cX7_makeGrid 6 (some .int) ∈ wA := wA3 (i := 28) rfl rfl
theorem wa_2_29 : Cond.methodLink RX7 42 yX7_makeKnot ∈ wA := wA3 (i := 29) rfl rfl
theorem wa_2_31 : Cond.instanceMethod yX7_makeKnot ∈ wA := wA3 (i := 31) rfl rfl
theorem wa_2_32 : Cond.code yX7_makeKnot cX7_makeKnot 3 (some .int) ∈ wA := wA3 (i := 32) rfl rfl
theorem wa_2_33 : Cond.methodLink RX7 45 yX7_makeFault ∈ wA := wA3 (i := 33) rfl rfl
theorem wa_2_35 : Cond.instanceMethod yX7_makeFault ∈ wA := wA3 (i := 35) rfl rfl
theorem wa_2_36 : Cond.code yX7_makeFault cX7_makeFault 4 (some .int) ∈ wA := wA3 (i := 36) rfl rfl
theorem wa_2_37 : Cond.methodLink RX7 48 yX7_useFault ∈ wA := wA3 (i := 37) rfl rfl
theorem wa_2_39 : Cond.instanceMethod yX7_useFault ∈ wA := wA3 (i := 39) rfl rfl
theorem wa_2_40 : Cond.code yX7_useFault cX7_useFault 3 (some .int) ∈ wA := wA3 (i := 40) rfl rfl
theorem wa_2_41 : Cond.methodLink RX7 105 yX6_isOf ∈ wA := wA3 (i := 41) rfl rfl
theorem wa_2_42 : Cond.methodLink RX7 51 yX7_lookAtThing ∈ wA := wA3 (i := 42) rfl rfl
theorem wa_2_44 : Cond.instanceMethod yX7_lookAtThing ∈ wA := wA3 (i := 44) rfl rfl
theorem wa_2_45 : Cond.code yX7_lookAtThing cX7_lookAtThing 3 (some .int) ∈ wA := wA3 (i := 45) rfl rfl
theorem wa_2_46 : Cond.methodLink RX7 108 yX7_countPlaces ∈ wA := wA3 (i := 46) rfl rfl
theorem wa_2_48 : Cond.instanceMethod yX7_countPlaces ∈ wA := wA3 (i := 48) rfl rfl
theorem wa_2_49 : Cond.code yX7_countPlaces cX7_countPlaces 3 (some .int) ∈ wA := wA3 (i := 49) rfl rfl
theorem wa_2_50 : Cond.methodLink RX7 112 yX6_isRow ∈ wA := wA3 (i := 50) rfl rfl
theorem wa_2_51 : Cond.instanceMethod yX6_isRow ∈ wA := wA3 (i := 51) rfl rfl
theorem wa_2_52 : Cond.selects RX6 yX6_isRow yX6_isRow ∈ wA := wA3 (i := 52) rfl rfl
theorem wa_2_53 : Cond.code yX6_isRow cX6_isRow 1 (some .boolean) ∈ wA := wA3 (i := 53) rfl rfl
theorem wa_2_54 : Cond.methodLink RX4 85 yX4_fail ∈ wA := wA3 (i := 54) rfl rfl
theorem wa_2_56 : Cond.instanceMethod yX4_fail ∈ wA := wA3 (i := 56) rfl rfl
theorem wa_2_57 : Cond.code yX4_fail cX4_fail 5 none ∈ wA := wA3 (i := 57) rfl rfl
theorem wa_2_58 : Cond.methodLink RX4 156 yX1_seekHandler ∈ wA := wA3 (i := 58) rfl rfl
theorem wa_2_59 : Cond.instanceMethod yX1_seekHandler ∈ wA := wA3 (i := 59) rfl rfl
theorem wa_2_60 : Cond.selects RX1 yX1_seekHandler yX1_seekHandler ∈ wA := wA3 (i := 60) rfl rfl
theorem wa_2_61 : Cond.code yX1_seekHandler cX1_seekHandler 5 (some .int) ∈ wA := wA3 (i := 61) rfl rfl
theorem wa_2_62 : Cond.methodLink RX1 30 yX0_names ∈ wA := wA3 (i := 62) rfl rfl
theorem wa_2_63 : Cond.instanceMethod yX0_names ∈ wA := wA3 (i := 63) rfl rfl
theorem wa_2_64 : Cond.selects RX0 yX0_names yX0_names ∈ wA := wA3 (i := 64) rfl rfl
theorem wa_2_65 : Cond.code yX0_names cX0_names 3 (some .boolean) ∈ wA := wA3 (i := 65) rfl rfl
theorem wa_2_66 : Cond.methodLink RL 37 yX8_word ∈ wA := wA3 (i := 66) rfl rfl
theorem wa_2_67 : Cond.instanceMethod yX8_word ∈ wA := wA3 (i := 67) rfl rfl
theorem wa_2_68 : Cond.selects RX8 yX8_word yX8_word ∈ wA := wA3 (i := 68) rfl rfl
theorem wa_2_69 : Cond.code yX8_word cX8_word 2 (some .int) ∈ wA := wA3 (i := 69) rfl rfl
theorem wa_2_70 : Cond.methodLink RX8 89 yX3_getWord ∈ wA := wA3 (i := 70) rfl rfl
theorem wa_2_71 : Cond.methodLink RL 41 yX8_wide ∈ wA := wA3 (i := 71) rfl rfl
theorem wa_2_72 : Cond.instanceMethod yX8_wide ∈ wA := wA3 (i := 72) rfl rfl
theorem wa_2_73 : Cond.selects RX8 yX8_wide yX8_wide ∈ wA := wA3 (i := 73) rfl rfl
theorem wa_2_74 : Cond.code yX8_wide cX8_wide 2 (some .long) ∈ wA := wA3 (i := 74) rfl rfl
theorem wa_2_75 : Cond.methodLink RX8 93 yX3_getLong ∈ wA := wA3 (i := 75) rfl rfl
theorem wa_2_76 : Cond.methodLink RL 46 yX8_single ∈ wA := wA3 (i := 76) rfl rfl
theorem wa_2_77 : Cond.instanceMethod yX8_single ∈ wA := wA3 (i := 77) rfl rfl
theorem wa_2_78 : Cond.selects RX8 yX8_single yX8_single ∈ wA := wA3 (i := 78) rfl rfl
theorem wa_2_79 : Cond.code yX8_single cX8_single 2 (some .double) ∈ wA := wA3 (i := 79) rfl rfl
theorem wa_2_80 : Cond.methodLink RX8 97 yX3_getSingle ∈ wA := wA3 (i := 80) rfl rfl
theorem wa_2_81 : Cond.methodLink RL 51 yX8_real ∈ wA := wA3 (i := 81) rfl rfl
theorem wa_2_82 : Cond.instanceMethod yX8_real ∈ wA := wA3 (i := 82) rfl rfl
theorem wa_2_83 : Cond.selects RX8 yX8_real yX8_real ∈ wA := wA3 (i := 83) rfl rfl
theorem wa_2_84 : Cond.code yX8_real cX8_real 2 (some .double) ∈ wA := wA3 (i := 84) rfl rfl
theorem wa_2_85 : Cond.methodLink RX8 101 yX3_getDouble ∈ wA := wA3 (i := 85) rfl rfl
theorem wa_2_86 : Cond.methodLink RL 55 yX8_kind ∈ wA := wA3 (i := 86) rfl rfl
theorem wa_2_87 : Cond.instanceMethod yX8_kind ∈ wA := wA3 (i := 87) rfl rfl
theorem wa_2_88 : Cond.selects RX8 yX8_kind yX8_kind ∈ wA := wA3 (i := 88) rfl rfl
theorem wa_2_89 : Cond.code yX8_kind cX8_kind 2 (some .int) ∈ wA := wA3 (i := 89) rfl rfl
theorem wa_2_90 : Cond.methodLink RX8 105 yX3_hasThing ∈ wA := wA3 (i := 90) rfl rfl
theorem wa_2_91 : Cond.instanceMethod yX3_hasThing ∈ wA := wA3 (i := 91) rfl rfl
theorem wa_2_92 : Cond.selects RX3 yX3_hasThing yX3_hasThing ∈ wA := wA3 (i := 92) rfl rfl
theorem wa_2_93 : Cond.code yX3_hasThing cX3_hasThing 2 (some .boolean) ∈ wA := wA3 (i := 93) rfl rfl
theorem wa_2_94 : Cond.methodLink RX8 108 yX3_getThing ∈ wA := wA3 (i := 94) rfl rfl
theorem wa_2_95 : Cond.methodLink RX8 112 yX8_kindOf ∈ wA := wA3 (i := 95) rfl rfl
theorem wa_2_96 : Cond.static yX8_kindOf ∈ wA := wA3 (i := 96) rfl rfl
theorem wa_2_97 : Cond.code yX8_kindOf cX8_kindOf 1 (some .int) ∈ wA := wA3 (i := 97) rfl rfl
theorem wa_2_98 : Cond.methodLink RL 59 yX8_size ∈ wA := wA3 (i := 98) rfl rfl
theorem wa_2_99 : Cond.instanceMethod yX8_size ∈ wA := wA3 (i := 99) rfl rfl
theorem wa_2_100 : Cond.selects RX8 yX8_size yX8_size ∈ wA := wA3 (i := 100) rfl rfl
theorem wa_2_101 : Cond.code yX8_size cX8_size 2 (some .int) ∈ wA := wA3 (i := 101) rfl rfl
theorem wa_2_102 : Cond.methodLink RX8 116 yX8_placesOf ∈ wA := wA3 (i := 102) rfl rfl
theorem wa_2_103 : Cond.static yX8_placesOf ∈ wA := wA3 (i := 103) rfl rfl
theorem wa_2_104 : Cond.code yX8_placesOf cX8_placesOf 1 (some .int) ∈ wA := wA3 (i := 104) rfl rfl
theorem wa_2_105 : Cond.methodLink RX8 164 yX6_isRow ∈ wA := wA3 (i := 105) rfl rfl
theorem wa_2_106 : Cond.methodLink RL 63 yX8_cell ∈ wA := wA3 (i := 106) rfl rfl
theorem wa_2_107 : Cond.instanceMethod yX8_cell ∈ wA := wA3 (i := 107) rfl rfl
theorem wa_2_108 : Cond.selects RX8 yX8_cell yX8_cell ∈ wA := wA3 (i := 108) rfl rfl
theorem wa_2_109 : Cond.code yX8_cell cX8_cell 4 (some .long) ∈ wA := wA3 (i := 109) rfl rfl
theorem wa_2_110 : Cond.methodLink RX8 119 yX6_hasPlace ∈ wA := wA3 (i := 110) rfl rfl
theorem wa_2_111 : Cond.methodLink RX8 127 yX6_getMember ∈ wA := wA3 (i := 111) rfl rfl
theorem wa_2_112 : Cond.methodLink RX8 130 yX6_getNumber ∈ wA := wA3 (i := 112) rfl rfl
theorem wa_2_113 : Cond.methodLink RL 68 yX8_point ∈ wA := wA3 (i := 113) rfl rfl
theorem wa_2_114 : Cond.instanceMethod yX8_point ∈ wA := wA3 (i := 114) rfl rfl
theorem wa_2_115 : Cond.selects RX8 yX8_point yX8_point ∈ wA := wA3 (i := 115) rfl rfl
theorem wa_2_116 : Cond.code yX8_point cX8_point 4 (some .double) ∈ wA := wA3 (i := 116) rfl rfl
theorem wa_2_117 : Cond.methodLink RX8 133 yX6_getPoint ∈ wA := wA3 (i := 117) rfl rfl
theorem wa_2_118 : Cond.methodLink RL 73 yX8_field ∈ wA := wA3 (i := 118) rfl rfl
theorem wa_2_119 : Cond.instanceMethod yX8_field ∈ wA := wA3 (i := 119) rfl rfl
theorem wa_2_120 : Cond.selects RX8 yX8_field yX8_field ∈ wA := wA3 (i := 120) rfl rfl
theorem wa_2_121 : Cond.code yX8_field cX8_field 4 (some .long) ∈ wA := wA3 (i := 121) rfl rfl
theorem wa_2_122 : Cond.methodLink RL 77 yX8_same ∈ wA := wA3 (i := 122) rfl rfl
theorem wa_2_123 : Cond.instanceMethod yX8_same ∈ wA := wA3 (i := 123) rfl rfl
theorem wa_2_124 : Cond.selects RX8 yX8_same yX8_same ∈ wA := wA3 (i := 124) rfl rfl
theorem wa_2_125 : Cond.code yX8_same cX8_same 4 (some .boolean) ∈ wA := wA3 (i := 125) rfl rfl
theorem wa_2_126 : Cond.methodLink RL 82 yX8_told ∈ wA := wA3 (i := 126) rfl rfl
theorem wa_2_127 : Cond.instanceMethod yX8_told ∈ wA := wA3 (i := 127) rfl rfl
theorem wa_2_128 : Cond.selects RX8 yX8_told yX8_told ∈ wA := wA3 (i := 128) rfl rfl
theorem wa_2_129 : Cond.code yX8_told cX8_told 2 (some .int) ∈ wA := wA3 (i := 129) rfl rfl
theorem wa_2_130 : Cond.methodLink RX8 147 yX4_getTold ∈ wA := wA3 (i := 130) rfl rfl
theorem wa_2_131 : Cond.instanceMethod yX4_getTold ∈ wA := wA3 (i := 131) rfl rfl
theorem wa_2_132 : Cond.selects RX4 yX4_getTold yX4_getTold ∈ wA := wA3 (i := 132) rfl rfl
theorem wa_2_133 : Cond.code yX4_getTold cX4_getTold 2 (some .int) ∈ wA := wA3 (i := 133) rfl rfl
theorem wa_2_134 : Cond.methodLink RL 86 yX8_state ∈ wA := wA3 (i := 134) rfl rfl
theorem wa_2_135 : Cond.instanceMethod yX8_state ∈ wA := wA3 (i := 135) rfl rfl
theorem wa_2_136 : Cond.selects RX8 yX8_state yX8_state ∈ wA := wA3 (i := 136) rfl rfl
theorem wa_2_137 : Cond.code yX8_state cX8_state 2 (some .int) ∈ wA := wA3 (i := 137) rfl rfl
theorem wa_2_138 : Cond.methodLink RX8 150 yX4_report ∈ wA := wA3 (i := 138) rfl rfl
theorem wa_2_139 : Cond.instanceMethod yX4_report ∈ wA := wA3 (i := 139) rfl rfl
theorem wa_2_140 : Cond.selects RX4 yX4_report yX4_report ∈ wA := wA3 (i := 140) rfl rfl
theorem wa_2_141 : Cond.code yX4_report cX4_report 2 (some .int) ∈ wA := wA3 (i := 141) rfl rfl
theorem wa_2_142 : Cond.classLink RL 10 RX9 ∈ wA := wA3 (i := 142) rfl rfl
theorem wa_2_143 : Cond.instantiable RX9 34 ∈ wA := wA3 (i := 143) rfl rfl
theorem wa_2_144 : Cond.methodLink RL 12 yX9_init ∈ wA := wA3 (i := 144) rfl rfl
theorem wa_2_145 : Cond.instanceMethod yX9_init ∈ wA := wA3 (i := 145) rfl rfl
theorem wa_2_146 : Cond.code yX9_init cX9_init 1 none ∈ wA := wA3 (i := 146) rfl rfl
theorem wa_2_147 : Cond.methodLink RX9 1 objectInit ∈ wA := wA3 (i := 147) rfl rfl
theorem wa_2_148 : Cond.fieldLink RX9 7 "FaultLoomModel" "steps" "[I" ∈ wA := wA3 (i := 148) rfl rfl
theorem wa_2_149 : Cond.fieldLink RX9 80 "FaultLoomModel" "many" "I" ∈ wA := wA3 (i := 149) rfl rfl
theorem wa_2_150 : Cond.fieldLink RX9 13 "FaultLoomModel" "handlers" "[I" ∈ wA := wA3 (i := 150) rfl rfl
theorem wa_2_151 : Cond.fieldLink RX9 86 "FaultLoomModel" "handlerMany" "I" ∈ wA := wA3 (i := 151) rfl rfl
theorem wa_2_152 : Cond.fieldLink RX9 16 "FaultLoomModel" "words" "[I" ∈ wA := wA3 (i := 152) rfl rfl
theorem wa_2_153 : Cond.fieldLink RX9 19 "FaultLoomModel" "wides" "[J" ∈ wA := wA3 (i := 153) rfl rfl
theorem wa_2_154 : Cond.fieldLink RX9 23 "FaultLoomModel" "singles" "[F" ∈ wA := wA3 (i := 154) rfl rfl
theorem wa_2_155 : Cond.fieldLink RX9 27 "FaultLoomModel" "reals" "[D" ∈ wA := wA3 (i := 155) rfl rfl
theorem wa_2_156 : Cond.fieldLink RX9 31 "FaultLoomModel" "refs" "[I" ∈ wA := wA3 (i := 156) rfl rfl
theorem wa_2_157 : Cond.fieldLink RX9 34 "FaultLoomModel" "kinds" "[I" ∈ wA := wA3 (i := 157) rfl rfl
theorem wa_2_158 : Cond.fieldLink RX9 37 "FaultLoomModel" "sizes" "[I" ∈ wA := wA3 (i := 158) rfl rfl
theorem wa_2_159 : Cond.fieldLink RX9 40 "FaultLoomModel" "cells" "[J" ∈ wA := wA3 (i := 159) rfl rfl
theorem wa_2_160 : Cond.fieldLink RX9 43 "FaultLoomModel" "points" "[D" ∈ wA := wA3 (i := 160) rfl rfl
theorem wa_2_161 : Cond.fieldLink RX9 46 "FaultLoomModel" "inner" "[I" ∈ wA := wA3 (i := 161) rfl rfl
theorem wa_2_162 : Cond.fieldLink RX9 49 "FaultLoomModel" "tags" "[I" ∈ wA := wA3 (i := 162) rfl rfl
theorem wa_2_163 : Cond.fieldLink RX9 52 "FaultLoomModel" "weights" "[J" ∈ wA := wA3 (i := 163) rfl rfl
theorem wa_2_164 : Cond.fieldLink RX9 55 "FaultLoomModel" "nexts" "[I" ∈ wA := wA3 (i := 164) rfl rfl
theorem wa_2_165 : Cond.fieldLink RX9 89 "FaultLoomModel" "made" "I" ∈ wA := wA3 (i := 165) rfl rfl
theorem wa_2_166 : Cond.fieldLink RX9 83 "FaultLoomModel" "status" "I" ∈ wA := wA3 (i := 166) rfl rfl
theorem wa_2_167 : Cond.fieldLink RX9 92 "FaultLoomModel" "place" "I" ∈ wA := wA3 (i := 167) rfl rfl
theorem wa_2_168 : Cond.fieldLink RX9 95 "FaultLoomModel" "done" "I" ∈ wA := wA3 (i := 168) rfl rfl
theorem wa_2_169 : Cond.fieldLink RX9 58 "FaultLoomModel" "callPlaces" "[I" ∈ wA := wA3 (i := 169) rfl rfl
theorem wa_2_170 : Cond.fieldLink RX9 98 "FaultLoomModel" "calls" "I" ∈ wA := wA3 (i := 170) rfl rfl
theorem wa_2_171 : Cond.fieldLink RX9 61 "FaultLoomModel" "tolds" "[I" ∈ wA := wA3 (i := 171) rfl rfl
theorem wa_2_172 : Cond.fieldLink RX9 101 "FaultLoomModel" "toldMany" "I" ∈ wA := wA3 (i := 172) rfl rfl
theorem wa_2_173 : Cond.fieldLink RX9 104 "FaultLoomModel" "failures" "I" ∈ wA := wA3 (i := 173) rfl rfl
theorem wa_2_174 : Cond.fieldLink RX9 107 "FaultLoomModel" "latest" "I" ∈ wA := wA3 (i := 174) rfl rfl
theorem wa_2_175 : Cond.fieldLink RX9 64 "FaultLoomModel" "latestPlace" "I" ∈ wA := wA3 (i := 175) rfl rfl
theorem wa_2_176 : Cond.fieldLink RX9 110 "FaultLoomModel" "handled" "I" ∈ wA := wA3 (i := 176) rfl rfl
theorem wa_2_177 : Cond.fieldLink RX9 113 "FaultLoomModel" "thrown" "I" ∈ wA := wA3 (i := 177) rfl rfl
theorem wa_2_178 : Cond.fieldLink RX9 142 "FaultLoomModel" "a" "I" ∈ wA := wA3 (i := 178) rfl rfl
theorem wa_2_179 : Cond.fieldLink RX9 126 "FaultLoomModel" "b" "I" ∈ wA := wA3 (i := 179) rfl rfl
theorem wa_2_180 : Cond.fieldLink RX9 123 "FaultLoomModel" "c" "I" ∈ wA := wA3 (i := 180) rfl rfl
theorem wa_2_181 : Cond.fieldLink RX9 174 "FaultLoomModel" "after" "I" ∈ wA := wA3 (i := 181) rfl rfl
theorem wa_2_182 : Cond.laysFinal "FaultLoomModel" "FaultLoomModel" "steps" "[I" ∈ wA := wA3 (i := 182) rfl rfl
theorem wa_2_184 : Cond.lays "FaultLoomModel" "FaultLoomModel" "many" "I" ∈ wA := wA3 (i := 184) rfl rfl
theorem wa_2_186 : Cond.laysFinal "FaultLoomModel" "FaultLoomModel" "handlers" "[I" ∈ wA := wA3 (i := 186) rfl rfl
theorem wa_2_188 : Cond.lays "FaultLoomModel" "FaultLoomModel" "handlerMany" "I" ∈ wA := wA3 (i := 188) rfl rfl
theorem wa_2_190 : Cond.laysFinal "FaultLoomModel" "FaultLoomModel" "words" "[I" ∈ wA := wA3 (i := 190) rfl rfl
theorem wa_2_192 : Cond.laysFinal "FaultLoomModel" "FaultLoomModel" "wides" "[J" ∈ wA := wA3 (i := 192) rfl rfl
theorem wa_2_194 : Cond.laysFinal "FaultLoomModel" "FaultLoomModel" "singles" "[F" ∈ wA := wA3 (i := 194) rfl rfl
theorem wa_2_196 : Cond.laysFinal "FaultLoomModel" "FaultLoomModel" "reals" "[D" ∈ wA := wA3 (i := 196) rfl rfl
theorem wa_2_198 : Cond.laysFinal "FaultLoomModel" "FaultLoomModel" "refs" "[I" ∈ wA := wA3 (i := 198) rfl rfl
theorem wa_2_200 : Cond.laysFinal "FaultLoomModel" "FaultLoomModel" "kinds" "[I" ∈ wA := wA3 (i := 200) rfl rfl
theorem wa_2_202 : Cond.laysFinal "FaultLoomModel" "FaultLoomModel" "sizes" "[I" ∈ wA := wA3 (i := 202) rfl rfl
theorem wa_2_204 : Cond.laysFinal "FaultLoomModel" "FaultLoomModel" "cells" "[J" ∈ wA := wA3 (i := 204) rfl rfl
theorem wa_2_206 : Cond.laysFinal "FaultLoomModel" "FaultLoomModel" "points" "[D" ∈ wA := wA3 (i := 206) rfl rfl
theorem wa_2_208 : Cond.laysFinal "FaultLoomModel" "FaultLoomModel" "inner" "[I" ∈ wA := wA3 (i := 208) rfl rfl
theorem wa_2_210 : Cond.laysFinal "FaultLoomModel" "FaultLoomModel" "tags" "[I" ∈ wA := wA3 (i := 210) rfl rfl
theorem wa_2_212 : Cond.laysFinal "FaultLoomModel" "FaultLoomModel" "weights" "[J" ∈ wA := wA3 (i := 212) rfl rfl
theorem wa_2_214 : Cond.laysFinal "FaultLoomModel" "FaultLoomModel" "nexts" "[I" ∈ wA := wA3 (i := 214) rfl rfl
theorem wa_2_216 : Cond.lays "FaultLoomModel" "FaultLoomModel" "made" "I" ∈ wA := wA3 (i := 216) rfl rfl
theorem wa_2_218 : Cond.lays "FaultLoomModel" "FaultLoomModel" "status" "I" ∈ wA := wA3 (i := 218) rfl rfl
theorem wa_2_220 : Cond.lays "FaultLoomModel" "FaultLoomModel" "place" "I" ∈ wA := wA3 (i := 220) rfl rfl
theorem wa_2_222 : Cond.lays "FaultLoomModel" "FaultLoomModel" "done" "I" ∈ wA := wA3 (i := 222) rfl rfl
theorem wa_2_224 : Cond.laysFinal "FaultLoomModel" "FaultLoomModel" "callPlaces" "[I" ∈ wA := wA3 (i := 224) rfl rfl
theorem wa_2_226 : Cond.lays "FaultLoomModel" "FaultLoomModel" "calls" "I" ∈ wA := wA3 (i := 226) rfl rfl
theorem wa_2_228 : Cond.laysFinal "FaultLoomModel" "FaultLoomModel" "tolds" "[I" ∈ wA := wA3 (i := 228) rfl rfl
theorem wa_2_230 : Cond.lays "FaultLoomModel" "FaultLoomModel" "toldMany" "I" ∈ wA := wA3 (i := 230) rfl rfl
theorem wa_2_232 : Cond.lays "FaultLoomModel" "FaultLoomModel" "failures" "I" ∈ wA := wA3 (i := 232) rfl rfl
theorem wa_2_234 : Cond.lays "FaultLoomModel" "FaultLoomModel" "latest" "I" ∈ wA := wA3 (i := 234) rfl rfl
theorem wa_2_236 : Cond.lays "FaultLoomModel" "FaultLoomModel" "latestPlace" "I" ∈ wA := wA3 (i := 236) rfl rfl
theorem wa_2_238 : Cond.lays "FaultLoomModel" "FaultLoomModel" "handled" "I" ∈ wA := wA3 (i := 238) rfl rfl
theorem wa_3_0 : Cond.lays "FaultLoomModel" "FaultLoomModel" "thrown" "I" ∈ wA := wA4 (i := 0) rfl rfl
theorem wa_3_2 : Cond.lays "FaultLoomModel" "FaultLoomModel" "a" "I" ∈ wA := wA4 (i := 2) rfl rfl
theorem wa_3_4 : Cond.lays "FaultLoomModel" "FaultLoomModel" "b" "I" ∈ wA := wA4 (i := 4) rfl rfl
theorem wa_3_6 : Cond.lays "FaultLoomModel" "FaultLoomModel" "c" "I" ∈ wA := wA4 (i := 6) rfl rfl
theorem wa_3_8 : Cond.lays "FaultLoomModel" "FaultLoomModel" "after" "I" ∈ wA := wA4 (i := 8) rfl rfl
theorem wa_3_11 : Cond.methodLink RL 17 yX9_put ∈ wA := wA4 (i := 11) rfl rfl
theorem wa_3_12 : Cond.instanceMethod yX9_put ∈ wA := wA4 (i := 12) rfl rfl
theorem wa_3_13 : Cond.selects RX9 yX9_put yX9_put ∈ wA := wA4 (i := 13) rfl rfl
theorem wa_3_14 : Cond.code yX9_put cX9_put 5 (some .int) ∈ wA := wA4 (i := 14) rfl rfl
theorem wa_3_15 : Cond.methodLink RX9 68 yX9_isIn ∈ wA := wA4 (i := 15) rfl rfl
theorem wa_3_16 : Cond.static yX9_isIn ∈ wA := wA4 (i := 16) rfl rfl
theorem wa_3_17 : Cond.code yX9_isIn cX9_isIn 3 (some .boolean) ∈ wA := wA4 (i := 17) rfl rfl
theorem wa_3_18 : Cond.methodLink RX9 72 yX9_names ∈ wA := wA4 (i := 18) rfl rfl
theorem wa_3_19 : Cond.static yX9_names ∈ wA := wA4 (i := 19) rfl rfl
theorem wa_3_20 : Cond.code yX9_names cX9_names 6 (some .int) ∈ wA := wA4 (i := 20) rfl rfl
theorem wa_3_21 : Cond.methodLink RX9 76 yX9_isTold ∈ wA := wA4 (i := 21) rfl rfl
theorem wa_3_22 : Cond.static yX9_isTold ∈ wA := wA4 (i := 22) rfl rfl
theorem wa_3_23 : Cond.code yX9_isTold cX9_isTold 2 (some .boolean) ∈ wA := wA4 (i := 23) rfl rfl
theorem wa_3_24 : Cond.methodLink RL 21 yX9_handler ∈ wA := wA4 (i := 24) rfl rfl
theorem wa_3_25 : Cond.instanceMethod yX9_handler ∈ wA := wA4 (i := 25) rfl rfl
theorem wa_3_26 : Cond.selects RX9 yX9_handler yX9_handler ∈ wA := wA4 (i := 26) rfl rfl
theorem wa_3_27 : Cond.code yX9_handler cX9_handler 5 (some .int) ∈ wA := wA4 (i := 27) rfl rfl
theorem wa_3_28 : Cond.methodLink RL 26 yX9_clear ∈ wA := wA4 (i := 28) rfl rfl
theorem wa_3_29 : Cond.instanceMethod yX9_clear ∈ wA := wA4 (i := 29) rfl rfl
theorem wa_3_30 : Cond.selects RX9 yX9_clear yX9_clear ∈ wA := wA4 (i := 30) rfl rfl
theorem wa_3_31 : Cond.code yX9_clear cX9_clear 2 (some .int) ∈ wA := wA4 (i := 31) rfl rfl
theorem wa_3_32 : Cond.methodLink RL 31 yX9_start ∈ wA := wA4 (i := 32) rfl rfl
theorem wa_3_33 : Cond.instanceMethod yX9_start ∈ wA := wA4 (i := 33) rfl rfl
theorem wa_3_34 : Cond.selects RX9 yX9_start yX9_start ∈ wA := wA4 (i := 34) rfl rfl
theorem wa_3_35 : Cond.code yX9_start cX9_start 2 (some .boolean) ∈ wA := wA4 (i := 35) rfl rfl
theorem wa_3_36 : Cond.methodLink RL 36 yX9_step ∈ wA := wA4 (i := 36) rfl rfl
theorem wa_3_37 : Cond.instanceMethod yX9_step ∈ wA := wA4 (i := 37) rfl rfl
theorem wa_3_38 : Cond.selects RX9 yX9_step yX9_step ∈ wA := wA4 (i := 38) rfl rfl
theorem wa_3_39 : Cond.code yX9_step cX9_step 3 (some .int) ∈ wA := wA4 (i := 39) rfl rfl
theorem wa_3_40 : Cond.methodLink RX9 198 yX9_one ∈ wA := wA4 (i := 40) rfl rfl
theorem wa_3_42 : Cond.instanceMethod yX9_one ∈ wA := wA4 (i := 42) rfl rfl
theorem wa_3_43 : Cond.code yX9_one cX9_one 3 none ∈ wA := wA4 (i := 43) rfl rfl
theorem wa_3_44 : Cond.methodLink RX9 188 yX9_whyNot ∈ wA := wA4 (i := 44) rfl rfl
theorem wa_3_46 : Cond.instanceMethod yX9_whyNot ∈ wA := wA4 (i := 46) rfl rfl
theorem wa_3_47 : Cond.code yX9_whyNot cX9_whyNot 4 (some .int) ∈ wA := wA4 (i := 47) rfl rfl
theorem wa_3_48 : Cond.methodLink RX9 129 yX9_whyNotThing ∈ wA := wA4 (i := 48) rfl rfl
theorem wa_3_50 : Cond.instanceMethod yX9_whyNotThing ∈ wA := wA4 (i := 50) rfl rfl
theorem wa_3_51 : Cond.code yX9_whyNotThing cX9_whyNotThing 2 (some .int) ∈ wA := wA4 (i := 51) rfl rfl
theorem wa_3_52 : Cond.methodLink RX9 133 yX9_isRow ∈ wA := wA4 (i := 52) rfl rfl
theorem wa_3_53 : Cond.static yX9_isRow ∈ wA := wA4 (i := 53) rfl rfl
theorem wa_3_54 : Cond.code yX9_isRow cX9_isRow 1 (some .boolean) ∈ wA := wA4 (i := 54) rfl rfl
theorem wa_3_55 : Cond.methodLink RX9 136 yX9_whyNotPlace ∈ wA := wA4 (i := 55) rfl rfl
theorem wa_3_57 : Cond.instanceMethod yX9_whyNotPlace ∈ wA := wA4 (i := 57) rfl rfl
theorem wa_3_58 : Cond.code yX9_whyNotPlace cX9_whyNotPlace 7 (some .int) ∈ wA := wA4 (i := 58) rfl rfl
theorem wa_3_59 : Cond.methodLink RX9 139 yX9_isWrong ∈ wA := wA4 (i := 59) rfl rfl
theorem wa_3_61 : Cond.instanceMethod yX9_isWrong ∈ wA := wA4 (i := 61) rfl rfl
theorem wa_3_62 : Cond.code yX9_isWrong cX9_isWrong 3 (some .boolean) ∈ wA := wA4 (i := 62) rfl rfl
theorem wa_3_63 : Cond.methodLink RX9 120 yX9_isOf ∈ wA := wA4 (i := 63) rfl rfl
theorem wa_3_64 : Cond.static yX9_isOf ∈ wA := wA4 (i := 64) rfl rfl
theorem wa_3_65 : Cond.code yX9_isOf cX9_isOf 2 (some .boolean) ∈ wA := wA4 (i := 65) rfl rfl
theorem wa_3_66 : Cond.methodLink RX9 116 yX9_isKnot ∈ wA := wA4 (i := 66) rfl rfl
theorem wa_3_67 : Cond.static yX9_isKnot ∈ wA := wA4 (i := 67) rfl rfl
theorem wa_3_68 : Cond.code yX9_isKnot cX9_isKnot 1 (some .boolean) ∈ wA := wA4 (i := 68) rfl rfl
theorem wa_3_69 : Cond.methodLink RX9 191 yX9_does ∈ wA := wA4 (i := 69) rfl rfl
theorem wa_3_71 : Cond.instanceMethod yX9_does ∈ wA := wA4 (i := 71) rfl rfl
theorem wa_3_72 : Cond.code yX9_does cX9_does 2 none ∈ wA := wA4 (i := 72) rfl rfl
theorem wa_3_73 : Cond.methodLink RX9 145 yX9_doesWhole ∈ wA := wA4 (i := 73) rfl rfl
theorem wa_3_75 : Cond.instanceMethod yX9_doesWhole ∈ wA := wA4 (i := 75) rfl rfl
theorem wa_3_76 : Cond.code yX9_doesWhole cX9_doesWhole 2 none ∈ wA := wA4 (i := 76) rfl rfl
theorem wa_3_77 : Cond.constantLong RX9 170 (4294967295) ∈ wA := wA4 (i := 77) rfl rfl
theorem wa_3_78 : Cond.methodLink RX9 149 yX9_doesPoint ∈ wA := wA4 (i := 78) rfl rfl
theorem wa_3_80 : Cond.instanceMethod yX9_doesPoint ∈ wA := wA4 (i := 80) rfl rfl
theorem wa_3_81 : Cond.code yX9_doesPoint cX9_doesPoint 2 none ∈ wA := wA4 (i := 81) rfl rfl
theorem wa_3_82 : Cond.constantDouble RX9 172 (4611686018427387904) ∈ wA := wA4 (i := 82) rfl rfl
theorem wa_3_83 : Cond.methodLink RX9 152 yX9_doesWay ∈ wA := wA4 (i := 83) rfl rfl
theorem wa_3_85 : Cond.instanceMethod yX9_doesWay ∈ wA := wA4 (i := 85) rfl rfl
theorem wa_3_86 : Cond.code yX9_doesWay cX9_doesWay 2 none ∈ wA := wA4 (i := 86) rfl rfl
theorem wa_3_87 : Cond.methodLink RX9 155 yX9_doesThing ∈ wA := wA4 (i := 87) rfl rfl
theorem wa_3_89 : Cond.instanceMethod yX9_doesThing ∈ wA := wA4 (i := 89) rfl rfl
theorem wa_3_90 : Cond.code yX9_doesThing cX9_doesThing 7 none ∈ wA := wA4 (i := 90) rfl rfl
theorem wa_3_91 : Cond.methodLink RX9 177 yX9_make ∈ wA := wA4 (i := 91) rfl rfl
theorem wa_3_93 : Cond.instanceMethod yX9_make ∈ wA := wA4 (i := 93) rfl rfl
theorem wa_3_94 : Cond.code yX9_make cX9_make 4 (some .int) ∈ wA := wA4 (i := 94) rfl rfl
theorem wa_3_95 : Cond.methodLink RX9 158 yX9_gets ∈ wA := wA4 (i := 95) rfl rfl
theorem wa_3_97 : Cond.instanceMethod yX9_gets ∈ wA := wA4 (i := 97) rfl rfl
theorem wa_3_98 : Cond.code yX9_gets cX9_gets 3 none ∈ wA := wA4 (i := 98) rfl rfl
theorem wa_3_99 : Cond.methodLink RX9 161 yX9_puts ∈ wA := wA4 (i := 99) rfl rfl
theorem wa_3_101 : Cond.instanceMethod yX9_puts ∈ wA := wA4 (i := 101) rfl rfl
theorem wa_3_102 : Cond.code yX9_puts cX9_puts 3 none ∈ wA := wA4 (i := 102) rfl rfl
theorem wa_3_103 : Cond.constant RX9 180 (65535) ∈ wA := wA4 (i := 103) rfl rfl
theorem wa_3_104 : Cond.methodLink RX9 164 yX9_doesKnot ∈ wA := wA4 (i := 104) rfl rfl
theorem wa_3_106 : Cond.instanceMethod yX9_doesKnot ∈ wA := wA4 (i := 106) rfl rfl
theorem wa_3_107 : Cond.code yX9_doesKnot cX9_doesKnot 3 none ∈ wA := wA4 (i := 107) rfl rfl
theorem wa_3_108 : Cond.methodLink RX9 181 yX9_turn ∈ wA := wA4 (i := 108) rfl rfl
theorem wa_3_109 : Cond.static yX9_turn ∈ wA := wA4 (i := 109) rfl rfl
theorem wa_3_110 : Cond.code yX9_turn cX9_turn 4 (some .int) ∈ wA := wA4 (i := 110) rfl rfl
theorem wa_3_111 : Cond.methodLink RX9 167 yX9_doesFault ∈ wA := wA4 (i := 111) rfl rfl
theorem wa_3_113 : Cond.instanceMethod yX9_doesFault ∈ wA := wA4 (i := 113) rfl rfl
theorem wa_3_114 : Cond.code yX9_doesFault cX9_doesFault 4 none ∈ wA := wA4 (i := 114) rfl rfl
theorem wa_3_115 : Cond.methodLink RX9 194 yX9_fails ∈ wA := wA4 (i := 115) rfl rfl
theorem wa_3_117 : Cond.instanceMethod yX9_fails ∈ wA := wA4 (i := 117) rfl rfl
theorem wa_3_118 : Cond.code yX9_fails cX9_fails 4 none ∈ wA := wA4 (i := 118) rfl rfl
theorem wa_3_119 : Cond.methodLink RX9 185 yX9_handlerOf ∈ wA := wA4 (i := 119) rfl rfl
theorem wa_3_121 : Cond.instanceMethod yX9_handlerOf ∈ wA := wA4 (i := 121) rfl rfl
theorem wa_3_122 : Cond.code yX9_handlerOf cX9_handlerOf 4 (some .int) ∈ wA := wA4 (i := 122) rfl rfl
theorem wa_3_123 : Cond.methodLink RL 40 yX9_word ∈ wA := wA4 (i := 123) rfl rfl
theorem wa_3_124 : Cond.instanceMethod yX9_word ∈ wA := wA4 (i := 124) rfl rfl
theorem wa_3_125 : Cond.selects RX9 yX9_word yX9_word ∈ wA := wA4 (i := 125) rfl rfl
theorem wa_3_126 : Cond.code yX9_word cX9_word 2 (some .int) ∈ wA := wA4 (i := 126) rfl rfl
theorem wa_3_127 : Cond.methodLink RL 45 yX9_wide ∈ wA := wA4 (i := 127) rfl rfl
theorem wa_3_128 : Cond.instanceMethod yX9_wide ∈ wA := wA4 (i := 128) rfl rfl
theorem wa_3_129 : Cond.selects RX9 yX9_wide yX9_wide ∈ wA := wA4 (i := 129) rfl rfl
theorem wa_3_130 : Cond.code yX9_wide cX9_wide 2 (some .long) ∈ wA := wA4 (i := 130) rfl rfl
theorem wa_3_131 : Cond.methodLink RL 50 yX9_single ∈ wA := wA4 (i := 131) rfl rfl
theorem wa_3_132 : Cond.instanceMethod yX9_single ∈ wA := wA4 (i := 132) rfl rfl
theorem wa_3_133 : Cond.selects RX9 yX9_single yX9_single ∈ wA := wA4 (i := 133) rfl rfl
theorem wa_3_134 : Cond.code yX9_single cX9_single 2 (some .double) ∈ wA := wA4 (i := 134) rfl rfl
theorem wa_3_135 : Cond.methodLink RL 54 yX9_real ∈ wA := wA4 (i := 135) rfl rfl
theorem wa_3_136 : Cond.instanceMethod yX9_real ∈ wA := wA4 (i := 136) rfl rfl
theorem wa_3_137 : Cond.selects RX9 yX9_real yX9_real ∈ wA := wA4 (i := 137) rfl rfl
theorem wa_3_138 : Cond.code yX9_real cX9_real 2 (some .double) ∈ wA := wA4 (i := 138) rfl rfl
theorem wa_3_139 : Cond.methodLink RL 58 yX9_kind ∈ wA := wA4 (i := 139) rfl rfl
theorem wa_3_140 : Cond.instanceMethod yX9_kind ∈ wA := wA4 (i := 140) rfl rfl
theorem wa_3_141 : Cond.selects RX9 yX9_kind yX9_kind ∈ wA := wA4 (i := 141) rfl rfl
theorem wa_3_142 : Cond.code yX9_kind cX9_kind 2 (some .int) ∈ wA := wA4 (i := 142) rfl rfl
theorem wa_3_143 : Cond.methodLink RX9 201 yX9_kindOf ∈ wA := wA4 (i := 143) rfl rfl
theorem wa_3_145 : Cond.instanceMethod yX9_kindOf ∈ wA := wA4 (i := 145) rfl rfl
theorem wa_3_146 : Cond.code yX9_kindOf cX9_kindOf 2 (some .int) ∈ wA := wA4 (i := 146) rfl rfl
theorem wa_3_147 : Cond.methodLink RL 62 yX9_size ∈ wA := wA4 (i := 147) rfl rfl
theorem wa_3_148 : Cond.instanceMethod yX9_size ∈ wA := wA4 (i := 148) rfl rfl
theorem wa_3_149 : Cond.selects RX9 yX9_size yX9_size ∈ wA := wA4 (i := 149) rfl rfl
theorem wa_3_150 : Cond.code yX9_size cX9_size 3 (some .int) ∈ wA := wA4 (i := 150) rfl rfl
theorem wa_3_151 : Cond.methodLink RX9 204 yX9_thingIn ∈ wA := wA4 (i := 151) rfl rfl
theorem wa_3_153 : Cond.instanceMethod yX9_thingIn ∈ wA := wA4 (i := 153) rfl rfl
theorem wa_3_154 : Cond.code yX9_thingIn cX9_thingIn 2 (some .int) ∈ wA := wA4 (i := 154) rfl rfl
theorem wa_3_155 : Cond.methodLink RL 67 yX9_cell ∈ wA := wA4 (i := 155) rfl rfl
theorem wa_3_156 : Cond.instanceMethod yX9_cell ∈ wA := wA4 (i := 156) rfl rfl
theorem wa_3_157 : Cond.selects RX9 yX9_cell yX9_cell ∈ wA := wA4 (i := 157) rfl rfl
theorem wa_3_158 : Cond.code yX9_cell cX9_cell 5 (some .long) ∈ wA := wA4 (i := 158) rfl rfl
theorem wa_3_159 : Cond.constantLong RX9 207 (-1) ∈ wA := wA4 (i := 159) rfl rfl
theorem wa_3_160 : Cond.methodLink RL 72 yX9_point ∈ wA := wA4 (i := 160) rfl rfl
theorem wa_3_161 : Cond.instanceMethod yX9_point ∈ wA := wA4 (i := 161) rfl rfl
theorem wa_3_162 : Cond.selects RX9 yX9_point yX9_point ∈ wA := wA4 (i := 162) rfl rfl
theorem wa_3_163 : Cond.code yX9_point cX9_point 5 (some .double) ∈ wA := wA4 (i := 163) rfl rfl
theorem wa_3_164 : Cond.methodLink RL 76 yX9_field ∈ wA := wA4 (i := 164) rfl rfl
theorem wa_3_165 : Cond.instanceMethod yX9_field ∈ wA := wA4 (i := 165) rfl rfl
theorem wa_3_166 : Cond.selects RX9 yX9_field yX9_field ∈ wA := wA4 (i := 166) rfl rfl
theorem wa_3_167 : Cond.code yX9_field cX9_field 4 (some .long) ∈ wA := wA4 (i := 167) rfl rfl
theorem wa_3_168 : Cond.methodLink RL 81 yX9_same ∈ wA := wA4 (i := 168) rfl rfl
theorem wa_3_169 : Cond.instanceMethod yX9_same ∈ wA := wA4 (i := 169) rfl rfl
theorem wa_3_170 : Cond.selects RX9 yX9_same yX9_same ∈ wA := wA4 (i := 170) rfl rfl
theorem wa_3_171 : Cond.code yX9_same cX9_same 3 (some .boolean) ∈ wA := wA4 (i := 171) rfl rfl
theorem wa_3_172 : Cond.methodLink RL 85 yX9_told ∈ wA := wA4 (i := 172) rfl rfl
theorem wa_3_173 : Cond.instanceMethod yX9_told ∈ wA := wA4 (i := 173) rfl rfl
theorem wa_3_174 : Cond.selects RX9 yX9_told yX9_told ∈ wA := wA4 (i := 174) rfl rfl
theorem wa_3_175 : Cond.code yX9_told cX9_told 2 (some .int) ∈ wA := wA4 (i := 175) rfl rfl
theorem wa_3_176 : Cond.methodLink RL 89 yX9_state ∈ wA := wA4 (i := 176) rfl rfl
theorem wa_3_177 : Cond.instanceMethod yX9_state ∈ wA := wA4 (i := 177) rfl rfl
theorem wa_3_178 : Cond.selects RX9 yX9_state yX9_state ∈ wA := wA4 (i := 178) rfl rfl
theorem wa_3_179 : Cond.code yX9_state cX9_state 2 (some .int) ∈ wA := wA4 (i := 179) rfl rfl
theorem wp_1_0 : Cond.selects RX4 yX4_goTo yX4_goTo ∈ wA := wAp (List.mem_append_left _ (List.mem_of_getElem? (l := lw_privs_1) (i := 0) rfl)) rfl rfl rfl
theorem wp_1_1 : Cond.selects RX4 yX4_perform yX4_perform ∈ wA := wAp (List.mem_append_left _ (List.mem_of_getElem? (l := lw_privs_1) (i := 1) rfl)) rfl rfl rfl
theorem wp_1_2 : Cond.selects RX2 yX2_reckonWhole yX2_reckonWhole ∈ wA := wAp (List.mem_append_left _ (List.mem_of_getElem? (l := lw_privs_1) (i := 2) rfl)) rfl rfl rfl
theorem wp_1_3 : Cond.selects RX2 yX2_divideWords yX2_divideWords ∈ wA := wAp (List.mem_append_left _ (List.mem_of_getElem? (l := lw_privs_1) (i := 3) rfl)) rfl rfl rfl
theorem wp_1_4 : Cond.selects RX2 yX2_divideLongs yX2_divideLongs ∈ wA := wAp (List.mem_append_left _ (List.mem_of_getElem? (l := lw_privs_1) (i := 4) rfl)) rfl rfl rfl
theorem wp_1_5 : Cond.selects RX2 yX2_reckonBroken yX2_reckonBroken ∈ wA := wAp (List.mem_append_left _ (List.mem_of_getElem? (l := lw_privs_1) (i := 5) rfl)) rfl rfl rfl
theorem wp_1_6 : Cond.selects RX2 yX2_restOfSingles yX2_restOfSingles ∈ wA := wAp (List.mem_append_left _ (List.mem_of_getElem? (l := lw_privs_1) (i := 6) rfl)) rfl rfl rfl
theorem wp_1_7 : Cond.selects RX2 yX2_restOfDoubles yX2_restOfDoubles ∈ wA := wAp (List.mem_append_left _ (List.mem_of_getElem? (l := lw_privs_1) (i := 7) rfl)) rfl rfl rfl
theorem wp_1_8 : Cond.selects RX4 yX4_callPlace yX4_callPlace ∈ wA := wAp (List.mem_append_left _ (List.mem_of_getElem? (l := lw_privs_1) (i := 8) rfl)) rfl rfl rfl
theorem wp_1_9 : Cond.selects RX4 yX4_comeBack yX4_comeBack ∈ wA := wAp (List.mem_append_left _ (List.mem_of_getElem? (l := lw_privs_1) (i := 9) rfl)) rfl rfl rfl
theorem wp_1_10 : Cond.selects RX4 yX4_dropCall yX4_dropCall ∈ wA := wAp (List.mem_append_left _ (List.mem_of_getElem? (l := lw_privs_1) (i := 10) rfl)) rfl rfl rfl
theorem wp_1_11 : Cond.selects RX4 yX4_tell yX4_tell ∈ wA := wAp (List.mem_append_left _ (List.mem_of_getElem? (l := lw_privs_1) (i := 11) rfl)) rfl rfl rfl
theorem wp_1_12 : Cond.selects RX7 yX7_getFromRow yX7_getFromRow ∈ wA := wAp (List.mem_append_left _ (List.mem_of_getElem? (l := lw_privs_1) (i := 12) rfl)) rfl rfl rfl
theorem wp_1_13 : Cond.selects RX7 yX7_putIntoRow yX7_putIntoRow ∈ wA := wAp (List.mem_append_left _ (List.mem_of_getElem? (l := lw_privs_1) (i := 13) rfl)) rfl rfl rfl
theorem wp_1_14 : Cond.selects RX7 yX7_useKnot yX7_useKnot ∈ wA := wAp (List.mem_append_left _ (List.mem_of_getElem? (l := lw_privs_1) (i := 14) rfl)) rfl rfl rfl
theorem wp_1_15 : Cond.selects RX7 yX7_makeRow yX7_makeRow ∈ wA := wAp (List.mem_append_left _ (List.mem_of_getElem? (l := lw_privs_1) (i := 15) rfl)) rfl rfl rfl
theorem wp_2_0 : Cond.selects RX7 yX7_hasRoom yX7_hasRoom ∈ wA := wAp (List.mem_append_right _ (List.mem_append_left _ (List.mem_of_getElem? (l := lw_privs_2) (i := 0) rfl))) rfl rfl rfl
theorem wp_2_1 : Cond.selects RX7 yX7_makeGrid yX7_makeGrid ∈ wA := wAp (List.mem_append_right _ (List.mem_append_left _ (List.mem_of_getElem? (l := lw_privs_2) (i := 1) rfl))) rfl rfl rfl
theorem wp_2_2 : Cond.selects RX7 yX7_makeKnot yX7_makeKnot ∈ wA := wAp (List.mem_append_right _ (List.mem_append_left _ (List.mem_of_getElem? (l := lw_privs_2) (i := 2) rfl))) rfl rfl rfl
theorem wp_2_3 : Cond.selects RX7 yX7_makeFault yX7_makeFault ∈ wA := wAp (List.mem_append_right _ (List.mem_append_left _ (List.mem_of_getElem? (l := lw_privs_2) (i := 3) rfl))) rfl rfl rfl
theorem wp_2_4 : Cond.selects RX7 yX7_useFault yX7_useFault ∈ wA := wAp (List.mem_append_right _ (List.mem_append_left _ (List.mem_of_getElem? (l := lw_privs_2) (i := 4) rfl))) rfl rfl rfl
theorem wp_2_5 : Cond.selects RX7 yX7_lookAtThing yX7_lookAtThing ∈ wA := wAp (List.mem_append_right _ (List.mem_append_left _ (List.mem_of_getElem? (l := lw_privs_2) (i := 5) rfl))) rfl rfl rfl
theorem wp_2_6 : Cond.selects RX7 yX7_countPlaces yX7_countPlaces ∈ wA := wAp (List.mem_append_right _ (List.mem_append_left _ (List.mem_of_getElem? (l := lw_privs_2) (i := 6) rfl))) rfl rfl rfl
theorem wp_2_7 : Cond.selects RX4 yX4_fail yX4_fail ∈ wA := wAp (List.mem_append_right _ (List.mem_append_left _ (List.mem_of_getElem? (l := lw_privs_2) (i := 7) rfl))) rfl rfl rfl
theorem wp_2_8 : Cond.selects RX9 yX9_one yX9_one ∈ wA := wAp (List.mem_append_right _ (List.mem_append_left _ (List.mem_of_getElem? (l := lw_privs_2) (i := 8) rfl))) rfl rfl rfl
theorem wp_2_9 : Cond.selects RX9 yX9_whyNot yX9_whyNot ∈ wA := wAp (List.mem_append_right _ (List.mem_append_left _ (List.mem_of_getElem? (l := lw_privs_2) (i := 9) rfl))) rfl rfl rfl
theorem wp_2_10 : Cond.selects RX9 yX9_whyNotThing yX9_whyNotThing ∈ wA := wAp (List.mem_append_right _ (List.mem_append_left _ (List.mem_of_getElem? (l := lw_privs_2) (i := 10) rfl))) rfl rfl rfl
theorem wp_2_11 : Cond.selects RX9 yX9_whyNotPlace yX9_whyNotPlace ∈ wA := wAp (List.mem_append_right _ (List.mem_append_left _ (List.mem_of_getElem? (l := lw_privs_2) (i := 11) rfl))) rfl rfl rfl
theorem wp_2_12 : Cond.selects RX9 yX9_isWrong yX9_isWrong ∈ wA := wAp (List.mem_append_right _ (List.mem_append_left _ (List.mem_of_getElem? (l := lw_privs_2) (i := 12) rfl))) rfl rfl rfl
theorem wp_2_13 : Cond.selects RX9 yX9_does yX9_does ∈ wA := wAp (List.mem_append_right _ (List.mem_append_left _ (List.mem_of_getElem? (l := lw_privs_2) (i := 13) rfl))) rfl rfl rfl
theorem wp_2_14 : Cond.selects RX9 yX9_doesWhole yX9_doesWhole ∈ wA := wAp (List.mem_append_right _ (List.mem_append_left _ (List.mem_of_getElem? (l := lw_privs_2) (i := 14) rfl))) rfl rfl rfl
theorem wp_2_15 : Cond.selects RX9 yX9_doesPoint yX9_doesPoint ∈ wA := wAp (List.mem_append_right _ (List.mem_append_left _ (List.mem_of_getElem? (l := lw_privs_2) (i := 15) rfl))) rfl rfl rfl
theorem wp_3_0 : Cond.selects RX9 yX9_doesWay yX9_doesWay ∈ wA := wAp (List.mem_append_right _ (List.mem_append_right _ (List.mem_of_getElem? (l := lw_privs_3) (i := 0) rfl))) rfl rfl rfl
theorem wp_3_1 : Cond.selects RX9 yX9_doesThing yX9_doesThing ∈ wA := wAp (List.mem_append_right _ (List.mem_append_right _ (List.mem_of_getElem? (l := lw_privs_3) (i := 1) rfl))) rfl rfl rfl
theorem wp_3_2 : Cond.selects RX9 yX9_make yX9_make ∈ wA := wAp (List.mem_append_right _ (List.mem_append_right _ (List.mem_of_getElem? (l := lw_privs_3) (i := 2) rfl))) rfl rfl rfl
theorem wp_3_3 : Cond.selects RX9 yX9_gets yX9_gets ∈ wA := wAp (List.mem_append_right _ (List.mem_append_right _ (List.mem_of_getElem? (l := lw_privs_3) (i := 3) rfl))) rfl rfl rfl
theorem wp_3_4 : Cond.selects RX9 yX9_puts yX9_puts ∈ wA := wAp (List.mem_append_right _ (List.mem_append_right _ (List.mem_of_getElem? (l := lw_privs_3) (i := 4) rfl))) rfl rfl rfl
theorem wp_3_5 : Cond.selects RX9 yX9_doesKnot yX9_doesKnot ∈ wA := wAp (List.mem_append_right _ (List.mem_append_right _ (List.mem_of_getElem? (l := lw_privs_3) (i := 5) rfl))) rfl rfl rfl
theorem wp_3_6 : Cond.selects RX9 yX9_doesFault yX9_doesFault ∈ wA := wAp (List.mem_append_right _ (List.mem_append_right _ (List.mem_of_getElem? (l := lw_privs_3) (i := 6) rfl))) rfl rfl rfl
theorem wp_3_7 : Cond.selects RX9 yX9_fails yX9_fails ∈ wA := wAp (List.mem_append_right _ (List.mem_append_right _ (List.mem_of_getElem? (l := lw_privs_3) (i := 7) rfl))) rfl rfl rfl
theorem wp_3_8 : Cond.selects RX9 yX9_handlerOf yX9_handlerOf ∈ wA := wAp (List.mem_append_right _ (List.mem_append_right _ (List.mem_of_getElem? (l := lw_privs_3) (i := 8) rfl))) rfl rfl rfl
theorem wp_3_9 : Cond.selects RX9 yX9_kindOf yX9_kindOf ∈ wA := wAp (List.mem_append_right _ (List.mem_append_right _ (List.mem_of_getElem? (l := lw_privs_3) (i := 9) rfl))) rfl rfl rfl
theorem wp_3_10 : Cond.selects RX9 yX9_thingIn yX9_thingIn ∈ wA := wAp (List.mem_append_right _ (List.mem_append_right _ (List.mem_of_getElem? (l := lw_privs_3) (i := 10) rfl))) rfl rfl rfl
def wsX0_init : List Cond := Cond.code yX0_init cX0_init 5 none :: wA
def wsX0_names : List Cond := Cond.code yX0_names cX0_names 3 (some .boolean) :: wA
def wsX1_init : List Cond := Cond.code yX1_init cX1_init 1 none :: wA
def wsX1_addStep : List Cond := Cond.code yX1_addStep cX1_addStep 2 (some .int) :: wA
def wsX1_addHandler : List Cond := Cond.code yX1_addHandler cX1_addHandler 2 (some .int) :: wA
def wsX1_forget : List Cond := Cond.code yX1_forget cX1_forget 1 none :: wA
def wsX1_getStep : List Cond := Cond.code yX1_getStep cX1_getStep 2 (some (.object "FaultLoom$Step")) :: wA
def wsX1_seekHandler : List Cond := Cond.code yX1_seekHandler cX1_seekHandler 5 (some .int) :: wA
def wsX2_init : List Cond := Cond.code yX2_init cX2_init 2 none :: wA
def wsX3_getWord : List Cond := Cond.code yX3_getWord cX3_getWord 2 (some .int) :: wA
def wsX3_getLong : List Cond := Cond.code yX3_getLong cX3_getLong 2 (some .long) :: wA
def wsX3_setWord : List Cond := Cond.code yX3_setWord cX3_setWord 3 none :: wA
def wsX3_setLong : List Cond := Cond.code yX3_setLong cX3_setLong 4 none :: wA
def wsX2_divideWords : List Cond := Cond.code yX2_divideWords cX2_divideWords 4 (some .int) :: wA
def wsX2_divideLongs : List Cond := Cond.code yX2_divideLongs cX2_divideLongs 6 (some .int) :: wA
def wsX2_reckonWhole : List Cond := Cond.code yX2_reckonWhole cX2_reckonWhole 8 (some .int) :: wA
def wsX3_getSingle : List Cond := Cond.code yX3_getSingle cX3_getSingle 2 (some .float) :: wA
def wsX3_getDouble : List Cond := Cond.code yX3_getDouble cX3_getDouble 2 (some .double) :: wA
def wsX3_setSingle : List Cond := Cond.code yX3_setSingle cX3_setSingle 3 none :: wA
def wsX3_setDouble : List Cond := Cond.code yX3_setDouble cX3_setDouble 4 none :: wA
def wsX2_restOf : List Cond := Cond.code yX2_restOf cX2_restOf 10 (some .double) :: wA
def wsX2_restOfSingles : List Cond := Cond.code yX2_restOfSingles cX2_restOfSingles 4 (some .int) :: wA
def wsX2_restOfDoubles : List Cond := Cond.code yX2_restOfDoubles cX2_restOfDoubles 6 (some .int) :: wA
def wsX2_reckonBroken : List Cond := Cond.code yX2_reckonBroken cX2_reckonBroken 5 (some .int) :: wA
def wsX2_reckon : List Cond := Cond.code yX2_reckon cX2_reckon 2 (some .int) :: wA
def wsX3_init : List Cond := Cond.code yX3_init cX3_init 1 none :: wA
def wsX3_setThing : List Cond := Cond.code yX3_setThing cX3_setThing 3 none :: wA
def wsX3_reset : List Cond := Cond.code yX3_reset cX3_reset 2 none :: wA
def wsX3_hasThing : List Cond := Cond.code yX3_hasThing cX3_hasThing 2 (some .boolean) :: wA
def wsX3_getThing : List Cond := Cond.code yX3_getThing cX3_getThing 2 (some (.object "FaultLoom$Thing")) :: wA
def wsX7_init : List Cond := Cond.code yX7_init cX7_init 2 none :: wA
def wsX4_init : List Cond := Cond.code yX4_init cX4_init 3 none :: wA
def wsX4_goTo : List Cond := Cond.code yX4_goTo cX4_goTo 2 none :: wA
def wsX4_begin : List Cond := Cond.code yX4_begin cX4_begin 1 none :: wA
def wsX4_giveUp : List Cond := Cond.code yX4_giveUp cX4_giveUp 1 none :: wA
def wsX4_callPlace : List Cond := Cond.code yX4_callPlace cX4_callPlace 2 (some .int) :: wA
def wsX4_dropCall : List Cond := Cond.code yX4_dropCall cX4_dropCall 1 (some .int) :: wA
def wsX4_comeBack : List Cond := Cond.code yX4_comeBack cX4_comeBack 1 none :: wA
def wsX6_isOf : List Cond := Cond.code yX6_isOf cX6_isOf 2 (some .boolean) :: wA
def wsX4_throwFault : List Cond := Cond.code yX4_throwFault cX4_throwFault 1 (some .int) :: wA
def wsX4_tell : List Cond := Cond.code yX4_tell cX4_tell 2 none :: wA
def wsX7_rowKind : List Cond := Cond.code yX7_rowKind cX7_rowKind 1 (some .int) :: wA
def wsX8_misfits : List Cond := Cond.code yX8_misfits cX8_misfits 2 (some .boolean) :: wA
def wsX6_hasPlace : List Cond := Cond.code yX6_hasPlace cX6_hasPlace 2 (some .boolean) :: wA
def wsX6_getNumber : List Cond := Cond.code yX6_getNumber cX6_getNumber 2 (some .long) :: wA
def wsX6_getPoint : List Cond := Cond.code yX6_getPoint cX6_getPoint 2 (some .double) :: wA
def wsX6_getMember : List Cond := Cond.code yX6_getMember cX6_getMember 2 (some (.object "FaultLoom$Thing")) :: wA
def wsX7_getFromRow : List Cond := Cond.code yX7_getFromRow cX7_getFromRow 5 (some .int) :: wA
def wsX7_narrow : List Cond := Cond.code yX7_narrow cX7_narrow 2 (some .int) :: wA
def wsX6_setNumber : List Cond := Cond.code yX6_setNumber cX6_setNumber 4 none :: wA
def wsX6_setPoint : List Cond := Cond.code yX6_setPoint cX6_setPoint 4 none :: wA
def wsX6_setMember : List Cond := Cond.code yX6_setMember cX6_setMember 3 none :: wA
def wsX7_putIntoRow : List Cond := Cond.code yX7_putIntoRow cX7_putIntoRow 6 (some .int) :: wA
def wsX6_turn : List Cond := Cond.code yX6_turn cX6_turn 2 (some .int) :: wA
def wsX7_useKnot : List Cond := Cond.code yX7_useKnot cX7_useKnot 3 (some .int) :: wA
def wsX7_hasRoom : List Cond := Cond.code yX7_hasRoom cX7_hasRoom 2 (some .boolean) :: wA
def wsX6_init : List Cond := Cond.code yX6_init cX6_init 3 none :: wA
def wsX7_makeRow : List Cond := Cond.code yX7_makeRow cX7_makeRow 3 (some .int) :: wA
def wsX7_makeGrid : List Cond := Cond.code yX7_makeGrid cX7_makeGrid 6 (some .int) :: wA
def wsX7_makeKnot : List Cond := Cond.code yX7_makeKnot cX7_makeKnot 3 (some .int) :: wA
def wsX7_makeFault : List Cond := Cond.code yX7_makeFault cX7_makeFault 4 (some .int) :: wA
def wsX7_useFault : List Cond := Cond.code yX7_useFault cX7_useFault 3 (some .int) :: wA
def wsX6_isRow : List Cond := Cond.code yX6_isRow cX6_isRow 1 (some .boolean) :: wA
def wsX7_countPlaces : List Cond := Cond.code yX7_countPlaces cX7_countPlaces 3 (some .int) :: wA
def wsX7_lookAtThing : List Cond := Cond.code yX7_lookAtThing cX7_lookAtThing 3 (some .int) :: wA
def wsX7_weave : List Cond := Cond.code yX7_weave cX7_weave 2 (some .int) :: wA
def wsX4_perform : List Cond := Cond.code yX4_perform cX4_perform 2 (some .int) :: wA
def wsX4_fail : List Cond := Cond.code yX4_fail cX4_fail 5 none :: wA
def wsX4_doStep : List Cond := Cond.code yX4_doStep cX4_doStep 3 none :: wA
def wsX4_getTold : List Cond := Cond.code yX4_getTold cX4_getTold 2 (some .int) :: wA
def wsX4_report : List Cond := Cond.code yX4_report cX4_report 2 (some .int) :: wA
def wsX5_init : List Cond := Cond.code yX5_init cX5_init 5 none :: wA
def wsX8_init : List Cond := Cond.code yX8_init cX8_init 1 none :: wA
def wsX8_isPlace : List Cond := Cond.code yX8_isPlace cX8_isPlace 1 (some .boolean) :: wA
def wsX8_isNamed : List Cond := Cond.code yX8_isNamed cX8_isNamed 2 (some .boolean) :: wA
def wsX8_fitsShape : List Cond := Cond.code yX8_fitsShape cX8_fitsShape 5 (some .boolean) :: wA
def wsX8_put : List Cond := Cond.code yX8_put cX8_put 5 (some .int) :: wA
def wsX8_handler : List Cond := Cond.code yX8_handler cX8_handler 5 (some .int) :: wA
def wsX8_clear : List Cond := Cond.code yX8_clear cX8_clear 2 (some .int) :: wA
def wsX8_start : List Cond := Cond.code yX8_start cX8_start 1 (some .boolean) :: wA
def wsX8_step : List Cond := Cond.code yX8_step cX8_step 3 (some .int) :: wA
def wsX8_word : List Cond := Cond.code yX8_word cX8_word 2 (some .int) :: wA
def wsX8_wide : List Cond := Cond.code yX8_wide cX8_wide 2 (some .long) :: wA
def wsX8_single : List Cond := Cond.code yX8_single cX8_single 2 (some .double) :: wA
def wsX8_real : List Cond := Cond.code yX8_real cX8_real 2 (some .double) :: wA
def wsX8_kindOf : List Cond := Cond.code yX8_kindOf cX8_kindOf 1 (some .int) :: wA
def wsX8_kind : List Cond := Cond.code yX8_kind cX8_kind 2 (some .int) :: wA
def wsX8_placesOf : List Cond := Cond.code yX8_placesOf cX8_placesOf 1 (some .int) :: wA
def wsX8_size : List Cond := Cond.code yX8_size cX8_size 2 (some .int) :: wA
def wsX8_cell : List Cond := Cond.code yX8_cell cX8_cell 4 (some .long) :: wA
def wsX8_point : List Cond := Cond.code yX8_point cX8_point 4 (some .double) :: wA
def wsX8_field : List Cond := Cond.code yX8_field cX8_field 4 (some .long) :: wA
def wsX8_same : List Cond := Cond.code yX8_same cX8_same 4 (some .boolean) :: wA
def wsX8_told : List Cond := Cond.code yX8_told cX8_told 2 (some .int) :: wA
def wsX8_state : List Cond := Cond.code yX8_state cX8_state 2 (some .int) :: wA
def wsX9_init : List Cond := Cond.code yX9_init cX9_init 1 none :: wA
def wsX9_isIn : List Cond := Cond.code yX9_isIn cX9_isIn 3 (some .boolean) :: wA
def wsX9_names : List Cond := Cond.code yX9_names cX9_names 6 (some .int) :: wA
def wsX9_isTold : List Cond := Cond.code yX9_isTold cX9_isTold 2 (some .boolean) :: wA
def wsX9_put : List Cond := Cond.code yX9_put cX9_put 5 (some .int) :: wA
def wsX9_handler : List Cond := Cond.code yX9_handler cX9_handler 5 (some .int) :: wA
def wsX9_clear : List Cond := Cond.code yX9_clear cX9_clear 2 (some .int) :: wA
def wsX9_start : List Cond := Cond.code yX9_start cX9_start 2 (some .boolean) :: wA
def wsX9_isRow : List Cond := Cond.code yX9_isRow cX9_isRow 1 (some .boolean) :: wA
def wsX9_isKnot : List Cond := Cond.code yX9_isKnot cX9_isKnot 1 (some .boolean) :: wA
def wsX9_isOf : List Cond := Cond.code yX9_isOf cX9_isOf 2 (some .boolean) :: wA
def wsX9_isWrong : List Cond := Cond.code yX9_isWrong cX9_isWrong 3 (some .boolean) :: wA
def wsX9_whyNotPlace : List Cond := Cond.code yX9_whyNotPlace cX9_whyNotPlace 7 (some .int) :: wA
def wsX9_whyNotThing : List Cond := Cond.code yX9_whyNotThing cX9_whyNotThing 2 (some .int) :: wA
def wsX9_whyNot : List Cond := Cond.code yX9_whyNot cX9_whyNot 4 (some .int) :: wA
def wsX9_doesWhole : List Cond := Cond.code yX9_doesWhole cX9_doesWhole 2 none :: wA
def wsX9_doesPoint : List Cond := Cond.code yX9_doesPoint cX9_doesPoint 2 none :: wA
def wsX9_doesWay : List Cond := Cond.code yX9_doesWay cX9_doesWay 2 none :: wA
def wsX9_make : List Cond := Cond.code yX9_make cX9_make 4 (some .int) :: wA
def wsX9_doesThing : List Cond := Cond.code yX9_doesThing cX9_doesThing 7 none :: wA
def wsX9_gets : List Cond := Cond.code yX9_gets cX9_gets 3 none :: wA
def wsX9_puts : List Cond := Cond.code yX9_puts cX9_puts 3 none :: wA
def wsX9_turn : List Cond := Cond.code yX9_turn cX9_turn 4 (some .int) :: wA
def wsX9_doesKnot : List Cond := Cond.code yX9_doesKnot cX9_doesKnot 3 none :: wA
def wsX9_doesFault : List Cond := Cond.code yX9_doesFault cX9_doesFault 4 none :: wA
def wsX9_does : List Cond := Cond.code yX9_does cX9_does 2 none :: wA
def wsX9_handlerOf : List Cond := Cond.code yX9_handlerOf cX9_handlerOf 4 (some .int) :: wA
def wsX9_fails : List Cond := Cond.code yX9_fails cX9_fails 4 none :: wA
def wsX9_one : List Cond := Cond.code yX9_one cX9_one 3 none :: wA
def wsX9_step : List Cond := Cond.code yX9_step cX9_step 3 (some .int) :: wA
def wsX9_word : List Cond := Cond.code yX9_word cX9_word 2 (some .int) :: wA
def wsX9_wide : List Cond := Cond.code yX9_wide cX9_wide 2 (some .long) :: wA
def wsX9_single : List Cond := Cond.code yX9_single cX9_single 2 (some .double) :: wA
def wsX9_real : List Cond := Cond.code yX9_real cX9_real 2 (some .double) :: wA
def wsX9_thingIn : List Cond := Cond.code yX9_thingIn cX9_thingIn 2 (some .int) :: wA
def wsX9_kindOf : List Cond := Cond.code yX9_kindOf cX9_kindOf 2 (some .int) :: wA
def wsX9_kind : List Cond := Cond.code yX9_kind cX9_kind 2 (some .int) :: wA
def wsX9_size : List Cond := Cond.code yX9_size cX9_size 3 (some .int) :: wA
def wsX9_cell : List Cond := Cond.code yX9_cell cX9_cell 5 (some .long) :: wA
def wsX9_point : List Cond := Cond.code yX9_point cX9_point 5 (some .double) :: wA
def wsX9_field : List Cond := Cond.code yX9_field cX9_field 4 (some .long) :: wA
def wsX9_same : List Cond := Cond.code yX9_same cX9_same 3 (some .boolean) :: wA
def wsX9_told : List Cond := Cond.code yX9_told cX9_told 2 (some .int) :: wA
def wsX9_state : List Cond := Cond.code yX9_state cX9_state 2 (some .int) :: wA
theorem inA0 : ∀ w ∈ wsX00, w ∈ wA := by
  intro w h
  obtain ⟨k, hk, rfl⟩ := List.mem_map.mp h
  have hk := List.mem_range.mp hk
  match k, hk with
  | 0, _ => exact wa_0_231
  | 1, _ => exact wa_0_233
  | 2, _ => exact wa_0_235
  | 3, _ => exact wa_0_237
  | k + 4, hk => exact absurd hk (by omega)
theorem inA1 : ∀ w ∈ wsX10, w ∈ wA := by
  intro w h
  obtain ⟨k, hk, rfl⟩ := List.mem_map.mp h
  have hk := List.mem_range.mp hk
  match k, hk with
  | 0, _ => exact wa_0_35
  | 1, _ => exact wa_0_37
  | 2, _ => exact wa_0_39
  | 3, _ => exact wa_0_41
  | k + 4, hk => exact absurd hk (by omega)
theorem inA2 : ∀ w ∈ wsX20, w ∈ wA := by
  intro w h
  obtain ⟨k, hk, rfl⟩ := List.mem_map.mp h
  have hk := List.mem_range.mp hk
  match k, hk with
  | 0, _ => exact wa_0_85
  | k + 1, hk => exact absurd hk (by omega)
theorem inA3 : ∀ w ∈ wsX30, w ∈ wA := by
  intro w h
  obtain ⟨k, hk, rfl⟩ := List.mem_map.mp h
  have hk := List.mem_range.mp hk
  match k, hk with
  | 0, _ => exact wa_0_57
  | 1, _ => exact wa_0_59
  | 2, _ => exact wa_0_61
  | 3, _ => exact wa_0_63
  | 4, _ => exact wa_0_65
  | k + 5, hk => exact absurd hk (by omega)
theorem inA4 : ∀ w ∈ wsX40, w ∈ wA := by
  intro w h
  obtain ⟨k, hk, rfl⟩ := List.mem_map.mp h
  have hk := List.mem_range.mp hk
  match k, hk with
  | 0, _ => exact wa_0_120
  | 1, _ => exact wa_0_122
  | 2, _ => exact wa_0_124
  | 3, _ => exact wa_0_126
  | 4, _ => exact wa_0_128
  | 5, _ => exact wa_0_130
  | 6, _ => exact wa_0_132
  | 7, _ => exact wa_0_134
  | 8, _ => exact wa_0_136
  | 9, _ => exact wa_0_138
  | 10, _ => exact wa_0_140
  | 11, _ => exact wa_0_142
  | 12, _ => exact wa_0_144
  | 13, _ => exact wa_0_146
  | 14, _ => exact wa_0_148
  | 15, _ => exact wa_0_150
  | k + 16, hk => exact absurd hk (by omega)
theorem inA5 : ∀ w ∈ wsX50, w ∈ wA := by
  intro w h
  obtain ⟨k, hk, rfl⟩ := List.mem_map.mp h
  have hk := List.mem_range.mp hk
  match k, hk with
  | 0, _ => exact wa_0_203
  | 1, _ => exact wa_0_205
  | 2, _ => exact wa_0_207
  | 3, _ => exact wa_0_209
  | k + 4, hk => exact absurd hk (by omega)
theorem inA6 : ∀ w ∈ wsX60, w ∈ wA := by
  intro w h
  obtain ⟨k, hk, rfl⟩ := List.mem_map.mp h
  have hk := List.mem_range.mp hk
  match k, hk with
  | 0, _ => exact wa_2_8
  | 1, _ => exact wa_2_10
  | 2, _ => exact wa_2_12
  | 3, _ => exact wa_2_14
  | 4, _ => exact wa_2_16
  | 5, _ => exact wa_2_18
  | 6, _ => exact wa_2_20
  | 7, _ => exact wa_2_22
  | k + 8, hk => exact absurd hk (by omega)
theorem inA7 : ∀ w ∈ wsX70, w ∈ wA := by
  intro w h
  obtain ⟨k, hk, rfl⟩ := List.mem_map.mp h
  have hk := List.mem_range.mp hk
  match k, hk with
  | 0, _ => exact wa_0_97
  | 1, _ => exact wa_0_99
  | k + 2, hk => exact absurd hk (by omega)
theorem inA8 : ∀ w ∈ wsX80, w ∈ wA := by
  intro w h
  obtain ⟨k, hk, rfl⟩ := List.mem_map.mp h
  have hk := List.mem_range.mp hk
  match k, hk with
  | 0, _ => exact wa_0_156
  | 1, _ => exact wa_0_158
  | 2, _ => exact wa_0_160
  | k + 3, hk => exact absurd hk (by omega)
theorem inA9 : ∀ w ∈ wsX90, w ∈ wA := by
  intro w h
  obtain ⟨k, hk, rfl⟩ := List.mem_map.mp h
  have hk := List.mem_range.mp hk
  match k, hk with
  | 0, _ => exact wa_2_182
  | 1, _ => exact wa_2_184
  | 2, _ => exact wa_2_186
  | 3, _ => exact wa_2_188
  | 4, _ => exact wa_2_190
  | 5, _ => exact wa_2_192
  | 6, _ => exact wa_2_194
  | 7, _ => exact wa_2_196
  | 8, _ => exact wa_2_198
  | 9, _ => exact wa_2_200
  | 10, _ => exact wa_2_202
  | 11, _ => exact wa_2_204
  | 12, _ => exact wa_2_206
  | 13, _ => exact wa_2_208
  | 14, _ => exact wa_2_210
  | 15, _ => exact wa_2_212
  | 16, _ => exact wa_2_214
  | 17, _ => exact wa_2_216
  | 18, _ => exact wa_2_218
  | 19, _ => exact wa_2_220
  | 20, _ => exact wa_2_222
  | 21, _ => exact wa_2_224
  | 22, _ => exact wa_2_226
  | 23, _ => exact wa_2_228
  | 24, _ => exact wa_2_230
  | 25, _ => exact wa_2_232
  | 26, _ => exact wa_2_234
  | 27, _ => exact wa_2_236
  | 28, _ => exact wa_2_238
  | 29, _ => exact wa_3_0
  | 30, _ => exact wa_3_2
  | 31, _ => exact wa_3_4
  | 32, _ => exact wa_3_6
  | 33, _ => exact wa_3_8
  | k + 34, hk => exact absurd hk (by omega)
