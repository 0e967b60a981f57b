theorem lk_X0_init_1 : Cond.methodLink RX0 1 objectInit ∈ wsX0_init := List.mem_cons_of_mem _ wa_0_225
theorem lki_X0_init_1 : Cond.instanceMethod objectInit ∈ wsX0_init := List.mem_cons_of_mem _ wa_0_17
theorem lkc_X0_init_1 : Cond.code objectInit ⟨#[0xb1]⟩ 1 none ∈ wsX0_init := List.mem_cons_of_mem _ wa_0_18
theorem lk_X0_init_7 : Cond.fieldLink RX0 7 "FaultLoom$Handler" "from" "I" ∈ wsX0_init := List.mem_cons_of_mem _ wa_0_226
theorem lk_X0_init_13 : Cond.fieldLink RX0 13 "FaultLoom$Handler" "to" "I" ∈ wsX0_init := List.mem_cons_of_mem _ wa_0_227
theorem lk_X0_init_16 : Cond.fieldLink RX0 16 "FaultLoom$Handler" "mask" "I" ∈ wsX0_init := List.mem_cons_of_mem _ wa_0_228
theorem lk_X0_init_19 : Cond.fieldLink RX0 19 "FaultLoom$Handler" "at" "I" ∈ wsX0_init := List.mem_cons_of_mem _ wa_0_229
theorem in_X0_init_0 : ∀ w ∈ wsX00, w ∈ wsX0_init := fun w h => List.mem_cons_of_mem _ (inA0 w h)
theorem lk_X0_names_7 : Cond.fieldLink RX0 7 "FaultLoom$Handler" "from" "I" ∈ wsX0_names := List.mem_cons_of_mem _ wa_0_226
theorem lk_X0_names_13 : Cond.fieldLink RX0 13 "FaultLoom$Handler" "to" "I" ∈ wsX0_names := List.mem_cons_of_mem _ wa_0_227
theorem lk_X0_names_16 : Cond.fieldLink RX0 16 "FaultLoom$Handler" "mask" "I" ∈ wsX0_names := List.mem_cons_of_mem _ wa_0_228
theorem in_X0_names_0 : ∀ w ∈ wsX00, w ∈ wsX0_names := fun w h => List.mem_cons_of_mem _ (inA0 w h)
theorem lk_X1_init_3 : Cond.methodLink RX1 3 objectInit ∈ wsX1_init := List.mem_cons_of_mem _ wa_0_24
theorem lki_X1_init_3 : Cond.instanceMethod objectInit ∈ wsX1_init := List.mem_cons_of_mem _ wa_0_17
theorem lkc_X1_init_3 : Cond.code objectInit ⟨#[0xb1]⟩ 1 none ∈ wsX1_init := List.mem_cons_of_mem _ wa_0_18
theorem lk_X1_init_9 : Cond.classLink RX1 9 RX5 ∈ wsX1_init := List.mem_cons_of_mem _ wa_0_25
theorem lk_X1_init_11 : Cond.fieldLink RX1 11 "FaultLoom$Program" "steps" "[LFaultLoom$Step;" ∈ wsX1_init := List.mem_cons_of_mem _ wa_0_29
theorem lk_X1_init_17 : Cond.classLink RX1 17 RX0 ∈ wsX1_init := List.mem_cons_of_mem _ wa_0_27
theorem lk_X1_init_19 : Cond.fieldLink RX1 19 "FaultLoom$Program" "handlers" "[LFaultLoom$Handler;" ∈ wsX1_init := List.mem_cons_of_mem _ wa_0_30
theorem in_X1_init_1 : ∀ w ∈ wsX10, w ∈ wsX1_init := fun w h => List.mem_cons_of_mem _ (inA1 w h)
theorem lk_X1_addStep_23 : Cond.fieldLink RX1 23 "FaultLoom$Program" "stepCount" "I" ∈ wsX1_addStep := List.mem_cons_of_mem _ wa_0_31
theorem lk_X1_addStep_11 : Cond.fieldLink RX1 11 "FaultLoom$Program" "steps" "[LFaultLoom$Step;" ∈ wsX1_addStep := List.mem_cons_of_mem _ wa_0_29
theorem in_X1_addStep_1 : ∀ w ∈ wsX10, w ∈ wsX1_addStep := fun w h => List.mem_cons_of_mem _ (inA1 w h)
theorem lk_X1_addHandler_27 : Cond.fieldLink RX1 27 "FaultLoom$Program" "handlerCount" "I" ∈ wsX1_addHandler := List.mem_cons_of_mem _ wa_0_33
theorem lk_X1_addHandler_19 : Cond.fieldLink RX1 19 "FaultLoom$Program" "handlers" "[LFaultLoom$Handler;" ∈ wsX1_addHandler := List.mem_cons_of_mem _ wa_0_30
theorem in_X1_addHandler_1 : ∀ w ∈ wsX10, w ∈ wsX1_addHandler := fun w h => List.mem_cons_of_mem _ (inA1 w h)
theorem lk_X1_forget_23 : Cond.fieldLink RX1 23 "FaultLoom$Program" "stepCount" "I" ∈ wsX1_forget := List.mem_cons_of_mem _ wa_0_31
theorem lk_X1_forget_27 : Cond.fieldLink RX1 27 "FaultLoom$Program" "handlerCount" "I" ∈ wsX1_forget := List.mem_cons_of_mem _ wa_0_33
theorem in_X1_forget_1 : ∀ w ∈ wsX10, w ∈ wsX1_forget := fun w h => List.mem_cons_of_mem _ (inA1 w h)
theorem lk_X1_getStep_23 : Cond.fieldLink RX1 23 "FaultLoom$Program" "stepCount" "I" ∈ wsX1_getStep := List.mem_cons_of_mem _ wa_0_31
theorem lk_X1_getStep_11 : Cond.fieldLink RX1 11 "FaultLoom$Program" "steps" "[LFaultLoom$Step;" ∈ wsX1_getStep := List.mem_cons_of_mem _ wa_0_29
theorem in_X1_getStep_1 : ∀ w ∈ wsX10, w ∈ wsX1_getStep := fun w h => List.mem_cons_of_mem _ (inA1 w h)
theorem lk_X1_seekHandler_27 : Cond.fieldLink RX1 27 "FaultLoom$Program" "handlerCount" "I" ∈ wsX1_seekHandler := List.mem_cons_of_mem _ wa_0_33
theorem lk_X1_seekHandler_19 : Cond.fieldLink RX1 19 "FaultLoom$Program" "handlers" "[LFaultLoom$Handler;" ∈ wsX1_seekHandler := List.mem_cons_of_mem _ wa_0_30
theorem gX1_seekHandler_X0_names : GoodIn wsX1_seekHandler (wsV RX1 30 RX0 yX0_names wsX0_names) := gVl wa_2_62 wa_2_63 wa_2_64 wa_0_9 wa_2_65
theorem lk_X1_seekHandler_34 : Cond.fieldLink RX1 34 "FaultLoom$Handler" "at" "I" ∈ wsX1_seekHandler := List.mem_cons_of_mem _ wa_0_230
theorem in_X1_seekHandler_0 : ∀ w ∈ wsX00, w ∈ wsX1_seekHandler := fun w h => List.mem_cons_of_mem _ (inA0 w h)
theorem in_X1_seekHandler_1 : ∀ w ∈ wsX10, w ∈ wsX1_seekHandler := fun w h => List.mem_cons_of_mem _ (inA1 w h)
theorem lk_X2_init_3 : Cond.methodLink RX2 3 objectInit ∈ wsX2_init := List.mem_cons_of_mem _ wa_0_83
theorem lki_X2_init_3 : Cond.instanceMethod objectInit ∈ wsX2_init := List.mem_cons_of_mem _ wa_0_17
theorem lkc_X2_init_3 : Cond.code objectInit ⟨#[0xb1]⟩ 1 none ∈ wsX2_init := List.mem_cons_of_mem _ wa_0_18
theorem lk_X2_init_9 : Cond.fieldLink RX2 9 "FaultLoom$Reckoner" "registers" "LFaultLoom$Registers;" ∈ wsX2_init := List.mem_cons_of_mem _ wa_0_84
theorem in_X2_init_2 : ∀ w ∈ wsX20, w ∈ wsX2_init := fun w h => List.mem_cons_of_mem _ (inA2 w h)
theorem lk_X2_reckon_15 : Cond.fieldLink RX2 15 "FaultLoom$Step" "op" "I" ∈ wsX2_reckon := List.mem_cons_of_mem _ wa_0_189
theorem gX2_reckon_X2_reckonWhole : GoodIn wsX2_reckon (wsV RX2 21 RX2 yX2_reckonWhole wsX2_reckonWhole) := gVl wa_1_69 wa_1_71 wp_1_2 wa_0_5 wa_1_72
theorem gX2_reckon_X2_reckonBroken : GoodIn wsX2_reckon (wsV RX2 25 RX2 yX2_reckonBroken wsX2_reckonBroken) := gVl wa_1_92 wa_1_94 wp_1_5 wa_0_5 wa_1_95
theorem in_X2_reckon_5 : ∀ w ∈ wsX50, w ∈ wsX2_reckon := fun w h => List.mem_cons_of_mem _ (inA5 w h)
theorem lk_X2_reckonWhole_9 : Cond.fieldLink RX2 9 "FaultLoom$Reckoner" "registers" "LFaultLoom$Registers;" ∈ wsX2_reckonWhole := List.mem_cons_of_mem _ wa_0_84
theorem lk_X2_reckonWhole_28 : Cond.fieldLink RX2 28 "FaultLoom$Step" "b" "I" ∈ wsX2_reckonWhole := List.mem_cons_of_mem _ wa_0_197
theorem gX2_reckonWhole_X3_getWord : GoodIn wsX2_reckonWhole (wsV RX2 31 RX3 yX3_getWord wsX3_getWord) := gVl wa_1_73 wa_1_74 wa_1_75 wa_0_3 wa_1_76
theorem lk_X2_reckonWhole_37 : Cond.fieldLink RX2 37 "FaultLoom$Step" "c" "I" ∈ wsX2_reckonWhole := List.mem_cons_of_mem _ wa_0_201
theorem gX2_reckonWhole_X3_getLong : GoodIn wsX2_reckonWhole (wsV RX2 40 RX3 yX3_getLong wsX3_getLong) := gVl wa_1_77 wa_1_78 wa_1_79 wa_0_3 wa_1_80
theorem lk_X2_reckonWhole_15 : Cond.fieldLink RX2 15 "FaultLoom$Step" "op" "I" ∈ wsX2_reckonWhole := List.mem_cons_of_mem _ wa_0_189
theorem lk_X2_reckonWhole_44 : Cond.fieldLink RX2 44 "FaultLoom$Step" "a" "I" ∈ wsX2_reckonWhole := List.mem_cons_of_mem _ wa_0_193
theorem gX2_reckonWhole_X3_setWord : GoodIn wsX2_reckonWhole (wsV RX2 47 RX3 yX3_setWord wsX3_setWord) := gVl wa_1_81 wa_1_21 wa_1_22 wa_0_3 wa_1_23
theorem lk_X2_reckonWhole_51 : Cond.constantLong RX2 51 (4294967295) ∈ wsX2_reckonWhole := List.mem_cons_of_mem _ wa_1_82
theorem gX2_reckonWhole_X3_setLong : GoodIn wsX2_reckonWhole (wsV RX2 53 RX3 yX3_setLong wsX3_setLong) := gVl wa_1_83 wa_1_29 wa_1_30 wa_0_3 wa_1_31
theorem gX2_reckonWhole_X2_divideWords : GoodIn wsX2_reckonWhole (wsV RX2 57 RX2 yX2_divideWords wsX2_divideWords) := gVl wa_1_84 wa_1_86 wp_1_3 wa_0_5 wa_1_87
theorem gX2_reckonWhole_X2_divideLongs : GoodIn wsX2_reckonWhole (wsV RX2 61 RX2 yX2_divideLongs wsX2_divideLongs) := gVl wa_1_88 wa_1_90 wp_1_4 wa_0_5 wa_1_91
theorem in_X2_reckonWhole_2 : ∀ w ∈ wsX20, w ∈ wsX2_reckonWhole := fun w h => List.mem_cons_of_mem _ (inA2 w h)
theorem in_X2_reckonWhole_5 : ∀ w ∈ wsX50, w ∈ wsX2_reckonWhole := fun w h => List.mem_cons_of_mem _ (inA5 w h)
theorem lk_X2_divideWords_9 : Cond.fieldLink RX2 9 "FaultLoom$Reckoner" "registers" "LFaultLoom$Registers;" ∈ wsX2_divideWords := List.mem_cons_of_mem _ wa_0_84
theorem lk_X2_divideWords_44 : Cond.fieldLink RX2 44 "FaultLoom$Step" "a" "I" ∈ wsX2_divideWords := List.mem_cons_of_mem _ wa_0_193
theorem lk_X2_divideWords_15 : Cond.fieldLink RX2 15 "FaultLoom$Step" "op" "I" ∈ wsX2_divideWords := List.mem_cons_of_mem _ wa_0_189
theorem gX2_divideWords_X3_setWord : GoodIn wsX2_divideWords (wsV RX2 47 RX3 yX3_setWord wsX3_setWord) := gVl wa_1_81 wa_1_21 wa_1_22 wa_0_3 wa_1_23
theorem in_X2_divideWords_2 : ∀ w ∈ wsX20, w ∈ wsX2_divideWords := fun w h => List.mem_cons_of_mem _ (inA2 w h)
theorem in_X2_divideWords_5 : ∀ w ∈ wsX50, w ∈ wsX2_divideWords := fun w h => List.mem_cons_of_mem _ (inA5 w h)
theorem lk_X2_divideLongs_9 : Cond.fieldLink RX2 9 "FaultLoom$Reckoner" "registers" "LFaultLoom$Registers;" ∈ wsX2_divideLongs := List.mem_cons_of_mem _ wa_0_84
theorem lk_X2_divideLongs_44 : Cond.fieldLink RX2 44 "FaultLoom$Step" "a" "I" ∈ wsX2_divideLongs := List.mem_cons_of_mem _ wa_0_193
theorem lk_X2_divideLongs_15 : Cond.fieldLink RX2 15 "FaultLoom$Step" "op" "I" ∈ wsX2_divideLongs := List.mem_cons_of_mem _ wa_0_189
theorem gX2_divideLongs_X3_setLong : GoodIn wsX2_divideLongs (wsV RX2 53 RX3 yX3_setLong wsX3_setLong) := gVl wa_1_83 wa_1_29 wa_1_30 wa_0_3 wa_1_31
theorem in_X2_divideLongs_2 : ∀ w ∈ wsX20, w ∈ wsX2_divideLongs := fun w h => List.mem_cons_of_mem _ (inA2 w h)
theorem in_X2_divideLongs_5 : ∀ w ∈ wsX50, w ∈ wsX2_divideLongs := fun w h => List.mem_cons_of_mem _ (inA5 w h)
theorem lk_X2_reckonBroken_9 : Cond.fieldLink RX2 9 "FaultLoom$Reckoner" "registers" "LFaultLoom$Registers;" ∈ wsX2_reckonBroken := List.mem_cons_of_mem _ wa_0_84
theorem lk_X2_reckonBroken_28 : Cond.fieldLink RX2 28 "FaultLoom$Step" "b" "I" ∈ wsX2_reckonBroken := List.mem_cons_of_mem _ wa_0_197
theorem gX2_reckonBroken_X3_getSingle : GoodIn wsX2_reckonBroken (wsV RX2 65 RX3 yX3_getSingle wsX3_getSingle) := gVl wa_1_96 wa_1_97 wa_1_98 wa_0_3 wa_1_99
theorem gX2_reckonBroken_X3_getDouble : GoodIn wsX2_reckonBroken (wsV RX2 69 RX3 yX3_getDouble wsX3_getDouble) := gVl wa_1_100 wa_1_101 wa_1_102 wa_0_3 wa_1_103
theorem lk_X2_reckonBroken_15 : Cond.fieldLink RX2 15 "FaultLoom$Step" "op" "I" ∈ wsX2_reckonBroken := List.mem_cons_of_mem _ wa_0_189
theorem lk_X2_reckonBroken_44 : Cond.fieldLink RX2 44 "FaultLoom$Step" "a" "I" ∈ wsX2_reckonBroken := List.mem_cons_of_mem _ wa_0_193
theorem gX2_reckonBroken_X3_getLong : GoodIn wsX2_reckonBroken (wsV RX2 40 RX3 yX3_getLong wsX3_getLong) := gVl wa_1_77 wa_1_78 wa_1_79 wa_0_3 wa_1_80
theorem gX2_reckonBroken_X3_setSingle : GoodIn wsX2_reckonBroken (wsV RX2 73 RX3 yX3_setSingle wsX3_setSingle) := gVl wa_1_104 wa_1_33 wa_1_34 wa_0_3 wa_1_35
theorem gX2_reckonBroken_X3_setDouble : GoodIn wsX2_reckonBroken (wsV RX2 77 RX3 yX3_setDouble wsX3_setDouble) := gVl wa_1_105 wa_1_37 wa_1_38 wa_0_3 wa_1_39
theorem gX2_reckonBroken_X3_setLong : GoodIn wsX2_reckonBroken (wsV RX2 53 RX3 yX3_setLong wsX3_setLong) := gVl wa_1_83 wa_1_29 wa_1_30 wa_0_3 wa_1_31
theorem gX2_reckonBroken_X3_setWord : GoodIn wsX2_reckonBroken (wsV RX2 47 RX3 yX3_setWord wsX3_setWord) := gVl wa_1_81 wa_1_21 wa_1_22 wa_0_3 wa_1_23
theorem lk_X2_reckonBroken_81 : Cond.constantDouble RX2 81 (4611686018427387904) ∈ wsX2_reckonBroken := List.mem_cons_of_mem _ wa_1_106
theorem lk_X2_reckonBroken_37 : Cond.fieldLink RX2 37 "FaultLoom$Step" "c" "I" ∈ wsX2_reckonBroken := List.mem_cons_of_mem _ wa_0_201
theorem gX2_reckonBroken_X2_restOfSingles : GoodIn wsX2_reckonBroken (wsV RX2 83 RX2 yX2_restOfSingles wsX2_restOfSingles) := gVl wa_1_107 wa_1_109 wp_1_6 wa_0_5 wa_1_110
theorem gX2_reckonBroken_X2_restOfDoubles : GoodIn wsX2_reckonBroken (wsV RX2 87 RX2 yX2_restOfDoubles wsX2_restOfDoubles) := gVl wa_1_114 wa_1_116 wp_1_7 wa_0_5 wa_1_117
theorem gX2_reckonBroken_X3_getWord : GoodIn wsX2_reckonBroken (wsV RX2 31 RX3 yX3_getWord wsX3_getWord) := gVl wa_1_73 wa_1_74 wa_1_75 wa_0_3 wa_1_76
theorem in_X2_reckonBroken_2 : ∀ w ∈ wsX20, w ∈ wsX2_reckonBroken := fun w h => List.mem_cons_of_mem _ (inA2 w h)
theorem in_X2_reckonBroken_5 : ∀ w ∈ wsX50, w ∈ wsX2_reckonBroken := fun w h => List.mem_cons_of_mem _ (inA5 w h)
theorem lk_X2_restOfSingles_9 : Cond.fieldLink RX2 9 "FaultLoom$Reckoner" "registers" "LFaultLoom$Registers;" ∈ wsX2_restOfSingles := List.mem_cons_of_mem _ wa_0_84
theorem lk_X2_restOfSingles_44 : Cond.fieldLink RX2 44 "FaultLoom$Step" "a" "I" ∈ wsX2_restOfSingles := List.mem_cons_of_mem _ wa_0_193
theorem gX2_restOfSingles_X2_restOf : GoodIn wsX2_restOfSingles (va_wsS RX2 91 yX2_restOf wsX2_restOf) := gSl wa_1_111 wa_1_112 wa_0_5 wa_1_113
theorem gX2_restOfSingles_X3_setSingle : GoodIn wsX2_restOfSingles (wsV RX2 73 RX3 yX3_setSingle wsX3_setSingle) := gVl wa_1_104 wa_1_33 wa_1_34 wa_0_3 wa_1_35
theorem in_X2_restOfSingles_2 : ∀ w ∈ wsX20, w ∈ wsX2_restOfSingles := fun w h => List.mem_cons_of_mem _ (inA2 w h)
theorem in_X2_restOfSingles_5 : ∀ w ∈ wsX50, w ∈ wsX2_restOfSingles := fun w h => List.mem_cons_of_mem _ (inA5 w h)
theorem lk_X2_restOfDoubles_9 : Cond.fieldLink RX2 9 "FaultLoom$Reckoner" "registers" "LFaultLoom$Registers;" ∈ wsX2_restOfDoubles := List.mem_cons_of_mem _ wa_0_84
theorem lk_X2_restOfDoubles_44 : Cond.fieldLink RX2 44 "FaultLoom$Step" "a" "I" ∈ wsX2_restOfDoubles := List.mem_cons_of_mem _ wa_0_193
theorem gX2_restOfDoubles_X2_restOf : GoodIn wsX2_restOfDoubles (va_wsS RX2 91 yX2_restOf wsX2_restOf) := gSl wa_1_111 wa_1_112 wa_0_5 wa_1_113
theorem gX2_restOfDoubles_X3_setDouble : GoodIn wsX2_restOfDoubles (wsV RX2 77 RX3 yX3_setDouble wsX3_setDouble) := gVl wa_1_105 wa_1_37 wa_1_38 wa_0_3 wa_1_39
theorem in_X2_restOfDoubles_2 : ∀ w ∈ wsX20, w ∈ wsX2_restOfDoubles := fun w h => List.mem_cons_of_mem _ (inA2 w h)
theorem in_X2_restOfDoubles_5 : ∀ w ∈ wsX50, w ∈ wsX2_restOfDoubles := fun w h => List.mem_cons_of_mem _ (inA5 w h)
theorem lk_X2_restOf_81 : Cond.constantDouble RX2 81 (4611686018427387904) ∈ wsX2_restOf := List.mem_cons_of_mem _ wa_1_106
theorem lk_X3_init_3 : Cond.methodLink RX3 3 objectInit ∈ wsX3_init := List.mem_cons_of_mem _ wa_0_49
theorem lki_X3_init_3 : Cond.instanceMethod objectInit ∈ wsX3_init := List.mem_cons_of_mem _ wa_0_17
theorem lkc_X3_init_3 : Cond.code objectInit ⟨#[0xb1]⟩ 1 none ∈ wsX3_init := List.mem_cons_of_mem _ wa_0_18
theorem lka_X3_init_int : Cond.arrayClass (newarray.typeOf .int) ∈ wsX3_init := List.mem_cons_of_mem _ wa_0_68
theorem lk_X3_init_9 : Cond.fieldLink RX3 9 "FaultLoom$Registers" "words" "[I" ∈ wsX3_init := List.mem_cons_of_mem _ wa_0_52
theorem lka_X3_init_long : Cond.arrayClass (newarray.typeOf .long) ∈ wsX3_init := List.mem_cons_of_mem _ wa_0_69
theorem lk_X3_init_15 : Cond.fieldLink RX3 15 "FaultLoom$Registers" "longs" "[J" ∈ wsX3_init := List.mem_cons_of_mem _ wa_0_53
theorem lka_X3_init_float : Cond.arrayClass (newarray.typeOf .float) ∈ wsX3_init := List.mem_cons_of_mem _ wa_0_70
theorem lk_X3_init_19 : Cond.fieldLink RX3 19 "FaultLoom$Registers" "singles" "[F" ∈ wsX3_init := List.mem_cons_of_mem _ wa_0_54
theorem lka_X3_init_double : Cond.arrayClass (newarray.typeOf .double) ∈ wsX3_init := List.mem_cons_of_mem _ wa_0_71
theorem lk_X3_init_23 : Cond.fieldLink RX3 23 "FaultLoom$Registers" "doubles" "[D" ∈ wsX3_init := List.mem_cons_of_mem _ wa_0_55
theorem lk_X3_init_27 : Cond.classLink RX3 27 RX6 ∈ wsX3_init := List.mem_cons_of_mem _ wa_0_50
theorem lk_X3_init_29 : Cond.fieldLink RX3 29 "FaultLoom$Registers" "things" "[LFaultLoom$Thing;" ∈ wsX3_init := List.mem_cons_of_mem _ wa_0_56
theorem in_X3_init_3 : ∀ w ∈ wsX30, w ∈ wsX3_init := fun w h => List.mem_cons_of_mem _ (inA3 w h)
theorem gX3_reset_X3_setWord : GoodIn wsX3_reset (wsV RX3 33 RX3 yX3_setWord wsX3_setWord) := gVl wa_1_20 wa_1_21 wa_1_22 wa_0_3 wa_1_23
theorem gX3_reset_X3_setThing : GoodIn wsX3_reset (wsV RX3 37 RX3 yX3_setThing wsX3_setThing) := gVl wa_1_24 wa_1_25 wa_1_26 wa_0_3 wa_1_27
theorem gX3_reset_X3_setLong : GoodIn wsX3_reset (wsV RX3 41 RX3 yX3_setLong wsX3_setLong) := gVl wa_1_28 wa_1_29 wa_1_30 wa_0_3 wa_1_31
theorem gX3_reset_X3_setSingle : GoodIn wsX3_reset (wsV RX3 45 RX3 yX3_setSingle wsX3_setSingle) := gVl wa_1_32 wa_1_33 wa_1_34 wa_0_3 wa_1_35
theorem gX3_reset_X3_setDouble : GoodIn wsX3_reset (wsV RX3 49 RX3 yX3_setDouble wsX3_setDouble) := gVl wa_1_36 wa_1_37 wa_1_38 wa_0_3 wa_1_39
theorem lk_X3_getWord_9 : Cond.fieldLink RX3 9 "FaultLoom$Registers" "words" "[I" ∈ wsX3_getWord := List.mem_cons_of_mem _ wa_0_52
theorem in_X3_getWord_3 : ∀ w ∈ wsX30, w ∈ wsX3_getWord := fun w h => List.mem_cons_of_mem _ (inA3 w h)
theorem lk_X3_setWord_9 : Cond.fieldLink RX3 9 "FaultLoom$Registers" "words" "[I" ∈ wsX3_setWord := List.mem_cons_of_mem _ wa_0_52
theorem in_X3_setWord_3 : ∀ w ∈ wsX30, w ∈ wsX3_setWord := fun w h => List.mem_cons_of_mem _ (inA3 w h)
theorem lk_X3_getLong_15 : Cond.fieldLink RX3 15 "FaultLoom$Registers" "longs" "[J" ∈ wsX3_getLong := List.mem_cons_of_mem _ wa_0_53
theorem in_X3_getLong_3 : ∀ w ∈ wsX30, w ∈ wsX3_getLong := fun w h => List.mem_cons_of_mem _ (inA3 w h)
theorem lk_X3_setLong_15 : Cond.fieldLink RX3 15 "FaultLoom$Registers" "longs" "[J" ∈ wsX3_setLong := List.mem_cons_of_mem _ wa_0_53
theorem in_X3_setLong_3 : ∀ w ∈ wsX30, w ∈ wsX3_setLong := fun w h => List.mem_cons_of_mem _ (inA3 w h)
theorem lk_X3_getSingle_19 : Cond.fieldLink RX3 19 "FaultLoom$Registers" "singles" "[F" ∈ wsX3_getSingle := List.mem_cons_of_mem _ wa_0_54
theorem in_X3_getSingle_3 : ∀ w ∈ wsX30, w ∈ wsX3_getSingle := fun w h => List.mem_cons_of_mem _ (inA3 w h)
theorem lk_X3_setSingle_19 : Cond.fieldLink RX3 19 "FaultLoom$Registers" "singles" "[F" ∈ wsX3_setSingle := List.mem_cons_of_mem _ wa_0_54
theorem in_X3_setSingle_3 : ∀ w ∈ wsX30, w ∈ wsX3_setSingle := fun w h => List.mem_cons_of_mem _ (inA3 w h)
theorem lk_X3_getDouble_23 : Cond.fieldLink RX3 23 "FaultLoom$Registers" "doubles" "[D" ∈ wsX3_getDouble := List.mem_cons_of_mem _ wa_0_55
theorem in_X3_getDouble_3 : ∀ w ∈ wsX30, w ∈ wsX3_getDouble := fun w h => List.mem_cons_of_mem _ (inA3 w h)
theorem lk_X3_setDouble_23 : Cond.fieldLink RX3 23 "FaultLoom$Registers" "doubles" "[D" ∈ wsX3_setDouble := List.mem_cons_of_mem _ wa_0_55
theorem in_X3_setDouble_3 : ∀ w ∈ wsX30, w ∈ wsX3_setDouble := fun w h => List.mem_cons_of_mem _ (inA3 w h)
theorem lk_X3_hasThing_29 : Cond.fieldLink RX3 29 "FaultLoom$Registers" "things" "[LFaultLoom$Thing;" ∈ wsX3_hasThing := List.mem_cons_of_mem _ wa_0_56
theorem in_X3_hasThing_3 : ∀ w ∈ wsX30, w ∈ wsX3_hasThing := fun w h => List.mem_cons_of_mem _ (inA3 w h)
theorem lk_X3_getThing_29 : Cond.fieldLink RX3 29 "FaultLoom$Registers" "things" "[LFaultLoom$Thing;" ∈ wsX3_getThing := List.mem_cons_of_mem _ wa_0_56
theorem in_X3_getThing_3 : ∀ w ∈ wsX30, w ∈ wsX3_getThing := fun w h => List.mem_cons_of_mem _ (inA3 w h)
theorem lk_X3_setThing_29 : Cond.fieldLink RX3 29 "FaultLoom$Registers" "things" "[LFaultLoom$Thing;" ∈ wsX3_setThing := List.mem_cons_of_mem _ wa_0_56
theorem in_X3_setThing_3 : ∀ w ∈ wsX30, w ∈ wsX3_setThing := fun w h => List.mem_cons_of_mem _ (inA3 w h)
theorem lk_X4_init_3 : Cond.methodLink RX4 3 objectInit ∈ wsX4_init := List.mem_cons_of_mem _ wa_0_77
theorem lki_X4_init_3 : Cond.instanceMethod objectInit ∈ wsX4_init := List.mem_cons_of_mem _ wa_0_17
theorem lkc_X4_init_3 : Cond.code objectInit ⟨#[0xb1]⟩ 1 none ∈ wsX4_init := List.mem_cons_of_mem _ wa_0_18
theorem lk_X4_init_9 : Cond.fieldLink RX4 9 "FaultLoom$Run" "program" "LFaultLoom$Program;" ∈ wsX4_init := List.mem_cons_of_mem _ wa_0_102
theorem lk_X4_init_15 : Cond.fieldLink RX4 15 "FaultLoom$Run" "registers" "LFaultLoom$Registers;" ∈ wsX4_init := List.mem_cons_of_mem _ wa_0_103
theorem lk_X4_init_19 : Cond.classLink RX4 19 RX2 ∈ wsX4_init := List.mem_cons_of_mem _ wa_0_78
theorem lki_X4_init_19 : Cond.instantiable RX2 1 ∈ wsX4_init := List.mem_cons_of_mem _ wa_0_79
theorem lkz_X4_init_19 : Cond.initialized RX2 ∈ wsX4_init := List.mem_cons_of_mem _ wa_0_5
theorem lk_X4_init_21 : Cond.methodLink RX4 21 yX2_init ∈ wsX4_init := List.mem_cons_of_mem _ wa_0_80
theorem lki_X4_init_21 : Cond.instanceMethod yX2_init ∈ wsX4_init := List.mem_cons_of_mem _ wa_0_81
theorem lkz_X4_init_21 : Cond.initialized yX2_init.cls ∈ wsX4_init := List.mem_cons_of_mem _ wa_0_5
theorem gX4_init_X2_init : GoodIn wsX4_init wsX2_init := gIl wa_0_82
theorem lk_X4_init_24 : Cond.fieldLink RX4 24 "FaultLoom$Run" "reckoner" "LFaultLoom$Reckoner;" ∈ wsX4_init := List.mem_cons_of_mem _ wa_0_104
theorem lk_X4_init_28 : Cond.classLink RX4 28 RX7 ∈ wsX4_init := List.mem_cons_of_mem _ wa_0_88
theorem lki_X4_init_28 : Cond.instantiable RX7 2 ∈ wsX4_init := List.mem_cons_of_mem _ wa_0_89
theorem lkz_X4_init_28 : Cond.initialized RX7 ∈ wsX4_init := List.mem_cons_of_mem _ wa_0_6
theorem lk_X4_init_30 : Cond.methodLink RX4 30 yX7_init ∈ wsX4_init := List.mem_cons_of_mem _ wa_0_90
theorem lki_X4_init_30 : Cond.instanceMethod yX7_init ∈ wsX4_init := List.mem_cons_of_mem _ wa_0_91
theorem lkz_X4_init_30 : Cond.initialized yX7_init.cls ∈ wsX4_init := List.mem_cons_of_mem _ wa_0_6
theorem gX4_init_X7_init : GoodIn wsX4_init wsX7_init := gIl wa_0_92
theorem lk_X4_init_31 : Cond.fieldLink RX4 31 "FaultLoom$Run" "weaver" "LFaultLoom$Weaver;" ∈ wsX4_init := List.mem_cons_of_mem _ wa_0_105
theorem lka_X4_init_int : Cond.arrayClass (newarray.typeOf .int) ∈ wsX4_init := List.mem_cons_of_mem _ wa_0_68
theorem lk_X4_init_35 : Cond.fieldLink RX4 35 "FaultLoom$Run" "calls" "[I" ∈ wsX4_init := List.mem_cons_of_mem _ wa_0_106
theorem lk_X4_init_39 : Cond.fieldLink RX4 39 "FaultLoom$Run" "numbersTold" "[I" ∈ wsX4_init := List.mem_cons_of_mem _ wa_0_107
theorem lk_X4_init_42 : Cond.fieldLink RX4 42 "FaultLoom$Run" "failurePlace" "I" ∈ wsX4_init := List.mem_cons_of_mem _ wa_0_118
theorem in_X4_init_2 : ∀ w ∈ wsX20, w ∈ wsX4_init := fun w h => List.mem_cons_of_mem _ (inA2 w h)
theorem in_X4_init_4 : ∀ w ∈ wsX40, w ∈ wsX4_init := fun w h => List.mem_cons_of_mem _ (inA4 w h)
theorem in_X4_init_7 : ∀ w ∈ wsX70, w ∈ wsX4_init := fun w h => List.mem_cons_of_mem _ (inA7 w h)
theorem lk_X4_begin_46 : Cond.fieldLink RX4 46 "FaultLoom$Run" "stepsDone" "I" ∈ wsX4_begin := List.mem_cons_of_mem _ wa_0_113
theorem lk_X4_begin_49 : Cond.fieldLink RX4 49 "FaultLoom$Run" "callCount" "I" ∈ wsX4_begin := List.mem_cons_of_mem _ wa_0_114
theorem lk_X4_begin_52 : Cond.fieldLink RX4 52 "FaultLoom$Run" "toldCount" "I" ∈ wsX4_begin := List.mem_cons_of_mem _ wa_0_115
theorem lk_X4_begin_55 : Cond.fieldLink RX4 55 "FaultLoom$Run" "failureCount" "I" ∈ wsX4_begin := List.mem_cons_of_mem _ wa_0_116
theorem lk_X4_begin_58 : Cond.fieldLink RX4 58 "FaultLoom$Run" "failure" "I" ∈ wsX4_begin := List.mem_cons_of_mem _ wa_0_117
theorem lk_X4_begin_42 : Cond.fieldLink RX4 42 "FaultLoom$Run" "failurePlace" "I" ∈ wsX4_begin := List.mem_cons_of_mem _ wa_0_118
theorem lk_X4_begin_61 : Cond.fieldLink RX4 61 "FaultLoom$Run" "thrown" "LFaultLoom$Thing;" ∈ wsX4_begin := List.mem_cons_of_mem _ wa_0_119
theorem lk_X4_begin_31 : Cond.fieldLink RX4 31 "FaultLoom$Run" "weaver" "LFaultLoom$Weaver;" ∈ wsX4_begin := List.mem_cons_of_mem _ wa_0_105
theorem lk_X4_begin_65 : Cond.fieldLink RX4 65 "FaultLoom$Weaver" "made" "I" ∈ wsX4_begin := List.mem_cons_of_mem _ wa_0_95
theorem lk_X4_begin_68 : Cond.fieldLink RX4 68 "FaultLoom$Run" "phase" "I" ∈ wsX4_begin := List.mem_cons_of_mem _ wa_0_108
theorem gX4_begin_X4_goTo : GoodIn wsX4_begin (wsV RX4 71 RX4 yX4_goTo wsX4_goTo) := gVl wa_1_44 wa_1_46 wp_1_0 wa_0_4 wa_1_47
theorem in_X4_begin_4 : ∀ w ∈ wsX40, w ∈ wsX4_begin := fun w h => List.mem_cons_of_mem _ (inA4 w h)
theorem in_X4_begin_7 : ∀ w ∈ wsX70, w ∈ wsX4_begin := fun w h => List.mem_cons_of_mem _ (inA7 w h)
theorem lk_X4_giveUp_68 : Cond.fieldLink RX4 68 "FaultLoom$Run" "phase" "I" ∈ wsX4_giveUp := List.mem_cons_of_mem _ wa_0_108
theorem in_X4_giveUp_4 : ∀ w ∈ wsX40, w ∈ wsX4_giveUp := fun w h => List.mem_cons_of_mem _ (inA4 w h)
theorem lk_X4_doStep_46 : Cond.fieldLink RX4 46 "FaultLoom$Run" "stepsDone" "I" ∈ wsX4_doStep := List.mem_cons_of_mem _ wa_0_113
theorem lk_X4_doStep_75 : Cond.fieldLink RX4 75 "FaultLoom$Run" "place" "I" ∈ wsX4_doStep := List.mem_cons_of_mem _ wa_0_110
theorem lk_X4_doStep_78 : Cond.fieldLink RX4 78 "FaultLoom$Run" "next" "I" ∈ wsX4_doStep := List.mem_cons_of_mem _ wa_0_112
theorem gX4_doStep_X4_perform : GoodIn wsX4_doStep (wsV RX4 81 RX4 yX4_perform wsX4_perform) := gVl wa_1_61 wa_1_63 wp_1_1 wa_0_4 wa_1_64
theorem gX4_doStep_X4_fail : GoodIn wsX4_doStep (wsV RX4 85 RX4 yX4_fail wsX4_fail) := gVl wa_2_54 wa_2_56 wp_2_7 wa_0_4 wa_2_57
theorem lk_X4_doStep_68 : Cond.fieldLink RX4 68 "FaultLoom$Run" "phase" "I" ∈ wsX4_doStep := List.mem_cons_of_mem _ wa_0_108
theorem gX4_doStep_X4_goTo : GoodIn wsX4_doStep (wsV RX4 71 RX4 yX4_goTo wsX4_goTo) := gVl wa_1_44 wa_1_46 wp_1_0 wa_0_4 wa_1_47
theorem in_X4_doStep_4 : ∀ w ∈ wsX40, w ∈ wsX4_doStep := fun w h => List.mem_cons_of_mem _ (inA4 w h)
theorem lk_X4_getTold_52 : Cond.fieldLink RX4 52 "FaultLoom$Run" "toldCount" "I" ∈ wsX4_getTold := List.mem_cons_of_mem _ wa_0_115
theorem lk_X4_getTold_39 : Cond.fieldLink RX4 39 "FaultLoom$Run" "numbersTold" "[I" ∈ wsX4_getTold := List.mem_cons_of_mem _ wa_0_107
theorem in_X4_getTold_4 : ∀ w ∈ wsX40, w ∈ wsX4_getTold := fun w h => List.mem_cons_of_mem _ (inA4 w h)
theorem lk_X4_report_75 : Cond.fieldLink RX4 75 "FaultLoom$Run" "place" "I" ∈ wsX4_report := List.mem_cons_of_mem _ wa_0_110
theorem lk_X4_report_46 : Cond.fieldLink RX4 46 "FaultLoom$Run" "stepsDone" "I" ∈ wsX4_report := List.mem_cons_of_mem _ wa_0_113
theorem lk_X4_report_49 : Cond.fieldLink RX4 49 "FaultLoom$Run" "callCount" "I" ∈ wsX4_report := List.mem_cons_of_mem _ wa_0_114
theorem lk_X4_report_31 : Cond.fieldLink RX4 31 "FaultLoom$Run" "weaver" "LFaultLoom$Weaver;" ∈ wsX4_report := List.mem_cons_of_mem _ wa_0_105
theorem lk_X4_report_65 : Cond.fieldLink RX4 65 "FaultLoom$Weaver" "made" "I" ∈ wsX4_report := List.mem_cons_of_mem _ wa_0_95
theorem lk_X4_report_52 : Cond.fieldLink RX4 52 "FaultLoom$Run" "toldCount" "I" ∈ wsX4_report := List.mem_cons_of_mem _ wa_0_115
theorem lk_X4_report_55 : Cond.fieldLink RX4 55 "FaultLoom$Run" "failureCount" "I" ∈ wsX4_report := List.mem_cons_of_mem _ wa_0_116
theorem lk_X4_report_58 : Cond.fieldLink RX4 58 "FaultLoom$Run" "failure" "I" ∈ wsX4_report := List.mem_cons_of_mem _ wa_0_117
theorem lk_X4_report_42 : Cond.fieldLink RX4 42 "FaultLoom$Run" "failurePlace" "I" ∈ wsX4_report := List.mem_cons_of_mem _ wa_0_118
theorem lk_X4_report_68 : Cond.fieldLink RX4 68 "FaultLoom$Run" "phase" "I" ∈ wsX4_report := List.mem_cons_of_mem _ wa_0_108
theorem in_X4_report_4 : ∀ w ∈ wsX40, w ∈ wsX4_report := fun w h => List.mem_cons_of_mem _ (inA4 w h)
theorem in_X4_report_7 : ∀ w ∈ wsX70, w ∈ wsX4_report := fun w h => List.mem_cons_of_mem _ (inA7 w h)
theorem lk_X4_goTo_75 : Cond.fieldLink RX4 75 "FaultLoom$Run" "place" "I" ∈ wsX4_goTo := List.mem_cons_of_mem _ wa_0_110
theorem lk_X4_goTo_9 : Cond.fieldLink RX4 9 "FaultLoom$Run" "program" "LFaultLoom$Program;" ∈ wsX4_goTo := List.mem_cons_of_mem _ wa_0_102
theorem gX4_goTo_X1_getStep : GoodIn wsX4_goTo (wsV RX4 89 RX1 yX1_getStep wsX1_getStep) := gVl wa_1_48 wa_1_49 wa_1_50 wa_0_2 wa_1_51
theorem lk_X4_goTo_68 : Cond.fieldLink RX4 68 "FaultLoom$Run" "phase" "I" ∈ wsX4_goTo := List.mem_cons_of_mem _ wa_0_108
theorem in_X4_goTo_4 : ∀ w ∈ wsX40, w ∈ wsX4_goTo := fun w h => List.mem_cons_of_mem _ (inA4 w h)
theorem lk_X4_perform_95 : Cond.fieldLink RX4 95 "FaultLoom$Step" "op" "I" ∈ wsX4_perform := List.mem_cons_of_mem _ wa_0_191
theorem lk_X4_perform_24 : Cond.fieldLink RX4 24 "FaultLoom$Run" "reckoner" "LFaultLoom$Reckoner;" ∈ wsX4_perform := List.mem_cons_of_mem _ wa_0_104
theorem gX4_perform_X2_reckon : GoodIn wsX4_perform (wsV RX4 100 RX2 yX2_reckon wsX2_reckon) := gVl wa_1_65 wa_1_66 wa_1_67 wa_0_5 wa_1_68
theorem lk_X4_perform_68 : Cond.fieldLink RX4 68 "FaultLoom$Run" "phase" "I" ∈ wsX4_perform := List.mem_cons_of_mem _ wa_0_108
theorem lk_X4_perform_103 : Cond.fieldLink RX4 103 "FaultLoom$Step" "a" "I" ∈ wsX4_perform := List.mem_cons_of_mem _ wa_0_195
theorem lk_X4_perform_78 : Cond.fieldLink RX4 78 "FaultLoom$Run" "next" "I" ∈ wsX4_perform := List.mem_cons_of_mem _ wa_0_112
theorem lk_X4_perform_15 : Cond.fieldLink RX4 15 "FaultLoom$Run" "registers" "LFaultLoom$Registers;" ∈ wsX4_perform := List.mem_cons_of_mem _ wa_0_103
theorem gX4_perform_X3_getWord : GoodIn wsX4_perform (wsV RX4 106 RX3 yX3_getWord wsX3_getWord) := gVl wa_1_118 wa_1_74 wa_1_75 wa_0_3 wa_1_76
theorem lk_X4_perform_112 : Cond.fieldLink RX4 112 "FaultLoom$Step" "b" "I" ∈ wsX4_perform := List.mem_cons_of_mem _ wa_0_199
theorem gX4_perform_X4_callPlace : GoodIn wsX4_perform (wsV RX4 115 RX4 yX4_callPlace wsX4_callPlace) := gVl wa_1_119 wa_1_121 wp_1_8 wa_0_4 wa_1_122
theorem gX4_perform_X4_comeBack : GoodIn wsX4_perform (wsV RX4 118 RX4 yX4_comeBack wsX4_comeBack) := gVl wa_1_123 wa_1_125 wp_1_9 wa_0_4 wa_1_126
theorem gX4_perform_X3_getThing : GoodIn wsX4_perform (wsV RX4 121 RX3 yX3_getThing wsX3_getThing) := gVl wa_1_131 wa_1_132 wa_1_133 wa_0_3 wa_1_134
theorem gX4_perform_X4_throwFault : GoodIn wsX4_perform (va_wsS RX4 125 yX4_throwFault wsX4_throwFault) := gSl wa_1_135 wa_1_136 wa_0_4 wa_1_137
theorem lk_X4_perform_61 : Cond.fieldLink RX4 61 "FaultLoom$Run" "thrown" "LFaultLoom$Thing;" ∈ wsX4_perform := List.mem_cons_of_mem _ wa_0_119
theorem gX4_perform_X3_setThing : GoodIn wsX4_perform (wsV RX4 129 RX3 yX3_setThing wsX3_setThing) := gVl wa_1_142 wa_1_25 wa_1_26 wa_0_3 wa_1_27
theorem lk_X4_perform_58 : Cond.fieldLink RX4 58 "FaultLoom$Run" "failure" "I" ∈ wsX4_perform := List.mem_cons_of_mem _ wa_0_117
theorem gX4_perform_X3_setWord : GoodIn wsX4_perform (wsV RX4 133 RX3 yX3_setWord wsX3_setWord) := gVl wa_1_143 wa_1_21 wa_1_22 wa_0_3 wa_1_23
theorem gX4_perform_X4_tell : GoodIn wsX4_perform (wsV RX4 137 RX4 yX4_tell wsX4_tell) := gVl wa_1_144 wa_1_146 wp_1_11 wa_0_4 wa_1_147
theorem lk_X4_perform_31 : Cond.fieldLink RX4 31 "FaultLoom$Run" "weaver" "LFaultLoom$Weaver;" ∈ wsX4_perform := List.mem_cons_of_mem _ wa_0_105
theorem gX4_perform_X7_weave : GoodIn wsX4_perform (wsV RX4 140 RX7 yX7_weave wsX7_weave) := gVl wa_1_148 wa_1_149 wa_1_150 wa_0_6 wa_1_151
theorem in_X4_perform_4 : ∀ w ∈ wsX40, w ∈ wsX4_perform := fun w h => List.mem_cons_of_mem _ (inA4 w h)
theorem in_X4_perform_5 : ∀ w ∈ wsX50, w ∈ wsX4_perform := fun w h => List.mem_cons_of_mem _ (inA5 w h)
theorem lk_X4_callPlace_49 : Cond.fieldLink RX4 49 "FaultLoom$Run" "callCount" "I" ∈ wsX4_callPlace := List.mem_cons_of_mem _ wa_0_114
theorem lk_X4_callPlace_35 : Cond.fieldLink RX4 35 "FaultLoom$Run" "calls" "[I" ∈ wsX4_callPlace := List.mem_cons_of_mem _ wa_0_106
theorem lk_X4_callPlace_75 : Cond.fieldLink RX4 75 "FaultLoom$Run" "place" "I" ∈ wsX4_callPlace := List.mem_cons_of_mem _ wa_0_110
theorem lk_X4_callPlace_78 : Cond.fieldLink RX4 78 "FaultLoom$Run" "next" "I" ∈ wsX4_callPlace := List.mem_cons_of_mem _ wa_0_112
theorem in_X4_callPlace_4 : ∀ w ∈ wsX40, w ∈ wsX4_callPlace := fun w h => List.mem_cons_of_mem _ (inA4 w h)
theorem lk_X4_comeBack_49 : Cond.fieldLink RX4 49 "FaultLoom$Run" "callCount" "I" ∈ wsX4_comeBack := List.mem_cons_of_mem _ wa_0_114
theorem lk_X4_comeBack_68 : Cond.fieldLink RX4 68 "FaultLoom$Run" "phase" "I" ∈ wsX4_comeBack := List.mem_cons_of_mem _ wa_0_108
theorem gX4_comeBack_X4_dropCall : GoodIn wsX4_comeBack (wsV RX4 143 RX4 yX4_dropCall wsX4_dropCall) := gVl wa_1_127 wa_1_129 wp_1_10 wa_0_4 wa_1_130
theorem lk_X4_comeBack_78 : Cond.fieldLink RX4 78 "FaultLoom$Run" "next" "I" ∈ wsX4_comeBack := List.mem_cons_of_mem _ wa_0_112
theorem in_X4_comeBack_4 : ∀ w ∈ wsX40, w ∈ wsX4_comeBack := fun w h => List.mem_cons_of_mem _ (inA4 w h)
theorem lk_X4_dropCall_49 : Cond.fieldLink RX4 49 "FaultLoom$Run" "callCount" "I" ∈ wsX4_dropCall := List.mem_cons_of_mem _ wa_0_114
theorem lk_X4_dropCall_35 : Cond.fieldLink RX4 35 "FaultLoom$Run" "calls" "[I" ∈ wsX4_dropCall := List.mem_cons_of_mem _ wa_0_106
theorem in_X4_dropCall_4 : ∀ w ∈ wsX40, w ∈ wsX4_dropCall := fun w h => List.mem_cons_of_mem _ (inA4 w h)
theorem gX4_throwFault_X6_isOf : GoodIn wsX4_throwFault (wsV RX4 147 RX6 yX6_isOf wsX6_isOf) := gVl wa_1_138 wa_1_139 wa_1_140 wa_0_10 wa_1_141
theorem lk_X4_throwFault_153 : Cond.fieldLink RX4 153 "FaultLoom$Thing" "tag" "I" ∈ wsX4_throwFault := List.mem_cons_of_mem _ wa_2_2
theorem in_X4_throwFault_6 : ∀ w ∈ wsX60, w ∈ wsX4_throwFault := fun w h => List.mem_cons_of_mem _ (inA6 w h)
theorem lk_X4_tell_52 : Cond.fieldLink RX4 52 "FaultLoom$Run" "toldCount" "I" ∈ wsX4_tell := List.mem_cons_of_mem _ wa_0_115
theorem lk_X4_tell_39 : Cond.fieldLink RX4 39 "FaultLoom$Run" "numbersTold" "[I" ∈ wsX4_tell := List.mem_cons_of_mem _ wa_0_107
theorem in_X4_tell_4 : ∀ w ∈ wsX40, w ∈ wsX4_tell := fun w h => List.mem_cons_of_mem _ (inA4 w h)
theorem lk_X4_fail_55 : Cond.fieldLink RX4 55 "FaultLoom$Run" "failureCount" "I" ∈ wsX4_fail := List.mem_cons_of_mem _ wa_0_116
theorem lk_X4_fail_58 : Cond.fieldLink RX4 58 "FaultLoom$Run" "failure" "I" ∈ wsX4_fail := List.mem_cons_of_mem _ wa_0_117
theorem lk_X4_fail_75 : Cond.fieldLink RX4 75 "FaultLoom$Run" "place" "I" ∈ wsX4_fail := List.mem_cons_of_mem _ wa_0_110
theorem lk_X4_fail_42 : Cond.fieldLink RX4 42 "FaultLoom$Run" "failurePlace" "I" ∈ wsX4_fail := List.mem_cons_of_mem _ wa_0_118
theorem lk_X4_fail_15 : Cond.fieldLink RX4 15 "FaultLoom$Run" "registers" "LFaultLoom$Registers;" ∈ wsX4_fail := List.mem_cons_of_mem _ wa_0_103
theorem lk_X4_fail_103 : Cond.fieldLink RX4 103 "FaultLoom$Step" "a" "I" ∈ wsX4_fail := List.mem_cons_of_mem _ wa_0_195
theorem gX4_fail_X3_getThing : GoodIn wsX4_fail (wsV RX4 121 RX3 yX3_getThing wsX3_getThing) := gVl wa_1_131 wa_1_132 wa_1_133 wa_0_3 wa_1_134
theorem lk_X4_fail_61 : Cond.fieldLink RX4 61 "FaultLoom$Run" "thrown" "LFaultLoom$Thing;" ∈ wsX4_fail := List.mem_cons_of_mem _ wa_0_119
theorem lk_X4_fail_9 : Cond.fieldLink RX4 9 "FaultLoom$Run" "program" "LFaultLoom$Program;" ∈ wsX4_fail := List.mem_cons_of_mem _ wa_0_102
theorem gX4_fail_X1_seekHandler : GoodIn wsX4_fail (wsV RX4 156 RX1 yX1_seekHandler wsX1_seekHandler) := gVl wa_2_58 wa_2_59 wa_2_60 wa_0_2 wa_2_61
theorem lk_X4_fail_49 : Cond.fieldLink RX4 49 "FaultLoom$Run" "callCount" "I" ∈ wsX4_fail := List.mem_cons_of_mem _ wa_0_114
theorem gX4_fail_X4_dropCall : GoodIn wsX4_fail (wsV RX4 143 RX4 yX4_dropCall wsX4_dropCall) := gVl wa_1_127 wa_1_129 wp_1_10 wa_0_4 wa_1_130
theorem lk_X4_fail_68 : Cond.fieldLink RX4 68 "FaultLoom$Run" "phase" "I" ∈ wsX4_fail := List.mem_cons_of_mem _ wa_0_108
theorem gX4_fail_X4_goTo : GoodIn wsX4_fail (wsV RX4 71 RX4 yX4_goTo wsX4_goTo) := gVl wa_1_44 wa_1_46 wp_1_0 wa_0_4 wa_1_47
theorem in_X4_fail_4 : ∀ w ∈ wsX40, w ∈ wsX4_fail := fun w h => List.mem_cons_of_mem _ (inA4 w h)
theorem in_X4_fail_5 : ∀ w ∈ wsX50, w ∈ wsX4_fail := fun w h => List.mem_cons_of_mem _ (inA5 w h)
theorem lk_X5_init_1 : Cond.methodLink RX5 1 objectInit ∈ wsX5_init := List.mem_cons_of_mem _ wa_0_187
theorem lki_X5_init_1 : Cond.instanceMethod objectInit ∈ wsX5_init := List.mem_cons_of_mem _ wa_0_17
theorem lkc_X5_init_1 : Cond.code objectInit ⟨#[0xb1]⟩ 1 none ∈ wsX5_init := List.mem_cons_of_mem _ wa_0_18
theorem lk_X5_init_7 : Cond.fieldLink RX5 7 "FaultLoom$Step" "op" "I" ∈ wsX5_init := List.mem_cons_of_mem _ wa_0_188
theorem lk_X5_init_13 : Cond.fieldLink RX5 13 "FaultLoom$Step" "a" "I" ∈ wsX5_init := List.mem_cons_of_mem _ wa_0_192
theorem lk_X5_init_16 : Cond.fieldLink RX5 16 "FaultLoom$Step" "b" "I" ∈ wsX5_init := List.mem_cons_of_mem _ wa_0_196
theorem lk_X5_init_19 : Cond.fieldLink RX5 19 "FaultLoom$Step" "c" "I" ∈ wsX5_init := List.mem_cons_of_mem _ wa_0_200
theorem in_X5_init_5 : ∀ w ∈ wsX50, w ∈ wsX5_init := fun w h => List.mem_cons_of_mem _ (inA5 w h)
theorem lk_X6_init_3 : Cond.methodLink RX6 3 objectInit ∈ wsX6_init := List.mem_cons_of_mem _ wa_1_229
theorem lki_X6_init_3 : Cond.instanceMethod objectInit ∈ wsX6_init := List.mem_cons_of_mem _ wa_0_17
theorem lkc_X6_init_3 : Cond.code objectInit ⟨#[0xb1]⟩ 1 none ∈ wsX6_init := List.mem_cons_of_mem _ wa_0_18
theorem lk_X6_init_9 : Cond.fieldLink RX6 9 "FaultLoom$Thing" "kind" "I" ∈ wsX6_init := List.mem_cons_of_mem _ wa_1_231
theorem lk_X6_init_15 : Cond.fieldLink RX6 15 "FaultLoom$Thing" "places" "I" ∈ wsX6_init := List.mem_cons_of_mem _ wa_1_234
theorem lka_X6_init_long : Cond.arrayClass (newarray.typeOf .long) ∈ wsX6_init := List.mem_cons_of_mem _ wa_0_69
theorem lk_X6_init_18 : Cond.fieldLink RX6 18 "FaultLoom$Thing" "numbers" "[J" ∈ wsX6_init := List.mem_cons_of_mem _ wa_1_237
theorem lka_X6_init_double : Cond.arrayClass (newarray.typeOf .double) ∈ wsX6_init := List.mem_cons_of_mem _ wa_0_71
theorem lk_X6_init_22 : Cond.fieldLink RX6 22 "FaultLoom$Thing" "points" "[D" ∈ wsX6_init := List.mem_cons_of_mem _ wa_1_238
theorem lk_X6_init_10 : Cond.classLink RX6 10 RX6 ∈ wsX6_init := List.mem_cons_of_mem _ wa_1_230
theorem lk_X6_init_26 : Cond.fieldLink RX6 26 "FaultLoom$Thing" "members" "[LFaultLoom$Thing;" ∈ wsX6_init := List.mem_cons_of_mem _ wa_1_239
theorem in_X6_init_6 : ∀ w ∈ wsX60, w ∈ wsX6_init := fun w h => List.mem_cons_of_mem _ (inA6 w h)
theorem lk_X6_isRow_9 : Cond.fieldLink RX6 9 "FaultLoom$Thing" "kind" "I" ∈ wsX6_isRow := List.mem_cons_of_mem _ wa_1_231
theorem in_X6_isRow_6 : ∀ w ∈ wsX60, w ∈ wsX6_isRow := fun w h => List.mem_cons_of_mem _ (inA6 w h)
theorem lk_X6_isOf_9 : Cond.fieldLink RX6 9 "FaultLoom$Thing" "kind" "I" ∈ wsX6_isOf := List.mem_cons_of_mem _ wa_1_231
theorem in_X6_isOf_6 : ∀ w ∈ wsX60, w ∈ wsX6_isOf := fun w h => List.mem_cons_of_mem _ (inA6 w h)
theorem lk_X6_hasPlace_15 : Cond.fieldLink RX6 15 "FaultLoom$Thing" "places" "I" ∈ wsX6_hasPlace := List.mem_cons_of_mem _ wa_1_234
theorem in_X6_hasPlace_6 : ∀ w ∈ wsX60, w ∈ wsX6_hasPlace := fun w h => List.mem_cons_of_mem _ (inA6 w h)
theorem lk_X6_getNumber_18 : Cond.fieldLink RX6 18 "FaultLoom$Thing" "numbers" "[J" ∈ wsX6_getNumber := List.mem_cons_of_mem _ wa_1_237
theorem in_X6_getNumber_6 : ∀ w ∈ wsX60, w ∈ wsX6_getNumber := fun w h => List.mem_cons_of_mem _ (inA6 w h)
theorem lk_X6_setNumber_18 : Cond.fieldLink RX6 18 "FaultLoom$Thing" "numbers" "[J" ∈ wsX6_setNumber := List.mem_cons_of_mem _ wa_1_237
theorem in_X6_setNumber_6 : ∀ w ∈ wsX60, w ∈ wsX6_setNumber := fun w h => List.mem_cons_of_mem _ (inA6 w h)
theorem lk_X6_getPoint_22 : Cond.fieldLink RX6 22 "FaultLoom$Thing" "points" "[D" ∈ wsX6_getPoint := List.mem_cons_of_mem _ wa_1_238
theorem in_X6_getPoint_6 : ∀ w ∈ wsX60, w ∈ wsX6_getPoint := fun w h => List.mem_cons_of_mem _ (inA6 w h)
theorem lk_X6_setPoint_22 : Cond.fieldLink RX6 22 "FaultLoom$Thing" "points" "[D" ∈ wsX6_setPoint := List.mem_cons_of_mem _ wa_1_238
theorem in_X6_setPoint_6 : ∀ w ∈ wsX60, w ∈ wsX6_setPoint := fun w h => List.mem_cons_of_mem _ (inA6 w h)
theorem lk_X6_getMember_26 : Cond.fieldLink RX6 26 "FaultLoom$Thing" "members" "[LFaultLoom$Thing;" ∈ wsX6_getMember := List.mem_cons_of_mem _ wa_1_239
theorem in_X6_getMember_6 : ∀ w ∈ wsX60, w ∈ wsX6_getMember := fun w h => List.mem_cons_of_mem _ (inA6 w h)
theorem lk_X6_setMember_26 : Cond.fieldLink RX6 26 "FaultLoom$Thing" "members" "[LFaultLoom$Thing;" ∈ wsX6_setMember := List.mem_cons_of_mem _ wa_1_239
theorem in_X6_setMember_6 : ∀ w ∈ wsX60, w ∈ wsX6_setMember := fun w h => List.mem_cons_of_mem _ (inA6 w h)
theorem lk_X6_turn_9 : Cond.fieldLink RX6 9 "FaultLoom$Thing" "kind" "I" ∈ wsX6_turn := List.mem_cons_of_mem _ wa_1_231
theorem lk_X6_turn_30 : Cond.fieldLink RX6 30 "FaultLoom$Thing" "tag" "I" ∈ wsX6_turn := List.mem_cons_of_mem _ wa_2_1
theorem in_X6_turn_6 : ∀ w ∈ wsX60, w ∈ wsX6_turn := fun w h => List.mem_cons_of_mem _ (inA6 w h)
theorem lk_X7_init_3 : Cond.methodLink RX7 3 objectInit ∈ wsX7_init := List.mem_cons_of_mem _ wa_0_93
theorem lki_X7_init_3 : Cond.instanceMethod objectInit ∈ wsX7_init := List.mem_cons_of_mem _ wa_0_17
theorem lkc_X7_init_3 : Cond.code objectInit ⟨#[0xb1]⟩ 1 none ∈ wsX7_init := List.mem_cons_of_mem _ wa_0_18
theorem lk_X7_init_9 : Cond.fieldLink RX7 9 "FaultLoom$Weaver" "registers" "LFaultLoom$Registers;" ∈ wsX7_init := List.mem_cons_of_mem _ wa_0_94
theorem in_X7_init_7 : ∀ w ∈ wsX70, w ∈ wsX7_init := fun w h => List.mem_cons_of_mem _ (inA7 w h)
theorem lk_X7_weave_15 : Cond.fieldLink RX7 15 "FaultLoom$Step" "op" "I" ∈ wsX7_weave := List.mem_cons_of_mem _ wa_0_190
theorem gX7_weave_X7_rowKind : GoodIn wsX7_weave (va_wsS RX7 21 yX7_rowKind wsX7_rowKind) := gSl wa_1_152 wa_1_153 wa_0_6 wa_1_154
theorem gX7_weave_X7_getFromRow : GoodIn wsX7_weave (wsV RX7 25 RX7 yX7_getFromRow wsX7_getFromRow) := gVl wa_1_155 wa_1_157 wp_1_12 wa_0_6 wa_1_158
theorem gX7_weave_X7_putIntoRow : GoodIn wsX7_weave (wsV RX7 29 RX7 yX7_putIntoRow wsX7_putIntoRow) := gVl wa_1_186 wa_1_188 wp_1_13 wa_0_6 wa_1_189
theorem gX7_weave_X7_useKnot : GoodIn wsX7_weave (wsV RX7 32 RX7 yX7_useKnot wsX7_useKnot) := gVl wa_1_208 wa_1_210 wp_1_14 wa_0_6 wa_1_211
theorem gX7_weave_X7_makeRow : GoodIn wsX7_weave (wsV RX7 36 RX7 yX7_makeRow wsX7_makeRow) := gVl wa_1_216 wa_1_218 wp_1_15 wa_0_6 wa_1_219
theorem gX7_weave_X7_makeGrid : GoodIn wsX7_weave (wsV RX7 39 RX7 yX7_makeGrid wsX7_makeGrid) := gVl wa_2_25 wa_2_27 wp_2_1 wa_0_6 wa_2_28
theorem gX7_weave_X7_makeKnot : GoodIn wsX7_weave (wsV RX7 42 RX7 yX7_makeKnot wsX7_makeKnot) := gVl wa_2_29 wa_2_31 wp_2_2 wa_0_6 wa_2_32
theorem gX7_weave_X7_makeFault : GoodIn wsX7_weave (wsV RX7 45 RX7 yX7_makeFault wsX7_makeFault) := gVl wa_2_33 wa_2_35 wp_2_3 wa_0_6 wa_2_36
theorem gX7_weave_X7_useFault : GoodIn wsX7_weave (wsV RX7 48 RX7 yX7_useFault wsX7_useFault) := gVl wa_2_37 wa_2_39 wp_2_4 wa_0_6 wa_2_40
theorem gX7_weave_X7_lookAtThing : GoodIn wsX7_weave (wsV RX7 51 RX7 yX7_lookAtThing wsX7_lookAtThing) := gVl wa_2_42 wa_2_44 wp_2_5 wa_0_6 wa_2_45
theorem in_X7_weave_5 : ∀ w ∈ wsX50, w ∈ wsX7_weave := fun w h => List.mem_cons_of_mem _ (inA5 w h)
theorem lk_X7_hasRoom_54 : Cond.fieldLink RX7 54 "FaultLoom$Weaver" "made" "I" ∈ wsX7_hasRoom := List.mem_cons_of_mem _ wa_0_96
theorem in_X7_hasRoom_7 : ∀ w ∈ wsX70, w ∈ wsX7_hasRoom := fun w h => List.mem_cons_of_mem _ (inA7 w h)
theorem lk_X7_makeRow_9 : Cond.fieldLink RX7 9 "FaultLoom$Weaver" "registers" "LFaultLoom$Registers;" ∈ wsX7_makeRow := List.mem_cons_of_mem _ wa_0_94
theorem lk_X7_makeRow_57 : Cond.fieldLink RX7 57 "FaultLoom$Step" "c" "I" ∈ wsX7_makeRow := List.mem_cons_of_mem _ wa_0_202
theorem gX7_makeRow_X3_getWord : GoodIn wsX7_makeRow (wsV RX7 60 RX3 yX3_getWord wsX3_getWord) := gVl wa_1_160 wa_1_74 wa_1_75 wa_0_3 wa_1_76
theorem gX7_makeRow_X7_hasRoom : GoodIn wsX7_makeRow (wsV RX7 65 RX7 yX7_hasRoom wsX7_hasRoom) := gVl wa_1_220 wa_1_222 wp_2_0 wa_0_6 wa_1_223
theorem lk_X7_makeRow_54 : Cond.fieldLink RX7 54 "FaultLoom$Weaver" "made" "I" ∈ wsX7_makeRow := List.mem_cons_of_mem _ wa_0_96
theorem lk_X7_makeRow_69 : Cond.fieldLink RX7 69 "FaultLoom$Step" "a" "I" ∈ wsX7_makeRow := List.mem_cons_of_mem _ wa_0_194
theorem lk_X7_makeRow_72 : Cond.classLink RX7 72 RX6 ∈ wsX7_makeRow := List.mem_cons_of_mem _ wa_1_224
theorem lki_X7_makeRow_72 : Cond.instantiable RX6 8 ∈ wsX7_makeRow := List.mem_cons_of_mem _ wa_1_225
theorem lkz_X7_makeRow_72 : Cond.initialized RX6 ∈ wsX7_makeRow := List.mem_cons_of_mem _ wa_0_10
theorem lk_X7_makeRow_74 : Cond.fieldLink RX7 74 "FaultLoom$Step" "b" "I" ∈ wsX7_makeRow := List.mem_cons_of_mem _ wa_0_198
theorem lk_X7_makeRow_77 : Cond.methodLink RX7 77 yX6_init ∈ wsX7_makeRow := List.mem_cons_of_mem _ wa_1_226
theorem lki_X7_makeRow_77 : Cond.instanceMethod yX6_init ∈ wsX7_makeRow := List.mem_cons_of_mem _ wa_1_227
theorem lkz_X7_makeRow_77 : Cond.initialized yX6_init.cls ∈ wsX7_makeRow := List.mem_cons_of_mem _ wa_0_10
theorem gX7_makeRow_X6_init : GoodIn wsX7_makeRow wsX6_init := gIl wa_1_228
theorem gX7_makeRow_X3_setThing : GoodIn wsX7_makeRow (wsV RX7 80 RX3 yX3_setThing wsX3_setThing) := gVl wa_1_185 wa_1_25 wa_1_26 wa_0_3 wa_1_27
theorem in_X7_makeRow_5 : ∀ w ∈ wsX50, w ∈ wsX7_makeRow := fun w h => List.mem_cons_of_mem _ (inA5 w h)
theorem in_X7_makeRow_6 : ∀ w ∈ wsX60, w ∈ wsX7_makeRow := fun w h => List.mem_cons_of_mem _ (inA6 w h)
theorem in_X7_makeRow_7 : ∀ w ∈ wsX70, w ∈ wsX7_makeRow := fun w h => List.mem_cons_of_mem _ (inA7 w h)
theorem lk_X7_makeGrid_9 : Cond.fieldLink RX7 9 "FaultLoom$Weaver" "registers" "LFaultLoom$Registers;" ∈ wsX7_makeGrid := List.mem_cons_of_mem _ wa_0_94
theorem lk_X7_makeGrid_74 : Cond.fieldLink RX7 74 "FaultLoom$Step" "b" "I" ∈ wsX7_makeGrid := List.mem_cons_of_mem _ wa_0_198
theorem gX7_makeGrid_X3_getWord : GoodIn wsX7_makeGrid (wsV RX7 60 RX3 yX3_getWord wsX3_getWord) := gVl wa_1_160 wa_1_74 wa_1_75 wa_0_3 wa_1_76
theorem lk_X7_makeGrid_57 : Cond.fieldLink RX7 57 "FaultLoom$Step" "c" "I" ∈ wsX7_makeGrid := List.mem_cons_of_mem _ wa_0_202
theorem gX7_makeGrid_X7_hasRoom : GoodIn wsX7_makeGrid (wsV RX7 65 RX7 yX7_hasRoom wsX7_hasRoom) := gVl wa_1_220 wa_1_222 wp_2_0 wa_0_6 wa_1_223
theorem lk_X7_makeGrid_54 : Cond.fieldLink RX7 54 "FaultLoom$Weaver" "made" "I" ∈ wsX7_makeGrid := List.mem_cons_of_mem _ wa_0_96
theorem lk_X7_makeGrid_72 : Cond.classLink RX7 72 RX6 ∈ wsX7_makeGrid := List.mem_cons_of_mem _ wa_1_224
theorem lki_X7_makeGrid_72 : Cond.instantiable RX6 8 ∈ wsX7_makeGrid := List.mem_cons_of_mem _ wa_1_225
theorem lkz_X7_makeGrid_72 : Cond.initialized RX6 ∈ wsX7_makeGrid := List.mem_cons_of_mem _ wa_0_10
theorem lk_X7_makeGrid_77 : Cond.methodLink RX7 77 yX6_init ∈ wsX7_makeGrid := List.mem_cons_of_mem _ wa_1_226
theorem lki_X7_makeGrid_77 : Cond.instanceMethod yX6_init ∈ wsX7_makeGrid := List.mem_cons_of_mem _ wa_1_227
theorem lkz_X7_makeGrid_77 : Cond.initialized yX6_init.cls ∈ wsX7_makeGrid := List.mem_cons_of_mem _ wa_0_10
theorem gX7_makeGrid_X6_init : GoodIn wsX7_makeGrid wsX6_init := gIl wa_1_228
theorem gX7_makeGrid_X6_setMember : GoodIn wsX7_makeGrid (wsV RX7 84 RX6 yX6_setMember wsX6_setMember) := gVl wa_1_204 wa_1_205 wa_1_206 wa_0_10 wa_1_207
theorem lk_X7_makeGrid_69 : Cond.fieldLink RX7 69 "FaultLoom$Step" "a" "I" ∈ wsX7_makeGrid := List.mem_cons_of_mem _ wa_0_194
theorem gX7_makeGrid_X3_setThing : GoodIn wsX7_makeGrid (wsV RX7 80 RX3 yX3_setThing wsX3_setThing) := gVl wa_1_185 wa_1_25 wa_1_26 wa_0_3 wa_1_27
theorem in_X7_makeGrid_5 : ∀ w ∈ wsX50, w ∈ wsX7_makeGrid := fun w h => List.mem_cons_of_mem _ (inA5 w h)
theorem in_X7_makeGrid_6 : ∀ w ∈ wsX60, w ∈ wsX7_makeGrid := fun w h => List.mem_cons_of_mem _ (inA6 w h)
theorem in_X7_makeGrid_7 : ∀ w ∈ wsX70, w ∈ wsX7_makeGrid := fun w h => List.mem_cons_of_mem _ (inA7 w h)
theorem gX7_makeKnot_X7_hasRoom : GoodIn wsX7_makeKnot (wsV RX7 65 RX7 yX7_hasRoom wsX7_hasRoom) := gVl wa_1_220 wa_1_222 wp_2_0 wa_0_6 wa_1_223
theorem lk_X7_makeKnot_54 : Cond.fieldLink RX7 54 "FaultLoom$Weaver" "made" "I" ∈ wsX7_makeKnot := List.mem_cons_of_mem _ wa_0_96
theorem lk_X7_makeKnot_72 : Cond.classLink RX7 72 RX6 ∈ wsX7_makeKnot := List.mem_cons_of_mem _ wa_1_224
theorem lki_X7_makeKnot_72 : Cond.instantiable RX6 8 ∈ wsX7_makeKnot := List.mem_cons_of_mem _ wa_1_225
theorem lkz_X7_makeKnot_72 : Cond.initialized RX6 ∈ wsX7_makeKnot := List.mem_cons_of_mem _ wa_0_10
theorem lk_X7_makeKnot_74 : Cond.fieldLink RX7 74 "FaultLoom$Step" "b" "I" ∈ wsX7_makeKnot := List.mem_cons_of_mem _ wa_0_198
theorem lk_X7_makeKnot_77 : Cond.methodLink RX7 77 yX6_init ∈ wsX7_makeKnot := List.mem_cons_of_mem _ wa_1_226
theorem lki_X7_makeKnot_77 : Cond.instanceMethod yX6_init ∈ wsX7_makeKnot := List.mem_cons_of_mem _ wa_1_227
theorem lkz_X7_makeKnot_77 : Cond.initialized yX6_init.cls ∈ wsX7_makeKnot := List.mem_cons_of_mem _ wa_0_10
theorem gX7_makeKnot_X6_init : GoodIn wsX7_makeKnot wsX6_init := gIl wa_1_228
theorem lk_X7_makeKnot_9 : Cond.fieldLink RX7 9 "FaultLoom$Weaver" "registers" "LFaultLoom$Registers;" ∈ wsX7_makeKnot := List.mem_cons_of_mem _ wa_0_94
theorem lk_X7_makeKnot_57 : Cond.fieldLink RX7 57 "FaultLoom$Step" "c" "I" ∈ wsX7_makeKnot := List.mem_cons_of_mem _ wa_0_202
theorem gX7_makeKnot_X3_getWord : GoodIn wsX7_makeKnot (wsV RX7 60 RX3 yX3_getWord wsX3_getWord) := gVl wa_1_160 wa_1_74 wa_1_75 wa_0_3 wa_1_76
theorem lk_X7_makeKnot_87 : Cond.fieldLink RX7 87 "FaultLoom$Thing" "tag" "I" ∈ wsX7_makeKnot := List.mem_cons_of_mem _ wa_2_0
theorem lk_X7_makeKnot_69 : Cond.fieldLink RX7 69 "FaultLoom$Step" "a" "I" ∈ wsX7_makeKnot := List.mem_cons_of_mem _ wa_0_194
theorem gX7_makeKnot_X3_setThing : GoodIn wsX7_makeKnot (wsV RX7 80 RX3 yX3_setThing wsX3_setThing) := gVl wa_1_185 wa_1_25 wa_1_26 wa_0_3 wa_1_27
theorem in_X7_makeKnot_5 : ∀ w ∈ wsX50, w ∈ wsX7_makeKnot := fun w h => List.mem_cons_of_mem _ (inA5 w h)
theorem in_X7_makeKnot_6 : ∀ w ∈ wsX60, w ∈ wsX7_makeKnot := fun w h => List.mem_cons_of_mem _ (inA6 w h)
theorem in_X7_makeKnot_7 : ∀ w ∈ wsX70, w ∈ wsX7_makeKnot := fun w h => List.mem_cons_of_mem _ (inA7 w h)
theorem lk_X7_makeFault_9 : Cond.fieldLink RX7 9 "FaultLoom$Weaver" "registers" "LFaultLoom$Registers;" ∈ wsX7_makeFault := List.mem_cons_of_mem _ wa_0_94
theorem lk_X7_makeFault_57 : Cond.fieldLink RX7 57 "FaultLoom$Step" "c" "I" ∈ wsX7_makeFault := List.mem_cons_of_mem _ wa_0_202
theorem gX7_makeFault_X3_getThing : GoodIn wsX7_makeFault (wsV RX7 90 RX3 yX3_getThing wsX3_getThing) := gVl wa_1_159 wa_1_132 wa_1_133 wa_0_3 wa_1_134
theorem gX7_makeFault_X8_misfits_n94 : GoodIn wsX7_makeFault wsX8_misfits := gIl wa_1_163
theorem lks_X7_makeFault : Cond.static yX8_misfits ∈ wsX7_makeFault := List.mem_cons_of_mem _ wa_1_162
theorem lkz_X7_makeFault_94 : Cond.initialized yX8_misfits.cls ∈ wsX7_makeFault := List.mem_cons_of_mem _ wa_0_1
theorem gX7_makeFault_X7_hasRoom : GoodIn wsX7_makeFault (wsV RX7 65 RX7 yX7_hasRoom wsX7_hasRoom) := gVl wa_1_220 wa_1_222 wp_2_0 wa_0_6 wa_1_223
theorem lk_X7_makeFault_54 : Cond.fieldLink RX7 54 "FaultLoom$Weaver" "made" "I" ∈ wsX7_makeFault := List.mem_cons_of_mem _ wa_0_96
theorem lk_X7_makeFault_72 : Cond.classLink RX7 72 RX6 ∈ wsX7_makeFault := List.mem_cons_of_mem _ wa_1_224
theorem lki_X7_makeFault_72 : Cond.instantiable RX6 8 ∈ wsX7_makeFault := List.mem_cons_of_mem _ wa_1_225
theorem lkz_X7_makeFault_72 : Cond.initialized RX6 ∈ wsX7_makeFault := List.mem_cons_of_mem _ wa_0_10
theorem lk_X7_makeFault_77 : Cond.methodLink RX7 77 yX6_init ∈ wsX7_makeFault := List.mem_cons_of_mem _ wa_1_226
theorem lki_X7_makeFault_77 : Cond.instanceMethod yX6_init ∈ wsX7_makeFault := List.mem_cons_of_mem _ wa_1_227
theorem lkz_X7_makeFault_77 : Cond.initialized yX6_init.cls ∈ wsX7_makeFault := List.mem_cons_of_mem _ wa_0_10
theorem gX7_makeFault_X6_init : GoodIn wsX7_makeFault wsX6_init := gIl wa_1_228
theorem lk_X7_makeFault_74 : Cond.fieldLink RX7 74 "FaultLoom$Step" "b" "I" ∈ wsX7_makeFault := List.mem_cons_of_mem _ wa_0_198
theorem gX7_makeFault_X3_getWord : GoodIn wsX7_makeFault (wsV RX7 60 RX3 yX3_getWord wsX3_getWord) := gVl wa_1_160 wa_1_74 wa_1_75 wa_0_3 wa_1_76
theorem lk_X7_makeFault_87 : Cond.fieldLink RX7 87 "FaultLoom$Thing" "tag" "I" ∈ wsX7_makeFault := List.mem_cons_of_mem _ wa_2_0
theorem lk_X7_makeFault_98 : Cond.fieldLink RX7 98 "FaultLoom$Thing" "link" "LFaultLoom$Thing;" ∈ wsX7_makeFault := List.mem_cons_of_mem _ wa_2_6
theorem lk_X7_makeFault_69 : Cond.fieldLink RX7 69 "FaultLoom$Step" "a" "I" ∈ wsX7_makeFault := List.mem_cons_of_mem _ wa_0_194
theorem gX7_makeFault_X3_setThing : GoodIn wsX7_makeFault (wsV RX7 80 RX3 yX3_setThing wsX3_setThing) := gVl wa_1_185 wa_1_25 wa_1_26 wa_0_3 wa_1_27
theorem in_X7_makeFault_5 : ∀ w ∈ wsX50, w ∈ wsX7_makeFault := fun w h => List.mem_cons_of_mem _ (inA5 w h)
theorem in_X7_makeFault_6 : ∀ w ∈ wsX60, w ∈ wsX7_makeFault := fun w h => List.mem_cons_of_mem _ (inA6 w h)
theorem in_X7_makeFault_7 : ∀ w ∈ wsX70, w ∈ wsX7_makeFault := fun w h => List.mem_cons_of_mem _ (inA7 w h)
theorem lk_X7_lookAtThing_9 : Cond.fieldLink RX7 9 "FaultLoom$Weaver" "registers" "LFaultLoom$Registers;" ∈ wsX7_lookAtThing := List.mem_cons_of_mem _ wa_0_94
theorem lk_X7_lookAtThing_74 : Cond.fieldLink RX7 74 "FaultLoom$Step" "b" "I" ∈ wsX7_lookAtThing := List.mem_cons_of_mem _ wa_0_198
theorem gX7_lookAtThing_X3_getThing : GoodIn wsX7_lookAtThing (wsV RX7 90 RX3 yX3_getThing wsX3_getThing) := gVl wa_1_159 wa_1_132 wa_1_133 wa_0_3 wa_1_134
theorem lk_X7_lookAtThing_15 : Cond.fieldLink RX7 15 "FaultLoom$Step" "op" "I" ∈ wsX7_lookAtThing := List.mem_cons_of_mem _ wa_0_190
theorem lk_X7_lookAtThing_69 : Cond.fieldLink RX7 69 "FaultLoom$Step" "a" "I" ∈ wsX7_lookAtThing := List.mem_cons_of_mem _ wa_0_194
theorem gX7_lookAtThing_X3_setThing : GoodIn wsX7_lookAtThing (wsV RX7 80 RX3 yX3_setThing wsX3_setThing) := gVl wa_1_185 wa_1_25 wa_1_26 wa_0_3 wa_1_27
theorem lk_X7_lookAtThing_57 : Cond.fieldLink RX7 57 "FaultLoom$Step" "c" "I" ∈ wsX7_lookAtThing := List.mem_cons_of_mem _ wa_0_202
theorem gX7_lookAtThing_X3_setWord : GoodIn wsX7_lookAtThing (wsV RX7 102 RX3 yX3_setWord wsX3_setWord) := gVl wa_1_173 wa_1_21 wa_1_22 wa_0_3 wa_1_23
theorem gX7_lookAtThing_X6_isOf : GoodIn wsX7_lookAtThing (wsV RX7 105 RX6 yX6_isOf wsX6_isOf) := gVl wa_2_41 wa_1_139 wa_1_140 wa_0_10 wa_1_141
theorem gX7_lookAtThing_X7_countPlaces : GoodIn wsX7_lookAtThing (wsV RX7 108 RX7 yX7_countPlaces wsX7_countPlaces) := gVl wa_2_46 wa_2_48 wp_2_6 wa_0_6 wa_2_49
theorem in_X7_lookAtThing_5 : ∀ w ∈ wsX50, w ∈ wsX7_lookAtThing := fun w h => List.mem_cons_of_mem _ (inA5 w h)
theorem in_X7_lookAtThing_7 : ∀ w ∈ wsX70, w ∈ wsX7_lookAtThing := fun w h => List.mem_cons_of_mem _ (inA7 w h)
theorem gX7_countPlaces_X6_isRow : GoodIn wsX7_countPlaces (wsV RX7 112 RX6 yX6_isRow wsX6_isRow) := gVl wa_2_50 wa_2_51 wa_2_52 wa_0_10 wa_2_53
theorem lk_X7_countPlaces_9 : Cond.fieldLink RX7 9 "FaultLoom$Weaver" "registers" "LFaultLoom$Registers;" ∈ wsX7_countPlaces := List.mem_cons_of_mem _ wa_0_94
theorem lk_X7_countPlaces_69 : Cond.fieldLink RX7 69 "FaultLoom$Step" "a" "I" ∈ wsX7_countPlaces := List.mem_cons_of_mem _ wa_0_194
theorem lk_X7_countPlaces_116 : Cond.fieldLink RX7 116 "FaultLoom$Thing" "places" "I" ∈ wsX7_countPlaces := List.mem_cons_of_mem _ wa_1_235
theorem gX7_countPlaces_X3_setWord : GoodIn wsX7_countPlaces (wsV RX7 102 RX3 yX3_setWord wsX3_setWord) := gVl wa_1_173 wa_1_21 wa_1_22 wa_0_3 wa_1_23
theorem in_X7_countPlaces_5 : ∀ w ∈ wsX50, w ∈ wsX7_countPlaces := fun w h => List.mem_cons_of_mem _ (inA5 w h)
theorem in_X7_countPlaces_6 : ∀ w ∈ wsX60, w ∈ wsX7_countPlaces := fun w h => List.mem_cons_of_mem _ (inA6 w h)
theorem in_X7_countPlaces_7 : ∀ w ∈ wsX70, w ∈ wsX7_countPlaces := fun w h => List.mem_cons_of_mem _ (inA7 w h)
theorem lk_X7_getFromRow_9 : Cond.fieldLink RX7 9 "FaultLoom$Weaver" "registers" "LFaultLoom$Registers;" ∈ wsX7_getFromRow := List.mem_cons_of_mem _ wa_0_94
theorem lk_X7_getFromRow_74 : Cond.fieldLink RX7 74 "FaultLoom$Step" "b" "I" ∈ wsX7_getFromRow := List.mem_cons_of_mem _ wa_0_198
theorem gX7_getFromRow_X3_getThing : GoodIn wsX7_getFromRow (wsV RX7 90 RX3 yX3_getThing wsX3_getThing) := gVl wa_1_159 wa_1_132 wa_1_133 wa_0_3 wa_1_134
theorem lk_X7_getFromRow_57 : Cond.fieldLink RX7 57 "FaultLoom$Step" "c" "I" ∈ wsX7_getFromRow := List.mem_cons_of_mem _ wa_0_202
theorem gX7_getFromRow_X3_getWord : GoodIn wsX7_getFromRow (wsV RX7 60 RX3 yX3_getWord wsX3_getWord) := gVl wa_1_160 wa_1_74 wa_1_75 wa_0_3 wa_1_76
theorem gX7_getFromRow_X8_misfits_n94 : GoodIn wsX7_getFromRow wsX8_misfits := gIl wa_1_163
theorem lks_X7_getFromRow : Cond.static yX8_misfits ∈ wsX7_getFromRow := List.mem_cons_of_mem _ wa_1_162
theorem lkz_X7_getFromRow_94 : Cond.initialized yX8_misfits.cls ∈ wsX7_getFromRow := List.mem_cons_of_mem _ wa_0_1
theorem gX7_getFromRow_X6_hasPlace : GoodIn wsX7_getFromRow (wsV RX7 119 RX6 yX6_hasPlace wsX6_hasPlace) := gVl wa_1_165 wa_1_166 wa_1_167 wa_0_10 wa_1_168
theorem lk_X7_getFromRow_69 : Cond.fieldLink RX7 69 "FaultLoom$Step" "a" "I" ∈ wsX7_getFromRow := List.mem_cons_of_mem _ wa_0_194
theorem gX7_getFromRow_X6_getNumber : GoodIn wsX7_getFromRow (wsV RX7 122 RX6 yX6_getNumber wsX6_getNumber) := gVl wa_1_169 wa_1_170 wa_1_171 wa_0_10 wa_1_172
theorem gX7_getFromRow_X3_setWord : GoodIn wsX7_getFromRow (wsV RX7 102 RX3 yX3_setWord wsX3_setWord) := gVl wa_1_173 wa_1_21 wa_1_22 wa_0_3 wa_1_23
theorem gX7_getFromRow_X3_setLong : GoodIn wsX7_getFromRow (wsV RX7 126 RX3 yX3_setLong wsX3_setLong) := gVl wa_1_174 wa_1_29 wa_1_30 wa_0_3 wa_1_31
theorem gX7_getFromRow_X6_getPoint : GoodIn wsX7_getFromRow (wsV RX7 130 RX6 yX6_getPoint wsX6_getPoint) := gVl wa_1_175 wa_1_176 wa_1_177 wa_0_10 wa_1_178
theorem gX7_getFromRow_X3_setSingle : GoodIn wsX7_getFromRow (wsV RX7 134 RX3 yX3_setSingle wsX3_setSingle) := gVl wa_1_179 wa_1_33 wa_1_34 wa_0_3 wa_1_35
theorem gX7_getFromRow_X3_setDouble : GoodIn wsX7_getFromRow (wsV RX7 138 RX3 yX3_setDouble wsX3_setDouble) := gVl wa_1_180 wa_1_37 wa_1_38 wa_0_3 wa_1_39
theorem gX7_getFromRow_X6_getMember : GoodIn wsX7_getFromRow (wsV RX7 142 RX6 yX6_getMember wsX6_getMember) := gVl wa_1_181 wa_1_182 wa_1_183 wa_0_10 wa_1_184
theorem gX7_getFromRow_X3_setThing : GoodIn wsX7_getFromRow (wsV RX7 80 RX3 yX3_setThing wsX3_setThing) := gVl wa_1_185 wa_1_25 wa_1_26 wa_0_3 wa_1_27
theorem in_X7_getFromRow_5 : ∀ w ∈ wsX50, w ∈ wsX7_getFromRow := fun w h => List.mem_cons_of_mem _ (inA5 w h)
theorem in_X7_getFromRow_7 : ∀ w ∈ wsX70, w ∈ wsX7_getFromRow := fun w h => List.mem_cons_of_mem _ (inA7 w h)
theorem lk_X7_putIntoRow_9 : Cond.fieldLink RX7 9 "FaultLoom$Weaver" "registers" "LFaultLoom$Registers;" ∈ wsX7_putIntoRow := List.mem_cons_of_mem _ wa_0_94
theorem lk_X7_putIntoRow_74 : Cond.fieldLink RX7 74 "FaultLoom$Step" "b" "I" ∈ wsX7_putIntoRow := List.mem_cons_of_mem _ wa_0_198
theorem gX7_putIntoRow_X3_getThing : GoodIn wsX7_putIntoRow (wsV RX7 90 RX3 yX3_getThing wsX3_getThing) := gVl wa_1_159 wa_1_132 wa_1_133 wa_0_3 wa_1_134
theorem lk_X7_putIntoRow_69 : Cond.fieldLink RX7 69 "FaultLoom$Step" "a" "I" ∈ wsX7_putIntoRow := List.mem_cons_of_mem _ wa_0_194
theorem lk_X7_putIntoRow_57 : Cond.fieldLink RX7 57 "FaultLoom$Step" "c" "I" ∈ wsX7_putIntoRow := List.mem_cons_of_mem _ wa_0_202
theorem gX7_putIntoRow_X3_getWord : GoodIn wsX7_putIntoRow (wsV RX7 60 RX3 yX3_getWord wsX3_getWord) := gVl wa_1_160 wa_1_74 wa_1_75 wa_0_3 wa_1_76
theorem gX7_putIntoRow_X8_misfits_n94 : GoodIn wsX7_putIntoRow wsX8_misfits := gIl wa_1_163
theorem lks_X7_putIntoRow : Cond.static yX8_misfits ∈ wsX7_putIntoRow := List.mem_cons_of_mem _ wa_1_162
theorem lkz_X7_putIntoRow_94 : Cond.initialized yX8_misfits.cls ∈ wsX7_putIntoRow := List.mem_cons_of_mem _ wa_0_1
theorem gX7_putIntoRow_X6_hasPlace : GoodIn wsX7_putIntoRow (wsV RX7 119 RX6 yX6_hasPlace wsX6_hasPlace) := gVl wa_1_165 wa_1_166 wa_1_167 wa_0_10 wa_1_168
theorem lk_X7_putIntoRow_145 : Cond.fieldLink RX7 145 "FaultLoom$Thing" "kind" "I" ∈ wsX7_putIntoRow := List.mem_cons_of_mem _ wa_1_232
theorem gX7_putIntoRow_X7_narrow : GoodIn wsX7_putIntoRow (va_wsS RX7 148 yX7_narrow wsX7_narrow) := gSl wa_1_190 wa_1_191 wa_0_6 wa_1_192
theorem gX7_putIntoRow_X6_setNumber : GoodIn wsX7_putIntoRow (wsV RX7 152 RX6 yX6_setNumber wsX6_setNumber) := gVl wa_1_193 wa_1_194 wa_1_195 wa_0_10 wa_1_196
theorem gX7_putIntoRow_X3_getLong : GoodIn wsX7_putIntoRow (wsV RX7 155 RX3 yX3_getLong wsX3_getLong) := gVl wa_1_197 wa_1_78 wa_1_79 wa_0_3 wa_1_80
theorem gX7_putIntoRow_X3_getSingle : GoodIn wsX7_putIntoRow (wsV RX7 158 RX3 yX3_getSingle wsX3_getSingle) := gVl wa_1_198 wa_1_97 wa_1_98 wa_0_3 wa_1_99
theorem gX7_putIntoRow_X6_setPoint : GoodIn wsX7_putIntoRow (wsV RX7 162 RX6 yX6_setPoint wsX6_setPoint) := gVl wa_1_199 wa_1_200 wa_1_201 wa_0_10 wa_1_202
theorem gX7_putIntoRow_X3_getDouble : GoodIn wsX7_putIntoRow (wsV RX7 165 RX3 yX3_getDouble wsX3_getDouble) := gVl wa_1_203 wa_1_101 wa_1_102 wa_0_3 wa_1_103
theorem gX7_putIntoRow_X6_setMember : GoodIn wsX7_putIntoRow (wsV RX7 84 RX6 yX6_setMember wsX6_setMember) := gVl wa_1_204 wa_1_205 wa_1_206 wa_0_10 wa_1_207
theorem in_X7_putIntoRow_5 : ∀ w ∈ wsX50, w ∈ wsX7_putIntoRow := fun w h => List.mem_cons_of_mem _ (inA5 w h)
theorem in_X7_putIntoRow_6 : ∀ w ∈ wsX60, w ∈ wsX7_putIntoRow := fun w h => List.mem_cons_of_mem _ (inA6 w h)
theorem in_X7_putIntoRow_7 : ∀ w ∈ wsX70, w ∈ wsX7_putIntoRow := fun w h => List.mem_cons_of_mem _ (inA7 w h)
theorem lk_X7_useKnot_9 : Cond.fieldLink RX7 9 "FaultLoom$Weaver" "registers" "LFaultLoom$Registers;" ∈ wsX7_useKnot := List.mem_cons_of_mem _ wa_0_94
theorem lk_X7_useKnot_74 : Cond.fieldLink RX7 74 "FaultLoom$Step" "b" "I" ∈ wsX7_useKnot := List.mem_cons_of_mem _ wa_0_198
theorem gX7_useKnot_X3_getThing : GoodIn wsX7_useKnot (wsV RX7 90 RX3 yX3_getThing wsX3_getThing) := gVl wa_1_159 wa_1_132 wa_1_133 wa_0_3 wa_1_134
theorem lk_X7_useKnot_15 : Cond.fieldLink RX7 15 "FaultLoom$Step" "op" "I" ∈ wsX7_useKnot := List.mem_cons_of_mem _ wa_0_190
theorem gX7_useKnot_X8_misfits_n94 : GoodIn wsX7_useKnot wsX8_misfits := gIl wa_1_163
theorem lks_X7_useKnot : Cond.static yX8_misfits ∈ wsX7_useKnot := List.mem_cons_of_mem _ wa_1_162
theorem lkz_X7_useKnot_94 : Cond.initialized yX8_misfits.cls ∈ wsX7_useKnot := List.mem_cons_of_mem _ wa_0_1
theorem lk_X7_useKnot_69 : Cond.fieldLink RX7 69 "FaultLoom$Step" "a" "I" ∈ wsX7_useKnot := List.mem_cons_of_mem _ wa_0_194
theorem lk_X7_useKnot_87 : Cond.fieldLink RX7 87 "FaultLoom$Thing" "tag" "I" ∈ wsX7_useKnot := List.mem_cons_of_mem _ wa_2_0
theorem gX7_useKnot_X3_setWord : GoodIn wsX7_useKnot (wsV RX7 102 RX3 yX3_setWord wsX3_setWord) := gVl wa_1_173 wa_1_21 wa_1_22 wa_0_3 wa_1_23
theorem gX7_useKnot_X3_getWord : GoodIn wsX7_useKnot (wsV RX7 60 RX3 yX3_getWord wsX3_getWord) := gVl wa_1_160 wa_1_74 wa_1_75 wa_0_3 wa_1_76
theorem lk_X7_useKnot_168 : Cond.fieldLink RX7 168 "FaultLoom$Thing" "weight" "J" ∈ wsX7_useKnot := List.mem_cons_of_mem _ wa_2_4
theorem gX7_useKnot_X3_setLong : GoodIn wsX7_useKnot (wsV RX7 126 RX3 yX3_setLong wsX3_setLong) := gVl wa_1_174 wa_1_29 wa_1_30 wa_0_3 wa_1_31
theorem gX7_useKnot_X3_getLong : GoodIn wsX7_useKnot (wsV RX7 155 RX3 yX3_getLong wsX3_getLong) := gVl wa_1_197 wa_1_78 wa_1_79 wa_0_3 wa_1_80
theorem lk_X7_useKnot_98 : Cond.fieldLink RX7 98 "FaultLoom$Thing" "link" "LFaultLoom$Thing;" ∈ wsX7_useKnot := List.mem_cons_of_mem _ wa_2_6
theorem gX7_useKnot_X3_setThing : GoodIn wsX7_useKnot (wsV RX7 80 RX3 yX3_setThing wsX3_setThing) := gVl wa_1_185 wa_1_25 wa_1_26 wa_0_3 wa_1_27
theorem lk_X7_useKnot_57 : Cond.fieldLink RX7 57 "FaultLoom$Step" "c" "I" ∈ wsX7_useKnot := List.mem_cons_of_mem _ wa_0_202
theorem gX7_useKnot_X6_turn : GoodIn wsX7_useKnot (wsV RX7 172 RX6 yX6_turn wsX6_turn) := gVl wa_1_212 wa_1_213 wa_1_214 wa_0_10 wa_1_215
theorem in_X7_useKnot_5 : ∀ w ∈ wsX50, w ∈ wsX7_useKnot := fun w h => List.mem_cons_of_mem _ (inA5 w h)
theorem in_X7_useKnot_6 : ∀ w ∈ wsX60, w ∈ wsX7_useKnot := fun w h => List.mem_cons_of_mem _ (inA6 w h)
theorem in_X7_useKnot_7 : ∀ w ∈ wsX70, w ∈ wsX7_useKnot := fun w h => List.mem_cons_of_mem _ (inA7 w h)
theorem lk_X7_useFault_9 : Cond.fieldLink RX7 9 "FaultLoom$Weaver" "registers" "LFaultLoom$Registers;" ∈ wsX7_useFault := List.mem_cons_of_mem _ wa_0_94
theorem lk_X7_useFault_74 : Cond.fieldLink RX7 74 "FaultLoom$Step" "b" "I" ∈ wsX7_useFault := List.mem_cons_of_mem _ wa_0_198
theorem gX7_useFault_X3_getThing : GoodIn wsX7_useFault (wsV RX7 90 RX3 yX3_getThing wsX3_getThing) := gVl wa_1_159 wa_1_132 wa_1_133 wa_0_3 wa_1_134
theorem gX7_useFault_X6_isOf : GoodIn wsX7_useFault (wsV RX7 105 RX6 yX6_isOf wsX6_isOf) := gVl wa_2_41 wa_1_139 wa_1_140 wa_0_10 wa_1_141
theorem lk_X7_useFault_15 : Cond.fieldLink RX7 15 "FaultLoom$Step" "op" "I" ∈ wsX7_useFault := List.mem_cons_of_mem _ wa_0_190
theorem lk_X7_useFault_69 : Cond.fieldLink RX7 69 "FaultLoom$Step" "a" "I" ∈ wsX7_useFault := List.mem_cons_of_mem _ wa_0_194
theorem lk_X7_useFault_87 : Cond.fieldLink RX7 87 "FaultLoom$Thing" "tag" "I" ∈ wsX7_useFault := List.mem_cons_of_mem _ wa_2_0
theorem gX7_useFault_X3_setWord : GoodIn wsX7_useFault (wsV RX7 102 RX3 yX3_setWord wsX3_setWord) := gVl wa_1_173 wa_1_21 wa_1_22 wa_0_3 wa_1_23
theorem lk_X7_useFault_98 : Cond.fieldLink RX7 98 "FaultLoom$Thing" "link" "LFaultLoom$Thing;" ∈ wsX7_useFault := List.mem_cons_of_mem _ wa_2_6
theorem gX7_useFault_X3_setThing : GoodIn wsX7_useFault (wsV RX7 80 RX3 yX3_setThing wsX3_setThing) := gVl wa_1_185 wa_1_25 wa_1_26 wa_0_3 wa_1_27
theorem in_X7_useFault_5 : ∀ w ∈ wsX50, w ∈ wsX7_useFault := fun w h => List.mem_cons_of_mem _ (inA5 w h)
theorem in_X7_useFault_6 : ∀ w ∈ wsX60, w ∈ wsX7_useFault := fun w h => List.mem_cons_of_mem _ (inA6 w h)
theorem in_X7_useFault_7 : ∀ w ∈ wsX70, w ∈ wsX7_useFault := fun w h => List.mem_cons_of_mem _ (inA7 w h)
theorem lk_X8_init_1 : Cond.methodLink RX8 1 objectInit ∈ wsX8_init := List.mem_cons_of_mem _ wa_0_16
theorem lki_X8_init_1 : Cond.instanceMethod objectInit ∈ wsX8_init := List.mem_cons_of_mem _ wa_0_17
theorem lkc_X8_init_1 : Cond.code objectInit ⟨#[0xb1]⟩ 1 none ∈ wsX8_init := List.mem_cons_of_mem _ wa_0_18
theorem lk_X8_init_7 : Cond.classLink RX8 7 RX1 ∈ wsX8_init := List.mem_cons_of_mem _ wa_0_19
theorem lki_X8_init_7 : Cond.instantiable RX1 4 ∈ wsX8_init := List.mem_cons_of_mem _ wa_0_20
theorem lkz_X8_init_7 : Cond.initialized RX1 ∈ wsX8_init := List.mem_cons_of_mem _ wa_0_2
theorem lk_X8_init_9 : Cond.methodLink RX8 9 yX1_init ∈ wsX8_init := List.mem_cons_of_mem _ wa_0_21
theorem lki_X8_init_9 : Cond.instanceMethod yX1_init ∈ wsX8_init := List.mem_cons_of_mem _ wa_0_22
theorem lkz_X8_init_9 : Cond.initialized yX1_init.cls ∈ wsX8_init := List.mem_cons_of_mem _ wa_0_2
theorem gX8_init_X1_init : GoodIn wsX8_init wsX1_init := gIl wa_0_23
theorem lk_X8_init_10 : Cond.fieldLink RX8 10 "FaultLoom" "program" "LFaultLoom$Program;" ∈ wsX8_init := List.mem_cons_of_mem _ wa_0_153
theorem lk_X8_init_16 : Cond.classLink RX8 16 RX3 ∈ wsX8_init := List.mem_cons_of_mem _ wa_0_44
theorem lki_X8_init_16 : Cond.instantiable RX3 5 ∈ wsX8_init := List.mem_cons_of_mem _ wa_0_45
theorem lkz_X8_init_16 : Cond.initialized RX3 ∈ wsX8_init := List.mem_cons_of_mem _ wa_0_3
theorem lk_X8_init_18 : Cond.methodLink RX8 18 yX3_init ∈ wsX8_init := List.mem_cons_of_mem _ wa_0_46
theorem lki_X8_init_18 : Cond.instanceMethod yX3_init ∈ wsX8_init := List.mem_cons_of_mem _ wa_0_47
theorem lkz_X8_init_18 : Cond.initialized yX3_init.cls ∈ wsX8_init := List.mem_cons_of_mem _ wa_0_3
theorem gX8_init_X3_init : GoodIn wsX8_init wsX3_init := gIl wa_0_48
theorem lk_X8_init_19 : Cond.fieldLink RX8 19 "FaultLoom" "registers" "LFaultLoom$Registers;" ∈ wsX8_init := List.mem_cons_of_mem _ wa_0_154
theorem lk_X8_init_23 : Cond.classLink RX8 23 RX4 ∈ wsX8_init := List.mem_cons_of_mem _ wa_0_72
theorem lki_X8_init_23 : Cond.instantiable RX4 16 ∈ wsX8_init := List.mem_cons_of_mem _ wa_0_73
theorem lkz_X8_init_23 : Cond.initialized RX4 ∈ wsX8_init := List.mem_cons_of_mem _ wa_0_4
theorem lk_X8_init_25 : Cond.methodLink RX8 25 yX4_init ∈ wsX8_init := List.mem_cons_of_mem _ wa_0_74
theorem lki_X8_init_25 : Cond.instanceMethod yX4_init ∈ wsX8_init := List.mem_cons_of_mem _ wa_0_75
theorem lkz_X8_init_25 : Cond.initialized yX4_init.cls ∈ wsX8_init := List.mem_cons_of_mem _ wa_0_4
theorem gX8_init_X4_init : GoodIn wsX8_init wsX4_init := gIl wa_0_76
theorem lk_X8_init_28 : Cond.fieldLink RX8 28 "FaultLoom" "run" "LFaultLoom$Run;" ∈ wsX8_init := List.mem_cons_of_mem _ wa_0_155
theorem in_X8_init_1 : ∀ w ∈ wsX10, w ∈ wsX8_init := fun w h => List.mem_cons_of_mem _ (inA1 w h)
theorem in_X8_init_3 : ∀ w ∈ wsX30, w ∈ wsX8_init := fun w h => List.mem_cons_of_mem _ (inA3 w h)
theorem in_X8_init_4 : ∀ w ∈ wsX40, w ∈ wsX8_init := fun w h => List.mem_cons_of_mem _ (inA4 w h)
theorem in_X8_init_8 : ∀ w ∈ wsX80, w ∈ wsX8_init := fun w h => List.mem_cons_of_mem _ (inA8 w h)
theorem gX8_put_X8_fitsShape : GoodIn wsX8_put (va_wsS RX8 32 yX8_fitsShape wsX8_fitsShape) := gSl wa_0_167 wa_0_168 wa_0_1 wa_0_169
theorem lk_X8_put_10 : Cond.fieldLink RX8 10 "FaultLoom" "program" "LFaultLoom$Program;" ∈ wsX8_put := List.mem_cons_of_mem _ wa_0_153
theorem lk_X8_put_36 : Cond.fieldLink RX8 36 "FaultLoom$Program" "stepCount" "I" ∈ wsX8_put := List.mem_cons_of_mem _ wa_0_32
theorem lk_X8_put_28 : Cond.fieldLink RX8 28 "FaultLoom" "run" "LFaultLoom$Run;" ∈ wsX8_put := List.mem_cons_of_mem _ wa_0_155
theorem gX8_put_X4_giveUp : GoodIn wsX8_put (wsV RX8 40 RX4 yX4_giveUp wsX4_giveUp) := gVl wa_0_178 wa_0_179 wa_0_180 wa_0_4 wa_0_181
theorem lk_X8_put_43 : Cond.classLink RX8 43 RX5 ∈ wsX8_put := List.mem_cons_of_mem _ wa_0_182
theorem lki_X8_put_43 : Cond.instantiable RX5 4 ∈ wsX8_put := List.mem_cons_of_mem _ wa_0_183
theorem lkz_X8_put_43 : Cond.initialized RX5 ∈ wsX8_put := List.mem_cons_of_mem _ wa_0_8
theorem lk_X8_put_45 : Cond.methodLink RX8 45 yX5_init ∈ wsX8_put := List.mem_cons_of_mem _ wa_0_184
theorem lki_X8_put_45 : Cond.instanceMethod yX5_init ∈ wsX8_put := List.mem_cons_of_mem _ wa_0_185
theorem lkz_X8_put_45 : Cond.initialized yX5_init.cls ∈ wsX8_put := List.mem_cons_of_mem _ wa_0_8
theorem gX8_put_X5_init : GoodIn wsX8_put wsX5_init := gIl wa_0_186
theorem gX8_put_X1_addStep : GoodIn wsX8_put (wsV RX8 48 RX1 yX1_addStep wsX1_addStep) := gVl wa_0_212 wa_0_213 wa_0_214 wa_0_2 wa_0_215
theorem in_X8_put_1 : ∀ w ∈ wsX10, w ∈ wsX8_put := fun w h => List.mem_cons_of_mem _ (inA1 w h)
theorem in_X8_put_5 : ∀ w ∈ wsX50, w ∈ wsX8_put := fun w h => List.mem_cons_of_mem _ (inA5 w h)
theorem in_X8_put_8 : ∀ w ∈ wsX80, w ∈ wsX8_put := fun w h => List.mem_cons_of_mem _ (inA8 w h)
theorem gX8_handler_X8_isPlace : GoodIn wsX8_handler (va_wsS RX8 52 yX8_isPlace wsX8_isPlace) := gSl wa_0_175 wa_0_176 wa_0_1 wa_0_177
theorem lk_X8_handler_10 : Cond.fieldLink RX8 10 "FaultLoom" "program" "LFaultLoom$Program;" ∈ wsX8_handler := List.mem_cons_of_mem _ wa_0_153
theorem lk_X8_handler_56 : Cond.fieldLink RX8 56 "FaultLoom$Program" "handlerCount" "I" ∈ wsX8_handler := List.mem_cons_of_mem _ wa_0_34
theorem lk_X8_handler_28 : Cond.fieldLink RX8 28 "FaultLoom" "run" "LFaultLoom$Run;" ∈ wsX8_handler := List.mem_cons_of_mem _ wa_0_155
theorem gX8_handler_X4_giveUp : GoodIn wsX8_handler (wsV RX8 40 RX4 yX4_giveUp wsX4_giveUp) := gVl wa_0_178 wa_0_179 wa_0_180 wa_0_4 wa_0_181
theorem lk_X8_handler_59 : Cond.classLink RX8 59 RX0 ∈ wsX8_handler := List.mem_cons_of_mem _ wa_0_220
theorem lki_X8_handler_59 : Cond.instantiable RX0 4 ∈ wsX8_handler := List.mem_cons_of_mem _ wa_0_221
theorem lkz_X8_handler_59 : Cond.initialized RX0 ∈ wsX8_handler := List.mem_cons_of_mem _ wa_0_9
theorem lk_X8_handler_61 : Cond.methodLink RX8 61 yX0_init ∈ wsX8_handler := List.mem_cons_of_mem _ wa_0_222
theorem lki_X8_handler_61 : Cond.instanceMethod yX0_init ∈ wsX8_handler := List.mem_cons_of_mem _ wa_0_223
theorem lkz_X8_handler_61 : Cond.initialized yX0_init.cls ∈ wsX8_handler := List.mem_cons_of_mem _ wa_0_9
theorem gX8_handler_X0_init : GoodIn wsX8_handler wsX0_init := gIl wa_0_224
theorem gX8_handler_X1_addHandler : GoodIn wsX8_handler (wsV RX8 62 RX1 yX1_addHandler wsX1_addHandler) := gVl wa_1_0 wa_1_1 wa_1_2 wa_0_2 wa_1_3
theorem in_X8_handler_0 : ∀ w ∈ wsX00, w ∈ wsX8_handler := fun w h => List.mem_cons_of_mem _ (inA0 w h)
theorem in_X8_handler_1 : ∀ w ∈ wsX10, w ∈ wsX8_handler := fun w h => List.mem_cons_of_mem _ (inA1 w h)
theorem in_X8_handler_8 : ∀ w ∈ wsX80, w ∈ wsX8_handler := fun w h => List.mem_cons_of_mem _ (inA8 w h)
theorem lk_X8_clear_10 : Cond.fieldLink RX8 10 "FaultLoom" "program" "LFaultLoom$Program;" ∈ wsX8_clear := List.mem_cons_of_mem _ wa_0_153
theorem lk_X8_clear_36 : Cond.fieldLink RX8 36 "FaultLoom$Program" "stepCount" "I" ∈ wsX8_clear := List.mem_cons_of_mem _ wa_0_32
theorem gX8_clear_X1_forget : GoodIn wsX8_clear (wsV RX8 66 RX1 yX1_forget wsX1_forget) := gVl wa_1_8 wa_1_9 wa_1_10 wa_0_2 wa_1_11
theorem lk_X8_clear_28 : Cond.fieldLink RX8 28 "FaultLoom" "run" "LFaultLoom$Run;" ∈ wsX8_clear := List.mem_cons_of_mem _ wa_0_155
theorem gX8_clear_X4_giveUp : GoodIn wsX8_clear (wsV RX8 40 RX4 yX4_giveUp wsX4_giveUp) := gVl wa_0_178 wa_0_179 wa_0_180 wa_0_4 wa_0_181
theorem in_X8_clear_1 : ∀ w ∈ wsX10, w ∈ wsX8_clear := fun w h => List.mem_cons_of_mem _ (inA1 w h)
theorem in_X8_clear_8 : ∀ w ∈ wsX80, w ∈ wsX8_clear := fun w h => List.mem_cons_of_mem _ (inA8 w h)
theorem lk_X8_start_19 : Cond.fieldLink RX8 19 "FaultLoom" "registers" "LFaultLoom$Registers;" ∈ wsX8_start := List.mem_cons_of_mem _ wa_0_154
theorem gX8_start_X3_reset : GoodIn wsX8_start (wsV RX8 69 RX3 yX3_reset wsX3_reset) := gVl wa_1_16 wa_1_17 wa_1_18 wa_0_3 wa_1_19
theorem lk_X8_start_28 : Cond.fieldLink RX8 28 "FaultLoom" "run" "LFaultLoom$Run;" ∈ wsX8_start := List.mem_cons_of_mem _ wa_0_155
theorem gX8_start_X4_begin : GoodIn wsX8_start (wsV RX8 72 RX4 yX4_begin wsX4_begin) := gVl wa_1_40 wa_1_41 wa_1_42 wa_0_4 wa_1_43
theorem lk_X8_start_10 : Cond.fieldLink RX8 10 "FaultLoom" "program" "LFaultLoom$Program;" ∈ wsX8_start := List.mem_cons_of_mem _ wa_0_153
theorem lk_X8_start_36 : Cond.fieldLink RX8 36 "FaultLoom$Program" "stepCount" "I" ∈ wsX8_start := List.mem_cons_of_mem _ wa_0_32
theorem in_X8_start_1 : ∀ w ∈ wsX10, w ∈ wsX8_start := fun w h => List.mem_cons_of_mem _ (inA1 w h)
theorem in_X8_start_8 : ∀ w ∈ wsX80, w ∈ wsX8_start := fun w h => List.mem_cons_of_mem _ (inA8 w h)
theorem lk_X8_step_28 : Cond.fieldLink RX8 28 "FaultLoom" "run" "LFaultLoom$Run;" ∈ wsX8_step := List.mem_cons_of_mem _ wa_0_155
theorem lk_X8_step_75 : Cond.fieldLink RX8 75 "FaultLoom$Run" "phase" "I" ∈ wsX8_step := List.mem_cons_of_mem _ wa_0_109
theorem lk_X8_step_10 : Cond.fieldLink RX8 10 "FaultLoom" "program" "LFaultLoom$Program;" ∈ wsX8_step := List.mem_cons_of_mem _ wa_0_153
theorem lk_X8_step_78 : Cond.fieldLink RX8 78 "FaultLoom$Run" "place" "I" ∈ wsX8_step := List.mem_cons_of_mem _ wa_0_111
theorem gX8_step_X1_getStep : GoodIn wsX8_step (wsV RX8 81 RX1 yX1_getStep wsX1_getStep) := gVl wa_1_56 wa_1_49 wa_1_50 wa_0_2 wa_1_51
theorem gX8_step_X4_doStep : GoodIn wsX8_step (wsV RX8 85 RX4 yX4_doStep wsX4_doStep) := gVl wa_1_57 wa_1_58 wa_1_59 wa_0_4 wa_1_60
theorem in_X8_step_4 : ∀ w ∈ wsX40, w ∈ wsX8_step := fun w h => List.mem_cons_of_mem _ (inA4 w h)
theorem in_X8_step_8 : ∀ w ∈ wsX80, w ∈ wsX8_step := fun w h => List.mem_cons_of_mem _ (inA8 w h)
theorem lk_X8_word_19 : Cond.fieldLink RX8 19 "FaultLoom" "registers" "LFaultLoom$Registers;" ∈ wsX8_word := List.mem_cons_of_mem _ wa_0_154
theorem gX8_word_X3_getWord : GoodIn wsX8_word (wsV RX8 89 RX3 yX3_getWord wsX3_getWord) := gVl wa_2_70 wa_1_74 wa_1_75 wa_0_3 wa_1_76
theorem in_X8_word_8 : ∀ w ∈ wsX80, w ∈ wsX8_word := fun w h => List.mem_cons_of_mem _ (inA8 w h)
theorem lk_X8_wide_19 : Cond.fieldLink RX8 19 "FaultLoom" "registers" "LFaultLoom$Registers;" ∈ wsX8_wide := List.mem_cons_of_mem _ wa_0_154
theorem gX8_wide_X3_getLong : GoodIn wsX8_wide (wsV RX8 93 RX3 yX3_getLong wsX3_getLong) := gVl wa_2_75 wa_1_78 wa_1_79 wa_0_3 wa_1_80
theorem in_X8_wide_8 : ∀ w ∈ wsX80, w ∈ wsX8_wide := fun w h => List.mem_cons_of_mem _ (inA8 w h)
theorem lk_X8_single_19 : Cond.fieldLink RX8 19 "FaultLoom" "registers" "LFaultLoom$Registers;" ∈ wsX8_single := List.mem_cons_of_mem _ wa_0_154
theorem gX8_single_X3_getSingle : GoodIn wsX8_single (wsV RX8 97 RX3 yX3_getSingle wsX3_getSingle) := gVl wa_2_80 wa_1_97 wa_1_98 wa_0_3 wa_1_99
theorem in_X8_single_8 : ∀ w ∈ wsX80, w ∈ wsX8_single := fun w h => List.mem_cons_of_mem _ (inA8 w h)
theorem lk_X8_real_19 : Cond.fieldLink RX8 19 "FaultLoom" "registers" "LFaultLoom$Registers;" ∈ wsX8_real := List.mem_cons_of_mem _ wa_0_154
theorem gX8_real_X3_getDouble : GoodIn wsX8_real (wsV RX8 101 RX3 yX3_getDouble wsX3_getDouble) := gVl wa_2_85 wa_1_101 wa_1_102 wa_0_3 wa_1_103
theorem in_X8_real_8 : ∀ w ∈ wsX80, w ∈ wsX8_real := fun w h => List.mem_cons_of_mem _ (inA8 w h)
theorem lk_X8_kind_19 : Cond.fieldLink RX8 19 "FaultLoom" "registers" "LFaultLoom$Registers;" ∈ wsX8_kind := List.mem_cons_of_mem _ wa_0_154
theorem gX8_kind_X3_hasThing : GoodIn wsX8_kind (wsV RX8 105 RX3 yX3_hasThing wsX3_hasThing) := gVl wa_2_90 wa_2_91 wa_2_92 wa_0_3 wa_2_93
theorem gX8_kind_X3_getThing : GoodIn wsX8_kind (wsV RX8 108 RX3 yX3_getThing wsX3_getThing) := gVl wa_2_94 wa_1_132 wa_1_133 wa_0_3 wa_1_134
theorem gX8_kind_X8_kindOf : GoodIn wsX8_kind (va_wsS RX8 112 yX8_kindOf wsX8_kindOf) := gSl wa_2_95 wa_2_96 wa_0_1 wa_2_97
theorem in_X8_kind_8 : ∀ w ∈ wsX80, w ∈ wsX8_kind := fun w h => List.mem_cons_of_mem _ (inA8 w h)
theorem lk_X8_size_19 : Cond.fieldLink RX8 19 "FaultLoom" "registers" "LFaultLoom$Registers;" ∈ wsX8_size := List.mem_cons_of_mem _ wa_0_154
theorem gX8_size_X3_getThing : GoodIn wsX8_size (wsV RX8 108 RX3 yX3_getThing wsX3_getThing) := gVl wa_2_94 wa_1_132 wa_1_133 wa_0_3 wa_1_134
theorem gX8_size_X8_placesOf : GoodIn wsX8_size (va_wsS RX8 116 yX8_placesOf wsX8_placesOf) := gSl wa_2_102 wa_2_103 wa_0_1 wa_2_104
theorem in_X8_size_8 : ∀ w ∈ wsX80, w ∈ wsX8_size := fun w h => List.mem_cons_of_mem _ (inA8 w h)
theorem lk_X8_cell_19 : Cond.fieldLink RX8 19 "FaultLoom" "registers" "LFaultLoom$Registers;" ∈ wsX8_cell := List.mem_cons_of_mem _ wa_0_154
theorem gX8_cell_X3_getThing : GoodIn wsX8_cell (wsV RX8 108 RX3 yX3_getThing wsX3_getThing) := gVl wa_2_94 wa_1_132 wa_1_133 wa_0_3 wa_1_134
theorem gX8_cell_X6_hasPlace : GoodIn wsX8_cell (wsV RX8 119 RX6 yX6_hasPlace wsX6_hasPlace) := gVl wa_2_110 wa_1_166 wa_1_167 wa_0_10 wa_1_168
theorem gX8_cell_X6_isOf : GoodIn wsX8_cell (wsV RX8 124 RX6 yX6_isOf wsX6_isOf) := gVl wa_1_164 wa_1_139 wa_1_140 wa_0_10 wa_1_141
theorem gX8_cell_X6_getMember : GoodIn wsX8_cell (wsV RX8 127 RX6 yX6_getMember wsX6_getMember) := gVl wa_2_111 wa_1_182 wa_1_183 wa_0_10 wa_1_184
theorem gX8_cell_X8_kindOf : GoodIn wsX8_cell (va_wsS RX8 112 yX8_kindOf wsX8_kindOf) := gSl wa_2_95 wa_2_96 wa_0_1 wa_2_97
theorem gX8_cell_X8_placesOf : GoodIn wsX8_cell (va_wsS RX8 116 yX8_placesOf wsX8_placesOf) := gSl wa_2_102 wa_2_103 wa_0_1 wa_2_104
theorem gX8_cell_X6_getNumber : GoodIn wsX8_cell (wsV RX8 130 RX6 yX6_getNumber wsX6_getNumber) := gVl wa_2_112 wa_1_170 wa_1_171 wa_0_10 wa_1_172
theorem in_X8_cell_8 : ∀ w ∈ wsX80, w ∈ wsX8_cell := fun w h => List.mem_cons_of_mem _ (inA8 w h)
theorem lk_X8_point_19 : Cond.fieldLink RX8 19 "FaultLoom" "registers" "LFaultLoom$Registers;" ∈ wsX8_point := List.mem_cons_of_mem _ wa_0_154
theorem gX8_point_X3_getThing : GoodIn wsX8_point (wsV RX8 108 RX3 yX3_getThing wsX3_getThing) := gVl wa_2_94 wa_1_132 wa_1_133 wa_0_3 wa_1_134
theorem gX8_point_X6_getPoint : GoodIn wsX8_point (wsV RX8 133 RX6 yX6_getPoint wsX6_getPoint) := gVl wa_2_117 wa_1_176 wa_1_177 wa_0_10 wa_1_178
theorem in_X8_point_8 : ∀ w ∈ wsX80, w ∈ wsX8_point := fun w h => List.mem_cons_of_mem _ (inA8 w h)
theorem lk_X8_field_19 : Cond.fieldLink RX8 19 "FaultLoom" "registers" "LFaultLoom$Registers;" ∈ wsX8_field := List.mem_cons_of_mem _ wa_0_154
theorem gX8_field_X3_getThing : GoodIn wsX8_field (wsV RX8 108 RX3 yX3_getThing wsX3_getThing) := gVl wa_2_94 wa_1_132 wa_1_133 wa_0_3 wa_1_134
theorem lk_X8_field_136 : Cond.fieldLink RX8 136 "FaultLoom$Thing" "tag" "I" ∈ wsX8_field := List.mem_cons_of_mem _ wa_2_3
theorem lk_X8_field_139 : Cond.fieldLink RX8 139 "FaultLoom$Thing" "weight" "J" ∈ wsX8_field := List.mem_cons_of_mem _ wa_2_5
theorem gX8_field_X6_isOf : GoodIn wsX8_field (wsV RX8 124 RX6 yX6_isOf wsX6_isOf) := gVl wa_1_164 wa_1_139 wa_1_140 wa_0_10 wa_1_141
theorem lk_X8_field_143 : Cond.fieldLink RX8 143 "FaultLoom$Thing" "link" "LFaultLoom$Thing;" ∈ wsX8_field := List.mem_cons_of_mem _ wa_2_7
theorem gX8_field_X8_kindOf : GoodIn wsX8_field (va_wsS RX8 112 yX8_kindOf wsX8_kindOf) := gSl wa_2_95 wa_2_96 wa_0_1 wa_2_97
theorem in_X8_field_6 : ∀ w ∈ wsX60, w ∈ wsX8_field := fun w h => List.mem_cons_of_mem _ (inA6 w h)
theorem in_X8_field_8 : ∀ w ∈ wsX80, w ∈ wsX8_field := fun w h => List.mem_cons_of_mem _ (inA8 w h)
theorem lk_X8_same_19 : Cond.fieldLink RX8 19 "FaultLoom" "registers" "LFaultLoom$Registers;" ∈ wsX8_same := List.mem_cons_of_mem _ wa_0_154
theorem gX8_same_X3_getThing : GoodIn wsX8_same (wsV RX8 108 RX3 yX3_getThing wsX3_getThing) := gVl wa_2_94 wa_1_132 wa_1_133 wa_0_3 wa_1_134
theorem in_X8_same_8 : ∀ w ∈ wsX80, w ∈ wsX8_same := fun w h => List.mem_cons_of_mem _ (inA8 w h)
theorem lk_X8_told_28 : Cond.fieldLink RX8 28 "FaultLoom" "run" "LFaultLoom$Run;" ∈ wsX8_told := List.mem_cons_of_mem _ wa_0_155
theorem gX8_told_X4_getTold : GoodIn wsX8_told (wsV RX8 147 RX4 yX4_getTold wsX4_getTold) := gVl wa_2_130 wa_2_131 wa_2_132 wa_0_4 wa_2_133
theorem in_X8_told_8 : ∀ w ∈ wsX80, w ∈ wsX8_told := fun w h => List.mem_cons_of_mem _ (inA8 w h)
theorem lk_X8_state_10 : Cond.fieldLink RX8 10 "FaultLoom" "program" "LFaultLoom$Program;" ∈ wsX8_state := List.mem_cons_of_mem _ wa_0_153
theorem lk_X8_state_36 : Cond.fieldLink RX8 36 "FaultLoom$Program" "stepCount" "I" ∈ wsX8_state := List.mem_cons_of_mem _ wa_0_32
theorem lk_X8_state_56 : Cond.fieldLink RX8 56 "FaultLoom$Program" "handlerCount" "I" ∈ wsX8_state := List.mem_cons_of_mem _ wa_0_34
theorem lk_X8_state_28 : Cond.fieldLink RX8 28 "FaultLoom" "run" "LFaultLoom$Run;" ∈ wsX8_state := List.mem_cons_of_mem _ wa_0_155
theorem gX8_state_X4_report : GoodIn wsX8_state (wsV RX8 150 RX4 yX4_report wsX4_report) := gVl wa_2_138 wa_2_139 wa_2_140 wa_0_4 wa_2_141
theorem in_X8_state_1 : ∀ w ∈ wsX10, w ∈ wsX8_state := fun w h => List.mem_cons_of_mem _ (inA1 w h)
theorem in_X8_state_8 : ∀ w ∈ wsX80, w ∈ wsX8_state := fun w h => List.mem_cons_of_mem _ (inA8 w h)
theorem lk_X8_fitsShape_153 : Cond.fieldLink RX8 153 "FaultLoom" "SHAPES" "[I" ∈ wsX8_fitsShape := List.mem_cons_of_mem _ wa_0_170
theorem gX8_fitsShape_X8_isNamed : GoodIn wsX8_fitsShape (va_wsS RX8 157 yX8_isNamed wsX8_isNamed) := gSl wa_0_172 wa_0_173 wa_0_1 wa_0_174
theorem in_X8_fitsShape_8 : ∀ w ∈ wsX80, w ∈ wsX8_fitsShape := fun w h => List.mem_cons_of_mem _ (inA8 w h)
theorem gX8_isNamed_X8_isPlace : GoodIn wsX8_isNamed (va_wsS RX8 52 yX8_isPlace wsX8_isPlace) := gSl wa_0_175 wa_0_176 wa_0_1 wa_0_177
theorem lk_X8_kindOf_161 : Cond.fieldLink RX8 161 "FaultLoom$Thing" "kind" "I" ∈ wsX8_kindOf := List.mem_cons_of_mem _ wa_1_233
theorem in_X8_kindOf_6 : ∀ w ∈ wsX60, w ∈ wsX8_kindOf := fun w h => List.mem_cons_of_mem _ (inA6 w h)
theorem gX8_placesOf_X6_isRow : GoodIn wsX8_placesOf (wsV RX8 164 RX6 yX6_isRow wsX6_isRow) := gVl wa_2_105 wa_2_51 wa_2_52 wa_0_10 wa_2_53
theorem lk_X8_placesOf_168 : Cond.fieldLink RX8 168 "FaultLoom$Thing" "places" "I" ∈ wsX8_placesOf := List.mem_cons_of_mem _ wa_1_236
theorem in_X8_placesOf_6 : ∀ w ∈ wsX60, w ∈ wsX8_placesOf := fun w h => List.mem_cons_of_mem _ (inA6 w h)
theorem gX8_misfits_X6_isOf : GoodIn wsX8_misfits (wsV RX8 124 RX6 yX6_isOf wsX6_isOf) := gVl wa_1_164 wa_1_139 wa_1_140 wa_0_10 wa_1_141
theorem lk_X9_init_1 : Cond.methodLink RX9 1 objectInit ∈ wsX9_init := List.mem_cons_of_mem _ wa_2_147
theorem lki_X9_init_1 : Cond.instanceMethod objectInit ∈ wsX9_init := List.mem_cons_of_mem _ wa_0_17
theorem lkc_X9_init_1 : Cond.code objectInit ⟨#[0xb1]⟩ 1 none ∈ wsX9_init := List.mem_cons_of_mem _ wa_0_18
theorem lka_X9_init_int : Cond.arrayClass (newarray.typeOf .int) ∈ wsX9_init := List.mem_cons_of_mem _ wa_0_68
theorem lk_X9_init_7 : Cond.fieldLink RX9 7 "FaultLoomModel" "steps" "[I" ∈ wsX9_init := List.mem_cons_of_mem _ wa_2_148
theorem lk_X9_init_13 : Cond.fieldLink RX9 13 "FaultLoomModel" "handlers" "[I" ∈ wsX9_init := List.mem_cons_of_mem _ wa_2_150
theorem lk_X9_init_16 : Cond.fieldLink RX9 16 "FaultLoomModel" "words" "[I" ∈ wsX9_init := List.mem_cons_of_mem _ wa_2_152
theorem lka_X9_init_long : Cond.arrayClass (newarray.typeOf .long) ∈ wsX9_init := List.mem_cons_of_mem _ wa_0_69
theorem lk_X9_init_19 : Cond.fieldLink RX9 19 "FaultLoomModel" "wides" "[J" ∈ wsX9_init := List.mem_cons_of_mem _ wa_2_153
theorem lka_X9_init_float : Cond.arrayClass (newarray.typeOf .float) ∈ wsX9_init := List.mem_cons_of_mem _ wa_0_70
theorem lk_X9_init_23 : Cond.fieldLink RX9 23 "FaultLoomModel" "singles" "[F" ∈ wsX9_init := List.mem_cons_of_mem _ wa_2_154
theorem lka_X9_init_double : Cond.arrayClass (newarray.typeOf .double) ∈ wsX9_init := List.mem_cons_of_mem _ wa_0_71
theorem lk_X9_init_27 : Cond.fieldLink RX9 27 "FaultLoomModel" "reals" "[D" ∈ wsX9_init := List.mem_cons_of_mem _ wa_2_155
theorem lk_X9_init_31 : Cond.fieldLink RX9 31 "FaultLoomModel" "refs" "[I" ∈ wsX9_init := List.mem_cons_of_mem _ wa_2_156
theorem lk_X9_init_34 : Cond.fieldLink RX9 34 "FaultLoomModel" "kinds" "[I" ∈ wsX9_init := List.mem_cons_of_mem _ wa_2_157
theorem lk_X9_init_37 : Cond.fieldLink RX9 37 "FaultLoomModel" "sizes" "[I" ∈ wsX9_init := List.mem_cons_of_mem _ wa_2_158
theorem lk_X9_init_40 : Cond.fieldLink RX9 40 "FaultLoomModel" "cells" "[J" ∈ wsX9_init := List.mem_cons_of_mem _ wa_2_159
theorem lk_X9_init_43 : Cond.fieldLink RX9 43 "FaultLoomModel" "points" "[D" ∈ wsX9_init := List.mem_cons_of_mem _ wa_2_160
theorem lk_X9_init_46 : Cond.fieldLink RX9 46 "FaultLoomModel" "inner" "[I" ∈ wsX9_init := List.mem_cons_of_mem _ wa_2_161
theorem lk_X9_init_49 : Cond.fieldLink RX9 49 "FaultLoomModel" "tags" "[I" ∈ wsX9_init := List.mem_cons_of_mem _ wa_2_162
theorem lk_X9_init_52 : Cond.fieldLink RX9 52 "FaultLoomModel" "weights" "[J" ∈ wsX9_init := List.mem_cons_of_mem _ wa_2_163
theorem lk_X9_init_55 : Cond.fieldLink RX9 55 "FaultLoomModel" "nexts" "[I" ∈ wsX9_init := List.mem_cons_of_mem _ wa_2_164
theorem lk_X9_init_58 : Cond.fieldLink RX9 58 "FaultLoomModel" "callPlaces" "[I" ∈ wsX9_init := List.mem_cons_of_mem _ wa_2_169
theorem lk_X9_init_61 : Cond.fieldLink RX9 61 "FaultLoomModel" "tolds" "[I" ∈ wsX9_init := List.mem_cons_of_mem _ wa_2_171
theorem lk_X9_init_64 : Cond.fieldLink RX9 64 "FaultLoomModel" "latestPlace" "I" ∈ wsX9_init := List.mem_cons_of_mem _ wa_2_175
theorem in_X9_init_9 : ∀ w ∈ wsX90, w ∈ wsX9_init := fun w h => List.mem_cons_of_mem _ (inA9 w h)
theorem gX9_names_X9_isIn : GoodIn wsX9_names (va_wsS RX9 68 yX9_isIn wsX9_isIn) := gSl wa_3_15 wa_3_16 wa_0_7 wa_3_17
theorem gX9_isTold_X9_isIn : GoodIn wsX9_isTold (va_wsS RX9 68 yX9_isIn wsX9_isIn) := gSl wa_3_15 wa_3_16 wa_0_7 wa_3_17
theorem gX9_put_X9_isIn : GoodIn wsX9_put (va_wsS RX9 68 yX9_isIn wsX9_isIn) := gSl wa_3_15 wa_3_16 wa_0_7 wa_3_17
theorem gX9_put_X9_names : GoodIn wsX9_put (va_wsS RX9 72 yX9_names wsX9_names) := gSl wa_3_18 wa_3_19 wa_0_7 wa_3_20
theorem gX9_put_X9_isTold : GoodIn wsX9_put (va_wsS RX9 76 yX9_isTold wsX9_isTold) := gSl wa_3_21 wa_3_22 wa_0_7 wa_3_23
theorem lk_X9_put_80 : Cond.fieldLink RX9 80 "FaultLoomModel" "many" "I" ∈ wsX9_put := List.mem_cons_of_mem _ wa_2_149
theorem lk_X9_put_7 : Cond.fieldLink RX9 7 "FaultLoomModel" "steps" "[I" ∈ wsX9_put := List.mem_cons_of_mem _ wa_2_148
theorem lk_X9_put_83 : Cond.fieldLink RX9 83 "FaultLoomModel" "status" "I" ∈ wsX9_put := List.mem_cons_of_mem _ wa_2_166
theorem in_X9_put_9 : ∀ w ∈ wsX90, w ∈ wsX9_put := fun w h => List.mem_cons_of_mem _ (inA9 w h)
theorem gX9_handler_X9_isTold : GoodIn wsX9_handler (va_wsS RX9 76 yX9_isTold wsX9_isTold) := gSl wa_3_21 wa_3_22 wa_0_7 wa_3_23
theorem lk_X9_handler_86 : Cond.fieldLink RX9 86 "FaultLoomModel" "handlerMany" "I" ∈ wsX9_handler := List.mem_cons_of_mem _ wa_2_151
theorem lk_X9_handler_13 : Cond.fieldLink RX9 13 "FaultLoomModel" "handlers" "[I" ∈ wsX9_handler := List.mem_cons_of_mem _ wa_2_150
theorem lk_X9_handler_83 : Cond.fieldLink RX9 83 "FaultLoomModel" "status" "I" ∈ wsX9_handler := List.mem_cons_of_mem _ wa_2_166
theorem in_X9_handler_9 : ∀ w ∈ wsX90, w ∈ wsX9_handler := fun w h => List.mem_cons_of_mem _ (inA9 w h)
theorem lk_X9_clear_80 : Cond.fieldLink RX9 80 "FaultLoomModel" "many" "I" ∈ wsX9_clear := List.mem_cons_of_mem _ wa_2_149
theorem lk_X9_clear_86 : Cond.fieldLink RX9 86 "FaultLoomModel" "handlerMany" "I" ∈ wsX9_clear := List.mem_cons_of_mem _ wa_2_151
theorem lk_X9_clear_83 : Cond.fieldLink RX9 83 "FaultLoomModel" "status" "I" ∈ wsX9_clear := List.mem_cons_of_mem _ wa_2_166
theorem in_X9_clear_9 : ∀ w ∈ wsX90, w ∈ wsX9_clear := fun w h => List.mem_cons_of_mem _ (inA9 w h)
theorem lk_X9_start_16 : Cond.fieldLink RX9 16 "FaultLoomModel" "words" "[I" ∈ wsX9_start := List.mem_cons_of_mem _ wa_2_152
theorem lk_X9_start_31 : Cond.fieldLink RX9 31 "FaultLoomModel" "refs" "[I" ∈ wsX9_start := List.mem_cons_of_mem _ wa_2_156
theorem lk_X9_start_19 : Cond.fieldLink RX9 19 "FaultLoomModel" "wides" "[J" ∈ wsX9_start := List.mem_cons_of_mem _ wa_2_153
theorem lk_X9_start_23 : Cond.fieldLink RX9 23 "FaultLoomModel" "singles" "[F" ∈ wsX9_start := List.mem_cons_of_mem _ wa_2_154
theorem lk_X9_start_27 : Cond.fieldLink RX9 27 "FaultLoomModel" "reals" "[D" ∈ wsX9_start := List.mem_cons_of_mem _ wa_2_155
theorem lk_X9_start_89 : Cond.fieldLink RX9 89 "FaultLoomModel" "made" "I" ∈ wsX9_start := List.mem_cons_of_mem _ wa_2_165
theorem lk_X9_start_92 : Cond.fieldLink RX9 92 "FaultLoomModel" "place" "I" ∈ wsX9_start := List.mem_cons_of_mem _ wa_2_167
theorem lk_X9_start_95 : Cond.fieldLink RX9 95 "FaultLoomModel" "done" "I" ∈ wsX9_start := List.mem_cons_of_mem _ wa_2_168
theorem lk_X9_start_98 : Cond.fieldLink RX9 98 "FaultLoomModel" "calls" "I" ∈ wsX9_start := List.mem_cons_of_mem _ wa_2_170
theorem lk_X9_start_101 : Cond.fieldLink RX9 101 "FaultLoomModel" "toldMany" "I" ∈ wsX9_start := List.mem_cons_of_mem _ wa_2_172
theorem lk_X9_start_104 : Cond.fieldLink RX9 104 "FaultLoomModel" "failures" "I" ∈ wsX9_start := List.mem_cons_of_mem _ wa_2_173
theorem lk_X9_start_107 : Cond.fieldLink RX9 107 "FaultLoomModel" "latest" "I" ∈ wsX9_start := List.mem_cons_of_mem _ wa_2_174
theorem lk_X9_start_64 : Cond.fieldLink RX9 64 "FaultLoomModel" "latestPlace" "I" ∈ wsX9_start := List.mem_cons_of_mem _ wa_2_175
theorem lk_X9_start_110 : Cond.fieldLink RX9 110 "FaultLoomModel" "handled" "I" ∈ wsX9_start := List.mem_cons_of_mem _ wa_2_176
theorem lk_X9_start_113 : Cond.fieldLink RX9 113 "FaultLoomModel" "thrown" "I" ∈ wsX9_start := List.mem_cons_of_mem _ wa_2_177
theorem lk_X9_start_80 : Cond.fieldLink RX9 80 "FaultLoomModel" "many" "I" ∈ wsX9_start := List.mem_cons_of_mem _ wa_2_149
theorem lk_X9_start_83 : Cond.fieldLink RX9 83 "FaultLoomModel" "status" "I" ∈ wsX9_start := List.mem_cons_of_mem _ wa_2_166
theorem in_X9_start_9 : ∀ w ∈ wsX90, w ∈ wsX9_start := fun w h => List.mem_cons_of_mem _ (inA9 w h)
theorem gX9_isOf_X9_isKnot : GoodIn wsX9_isOf (va_wsS RX9 116 yX9_isKnot wsX9_isKnot) := gSl wa_3_66 wa_3_67 wa_0_7 wa_3_68
theorem lk_X9_isWrong_34 : Cond.fieldLink RX9 34 "FaultLoomModel" "kinds" "[I" ∈ wsX9_isWrong := List.mem_cons_of_mem _ wa_2_157
theorem gX9_isWrong_X9_isOf : GoodIn wsX9_isWrong (va_wsS RX9 120 yX9_isOf wsX9_isOf) := gSl wa_3_63 wa_3_64 wa_0_7 wa_3_65
theorem in_X9_isWrong_9 : ∀ w ∈ wsX90, w ∈ wsX9_isWrong := fun w h => List.mem_cons_of_mem _ (inA9 w h)
theorem lk_X9_whyNot_16 : Cond.fieldLink RX9 16 "FaultLoomModel" "words" "[I" ∈ wsX9_whyNot := List.mem_cons_of_mem _ wa_2_152
theorem lk_X9_whyNot_123 : Cond.fieldLink RX9 123 "FaultLoomModel" "c" "I" ∈ wsX9_whyNot := List.mem_cons_of_mem _ wa_2_180
theorem lk_X9_whyNot_19 : Cond.fieldLink RX9 19 "FaultLoomModel" "wides" "[J" ∈ wsX9_whyNot := List.mem_cons_of_mem _ wa_2_153
theorem lk_X9_whyNot_23 : Cond.fieldLink RX9 23 "FaultLoomModel" "singles" "[F" ∈ wsX9_whyNot := List.mem_cons_of_mem _ wa_2_154
theorem lk_X9_whyNot_27 : Cond.fieldLink RX9 27 "FaultLoomModel" "reals" "[D" ∈ wsX9_whyNot := List.mem_cons_of_mem _ wa_2_155
theorem lk_X9_whyNot_98 : Cond.fieldLink RX9 98 "FaultLoomModel" "calls" "I" ∈ wsX9_whyNot := List.mem_cons_of_mem _ wa_2_170
theorem lk_X9_whyNot_89 : Cond.fieldLink RX9 89 "FaultLoomModel" "made" "I" ∈ wsX9_whyNot := List.mem_cons_of_mem _ wa_2_165
theorem lk_X9_whyNot_126 : Cond.fieldLink RX9 126 "FaultLoomModel" "b" "I" ∈ wsX9_whyNot := List.mem_cons_of_mem _ wa_2_179
theorem gX9_whyNot_X9_whyNotThing : GoodIn wsX9_whyNot (wsV RX9 129 RX9 yX9_whyNotThing wsX9_whyNotThing) := gVl wa_3_48 wa_3_50 wp_2_10 wa_0_7 wa_3_51
theorem in_X9_whyNot_9 : ∀ w ∈ wsX90, w ∈ wsX9_whyNot := fun w h => List.mem_cons_of_mem _ (inA9 w h)
theorem lk_X9_whyNotThing_31 : Cond.fieldLink RX9 31 "FaultLoomModel" "refs" "[I" ∈ wsX9_whyNotThing := List.mem_cons_of_mem _ wa_2_156
theorem lk_X9_whyNotThing_126 : Cond.fieldLink RX9 126 "FaultLoomModel" "b" "I" ∈ wsX9_whyNotThing := List.mem_cons_of_mem _ wa_2_179
theorem lk_X9_whyNotThing_34 : Cond.fieldLink RX9 34 "FaultLoomModel" "kinds" "[I" ∈ wsX9_whyNotThing := List.mem_cons_of_mem _ wa_2_157
theorem gX9_whyNotThing_X9_isRow : GoodIn wsX9_whyNotThing (va_wsS RX9 133 yX9_isRow wsX9_isRow) := gSl wa_3_52 wa_3_53 wa_0_7 wa_3_54
theorem gX9_whyNotThing_X9_whyNotPlace : GoodIn wsX9_whyNotThing (wsV RX9 136 RX9 yX9_whyNotPlace wsX9_whyNotPlace) := gVl wa_3_55 wa_3_57 wp_2_11 wa_0_7 wa_3_58
theorem gX9_whyNotThing_X9_isWrong : GoodIn wsX9_whyNotThing (wsV RX9 139 RX9 yX9_isWrong wsX9_isWrong) := gVl wa_3_59 wa_3_61 wp_2_12 wa_0_7 wa_3_62
theorem lk_X9_whyNotThing_142 : Cond.fieldLink RX9 142 "FaultLoomModel" "a" "I" ∈ wsX9_whyNotThing := List.mem_cons_of_mem _ wa_2_178
theorem lk_X9_whyNotThing_123 : Cond.fieldLink RX9 123 "FaultLoomModel" "c" "I" ∈ wsX9_whyNotThing := List.mem_cons_of_mem _ wa_2_180
theorem lk_X9_whyNotThing_89 : Cond.fieldLink RX9 89 "FaultLoomModel" "made" "I" ∈ wsX9_whyNotThing := List.mem_cons_of_mem _ wa_2_165
theorem lk_X9_whyNotThing_49 : Cond.fieldLink RX9 49 "FaultLoomModel" "tags" "[I" ∈ wsX9_whyNotThing := List.mem_cons_of_mem _ wa_2_162
theorem in_X9_whyNotThing_9 : ∀ w ∈ wsX90, w ∈ wsX9_whyNotThing := fun w h => List.mem_cons_of_mem _ (inA9 w h)
theorem lk_X9_whyNotPlace_31 : Cond.fieldLink RX9 31 "FaultLoomModel" "refs" "[I" ∈ wsX9_whyNotPlace := List.mem_cons_of_mem _ wa_2_156
theorem lk_X9_whyNotPlace_126 : Cond.fieldLink RX9 126 "FaultLoomModel" "b" "I" ∈ wsX9_whyNotPlace := List.mem_cons_of_mem _ wa_2_179
theorem gX9_whyNotPlace_X9_isWrong : GoodIn wsX9_whyNotPlace (wsV RX9 139 RX9 yX9_isWrong wsX9_isWrong) := gVl wa_3_59 wa_3_61 wp_2_12 wa_0_7 wa_3_62
theorem lk_X9_whyNotPlace_142 : Cond.fieldLink RX9 142 "FaultLoomModel" "a" "I" ∈ wsX9_whyNotPlace := List.mem_cons_of_mem _ wa_2_178
theorem lk_X9_whyNotPlace_16 : Cond.fieldLink RX9 16 "FaultLoomModel" "words" "[I" ∈ wsX9_whyNotPlace := List.mem_cons_of_mem _ wa_2_152
theorem lk_X9_whyNotPlace_123 : Cond.fieldLink RX9 123 "FaultLoomModel" "c" "I" ∈ wsX9_whyNotPlace := List.mem_cons_of_mem _ wa_2_180
theorem lk_X9_whyNotPlace_37 : Cond.fieldLink RX9 37 "FaultLoomModel" "sizes" "[I" ∈ wsX9_whyNotPlace := List.mem_cons_of_mem _ wa_2_158
theorem gX9_whyNotPlace_X9_isIn : GoodIn wsX9_whyNotPlace (va_wsS RX9 68 yX9_isIn wsX9_isIn) := gSl wa_3_15 wa_3_16 wa_0_7 wa_3_17
theorem lk_X9_whyNotPlace_34 : Cond.fieldLink RX9 34 "FaultLoomModel" "kinds" "[I" ∈ wsX9_whyNotPlace := List.mem_cons_of_mem _ wa_2_157
theorem in_X9_whyNotPlace_9 : ∀ w ∈ wsX90, w ∈ wsX9_whyNotPlace := fun w h => List.mem_cons_of_mem _ (inA9 w h)
theorem gX9_does_X9_doesWhole : GoodIn wsX9_does (wsV RX9 145 RX9 yX9_doesWhole wsX9_doesWhole) := gVl wa_3_73 wa_3_75 wp_2_14 wa_0_7 wa_3_76
theorem gX9_does_X9_doesPoint : GoodIn wsX9_does (wsV RX9 149 RX9 yX9_doesPoint wsX9_doesPoint) := gVl wa_3_78 wa_3_80 wp_2_15 wa_0_7 wa_3_81
theorem gX9_does_X9_doesWay : GoodIn wsX9_does (wsV RX9 152 RX9 yX9_doesWay wsX9_doesWay) := gVl wa_3_83 wa_3_85 wp_3_0 wa_0_7 wa_3_86
theorem gX9_does_X9_doesThing : GoodIn wsX9_does (wsV RX9 155 RX9 yX9_doesThing wsX9_doesThing) := gVl wa_3_87 wa_3_89 wp_3_1 wa_0_7 wa_3_90
theorem gX9_does_X9_gets : GoodIn wsX9_does (wsV RX9 158 RX9 yX9_gets wsX9_gets) := gVl wa_3_95 wa_3_97 wp_3_3 wa_0_7 wa_3_98
theorem gX9_does_X9_puts : GoodIn wsX9_does (wsV RX9 161 RX9 yX9_puts wsX9_puts) := gVl wa_3_99 wa_3_101 wp_3_4 wa_0_7 wa_3_102
theorem gX9_does_X9_doesKnot : GoodIn wsX9_does (wsV RX9 164 RX9 yX9_doesKnot wsX9_doesKnot) := gVl wa_3_104 wa_3_106 wp_3_5 wa_0_7 wa_3_107
theorem gX9_does_X9_doesFault : GoodIn wsX9_does (wsV RX9 167 RX9 yX9_doesFault wsX9_doesFault) := gVl wa_3_111 wa_3_113 wp_3_6 wa_0_7 wa_3_114
theorem lk_X9_doesWhole_83 : Cond.fieldLink RX9 83 "FaultLoomModel" "status" "I" ∈ wsX9_doesWhole := List.mem_cons_of_mem _ wa_2_166
theorem lk_X9_doesWhole_16 : Cond.fieldLink RX9 16 "FaultLoomModel" "words" "[I" ∈ wsX9_doesWhole := List.mem_cons_of_mem _ wa_2_152
theorem lk_X9_doesWhole_142 : Cond.fieldLink RX9 142 "FaultLoomModel" "a" "I" ∈ wsX9_doesWhole := List.mem_cons_of_mem _ wa_2_178
theorem lk_X9_doesWhole_126 : Cond.fieldLink RX9 126 "FaultLoomModel" "b" "I" ∈ wsX9_doesWhole := List.mem_cons_of_mem _ wa_2_179
theorem lk_X9_doesWhole_19 : Cond.fieldLink RX9 19 "FaultLoomModel" "wides" "[J" ∈ wsX9_doesWhole := List.mem_cons_of_mem _ wa_2_153
theorem lk_X9_doesWhole_123 : Cond.fieldLink RX9 123 "FaultLoomModel" "c" "I" ∈ wsX9_doesWhole := List.mem_cons_of_mem _ wa_2_180
theorem lk_X9_doesWhole_170 : Cond.constantLong RX9 170 (4294967295) ∈ wsX9_doesWhole := List.mem_cons_of_mem _ wa_3_77
theorem in_X9_doesWhole_9 : ∀ w ∈ wsX90, w ∈ wsX9_doesWhole := fun w h => List.mem_cons_of_mem _ (inA9 w h)
theorem lk_X9_doesPoint_23 : Cond.fieldLink RX9 23 "FaultLoomModel" "singles" "[F" ∈ wsX9_doesPoint := List.mem_cons_of_mem _ wa_2_154
theorem lk_X9_doesPoint_142 : Cond.fieldLink RX9 142 "FaultLoomModel" "a" "I" ∈ wsX9_doesPoint := List.mem_cons_of_mem _ wa_2_178
theorem lk_X9_doesPoint_19 : Cond.fieldLink RX9 19 "FaultLoomModel" "wides" "[J" ∈ wsX9_doesPoint := List.mem_cons_of_mem _ wa_2_153
theorem lk_X9_doesPoint_126 : Cond.fieldLink RX9 126 "FaultLoomModel" "b" "I" ∈ wsX9_doesPoint := List.mem_cons_of_mem _ wa_2_179
theorem lk_X9_doesPoint_27 : Cond.fieldLink RX9 27 "FaultLoomModel" "reals" "[D" ∈ wsX9_doesPoint := List.mem_cons_of_mem _ wa_2_155
theorem lk_X9_doesPoint_16 : Cond.fieldLink RX9 16 "FaultLoomModel" "words" "[I" ∈ wsX9_doesPoint := List.mem_cons_of_mem _ wa_2_152
theorem lk_X9_doesPoint_172 : Cond.constantDouble RX9 172 (4611686018427387904) ∈ wsX9_doesPoint := List.mem_cons_of_mem _ wa_3_82
theorem lk_X9_doesPoint_123 : Cond.fieldLink RX9 123 "FaultLoomModel" "c" "I" ∈ wsX9_doesPoint := List.mem_cons_of_mem _ wa_2_180
theorem in_X9_doesPoint_9 : ∀ w ∈ wsX90, w ∈ wsX9_doesPoint := fun w h => List.mem_cons_of_mem _ (inA9 w h)
theorem lk_X9_doesWay_142 : Cond.fieldLink RX9 142 "FaultLoomModel" "a" "I" ∈ wsX9_doesWay := List.mem_cons_of_mem _ wa_2_178
theorem lk_X9_doesWay_174 : Cond.fieldLink RX9 174 "FaultLoomModel" "after" "I" ∈ wsX9_doesWay := List.mem_cons_of_mem _ wa_2_181
theorem lk_X9_doesWay_16 : Cond.fieldLink RX9 16 "FaultLoomModel" "words" "[I" ∈ wsX9_doesWay := List.mem_cons_of_mem _ wa_2_152
theorem lk_X9_doesWay_126 : Cond.fieldLink RX9 126 "FaultLoomModel" "b" "I" ∈ wsX9_doesWay := List.mem_cons_of_mem _ wa_2_179
theorem lk_X9_doesWay_58 : Cond.fieldLink RX9 58 "FaultLoomModel" "callPlaces" "[I" ∈ wsX9_doesWay := List.mem_cons_of_mem _ wa_2_169
theorem lk_X9_doesWay_98 : Cond.fieldLink RX9 98 "FaultLoomModel" "calls" "I" ∈ wsX9_doesWay := List.mem_cons_of_mem _ wa_2_170
theorem lk_X9_doesWay_92 : Cond.fieldLink RX9 92 "FaultLoomModel" "place" "I" ∈ wsX9_doesWay := List.mem_cons_of_mem _ wa_2_167
theorem lk_X9_doesWay_83 : Cond.fieldLink RX9 83 "FaultLoomModel" "status" "I" ∈ wsX9_doesWay := List.mem_cons_of_mem _ wa_2_166
theorem in_X9_doesWay_9 : ∀ w ∈ wsX90, w ∈ wsX9_doesWay := fun w h => List.mem_cons_of_mem _ (inA9 w h)
theorem lk_X9_make_34 : Cond.fieldLink RX9 34 "FaultLoomModel" "kinds" "[I" ∈ wsX9_make := List.mem_cons_of_mem _ wa_2_157
theorem lk_X9_make_89 : Cond.fieldLink RX9 89 "FaultLoomModel" "made" "I" ∈ wsX9_make := List.mem_cons_of_mem _ wa_2_165
theorem lk_X9_make_37 : Cond.fieldLink RX9 37 "FaultLoomModel" "sizes" "[I" ∈ wsX9_make := List.mem_cons_of_mem _ wa_2_158
theorem lk_X9_make_40 : Cond.fieldLink RX9 40 "FaultLoomModel" "cells" "[J" ∈ wsX9_make := List.mem_cons_of_mem _ wa_2_159
theorem lk_X9_make_43 : Cond.fieldLink RX9 43 "FaultLoomModel" "points" "[D" ∈ wsX9_make := List.mem_cons_of_mem _ wa_2_160
theorem lk_X9_make_46 : Cond.fieldLink RX9 46 "FaultLoomModel" "inner" "[I" ∈ wsX9_make := List.mem_cons_of_mem _ wa_2_161
theorem lk_X9_make_49 : Cond.fieldLink RX9 49 "FaultLoomModel" "tags" "[I" ∈ wsX9_make := List.mem_cons_of_mem _ wa_2_162
theorem lk_X9_make_52 : Cond.fieldLink RX9 52 "FaultLoomModel" "weights" "[J" ∈ wsX9_make := List.mem_cons_of_mem _ wa_2_163
theorem lk_X9_make_55 : Cond.fieldLink RX9 55 "FaultLoomModel" "nexts" "[I" ∈ wsX9_make := List.mem_cons_of_mem _ wa_2_164
theorem in_X9_make_9 : ∀ w ∈ wsX90, w ∈ wsX9_make := fun w h => List.mem_cons_of_mem _ (inA9 w h)
theorem lk_X9_doesThing_31 : Cond.fieldLink RX9 31 "FaultLoomModel" "refs" "[I" ∈ wsX9_doesThing := List.mem_cons_of_mem _ wa_2_156
theorem lk_X9_doesThing_142 : Cond.fieldLink RX9 142 "FaultLoomModel" "a" "I" ∈ wsX9_doesThing := List.mem_cons_of_mem _ wa_2_178
theorem lk_X9_doesThing_126 : Cond.fieldLink RX9 126 "FaultLoomModel" "b" "I" ∈ wsX9_doesThing := List.mem_cons_of_mem _ wa_2_179
theorem lk_X9_doesThing_16 : Cond.fieldLink RX9 16 "FaultLoomModel" "words" "[I" ∈ wsX9_doesThing := List.mem_cons_of_mem _ wa_2_152
theorem lk_X9_doesThing_123 : Cond.fieldLink RX9 123 "FaultLoomModel" "c" "I" ∈ wsX9_doesThing := List.mem_cons_of_mem _ wa_2_180
theorem gX9_doesThing_X9_make : GoodIn wsX9_doesThing (wsV RX9 177 RX9 yX9_make wsX9_make) := gVl wa_3_91 wa_3_93 wp_3_2 wa_0_7 wa_3_94
theorem lk_X9_doesThing_46 : Cond.fieldLink RX9 46 "FaultLoomModel" "inner" "[I" ∈ wsX9_doesThing := List.mem_cons_of_mem _ wa_2_161
theorem lk_X9_doesThing_49 : Cond.fieldLink RX9 49 "FaultLoomModel" "tags" "[I" ∈ wsX9_doesThing := List.mem_cons_of_mem _ wa_2_162
theorem lk_X9_doesThing_34 : Cond.fieldLink RX9 34 "FaultLoomModel" "kinds" "[I" ∈ wsX9_doesThing := List.mem_cons_of_mem _ wa_2_157
theorem gX9_doesThing_X9_isOf : GoodIn wsX9_doesThing (va_wsS RX9 120 yX9_isOf wsX9_isOf) := gSl wa_3_63 wa_3_64 wa_0_7 wa_3_65
theorem lk_X9_doesThing_37 : Cond.fieldLink RX9 37 "FaultLoomModel" "sizes" "[I" ∈ wsX9_doesThing := List.mem_cons_of_mem _ wa_2_158
theorem in_X9_doesThing_9 : ∀ w ∈ wsX90, w ∈ wsX9_doesThing := fun w h => List.mem_cons_of_mem _ (inA9 w h)
theorem lk_X9_gets_31 : Cond.fieldLink RX9 31 "FaultLoomModel" "refs" "[I" ∈ wsX9_gets := List.mem_cons_of_mem _ wa_2_156
theorem lk_X9_gets_126 : Cond.fieldLink RX9 126 "FaultLoomModel" "b" "I" ∈ wsX9_gets := List.mem_cons_of_mem _ wa_2_179
theorem lk_X9_gets_16 : Cond.fieldLink RX9 16 "FaultLoomModel" "words" "[I" ∈ wsX9_gets := List.mem_cons_of_mem _ wa_2_152
theorem lk_X9_gets_123 : Cond.fieldLink RX9 123 "FaultLoomModel" "c" "I" ∈ wsX9_gets := List.mem_cons_of_mem _ wa_2_180
theorem lk_X9_gets_142 : Cond.fieldLink RX9 142 "FaultLoomModel" "a" "I" ∈ wsX9_gets := List.mem_cons_of_mem _ wa_2_178
theorem lk_X9_gets_40 : Cond.fieldLink RX9 40 "FaultLoomModel" "cells" "[J" ∈ wsX9_gets := List.mem_cons_of_mem _ wa_2_159
theorem lk_X9_gets_19 : Cond.fieldLink RX9 19 "FaultLoomModel" "wides" "[J" ∈ wsX9_gets := List.mem_cons_of_mem _ wa_2_153
theorem lk_X9_gets_23 : Cond.fieldLink RX9 23 "FaultLoomModel" "singles" "[F" ∈ wsX9_gets := List.mem_cons_of_mem _ wa_2_154
theorem lk_X9_gets_43 : Cond.fieldLink RX9 43 "FaultLoomModel" "points" "[D" ∈ wsX9_gets := List.mem_cons_of_mem _ wa_2_160
theorem lk_X9_gets_27 : Cond.fieldLink RX9 27 "FaultLoomModel" "reals" "[D" ∈ wsX9_gets := List.mem_cons_of_mem _ wa_2_155
theorem lk_X9_gets_46 : Cond.fieldLink RX9 46 "FaultLoomModel" "inner" "[I" ∈ wsX9_gets := List.mem_cons_of_mem _ wa_2_161
theorem in_X9_gets_9 : ∀ w ∈ wsX90, w ∈ wsX9_gets := fun w h => List.mem_cons_of_mem _ (inA9 w h)
theorem lk_X9_puts_31 : Cond.fieldLink RX9 31 "FaultLoomModel" "refs" "[I" ∈ wsX9_puts := List.mem_cons_of_mem _ wa_2_156
theorem lk_X9_puts_126 : Cond.fieldLink RX9 126 "FaultLoomModel" "b" "I" ∈ wsX9_puts := List.mem_cons_of_mem _ wa_2_179
theorem lk_X9_puts_16 : Cond.fieldLink RX9 16 "FaultLoomModel" "words" "[I" ∈ wsX9_puts := List.mem_cons_of_mem _ wa_2_152
theorem lk_X9_puts_123 : Cond.fieldLink RX9 123 "FaultLoomModel" "c" "I" ∈ wsX9_puts := List.mem_cons_of_mem _ wa_2_180
theorem lk_X9_puts_40 : Cond.fieldLink RX9 40 "FaultLoomModel" "cells" "[J" ∈ wsX9_puts := List.mem_cons_of_mem _ wa_2_159
theorem lk_X9_puts_142 : Cond.fieldLink RX9 142 "FaultLoomModel" "a" "I" ∈ wsX9_puts := List.mem_cons_of_mem _ wa_2_178
theorem lk_X9_puts_180 : Cond.constant RX9 180 (65535) ∈ wsX9_puts := List.mem_cons_of_mem _ wa_3_103
theorem lk_X9_puts_19 : Cond.fieldLink RX9 19 "FaultLoomModel" "wides" "[J" ∈ wsX9_puts := List.mem_cons_of_mem _ wa_2_153
theorem lk_X9_puts_43 : Cond.fieldLink RX9 43 "FaultLoomModel" "points" "[D" ∈ wsX9_puts := List.mem_cons_of_mem _ wa_2_160
theorem lk_X9_puts_23 : Cond.fieldLink RX9 23 "FaultLoomModel" "singles" "[F" ∈ wsX9_puts := List.mem_cons_of_mem _ wa_2_154
theorem lk_X9_puts_27 : Cond.fieldLink RX9 27 "FaultLoomModel" "reals" "[D" ∈ wsX9_puts := List.mem_cons_of_mem _ wa_2_155
theorem lk_X9_puts_46 : Cond.fieldLink RX9 46 "FaultLoomModel" "inner" "[I" ∈ wsX9_puts := List.mem_cons_of_mem _ wa_2_161
theorem in_X9_puts_9 : ∀ w ∈ wsX90, w ∈ wsX9_puts := fun w h => List.mem_cons_of_mem _ (inA9 w h)
theorem lk_X9_doesKnot_31 : Cond.fieldLink RX9 31 "FaultLoomModel" "refs" "[I" ∈ wsX9_doesKnot := List.mem_cons_of_mem _ wa_2_156
theorem lk_X9_doesKnot_126 : Cond.fieldLink RX9 126 "FaultLoomModel" "b" "I" ∈ wsX9_doesKnot := List.mem_cons_of_mem _ wa_2_179
theorem lk_X9_doesKnot_16 : Cond.fieldLink RX9 16 "FaultLoomModel" "words" "[I" ∈ wsX9_doesKnot := List.mem_cons_of_mem _ wa_2_152
theorem lk_X9_doesKnot_142 : Cond.fieldLink RX9 142 "FaultLoomModel" "a" "I" ∈ wsX9_doesKnot := List.mem_cons_of_mem _ wa_2_178
theorem lk_X9_doesKnot_49 : Cond.fieldLink RX9 49 "FaultLoomModel" "tags" "[I" ∈ wsX9_doesKnot := List.mem_cons_of_mem _ wa_2_162
theorem lk_X9_doesKnot_19 : Cond.fieldLink RX9 19 "FaultLoomModel" "wides" "[J" ∈ wsX9_doesKnot := List.mem_cons_of_mem _ wa_2_153
theorem lk_X9_doesKnot_52 : Cond.fieldLink RX9 52 "FaultLoomModel" "weights" "[J" ∈ wsX9_doesKnot := List.mem_cons_of_mem _ wa_2_163
theorem lk_X9_doesKnot_55 : Cond.fieldLink RX9 55 "FaultLoomModel" "nexts" "[I" ∈ wsX9_doesKnot := List.mem_cons_of_mem _ wa_2_164
theorem lk_X9_doesKnot_34 : Cond.fieldLink RX9 34 "FaultLoomModel" "kinds" "[I" ∈ wsX9_doesKnot := List.mem_cons_of_mem _ wa_2_157
theorem lk_X9_doesKnot_123 : Cond.fieldLink RX9 123 "FaultLoomModel" "c" "I" ∈ wsX9_doesKnot := List.mem_cons_of_mem _ wa_2_180
theorem gX9_doesKnot_X9_turn : GoodIn wsX9_doesKnot (va_wsS RX9 181 yX9_turn wsX9_turn) := gSl wa_3_108 wa_3_109 wa_0_7 wa_3_110
theorem in_X9_doesKnot_9 : ∀ w ∈ wsX90, w ∈ wsX9_doesKnot := fun w h => List.mem_cons_of_mem _ (inA9 w h)
theorem lk_X9_doesFault_16 : Cond.fieldLink RX9 16 "FaultLoomModel" "words" "[I" ∈ wsX9_doesFault := List.mem_cons_of_mem _ wa_2_152
theorem lk_X9_doesFault_126 : Cond.fieldLink RX9 126 "FaultLoomModel" "b" "I" ∈ wsX9_doesFault := List.mem_cons_of_mem _ wa_2_179
theorem lk_X9_doesFault_31 : Cond.fieldLink RX9 31 "FaultLoomModel" "refs" "[I" ∈ wsX9_doesFault := List.mem_cons_of_mem _ wa_2_156
theorem lk_X9_doesFault_123 : Cond.fieldLink RX9 123 "FaultLoomModel" "c" "I" ∈ wsX9_doesFault := List.mem_cons_of_mem _ wa_2_180
theorem lk_X9_doesFault_142 : Cond.fieldLink RX9 142 "FaultLoomModel" "a" "I" ∈ wsX9_doesFault := List.mem_cons_of_mem _ wa_2_178
theorem gX9_doesFault_X9_make : GoodIn wsX9_doesFault (wsV RX9 177 RX9 yX9_make wsX9_make) := gVl wa_3_91 wa_3_93 wp_3_2 wa_0_7 wa_3_94
theorem lk_X9_doesFault_49 : Cond.fieldLink RX9 49 "FaultLoomModel" "tags" "[I" ∈ wsX9_doesFault := List.mem_cons_of_mem _ wa_2_162
theorem lk_X9_doesFault_55 : Cond.fieldLink RX9 55 "FaultLoomModel" "nexts" "[I" ∈ wsX9_doesFault := List.mem_cons_of_mem _ wa_2_164
theorem lk_X9_doesFault_113 : Cond.fieldLink RX9 113 "FaultLoomModel" "thrown" "I" ∈ wsX9_doesFault := List.mem_cons_of_mem _ wa_2_177
theorem lk_X9_doesFault_110 : Cond.fieldLink RX9 110 "FaultLoomModel" "handled" "I" ∈ wsX9_doesFault := List.mem_cons_of_mem _ wa_2_176
theorem lk_X9_doesFault_101 : Cond.fieldLink RX9 101 "FaultLoomModel" "toldMany" "I" ∈ wsX9_doesFault := List.mem_cons_of_mem _ wa_2_172
theorem lk_X9_doesFault_61 : Cond.fieldLink RX9 61 "FaultLoomModel" "tolds" "[I" ∈ wsX9_doesFault := List.mem_cons_of_mem _ wa_2_171
theorem in_X9_doesFault_9 : ∀ w ∈ wsX90, w ∈ wsX9_doesFault := fun w h => List.mem_cons_of_mem _ (inA9 w h)
theorem lk_X9_handlerOf_86 : Cond.fieldLink RX9 86 "FaultLoomModel" "handlerMany" "I" ∈ wsX9_handlerOf := List.mem_cons_of_mem _ wa_2_151
theorem lk_X9_handlerOf_13 : Cond.fieldLink RX9 13 "FaultLoomModel" "handlers" "[I" ∈ wsX9_handlerOf := List.mem_cons_of_mem _ wa_2_150
theorem in_X9_handlerOf_9 : ∀ w ∈ wsX90, w ∈ wsX9_handlerOf := fun w h => List.mem_cons_of_mem _ (inA9 w h)
theorem lk_X9_fails_104 : Cond.fieldLink RX9 104 "FaultLoomModel" "failures" "I" ∈ wsX9_fails := List.mem_cons_of_mem _ wa_2_173
theorem lk_X9_fails_107 : Cond.fieldLink RX9 107 "FaultLoomModel" "latest" "I" ∈ wsX9_fails := List.mem_cons_of_mem _ wa_2_174
theorem lk_X9_fails_92 : Cond.fieldLink RX9 92 "FaultLoomModel" "place" "I" ∈ wsX9_fails := List.mem_cons_of_mem _ wa_2_167
theorem lk_X9_fails_64 : Cond.fieldLink RX9 64 "FaultLoomModel" "latestPlace" "I" ∈ wsX9_fails := List.mem_cons_of_mem _ wa_2_175
theorem gX9_fails_X9_handlerOf : GoodIn wsX9_fails (wsV RX9 185 RX9 yX9_handlerOf wsX9_handlerOf) := gVl wa_3_119 wa_3_121 wp_3_8 wa_0_7 wa_3_122
theorem lk_X9_fails_98 : Cond.fieldLink RX9 98 "FaultLoomModel" "calls" "I" ∈ wsX9_fails := List.mem_cons_of_mem _ wa_2_170
theorem lk_X9_fails_58 : Cond.fieldLink RX9 58 "FaultLoomModel" "callPlaces" "[I" ∈ wsX9_fails := List.mem_cons_of_mem _ wa_2_169
theorem lk_X9_fails_83 : Cond.fieldLink RX9 83 "FaultLoomModel" "status" "I" ∈ wsX9_fails := List.mem_cons_of_mem _ wa_2_166
theorem lk_X9_fails_110 : Cond.fieldLink RX9 110 "FaultLoomModel" "handled" "I" ∈ wsX9_fails := List.mem_cons_of_mem _ wa_2_176
theorem lk_X9_fails_31 : Cond.fieldLink RX9 31 "FaultLoomModel" "refs" "[I" ∈ wsX9_fails := List.mem_cons_of_mem _ wa_2_156
theorem lk_X9_fails_142 : Cond.fieldLink RX9 142 "FaultLoomModel" "a" "I" ∈ wsX9_fails := List.mem_cons_of_mem _ wa_2_178
theorem lk_X9_fails_113 : Cond.fieldLink RX9 113 "FaultLoomModel" "thrown" "I" ∈ wsX9_fails := List.mem_cons_of_mem _ wa_2_177
theorem lk_X9_fails_13 : Cond.fieldLink RX9 13 "FaultLoomModel" "handlers" "[I" ∈ wsX9_fails := List.mem_cons_of_mem _ wa_2_150
theorem lk_X9_fails_174 : Cond.fieldLink RX9 174 "FaultLoomModel" "after" "I" ∈ wsX9_fails := List.mem_cons_of_mem _ wa_2_181
theorem in_X9_fails_9 : ∀ w ∈ wsX90, w ∈ wsX9_fails := fun w h => List.mem_cons_of_mem _ (inA9 w h)
theorem lk_X9_one_7 : Cond.fieldLink RX9 7 "FaultLoomModel" "steps" "[I" ∈ wsX9_one := List.mem_cons_of_mem _ wa_2_148
theorem lk_X9_one_92 : Cond.fieldLink RX9 92 "FaultLoomModel" "place" "I" ∈ wsX9_one := List.mem_cons_of_mem _ wa_2_167
theorem lk_X9_one_142 : Cond.fieldLink RX9 142 "FaultLoomModel" "a" "I" ∈ wsX9_one := List.mem_cons_of_mem _ wa_2_178
theorem lk_X9_one_126 : Cond.fieldLink RX9 126 "FaultLoomModel" "b" "I" ∈ wsX9_one := List.mem_cons_of_mem _ wa_2_179
theorem lk_X9_one_123 : Cond.fieldLink RX9 123 "FaultLoomModel" "c" "I" ∈ wsX9_one := List.mem_cons_of_mem _ wa_2_180
theorem lk_X9_one_174 : Cond.fieldLink RX9 174 "FaultLoomModel" "after" "I" ∈ wsX9_one := List.mem_cons_of_mem _ wa_2_181
theorem gX9_one_X9_whyNot : GoodIn wsX9_one (wsV RX9 188 RX9 yX9_whyNot wsX9_whyNot) := gVl wa_3_44 wa_3_46 wp_2_9 wa_0_7 wa_3_47
theorem gX9_one_X9_does : GoodIn wsX9_one (wsV RX9 191 RX9 yX9_does wsX9_does) := gVl wa_3_69 wa_3_71 wp_2_13 wa_0_7 wa_3_72
theorem gX9_one_X9_fails : GoodIn wsX9_one (wsV RX9 194 RX9 yX9_fails wsX9_fails) := gVl wa_3_115 wa_3_117 wp_3_7 wa_0_7 wa_3_118
theorem lk_X9_one_95 : Cond.fieldLink RX9 95 "FaultLoomModel" "done" "I" ∈ wsX9_one := List.mem_cons_of_mem _ wa_2_168
theorem lk_X9_one_83 : Cond.fieldLink RX9 83 "FaultLoomModel" "status" "I" ∈ wsX9_one := List.mem_cons_of_mem _ wa_2_166
theorem lk_X9_one_80 : Cond.fieldLink RX9 80 "FaultLoomModel" "many" "I" ∈ wsX9_one := List.mem_cons_of_mem _ wa_2_149
theorem in_X9_one_9 : ∀ w ∈ wsX90, w ∈ wsX9_one := fun w h => List.mem_cons_of_mem _ (inA9 w h)
theorem lk_X9_step_83 : Cond.fieldLink RX9 83 "FaultLoomModel" "status" "I" ∈ wsX9_step := List.mem_cons_of_mem _ wa_2_166
theorem gX9_step_X9_isIn : GoodIn wsX9_step (va_wsS RX9 68 yX9_isIn wsX9_isIn) := gSl wa_3_15 wa_3_16 wa_0_7 wa_3_17
theorem gX9_step_X9_one : GoodIn wsX9_step (wsV RX9 198 RX9 yX9_one wsX9_one) := gVl wa_3_40 wa_3_42 wp_2_8 wa_0_7 wa_3_43
theorem in_X9_step_9 : ∀ w ∈ wsX90, w ∈ wsX9_step := fun w h => List.mem_cons_of_mem _ (inA9 w h)
theorem gX9_word_X9_isIn : GoodIn wsX9_word (va_wsS RX9 68 yX9_isIn wsX9_isIn) := gSl wa_3_15 wa_3_16 wa_0_7 wa_3_17
theorem lk_X9_word_16 : Cond.fieldLink RX9 16 "FaultLoomModel" "words" "[I" ∈ wsX9_word := List.mem_cons_of_mem _ wa_2_152
theorem in_X9_word_9 : ∀ w ∈ wsX90, w ∈ wsX9_word := fun w h => List.mem_cons_of_mem _ (inA9 w h)
theorem gX9_wide_X9_isIn : GoodIn wsX9_wide (va_wsS RX9 68 yX9_isIn wsX9_isIn) := gSl wa_3_15 wa_3_16 wa_0_7 wa_3_17
theorem lk_X9_wide_19 : Cond.fieldLink RX9 19 "FaultLoomModel" "wides" "[J" ∈ wsX9_wide := List.mem_cons_of_mem _ wa_2_153
theorem in_X9_wide_9 : ∀ w ∈ wsX90, w ∈ wsX9_wide := fun w h => List.mem_cons_of_mem _ (inA9 w h)
theorem gX9_single_X9_isIn : GoodIn wsX9_single (va_wsS RX9 68 yX9_isIn wsX9_isIn) := gSl wa_3_15 wa_3_16 wa_0_7 wa_3_17
theorem lk_X9_single_23 : Cond.fieldLink RX9 23 "FaultLoomModel" "singles" "[F" ∈ wsX9_single := List.mem_cons_of_mem _ wa_2_154
theorem in_X9_single_9 : ∀ w ∈ wsX90, w ∈ wsX9_single := fun w h => List.mem_cons_of_mem _ (inA9 w h)
theorem gX9_real_X9_isIn : GoodIn wsX9_real (va_wsS RX9 68 yX9_isIn wsX9_isIn) := gSl wa_3_15 wa_3_16 wa_0_7 wa_3_17
theorem lk_X9_real_27 : Cond.fieldLink RX9 27 "FaultLoomModel" "reals" "[D" ∈ wsX9_real := List.mem_cons_of_mem _ wa_2_155
theorem in_X9_real_9 : ∀ w ∈ wsX90, w ∈ wsX9_real := fun w h => List.mem_cons_of_mem _ (inA9 w h)
theorem gX9_thingIn_X9_isIn : GoodIn wsX9_thingIn (va_wsS RX9 68 yX9_isIn wsX9_isIn) := gSl wa_3_15 wa_3_16 wa_0_7 wa_3_17
theorem lk_X9_thingIn_31 : Cond.fieldLink RX9 31 "FaultLoomModel" "refs" "[I" ∈ wsX9_thingIn := List.mem_cons_of_mem _ wa_2_156
theorem in_X9_thingIn_9 : ∀ w ∈ wsX90, w ∈ wsX9_thingIn := fun w h => List.mem_cons_of_mem _ (inA9 w h)
theorem lk_X9_kindOf_34 : Cond.fieldLink RX9 34 "FaultLoomModel" "kinds" "[I" ∈ wsX9_kindOf := List.mem_cons_of_mem _ wa_2_157
theorem in_X9_kindOf_9 : ∀ w ∈ wsX90, w ∈ wsX9_kindOf := fun w h => List.mem_cons_of_mem _ (inA9 w h)
theorem gX9_kind_X9_isIn : GoodIn wsX9_kind (va_wsS RX9 68 yX9_isIn wsX9_isIn) := gSl wa_3_15 wa_3_16 wa_0_7 wa_3_17
theorem lk_X9_kind_31 : Cond.fieldLink RX9 31 "FaultLoomModel" "refs" "[I" ∈ wsX9_kind := List.mem_cons_of_mem _ wa_2_156
theorem gX9_kind_X9_kindOf : GoodIn wsX9_kind (wsV RX9 201 RX9 yX9_kindOf wsX9_kindOf) := gVl wa_3_143 wa_3_145 wp_3_9 wa_0_7 wa_3_146
theorem in_X9_kind_9 : ∀ w ∈ wsX90, w ∈ wsX9_kind := fun w h => List.mem_cons_of_mem _ (inA9 w h)
theorem gX9_size_X9_thingIn : GoodIn wsX9_size (wsV RX9 204 RX9 yX9_thingIn wsX9_thingIn) := gVl wa_3_151 wa_3_153 wp_3_10 wa_0_7 wa_3_154
theorem lk_X9_size_34 : Cond.fieldLink RX9 34 "FaultLoomModel" "kinds" "[I" ∈ wsX9_size := List.mem_cons_of_mem _ wa_2_157
theorem gX9_size_X9_isRow : GoodIn wsX9_size (va_wsS RX9 133 yX9_isRow wsX9_isRow) := gSl wa_3_52 wa_3_53 wa_0_7 wa_3_54
theorem lk_X9_size_37 : Cond.fieldLink RX9 37 "FaultLoomModel" "sizes" "[I" ∈ wsX9_size := List.mem_cons_of_mem _ wa_2_158
theorem in_X9_size_9 : ∀ w ∈ wsX90, w ∈ wsX9_size := fun w h => List.mem_cons_of_mem _ (inA9 w h)
theorem gX9_cell_X9_thingIn : GoodIn wsX9_cell (wsV RX9 204 RX9 yX9_thingIn wsX9_thingIn) := gVl wa_3_151 wa_3_153 wp_3_10 wa_0_7 wa_3_154
theorem lk_X9_cell_34 : Cond.fieldLink RX9 34 "FaultLoomModel" "kinds" "[I" ∈ wsX9_cell := List.mem_cons_of_mem _ wa_2_157
theorem gX9_cell_X9_isRow : GoodIn wsX9_cell (va_wsS RX9 133 yX9_isRow wsX9_isRow) := gSl wa_3_52 wa_3_53 wa_0_7 wa_3_54
theorem lk_X9_cell_37 : Cond.fieldLink RX9 37 "FaultLoomModel" "sizes" "[I" ∈ wsX9_cell := List.mem_cons_of_mem _ wa_2_158
theorem gX9_cell_X9_isIn : GoodIn wsX9_cell (va_wsS RX9 68 yX9_isIn wsX9_isIn) := gSl wa_3_15 wa_3_16 wa_0_7 wa_3_17
theorem lk_X9_cell_40 : Cond.fieldLink RX9 40 "FaultLoomModel" "cells" "[J" ∈ wsX9_cell := List.mem_cons_of_mem _ wa_2_159
theorem lk_X9_cell_46 : Cond.fieldLink RX9 46 "FaultLoomModel" "inner" "[I" ∈ wsX9_cell := List.mem_cons_of_mem _ wa_2_161
theorem gX9_cell_X9_kindOf : GoodIn wsX9_cell (wsV RX9 201 RX9 yX9_kindOf wsX9_kindOf) := gVl wa_3_143 wa_3_145 wp_3_9 wa_0_7 wa_3_146
theorem lk_X9_cell_207 : Cond.constantLong RX9 207 (-1) ∈ wsX9_cell := List.mem_cons_of_mem _ wa_3_159
theorem in_X9_cell_9 : ∀ w ∈ wsX90, w ∈ wsX9_cell := fun w h => List.mem_cons_of_mem _ (inA9 w h)
theorem gX9_point_X9_thingIn : GoodIn wsX9_point (wsV RX9 204 RX9 yX9_thingIn wsX9_thingIn) := gVl wa_3_151 wa_3_153 wp_3_10 wa_0_7 wa_3_154
theorem lk_X9_point_34 : Cond.fieldLink RX9 34 "FaultLoomModel" "kinds" "[I" ∈ wsX9_point := List.mem_cons_of_mem _ wa_2_157
theorem lk_X9_point_37 : Cond.fieldLink RX9 37 "FaultLoomModel" "sizes" "[I" ∈ wsX9_point := List.mem_cons_of_mem _ wa_2_158
theorem gX9_point_X9_isIn : GoodIn wsX9_point (va_wsS RX9 68 yX9_isIn wsX9_isIn) := gSl wa_3_15 wa_3_16 wa_0_7 wa_3_17
theorem lk_X9_point_43 : Cond.fieldLink RX9 43 "FaultLoomModel" "points" "[D" ∈ wsX9_point := List.mem_cons_of_mem _ wa_2_160
theorem in_X9_point_9 : ∀ w ∈ wsX90, w ∈ wsX9_point := fun w h => List.mem_cons_of_mem _ (inA9 w h)
theorem gX9_field_X9_thingIn : GoodIn wsX9_field (wsV RX9 204 RX9 yX9_thingIn wsX9_thingIn) := gVl wa_3_151 wa_3_153 wp_3_10 wa_0_7 wa_3_154
theorem lk_X9_field_34 : Cond.fieldLink RX9 34 "FaultLoomModel" "kinds" "[I" ∈ wsX9_field := List.mem_cons_of_mem _ wa_2_157
theorem gX9_field_X9_isRow : GoodIn wsX9_field (va_wsS RX9 133 yX9_isRow wsX9_isRow) := gSl wa_3_52 wa_3_53 wa_0_7 wa_3_54
theorem lk_X9_field_49 : Cond.fieldLink RX9 49 "FaultLoomModel" "tags" "[I" ∈ wsX9_field := List.mem_cons_of_mem _ wa_2_162
theorem gX9_field_X9_isKnot : GoodIn wsX9_field (va_wsS RX9 116 yX9_isKnot wsX9_isKnot) := gSl wa_3_66 wa_3_67 wa_0_7 wa_3_68
theorem lk_X9_field_52 : Cond.fieldLink RX9 52 "FaultLoomModel" "weights" "[J" ∈ wsX9_field := List.mem_cons_of_mem _ wa_2_163
theorem lk_X9_field_55 : Cond.fieldLink RX9 55 "FaultLoomModel" "nexts" "[I" ∈ wsX9_field := List.mem_cons_of_mem _ wa_2_164
theorem gX9_field_X9_kindOf : GoodIn wsX9_field (wsV RX9 201 RX9 yX9_kindOf wsX9_kindOf) := gVl wa_3_143 wa_3_145 wp_3_9 wa_0_7 wa_3_146
theorem in_X9_field_9 : ∀ w ∈ wsX90, w ∈ wsX9_field := fun w h => List.mem_cons_of_mem _ (inA9 w h)
theorem gX9_same_X9_thingIn : GoodIn wsX9_same (wsV RX9 204 RX9 yX9_thingIn wsX9_thingIn) := gVl wa_3_151 wa_3_153 wp_3_10 wa_0_7 wa_3_154
theorem lk_X9_told_101 : Cond.fieldLink RX9 101 "FaultLoomModel" "toldMany" "I" ∈ wsX9_told := List.mem_cons_of_mem _ wa_2_172
theorem gX9_told_X9_isIn : GoodIn wsX9_told (va_wsS RX9 68 yX9_isIn wsX9_isIn) := gSl wa_3_15 wa_3_16 wa_0_7 wa_3_17
theorem lk_X9_told_61 : Cond.fieldLink RX9 61 "FaultLoomModel" "tolds" "[I" ∈ wsX9_told := List.mem_cons_of_mem _ wa_2_171
theorem in_X9_told_9 : ∀ w ∈ wsX90, w ∈ wsX9_told := fun w h => List.mem_cons_of_mem _ (inA9 w h)
theorem lk_X9_state_80 : Cond.fieldLink RX9 80 "FaultLoomModel" "many" "I" ∈ wsX9_state := List.mem_cons_of_mem _ wa_2_149
theorem lk_X9_state_86 : Cond.fieldLink RX9 86 "FaultLoomModel" "handlerMany" "I" ∈ wsX9_state := List.mem_cons_of_mem _ wa_2_151
theorem lk_X9_state_92 : Cond.fieldLink RX9 92 "FaultLoomModel" "place" "I" ∈ wsX9_state := List.mem_cons_of_mem _ wa_2_167
theorem lk_X9_state_95 : Cond.fieldLink RX9 95 "FaultLoomModel" "done" "I" ∈ wsX9_state := List.mem_cons_of_mem _ wa_2_168
theorem lk_X9_state_98 : Cond.fieldLink RX9 98 "FaultLoomModel" "calls" "I" ∈ wsX9_state := List.mem_cons_of_mem _ wa_2_170
theorem lk_X9_state_89 : Cond.fieldLink RX9 89 "FaultLoomModel" "made" "I" ∈ wsX9_state := List.mem_cons_of_mem _ wa_2_165
theorem lk_X9_state_101 : Cond.fieldLink RX9 101 "FaultLoomModel" "toldMany" "I" ∈ wsX9_state := List.mem_cons_of_mem _ wa_2_172
theorem lk_X9_state_104 : Cond.fieldLink RX9 104 "FaultLoomModel" "failures" "I" ∈ wsX9_state := List.mem_cons_of_mem _ wa_2_173
theorem lk_X9_state_107 : Cond.fieldLink RX9 107 "FaultLoomModel" "latest" "I" ∈ wsX9_state := List.mem_cons_of_mem _ wa_2_174
theorem lk_X9_state_64 : Cond.fieldLink RX9 64 "FaultLoomModel" "latestPlace" "I" ∈ wsX9_state := List.mem_cons_of_mem _ wa_2_175
theorem lk_X9_state_83 : Cond.fieldLink RX9 83 "FaultLoomModel" "status" "I" ∈ wsX9_state := List.mem_cons_of_mem _ wa_2_166
theorem in_X9_state_9 : ∀ w ∈ wsX90, w ∈ wsX9_state := fun w h => List.mem_cons_of_mem _ (inA9 w h)
