theorem in_X0_init_0 : ∀ w ∈ wsX00, w ∈ wsX0_init := fun _ h => List.mem_cons_of_mem _ (List.mem_append_right _ h)
theorem lk_X0_init_1 : Cond.methodLink RX0 1 objectInit ∈ wsX0_init := by decide +kernel
theorem lki_X0_init_1 : Cond.instanceMethod objectInit ∈ wsX0_init := by decide +kernel
theorem lkc_X0_init_1 : Cond.code objectInit ⟨#[0xb1]⟩ 1 none ∈ wsX0_init := by decide +kernel
theorem lk_X0_init_7 : Cond.fieldLink RX0 7 "FaultLoom$Handler" "from" "I" ∈ wsX0_init := by decide +kernel
theorem lk_X0_init_13 : Cond.fieldLink RX0 13 "FaultLoom$Handler" "to" "I" ∈ wsX0_init := by decide +kernel
theorem lk_X0_init_16 : Cond.fieldLink RX0 16 "FaultLoom$Handler" "mask" "I" ∈ wsX0_init := by decide +kernel
theorem lk_X0_init_19 : Cond.fieldLink RX0 19 "FaultLoom$Handler" "at" "I" ∈ wsX0_init := by decide +kernel
theorem in_X0_names_0 : ∀ w ∈ wsX00, w ∈ wsX0_names := fun _ h => List.mem_cons_of_mem _ (List.mem_append_right _ h)
theorem lk_X0_names_7 : Cond.fieldLink RX0 7 "FaultLoom$Handler" "from" "I" ∈ wsX0_names := by decide +kernel
theorem lk_X0_names_13 : Cond.fieldLink RX0 13 "FaultLoom$Handler" "to" "I" ∈ wsX0_names := by decide +kernel
theorem lk_X0_names_16 : Cond.fieldLink RX0 16 "FaultLoom$Handler" "mask" "I" ∈ wsX0_names := by decide +kernel
theorem in_X1_init_1 : ∀ w ∈ wsX10, w ∈ wsX1_init := fun _ h => List.mem_cons_of_mem _ (List.mem_append_right _ h)
theorem lk_X1_init_3 : Cond.methodLink RX1 3 objectInit ∈ wsX1_init := by decide +kernel
theorem lki_X1_init_3 : Cond.instanceMethod objectInit ∈ wsX1_init := by decide +kernel
theorem lkc_X1_init_3 : Cond.code objectInit ⟨#[0xb1]⟩ 1 none ∈ wsX1_init := by decide +kernel
theorem lk_X1_init_9 : Cond.classLink RX1 9 RX5 ∈ wsX1_init := by decide +kernel
theorem lk_X1_init_11 : Cond.fieldLink RX1 11 "FaultLoom$Program" "steps" "[LFaultLoom$Step;" ∈ wsX1_init := by decide +kernel
theorem lk_X1_init_17 : Cond.classLink RX1 17 RX0 ∈ wsX1_init := by decide +kernel
theorem lk_X1_init_19 : Cond.fieldLink RX1 19 "FaultLoom$Program" "handlers" "[LFaultLoom$Handler;" ∈ wsX1_init := by decide +kernel
theorem in_X1_addStep_1 : ∀ w ∈ wsX10, w ∈ wsX1_addStep := fun _ h => List.mem_cons_of_mem _ (List.mem_append_right _ h)
theorem lk_X1_addStep_23 : Cond.fieldLink RX1 23 "FaultLoom$Program" "stepCount" "I" ∈ wsX1_addStep := by decide +kernel
theorem lk_X1_addStep_11 : Cond.fieldLink RX1 11 "FaultLoom$Program" "steps" "[LFaultLoom$Step;" ∈ wsX1_addStep := by decide +kernel
theorem in_X1_addHandler_1 : ∀ w ∈ wsX10, w ∈ wsX1_addHandler := fun _ h => List.mem_cons_of_mem _ (List.mem_append_right _ h)
theorem lk_X1_addHandler_27 : Cond.fieldLink RX1 27 "FaultLoom$Program" "handlerCount" "I" ∈ wsX1_addHandler := by decide +kernel
theorem lk_X1_addHandler_19 : Cond.fieldLink RX1 19 "FaultLoom$Program" "handlers" "[LFaultLoom$Handler;" ∈ wsX1_addHandler := by decide +kernel
theorem in_X1_forget_1 : ∀ w ∈ wsX10, w ∈ wsX1_forget := fun _ h => List.mem_cons_of_mem _ (List.mem_append_right _ h)
theorem lk_X1_forget_23 : Cond.fieldLink RX1 23 "FaultLoom$Program" "stepCount" "I" ∈ wsX1_forget := by decide +kernel
theorem lk_X1_forget_27 : Cond.fieldLink RX1 27 "FaultLoom$Program" "handlerCount" "I" ∈ wsX1_forget := by decide +kernel
theorem in_X1_getStep_1 : ∀ w ∈ wsX10, w ∈ wsX1_getStep := fun _ h => List.mem_cons_of_mem _ (List.mem_append_right _ h)
theorem lk_X1_getStep_23 : Cond.fieldLink RX1 23 "FaultLoom$Program" "stepCount" "I" ∈ wsX1_getStep := by decide +kernel
theorem lk_X1_getStep_11 : Cond.fieldLink RX1 11 "FaultLoom$Program" "steps" "[LFaultLoom$Step;" ∈ wsX1_getStep := by decide +kernel
theorem in_X1_seekHandler_1 : ∀ w ∈ wsX10, w ∈ wsX1_seekHandler := fun _ h => List.mem_cons_of_mem _ (List.mem_append_left _ (List.mem_append_right _ h))
theorem in_X1_seekHandler_0 : ∀ w ∈ wsX00, w ∈ wsX1_seekHandler := fun _ h => List.mem_cons_of_mem _ (List.mem_append_right _ h)
theorem lk_X1_seekHandler_27 : Cond.fieldLink RX1 27 "FaultLoom$Program" "handlerCount" "I" ∈ wsX1_seekHandler := by decide +kernel
theorem lk_X1_seekHandler_19 : Cond.fieldLink RX1 19 "FaultLoom$Program" "handlers" "[LFaultLoom$Handler;" ∈ wsX1_seekHandler := by decide +kernel
theorem lk_X1_seekHandler_34 : Cond.fieldLink RX1 34 "FaultLoom$Handler" "at" "I" ∈ wsX1_seekHandler := by decide +kernel
theorem in_X2_init_2 : ∀ w ∈ wsX20, w ∈ wsX2_init := fun _ h => List.mem_cons_of_mem _ (List.mem_append_right _ h)
theorem lk_X2_init_3 : Cond.methodLink RX2 3 objectInit ∈ wsX2_init := by decide +kernel
theorem lki_X2_init_3 : Cond.instanceMethod objectInit ∈ wsX2_init := by decide +kernel
theorem lkc_X2_init_3 : Cond.code objectInit ⟨#[0xb1]⟩ 1 none ∈ wsX2_init := by decide +kernel
theorem lk_X2_init_9 : Cond.fieldLink RX2 9 "FaultLoom$Reckoner" "registers" "LFaultLoom$Registers;" ∈ wsX2_init := by decide +kernel
theorem in_X2_reckon_5 : ∀ w ∈ wsX50, w ∈ wsX2_reckon := fun _ h => List.mem_cons_of_mem _ (List.mem_append_left _ (List.mem_append_left _ (List.mem_append_right _ h)))
theorem in_X2_reckon_2 : ∀ w ∈ wsX20, w ∈ wsX2_reckon := fun _ h => List.mem_cons_of_mem _ (List.mem_append_left _ (List.mem_append_right _ h))
theorem in_X2_reckon_3 : ∀ w ∈ wsX30, w ∈ wsX2_reckon := fun _ h => List.mem_cons_of_mem _ (List.mem_append_right _ h)
theorem lk_X2_reckon_15 : Cond.fieldLink RX2 15 "FaultLoom$Step" "op" "I" ∈ wsX2_reckon := by decide +kernel
theorem in_X2_reckonWhole_2 : ∀ w ∈ wsX20, w ∈ wsX2_reckonWhole := fun _ h => List.mem_cons_of_mem _ (List.mem_append_left _ (List.mem_append_left _ (List.mem_append_right _ h)))
theorem in_X2_reckonWhole_5 : ∀ w ∈ wsX50, w ∈ wsX2_reckonWhole := fun _ h => List.mem_cons_of_mem _ (List.mem_append_left _ (List.mem_append_right _ h))
theorem in_X2_reckonWhole_3 : ∀ w ∈ wsX30, w ∈ wsX2_reckonWhole := fun _ h => List.mem_cons_of_mem _ (List.mem_append_right _ h)
theorem lk_X2_reckonWhole_9 : Cond.fieldLink RX2 9 "FaultLoom$Reckoner" "registers" "LFaultLoom$Registers;" ∈ wsX2_reckonWhole := by decide +kernel
theorem lk_X2_reckonWhole_28 : Cond.fieldLink RX2 28 "FaultLoom$Step" "b" "I" ∈ wsX2_reckonWhole := by decide +kernel
theorem lk_X2_reckonWhole_37 : Cond.fieldLink RX2 37 "FaultLoom$Step" "c" "I" ∈ wsX2_reckonWhole := by decide +kernel
theorem lk_X2_reckonWhole_15 : Cond.fieldLink RX2 15 "FaultLoom$Step" "op" "I" ∈ wsX2_reckonWhole := by decide +kernel
theorem lk_X2_reckonWhole_44 : Cond.fieldLink RX2 44 "FaultLoom$Step" "a" "I" ∈ wsX2_reckonWhole := by decide +kernel
theorem lk_X2_reckonWhole_51 : Cond.constantLong RX2 51 (4294967295) ∈ wsX2_reckonWhole := by decide +kernel
theorem in_X2_divideWords_2 : ∀ w ∈ wsX20, w ∈ wsX2_divideWords := fun _ h => List.mem_cons_of_mem _ (List.mem_append_left _ (List.mem_append_left _ (List.mem_append_right _ h)))
theorem in_X2_divideWords_5 : ∀ w ∈ wsX50, w ∈ wsX2_divideWords := fun _ h => List.mem_cons_of_mem _ (List.mem_append_left _ (List.mem_append_right _ h))
theorem in_X2_divideWords_3 : ∀ w ∈ wsX30, w ∈ wsX2_divideWords := fun _ h => List.mem_cons_of_mem _ (List.mem_append_right _ h)
theorem lk_X2_divideWords_9 : Cond.fieldLink RX2 9 "FaultLoom$Reckoner" "registers" "LFaultLoom$Registers;" ∈ wsX2_divideWords := by decide +kernel
theorem lk_X2_divideWords_44 : Cond.fieldLink RX2 44 "FaultLoom$Step" "a" "I" ∈ wsX2_divideWords := by decide +kernel
theorem lk_X2_divideWords_15 : Cond.fieldLink RX2 15 "FaultLoom$Step" "op" "I" ∈ wsX2_divideWords := by decide +kernel
theorem in_X2_divideLongs_2 : ∀ w ∈ wsX20, w ∈ wsX2_divideLongs := fun _ h => List.mem_cons_of_mem _ (List.mem_append_left _ (List.mem_append_left _ (List.mem_append_right _ h)))
theorem in_X2_divideLongs_5 : ∀ w ∈ wsX50, w ∈ wsX2_divideLongs := fun _ h => List.mem_cons_of_mem _ (List.mem_append_left _ (List.mem_append_right _ h))
theorem in_X2_divideLongs_3 : ∀ w ∈ wsX30, w ∈ wsX2_divideLongs := fun _ h => List.mem_cons_of_mem _ (List.mem_append_right _ h)
theorem lk_X2_divideLongs_9 : Cond.fieldLink RX2 9 "FaultLoom$Reckoner" "registers" "LFaultLoom$Registers;" ∈ wsX2_divideLongs := by decide +kernel
theorem lk_X2_divideLongs_44 : Cond.fieldLink RX2 44 "FaultLoom$Step" "a" "I" ∈ wsX2_divideLongs := by decide +kernel
theorem lk_X2_divideLongs_15 : Cond.fieldLink RX2 15 "FaultLoom$Step" "op" "I" ∈ wsX2_divideLongs := by decide +kernel
theorem in_X2_reckonBroken_2 : ∀ w ∈ wsX20, w ∈ wsX2_reckonBroken := fun _ h => List.mem_cons_of_mem _ (List.mem_append_left _ (List.mem_append_left _ (List.mem_append_right _ h)))
theorem in_X2_reckonBroken_5 : ∀ w ∈ wsX50, w ∈ wsX2_reckonBroken := fun _ h => List.mem_cons_of_mem _ (List.mem_append_left _ (List.mem_append_right _ h))
theorem in_X2_reckonBroken_3 : ∀ w ∈ wsX30, w ∈ wsX2_reckonBroken := fun _ h => List.mem_cons_of_mem _ (List.mem_append_right _ h)
theorem lk_X2_reckonBroken_9 : Cond.fieldLink RX2 9 "FaultLoom$Reckoner" "registers" "LFaultLoom$Registers;" ∈ wsX2_reckonBroken := by decide +kernel
theorem lk_X2_reckonBroken_28 : Cond.fieldLink RX2 28 "FaultLoom$Step" "b" "I" ∈ wsX2_reckonBroken := by decide +kernel
theorem lk_X2_reckonBroken_15 : Cond.fieldLink RX2 15 "FaultLoom$Step" "op" "I" ∈ wsX2_reckonBroken := by decide +kernel
theorem lk_X2_reckonBroken_44 : Cond.fieldLink RX2 44 "FaultLoom$Step" "a" "I" ∈ wsX2_reckonBroken := by decide +kernel
theorem lk_X2_reckonBroken_81 : Cond.constantDouble RX2 81 (4611686018427387904) ∈ wsX2_reckonBroken := by decide +kernel
theorem lk_X2_reckonBroken_37 : Cond.fieldLink RX2 37 "FaultLoom$Step" "c" "I" ∈ wsX2_reckonBroken := by decide +kernel
theorem in_X2_restOfSingles_2 : ∀ w ∈ wsX20, w ∈ wsX2_restOfSingles := fun _ h => List.mem_cons_of_mem _ (List.mem_append_left _ (List.mem_append_left _ (List.mem_append_right _ h)))
theorem in_X2_restOfSingles_5 : ∀ w ∈ wsX50, w ∈ wsX2_restOfSingles := fun _ h => List.mem_cons_of_mem _ (List.mem_append_left _ (List.mem_append_right _ h))
theorem in_X2_restOfSingles_3 : ∀ w ∈ wsX30, w ∈ wsX2_restOfSingles := fun _ h => List.mem_cons_of_mem _ (List.mem_append_right _ h)
theorem lk_X2_restOfSingles_9 : Cond.fieldLink RX2 9 "FaultLoom$Reckoner" "registers" "LFaultLoom$Registers;" ∈ wsX2_restOfSingles := by decide +kernel
theorem lk_X2_restOfSingles_44 : Cond.fieldLink RX2 44 "FaultLoom$Step" "a" "I" ∈ wsX2_restOfSingles := by decide +kernel
theorem in_X2_restOfDoubles_2 : ∀ w ∈ wsX20, w ∈ wsX2_restOfDoubles := fun _ h => List.mem_cons_of_mem _ (List.mem_append_left _ (List.mem_append_left _ (List.mem_append_right _ h)))
theorem in_X2_restOfDoubles_5 : ∀ w ∈ wsX50, w ∈ wsX2_restOfDoubles := fun _ h => List.mem_cons_of_mem _ (List.mem_append_left _ (List.mem_append_right _ h))
theorem in_X2_restOfDoubles_3 : ∀ w ∈ wsX30, w ∈ wsX2_restOfDoubles := fun _ h => List.mem_cons_of_mem _ (List.mem_append_right _ h)
theorem lk_X2_restOfDoubles_9 : Cond.fieldLink RX2 9 "FaultLoom$Reckoner" "registers" "LFaultLoom$Registers;" ∈ wsX2_restOfDoubles := by decide +kernel
theorem lk_X2_restOfDoubles_44 : Cond.fieldLink RX2 44 "FaultLoom$Step" "a" "I" ∈ wsX2_restOfDoubles := by decide +kernel
theorem lk_X2_restOf_81 : Cond.constantDouble RX2 81 (4611686018427387904) ∈ wsX2_restOf := by decide +kernel
theorem in_X3_init_3 : ∀ w ∈ wsX30, w ∈ wsX3_init := fun _ h => List.mem_cons_of_mem _ (List.mem_append_right _ h)
theorem lk_X3_init_3 : Cond.methodLink RX3 3 objectInit ∈ wsX3_init := by decide +kernel
theorem lki_X3_init_3 : Cond.instanceMethod objectInit ∈ wsX3_init := by decide +kernel
theorem lkc_X3_init_3 : Cond.code objectInit ⟨#[0xb1]⟩ 1 none ∈ wsX3_init := by decide +kernel
theorem lka_X3_init_int : Cond.arrayClass (newarray.typeOf .int) ∈ wsX3_init := by decide +kernel
theorem lk_X3_init_9 : Cond.fieldLink RX3 9 "FaultLoom$Registers" "words" "[I" ∈ wsX3_init := by decide +kernel
theorem lka_X3_init_long : Cond.arrayClass (newarray.typeOf .long) ∈ wsX3_init := by decide +kernel
theorem lk_X3_init_15 : Cond.fieldLink RX3 15 "FaultLoom$Registers" "longs" "[J" ∈ wsX3_init := by decide +kernel
theorem lka_X3_init_float : Cond.arrayClass (newarray.typeOf .float) ∈ wsX3_init := by decide +kernel
theorem lk_X3_init_19 : Cond.fieldLink RX3 19 "FaultLoom$Registers" "singles" "[F" ∈ wsX3_init := by decide +kernel
theorem lka_X3_init_double : Cond.arrayClass (newarray.typeOf .double) ∈ wsX3_init := by decide +kernel
theorem lk_X3_init_23 : Cond.fieldLink RX3 23 "FaultLoom$Registers" "doubles" "[D" ∈ wsX3_init := by decide +kernel
theorem lk_X3_init_27 : Cond.classLink RX3 27 RX6 ∈ wsX3_init := by decide +kernel
theorem lk_X3_init_29 : Cond.fieldLink RX3 29 "FaultLoom$Registers" "things" "[LFaultLoom$Thing;" ∈ wsX3_init := by decide +kernel
theorem in_X3_reset_3 : ∀ w ∈ wsX30, w ∈ wsX3_reset := fun _ h => List.mem_cons_of_mem _ (List.mem_append_right _ h)
theorem in_X3_getWord_3 : ∀ w ∈ wsX30, w ∈ wsX3_getWord := fun _ h => List.mem_cons_of_mem _ (List.mem_append_right _ h)
theorem lk_X3_getWord_9 : Cond.fieldLink RX3 9 "FaultLoom$Registers" "words" "[I" ∈ wsX3_getWord := by decide +kernel
theorem in_X3_setWord_3 : ∀ w ∈ wsX30, w ∈ wsX3_setWord := fun _ h => List.mem_cons_of_mem _ (List.mem_append_right _ h)
theorem lk_X3_setWord_9 : Cond.fieldLink RX3 9 "FaultLoom$Registers" "words" "[I" ∈ wsX3_setWord := by decide +kernel
theorem in_X3_getLong_3 : ∀ w ∈ wsX30, w ∈ wsX3_getLong := fun _ h => List.mem_cons_of_mem _ (List.mem_append_right _ h)
theorem lk_X3_getLong_15 : Cond.fieldLink RX3 15 "FaultLoom$Registers" "longs" "[J" ∈ wsX3_getLong := by decide +kernel
theorem in_X3_setLong_3 : ∀ w ∈ wsX30, w ∈ wsX3_setLong := fun _ h => List.mem_cons_of_mem _ (List.mem_append_right _ h)
theorem lk_X3_setLong_15 : Cond.fieldLink RX3 15 "FaultLoom$Registers" "longs" "[J" ∈ wsX3_setLong := by decide +kernel
theorem in_X3_getSingle_3 : ∀ w ∈ wsX30, w ∈ wsX3_getSingle := fun _ h => List.mem_cons_of_mem _ (List.mem_append_right _ h)
theorem lk_X3_getSingle_19 : Cond.fieldLink RX3 19 "FaultLoom$Registers" "singles" "[F" ∈ wsX3_getSingle := by decide +kernel
theorem in_X3_setSingle_3 : ∀ w ∈ wsX30, w ∈ wsX3_setSingle := fun _ h => List.mem_cons_of_mem _ (List.mem_append_right _ h)
theorem lk_X3_setSingle_19 : Cond.fieldLink RX3 19 "FaultLoom$Registers" "singles" "[F" ∈ wsX3_setSingle := by decide +kernel
theorem in_X3_getDouble_3 : ∀ w ∈ wsX30, w ∈ wsX3_getDouble := fun _ h => List.mem_cons_of_mem _ (List.mem_append_right _ h)
theorem lk_X3_getDouble_23 : Cond.fieldLink RX3 23 "FaultLoom$Registers" "doubles" "[D" ∈ wsX3_getDouble := by decide +kernel
theorem in_X3_setDouble_3 : ∀ w ∈ wsX30, w ∈ wsX3_setDouble := fun _ h => List.mem_cons_of_mem _ (List.mem_append_right _ h)
theorem lk_X3_setDouble_23 : Cond.fieldLink RX3 23 "FaultLoom$Registers" "doubles" "[D" ∈ wsX3_setDouble := by decide +kernel
theorem in_X3_hasThing_3 : ∀ w ∈ wsX30, w ∈ wsX3_hasThing := fun _ h => List.mem_cons_of_mem _ (List.mem_append_right _ h)
theorem lk_X3_hasThing_29 : Cond.fieldLink RX3 29 "FaultLoom$Registers" "things" "[LFaultLoom$Thing;" ∈ wsX3_hasThing := by decide +kernel
theorem in_X3_getThing_3 : ∀ w ∈ wsX30, w ∈ wsX3_getThing := fun _ h => List.mem_cons_of_mem _ (List.mem_append_right _ h)
theorem lk_X3_getThing_29 : Cond.fieldLink RX3 29 "FaultLoom$Registers" "things" "[LFaultLoom$Thing;" ∈ wsX3_getThing := by decide +kernel
theorem in_X3_setThing_3 : ∀ w ∈ wsX30, w ∈ wsX3_setThing := fun _ h => List.mem_cons_of_mem _ (List.mem_append_right _ h)
theorem lk_X3_setThing_29 : Cond.fieldLink RX3 29 "FaultLoom$Registers" "things" "[LFaultLoom$Thing;" ∈ wsX3_setThing := by decide +kernel
theorem in_X4_init_4 : ∀ w ∈ wsX40, w ∈ wsX4_init := fun _ h => List.mem_cons_of_mem _ (List.mem_append_left _ (List.mem_append_left _ (List.mem_append_right _ h)))
theorem in_X4_init_2 : ∀ w ∈ wsX20, w ∈ wsX4_init := fun _ h => List.mem_cons_of_mem _ (List.mem_append_left _ (List.mem_append_right _ h))
theorem in_X4_init_7 : ∀ w ∈ wsX70, w ∈ wsX4_init := fun _ h => List.mem_cons_of_mem _ (List.mem_append_right _ h)
theorem lk_X4_init_3 : Cond.methodLink RX4 3 objectInit ∈ wsX4_init := by decide +kernel
theorem lki_X4_init_3 : Cond.instanceMethod objectInit ∈ wsX4_init := by decide +kernel
theorem lkc_X4_init_3 : Cond.code objectInit ⟨#[0xb1]⟩ 1 none ∈ wsX4_init := by decide +kernel
theorem lk_X4_init_9 : Cond.fieldLink RX4 9 "FaultLoom$Run" "program" "LFaultLoom$Program;" ∈ wsX4_init := by decide +kernel
theorem lk_X4_init_15 : Cond.fieldLink RX4 15 "FaultLoom$Run" "registers" "LFaultLoom$Registers;" ∈ wsX4_init := by decide +kernel
theorem lk_X4_init_19 : Cond.classLink RX4 19 RX2 ∈ wsX4_init := by decide +kernel
theorem lki_X4_init_19 : Cond.instantiable RX2 1 ∈ wsX4_init := by decide +kernel
theorem lkz_X4_init_19 : Cond.initialized RX2 ∈ wsX4_init := by decide +kernel
theorem lk_X4_init_21 : Cond.methodLink RX4 21 yX2_init ∈ wsX4_init := by decide +kernel
theorem lki_X4_init_21 : Cond.instanceMethod yX2_init ∈ wsX4_init := by decide +kernel
theorem lkz_X4_init_21 : Cond.initialized yX2_init.cls ∈ wsX4_init := by decide +kernel
theorem lk_X4_init_24 : Cond.fieldLink RX4 24 "FaultLoom$Run" "reckoner" "LFaultLoom$Reckoner;" ∈ wsX4_init := by decide +kernel
theorem lk_X4_init_28 : Cond.classLink RX4 28 RX7 ∈ wsX4_init := by decide +kernel
theorem lki_X4_init_28 : Cond.instantiable RX7 2 ∈ wsX4_init := by decide +kernel
theorem lkz_X4_init_28 : Cond.initialized RX7 ∈ wsX4_init := by decide +kernel
theorem lk_X4_init_30 : Cond.methodLink RX4 30 yX7_init ∈ wsX4_init := by decide +kernel
theorem lki_X4_init_30 : Cond.instanceMethod yX7_init ∈ wsX4_init := by decide +kernel
theorem lkz_X4_init_30 : Cond.initialized yX7_init.cls ∈ wsX4_init := by decide +kernel
theorem lk_X4_init_31 : Cond.fieldLink RX4 31 "FaultLoom$Run" "weaver" "LFaultLoom$Weaver;" ∈ wsX4_init := by decide +kernel
theorem lka_X4_init_int : Cond.arrayClass (newarray.typeOf .int) ∈ wsX4_init := by decide +kernel
theorem lk_X4_init_35 : Cond.fieldLink RX4 35 "FaultLoom$Run" "calls" "[I" ∈ wsX4_init := by decide +kernel
theorem lk_X4_init_39 : Cond.fieldLink RX4 39 "FaultLoom$Run" "numbersTold" "[I" ∈ wsX4_init := by decide +kernel
theorem lk_X4_init_42 : Cond.fieldLink RX4 42 "FaultLoom$Run" "failurePlace" "I" ∈ wsX4_init := by decide +kernel
theorem in_X4_begin_4 : ∀ w ∈ wsX40, w ∈ wsX4_begin := fun _ h => List.mem_cons_of_mem _ (List.mem_append_left _ (List.mem_append_left _ (List.mem_append_right _ h)))
theorem in_X4_begin_7 : ∀ w ∈ wsX70, w ∈ wsX4_begin := fun _ h => List.mem_cons_of_mem _ (List.mem_append_left _ (List.mem_append_right _ h))
theorem in_X4_begin_1 : ∀ w ∈ wsX10, w ∈ wsX4_begin := fun _ h => List.mem_cons_of_mem _ (List.mem_append_right _ h)
theorem lk_X4_begin_46 : Cond.fieldLink RX4 46 "FaultLoom$Run" "stepsDone" "I" ∈ wsX4_begin := by decide +kernel
theorem lk_X4_begin_49 : Cond.fieldLink RX4 49 "FaultLoom$Run" "callCount" "I" ∈ wsX4_begin := by decide +kernel
theorem lk_X4_begin_52 : Cond.fieldLink RX4 52 "FaultLoom$Run" "toldCount" "I" ∈ wsX4_begin := by decide +kernel
theorem lk_X4_begin_55 : Cond.fieldLink RX4 55 "FaultLoom$Run" "failureCount" "I" ∈ wsX4_begin := by decide +kernel
theorem lk_X4_begin_58 : Cond.fieldLink RX4 58 "FaultLoom$Run" "failure" "I" ∈ wsX4_begin := by decide +kernel
theorem lk_X4_begin_42 : Cond.fieldLink RX4 42 "FaultLoom$Run" "failurePlace" "I" ∈ wsX4_begin := by decide +kernel
theorem lk_X4_begin_61 : Cond.fieldLink RX4 61 "FaultLoom$Run" "thrown" "LFaultLoom$Thing;" ∈ wsX4_begin := by decide +kernel
theorem lk_X4_begin_31 : Cond.fieldLink RX4 31 "FaultLoom$Run" "weaver" "LFaultLoom$Weaver;" ∈ wsX4_begin := by decide +kernel
theorem lk_X4_begin_65 : Cond.fieldLink RX4 65 "FaultLoom$Weaver" "made" "I" ∈ wsX4_begin := by decide +kernel
theorem lk_X4_begin_68 : Cond.fieldLink RX4 68 "FaultLoom$Run" "phase" "I" ∈ wsX4_begin := by decide +kernel
theorem in_X4_giveUp_4 : ∀ w ∈ wsX40, w ∈ wsX4_giveUp := fun _ h => List.mem_cons_of_mem _ (List.mem_append_right _ h)
theorem lk_X4_giveUp_68 : Cond.fieldLink RX4 68 "FaultLoom$Run" "phase" "I" ∈ wsX4_giveUp := by decide +kernel
theorem in_X4_doStep_4 : ∀ w ∈ wsX40, w ∈ wsX4_doStep := fun _ h => List.mem_cons_of_mem _ (List.mem_append_left _ (List.mem_append_left _ (List.mem_append_left _ (List.mem_append_left _ (List.mem_append_left _ (List.mem_append_left _ (List.mem_append_left _ (List.mem_append_right _ h))))))))
theorem in_X4_doStep_5 : ∀ w ∈ wsX50, w ∈ wsX4_doStep := fun _ h => List.mem_cons_of_mem _ (List.mem_append_left _ (List.mem_append_left _ (List.mem_append_left _ (List.mem_append_left _ (List.mem_append_left _ (List.mem_append_left _ (List.mem_append_right _ h)))))))
theorem in_X4_doStep_2 : ∀ w ∈ wsX20, w ∈ wsX4_doStep := fun _ h => List.mem_cons_of_mem _ (List.mem_append_left _ (List.mem_append_left _ (List.mem_append_left _ (List.mem_append_left _ (List.mem_append_left _ (List.mem_append_right _ h))))))
theorem in_X4_doStep_3 : ∀ w ∈ wsX30, w ∈ wsX4_doStep := fun _ h => List.mem_cons_of_mem _ (List.mem_append_left _ (List.mem_append_left _ (List.mem_append_left _ (List.mem_append_left _ (List.mem_append_right _ h)))))
theorem in_X4_doStep_6 : ∀ w ∈ wsX60, w ∈ wsX4_doStep := fun _ h => List.mem_cons_of_mem _ (List.mem_append_left _ (List.mem_append_left _ (List.mem_append_left _ (List.mem_append_right _ h))))
theorem in_X4_doStep_7 : ∀ w ∈ wsX70, w ∈ wsX4_doStep := fun _ h => List.mem_cons_of_mem _ (List.mem_append_left _ (List.mem_append_left _ (List.mem_append_right _ h)))
theorem in_X4_doStep_1 : ∀ w ∈ wsX10, w ∈ wsX4_doStep := fun _ h => List.mem_cons_of_mem _ (List.mem_append_left _ (List.mem_append_right _ h))
theorem in_X4_doStep_0 : ∀ w ∈ wsX00, w ∈ wsX4_doStep := fun _ h => List.mem_cons_of_mem _ (List.mem_append_right _ h)
theorem lk_X4_doStep_46 : Cond.fieldLink RX4 46 "FaultLoom$Run" "stepsDone" "I" ∈ wsX4_doStep := by decide +kernel
theorem lk_X4_doStep_75 : Cond.fieldLink RX4 75 "FaultLoom$Run" "place" "I" ∈ wsX4_doStep := by decide +kernel
theorem lk_X4_doStep_78 : Cond.fieldLink RX4 78 "FaultLoom$Run" "next" "I" ∈ wsX4_doStep := by decide +kernel
theorem lk_X4_doStep_68 : Cond.fieldLink RX4 68 "FaultLoom$Run" "phase" "I" ∈ wsX4_doStep := by decide +kernel
theorem in_X4_getTold_4 : ∀ w ∈ wsX40, w ∈ wsX4_getTold := fun _ h => List.mem_cons_of_mem _ (List.mem_append_right _ h)
theorem lk_X4_getTold_52 : Cond.fieldLink RX4 52 "FaultLoom$Run" "toldCount" "I" ∈ wsX4_getTold := by decide +kernel
theorem lk_X4_getTold_39 : Cond.fieldLink RX4 39 "FaultLoom$Run" "numbersTold" "[I" ∈ wsX4_getTold := by decide +kernel
theorem in_X4_report_4 : ∀ w ∈ wsX40, w ∈ wsX4_report := fun _ h => List.mem_cons_of_mem _ (List.mem_append_left _ (List.mem_append_right _ h))
theorem in_X4_report_7 : ∀ w ∈ wsX70, w ∈ wsX4_report := fun _ h => List.mem_cons_of_mem _ (List.mem_append_right _ h)
theorem lk_X4_report_75 : Cond.fieldLink RX4 75 "FaultLoom$Run" "place" "I" ∈ wsX4_report := by decide +kernel
theorem lk_X4_report_46 : Cond.fieldLink RX4 46 "FaultLoom$Run" "stepsDone" "I" ∈ wsX4_report := by decide +kernel
theorem lk_X4_report_49 : Cond.fieldLink RX4 49 "FaultLoom$Run" "callCount" "I" ∈ wsX4_report := by decide +kernel
theorem lk_X4_report_31 : Cond.fieldLink RX4 31 "FaultLoom$Run" "weaver" "LFaultLoom$Weaver;" ∈ wsX4_report := by decide +kernel
theorem lk_X4_report_65 : Cond.fieldLink RX4 65 "FaultLoom$Weaver" "made" "I" ∈ wsX4_report := by decide +kernel
theorem lk_X4_report_52 : Cond.fieldLink RX4 52 "FaultLoom$Run" "toldCount" "I" ∈ wsX4_report := by decide +kernel
theorem lk_X4_report_55 : Cond.fieldLink RX4 55 "FaultLoom$Run" "failureCount" "I" ∈ wsX4_report := by decide +kernel
theorem lk_X4_report_58 : Cond.fieldLink RX4 58 "FaultLoom$Run" "failure" "I" ∈ wsX4_report := by decide +kernel
theorem lk_X4_report_42 : Cond.fieldLink RX4 42 "FaultLoom$Run" "failurePlace" "I" ∈ wsX4_report := by decide +kernel
theorem lk_X4_report_68 : Cond.fieldLink RX4 68 "FaultLoom$Run" "phase" "I" ∈ wsX4_report := by decide +kernel
theorem in_X4_goTo_4 : ∀ w ∈ wsX40, w ∈ wsX4_goTo := fun _ h => List.mem_cons_of_mem _ (List.mem_append_left _ (List.mem_append_right _ h))
theorem in_X4_goTo_1 : ∀ w ∈ wsX10, w ∈ wsX4_goTo := fun _ h => List.mem_cons_of_mem _ (List.mem_append_right _ h)
theorem lk_X4_goTo_75 : Cond.fieldLink RX4 75 "FaultLoom$Run" "place" "I" ∈ wsX4_goTo := by decide +kernel
theorem lk_X4_goTo_9 : Cond.fieldLink RX4 9 "FaultLoom$Run" "program" "LFaultLoom$Program;" ∈ wsX4_goTo := by decide +kernel
theorem lk_X4_goTo_68 : Cond.fieldLink RX4 68 "FaultLoom$Run" "phase" "I" ∈ wsX4_goTo := by decide +kernel
theorem in_X4_perform_5 : ∀ w ∈ wsX50, w ∈ wsX4_perform := fun _ h => List.mem_cons_of_mem _ (List.mem_append_left _ (List.mem_append_left _ (List.mem_append_left _ (List.mem_append_left _ (List.mem_append_left _ (List.mem_append_right _ h))))))
theorem in_X4_perform_4 : ∀ w ∈ wsX40, w ∈ wsX4_perform := fun _ h => List.mem_cons_of_mem _ (List.mem_append_left _ (List.mem_append_left _ (List.mem_append_left _ (List.mem_append_left _ (List.mem_append_right _ h)))))
theorem in_X4_perform_2 : ∀ w ∈ wsX20, w ∈ wsX4_perform := fun _ h => List.mem_cons_of_mem _ (List.mem_append_left _ (List.mem_append_left _ (List.mem_append_left _ (List.mem_append_right _ h))))
theorem in_X4_perform_3 : ∀ w ∈ wsX30, w ∈ wsX4_perform := fun _ h => List.mem_cons_of_mem _ (List.mem_append_left _ (List.mem_append_left _ (List.mem_append_right _ h)))
theorem in_X4_perform_6 : ∀ w ∈ wsX60, w ∈ wsX4_perform := fun _ h => List.mem_cons_of_mem _ (List.mem_append_left _ (List.mem_append_right _ h))
theorem in_X4_perform_7 : ∀ w ∈ wsX70, w ∈ wsX4_perform := fun _ h => List.mem_cons_of_mem _ (List.mem_append_right _ h)
theorem lk_X4_perform_95 : Cond.fieldLink RX4 95 "FaultLoom$Step" "op" "I" ∈ wsX4_perform := by decide +kernel
theorem lk_X4_perform_24 : Cond.fieldLink RX4 24 "FaultLoom$Run" "reckoner" "LFaultLoom$Reckoner;" ∈ wsX4_perform := by decide +kernel
theorem lk_X4_perform_68 : Cond.fieldLink RX4 68 "FaultLoom$Run" "phase" "I" ∈ wsX4_perform := by decide +kernel
theorem lk_X4_perform_103 : Cond.fieldLink RX4 103 "FaultLoom$Step" "a" "I" ∈ wsX4_perform := by decide +kernel
theorem lk_X4_perform_78 : Cond.fieldLink RX4 78 "FaultLoom$Run" "next" "I" ∈ wsX4_perform := by decide +kernel
theorem lk_X4_perform_15 : Cond.fieldLink RX4 15 "FaultLoom$Run" "registers" "LFaultLoom$Registers;" ∈ wsX4_perform := by decide +kernel
theorem lk_X4_perform_112 : Cond.fieldLink RX4 112 "FaultLoom$Step" "b" "I" ∈ wsX4_perform := by decide +kernel
theorem lk_X4_perform_61 : Cond.fieldLink RX4 61 "FaultLoom$Run" "thrown" "LFaultLoom$Thing;" ∈ wsX4_perform := by decide +kernel
theorem lk_X4_perform_58 : Cond.fieldLink RX4 58 "FaultLoom$Run" "failure" "I" ∈ wsX4_perform := by decide +kernel
theorem lk_X4_perform_31 : Cond.fieldLink RX4 31 "FaultLoom$Run" "weaver" "LFaultLoom$Weaver;" ∈ wsX4_perform := by decide +kernel
theorem in_X4_callPlace_4 : ∀ w ∈ wsX40, w ∈ wsX4_callPlace := fun _ h => List.mem_cons_of_mem _ (List.mem_append_right _ h)
theorem lk_X4_callPlace_49 : Cond.fieldLink RX4 49 "FaultLoom$Run" "callCount" "I" ∈ wsX4_callPlace := by decide +kernel
theorem lk_X4_callPlace_35 : Cond.fieldLink RX4 35 "FaultLoom$Run" "calls" "[I" ∈ wsX4_callPlace := by decide +kernel
theorem lk_X4_callPlace_75 : Cond.fieldLink RX4 75 "FaultLoom$Run" "place" "I" ∈ wsX4_callPlace := by decide +kernel
theorem lk_X4_callPlace_78 : Cond.fieldLink RX4 78 "FaultLoom$Run" "next" "I" ∈ wsX4_callPlace := by decide +kernel
theorem in_X4_comeBack_4 : ∀ w ∈ wsX40, w ∈ wsX4_comeBack := fun _ h => List.mem_cons_of_mem _ (List.mem_append_right _ h)
theorem lk_X4_comeBack_49 : Cond.fieldLink RX4 49 "FaultLoom$Run" "callCount" "I" ∈ wsX4_comeBack := by decide +kernel
theorem lk_X4_comeBack_68 : Cond.fieldLink RX4 68 "FaultLoom$Run" "phase" "I" ∈ wsX4_comeBack := by decide +kernel
theorem lk_X4_comeBack_78 : Cond.fieldLink RX4 78 "FaultLoom$Run" "next" "I" ∈ wsX4_comeBack := by decide +kernel
theorem in_X4_dropCall_4 : ∀ w ∈ wsX40, w ∈ wsX4_dropCall := fun _ h => List.mem_cons_of_mem _ (List.mem_append_right _ h)
theorem lk_X4_dropCall_49 : Cond.fieldLink RX4 49 "FaultLoom$Run" "callCount" "I" ∈ wsX4_dropCall := by decide +kernel
theorem lk_X4_dropCall_35 : Cond.fieldLink RX4 35 "FaultLoom$Run" "calls" "[I" ∈ wsX4_dropCall := by decide +kernel
theorem in_X4_throwFault_6 : ∀ w ∈ wsX60, w ∈ wsX4_throwFault := fun _ h => List.mem_cons_of_mem _ (List.mem_append_right _ h)
theorem lk_X4_throwFault_153 : Cond.fieldLink RX4 153 "FaultLoom$Thing" "tag" "I" ∈ wsX4_throwFault := by decide +kernel
theorem in_X4_tell_4 : ∀ w ∈ wsX40, w ∈ wsX4_tell := fun _ h => List.mem_cons_of_mem _ (List.mem_append_right _ h)
theorem lk_X4_tell_52 : Cond.fieldLink RX4 52 "FaultLoom$Run" "toldCount" "I" ∈ wsX4_tell := by decide +kernel
theorem lk_X4_tell_39 : Cond.fieldLink RX4 39 "FaultLoom$Run" "numbersTold" "[I" ∈ wsX4_tell := by decide +kernel
theorem in_X4_fail_4 : ∀ w ∈ wsX40, w ∈ wsX4_fail := fun _ h => List.mem_cons_of_mem _ (List.mem_append_left _ (List.mem_append_left _ (List.mem_append_left _ (List.mem_append_left _ (List.mem_append_right _ h)))))
theorem in_X4_fail_5 : ∀ w ∈ wsX50, w ∈ wsX4_fail := fun _ h => List.mem_cons_of_mem _ (List.mem_append_left _ (List.mem_append_left _ (List.mem_append_left _ (List.mem_append_right _ h))))
theorem in_X4_fail_3 : ∀ w ∈ wsX30, w ∈ wsX4_fail := fun _ h => List.mem_cons_of_mem _ (List.mem_append_left _ (List.mem_append_left _ (List.mem_append_right _ h)))
theorem in_X4_fail_1 : ∀ w ∈ wsX10, w ∈ wsX4_fail := fun _ h => List.mem_cons_of_mem _ (List.mem_append_left _ (List.mem_append_right _ h))
theorem in_X4_fail_0 : ∀ w ∈ wsX00, w ∈ wsX4_fail := fun _ h => List.mem_cons_of_mem _ (List.mem_append_right _ h)
theorem lk_X4_fail_55 : Cond.fieldLink RX4 55 "FaultLoom$Run" "failureCount" "I" ∈ wsX4_fail := by decide +kernel
theorem lk_X4_fail_58 : Cond.fieldLink RX4 58 "FaultLoom$Run" "failure" "I" ∈ wsX4_fail := by decide +kernel
theorem lk_X4_fail_75 : Cond.fieldLink RX4 75 "FaultLoom$Run" "place" "I" ∈ wsX4_fail := by decide +kernel
theorem lk_X4_fail_42 : Cond.fieldLink RX4 42 "FaultLoom$Run" "failurePlace" "I" ∈ wsX4_fail := by decide +kernel
theorem lk_X4_fail_15 : Cond.fieldLink RX4 15 "FaultLoom$Run" "registers" "LFaultLoom$Registers;" ∈ wsX4_fail := by decide +kernel
theorem lk_X4_fail_103 : Cond.fieldLink RX4 103 "FaultLoom$Step" "a" "I" ∈ wsX4_fail := by decide +kernel
theorem lk_X4_fail_61 : Cond.fieldLink RX4 61 "FaultLoom$Run" "thrown" "LFaultLoom$Thing;" ∈ wsX4_fail := by decide +kernel
theorem lk_X4_fail_9 : Cond.fieldLink RX4 9 "FaultLoom$Run" "program" "LFaultLoom$Program;" ∈ wsX4_fail := by decide +kernel
theorem lk_X4_fail_49 : Cond.fieldLink RX4 49 "FaultLoom$Run" "callCount" "I" ∈ wsX4_fail := by decide +kernel
theorem lk_X4_fail_68 : Cond.fieldLink RX4 68 "FaultLoom$Run" "phase" "I" ∈ wsX4_fail := by decide +kernel
theorem in_X5_init_5 : ∀ w ∈ wsX50, w ∈ wsX5_init := fun _ h => List.mem_cons_of_mem _ (List.mem_append_right _ h)
theorem lk_X5_init_1 : Cond.methodLink RX5 1 objectInit ∈ wsX5_init := by decide +kernel
theorem lki_X5_init_1 : Cond.instanceMethod objectInit ∈ wsX5_init := by decide +kernel
theorem lkc_X5_init_1 : Cond.code objectInit ⟨#[0xb1]⟩ 1 none ∈ wsX5_init := by decide +kernel
theorem lk_X5_init_7 : Cond.fieldLink RX5 7 "FaultLoom$Step" "op" "I" ∈ wsX5_init := by decide +kernel
theorem lk_X5_init_13 : Cond.fieldLink RX5 13 "FaultLoom$Step" "a" "I" ∈ wsX5_init := by decide +kernel
theorem lk_X5_init_16 : Cond.fieldLink RX5 16 "FaultLoom$Step" "b" "I" ∈ wsX5_init := by decide +kernel
theorem lk_X5_init_19 : Cond.fieldLink RX5 19 "FaultLoom$Step" "c" "I" ∈ wsX5_init := by decide +kernel
theorem in_X6_init_6 : ∀ w ∈ wsX60, w ∈ wsX6_init := fun _ h => List.mem_cons_of_mem _ (List.mem_append_right _ h)
theorem lk_X6_init_3 : Cond.methodLink RX6 3 objectInit ∈ wsX6_init := by decide +kernel
theorem lki_X6_init_3 : Cond.instanceMethod objectInit ∈ wsX6_init := by decide +kernel
theorem lkc_X6_init_3 : Cond.code objectInit ⟨#[0xb1]⟩ 1 none ∈ wsX6_init := by decide +kernel
theorem lk_X6_init_9 : Cond.fieldLink RX6 9 "FaultLoom$Thing" "kind" "I" ∈ wsX6_init := by decide +kernel
theorem lk_X6_init_15 : Cond.fieldLink RX6 15 "FaultLoom$Thing" "places" "I" ∈ wsX6_init := by decide +kernel
theorem lka_X6_init_long : Cond.arrayClass (newarray.typeOf .long) ∈ wsX6_init := by decide +kernel
theorem lk_X6_init_18 : Cond.fieldLink RX6 18 "FaultLoom$Thing" "numbers" "[J" ∈ wsX6_init := by decide +kernel
theorem lka_X6_init_double : Cond.arrayClass (newarray.typeOf .double) ∈ wsX6_init := by decide +kernel
theorem lk_X6_init_22 : Cond.fieldLink RX6 22 "FaultLoom$Thing" "points" "[D" ∈ wsX6_init := by decide +kernel
theorem lk_X6_init_10 : Cond.classLink RX6 10 RX6 ∈ wsX6_init := by decide +kernel
theorem lk_X6_init_26 : Cond.fieldLink RX6 26 "FaultLoom$Thing" "members" "[LFaultLoom$Thing;" ∈ wsX6_init := by decide +kernel
theorem in_X6_isRow_6 : ∀ w ∈ wsX60, w ∈ wsX6_isRow := fun _ h => List.mem_cons_of_mem _ (List.mem_append_right _ h)
theorem lk_X6_isRow_9 : Cond.fieldLink RX6 9 "FaultLoom$Thing" "kind" "I" ∈ wsX6_isRow := by decide +kernel
theorem in_X6_isOf_6 : ∀ w ∈ wsX60, w ∈ wsX6_isOf := fun _ h => List.mem_cons_of_mem _ (List.mem_append_right _ h)
theorem lk_X6_isOf_9 : Cond.fieldLink RX6 9 "FaultLoom$Thing" "kind" "I" ∈ wsX6_isOf := by decide +kernel
theorem in_X6_hasPlace_6 : ∀ w ∈ wsX60, w ∈ wsX6_hasPlace := fun _ h => List.mem_cons_of_mem _ (List.mem_append_right _ h)
theorem lk_X6_hasPlace_15 : Cond.fieldLink RX6 15 "FaultLoom$Thing" "places" "I" ∈ wsX6_hasPlace := by decide +kernel
theorem in_X6_getNumber_6 : ∀ w ∈ wsX60, w ∈ wsX6_getNumber := fun _ h => List.mem_cons_of_mem _ (List.mem_append_right _ h)
theorem lk_X6_getNumber_18 : Cond.fieldLink RX6 18 "FaultLoom$Thing" "numbers" "[J" ∈ wsX6_getNumber := by decide +kernel
theorem in_X6_setNumber_6 : ∀ w ∈ wsX60, w ∈ wsX6_setNumber := fun _ h => List.mem_cons_of_mem _ (List.mem_append_right _ h)
theorem lk_X6_setNumber_18 : Cond.fieldLink RX6 18 "FaultLoom$Thing" "numbers" "[J" ∈ wsX6_setNumber := by decide +kernel
theorem in_X6_getPoint_6 : ∀ w ∈ wsX60, w ∈ wsX6_getPoint := fun _ h => List.mem_cons_of_mem _ (List.mem_append_right _ h)
theorem lk_X6_getPoint_22 : Cond.fieldLink RX6 22 "FaultLoom$Thing" "points" "[D" ∈ wsX6_getPoint := by decide +kernel
theorem in_X6_setPoint_6 : ∀ w ∈ wsX60, w ∈ wsX6_setPoint := fun _ h => List.mem_cons_of_mem _ (List.mem_append_right _ h)
theorem lk_X6_setPoint_22 : Cond.fieldLink RX6 22 "FaultLoom$Thing" "points" "[D" ∈ wsX6_setPoint := by decide +kernel
theorem in_X6_getMember_6 : ∀ w ∈ wsX60, w ∈ wsX6_getMember := fun _ h => List.mem_cons_of_mem _ (List.mem_append_right _ h)
theorem lk_X6_getMember_26 : Cond.fieldLink RX6 26 "FaultLoom$Thing" "members" "[LFaultLoom$Thing;" ∈ wsX6_getMember := by decide +kernel
theorem in_X6_setMember_6 : ∀ w ∈ wsX60, w ∈ wsX6_setMember := fun _ h => List.mem_cons_of_mem _ (List.mem_append_right _ h)
theorem lk_X6_setMember_26 : Cond.fieldLink RX6 26 "FaultLoom$Thing" "members" "[LFaultLoom$Thing;" ∈ wsX6_setMember := by decide +kernel
theorem in_X6_turn_6 : ∀ w ∈ wsX60, w ∈ wsX6_turn := fun _ h => List.mem_cons_of_mem _ (List.mem_append_right _ h)
theorem lk_X6_turn_9 : Cond.fieldLink RX6 9 "FaultLoom$Thing" "kind" "I" ∈ wsX6_turn := by decide +kernel
theorem lk_X6_turn_30 : Cond.fieldLink RX6 30 "FaultLoom$Thing" "tag" "I" ∈ wsX6_turn := by decide +kernel
theorem in_X7_init_7 : ∀ w ∈ wsX70, w ∈ wsX7_init := fun _ h => List.mem_cons_of_mem _ (List.mem_append_right _ h)
theorem lk_X7_init_3 : Cond.methodLink RX7 3 objectInit ∈ wsX7_init := by decide +kernel
theorem lki_X7_init_3 : Cond.instanceMethod objectInit ∈ wsX7_init := by decide +kernel
theorem lkc_X7_init_3 : Cond.code objectInit ⟨#[0xb1]⟩ 1 none ∈ wsX7_init := by decide +kernel
theorem lk_X7_init_9 : Cond.fieldLink RX7 9 "FaultLoom$Weaver" "registers" "LFaultLoom$Registers;" ∈ wsX7_init := by decide +kernel
theorem in_X7_weave_5 : ∀ w ∈ wsX50, w ∈ wsX7_weave := fun _ h => List.mem_cons_of_mem _ (List.mem_append_left _ (List.mem_append_left _ (List.mem_append_left _ (List.mem_append_right _ h))))
theorem in_X7_weave_7 : ∀ w ∈ wsX70, w ∈ wsX7_weave := fun _ h => List.mem_cons_of_mem _ (List.mem_append_left _ (List.mem_append_left _ (List.mem_append_right _ h)))
theorem in_X7_weave_3 : ∀ w ∈ wsX30, w ∈ wsX7_weave := fun _ h => List.mem_cons_of_mem _ (List.mem_append_left _ (List.mem_append_right _ h))
theorem in_X7_weave_6 : ∀ w ∈ wsX60, w ∈ wsX7_weave := fun _ h => List.mem_cons_of_mem _ (List.mem_append_right _ h)
theorem lk_X7_weave_15 : Cond.fieldLink RX7 15 "FaultLoom$Step" "op" "I" ∈ wsX7_weave := by decide +kernel
theorem in_X7_hasRoom_7 : ∀ w ∈ wsX70, w ∈ wsX7_hasRoom := fun _ h => List.mem_cons_of_mem _ (List.mem_append_right _ h)
theorem lk_X7_hasRoom_54 : Cond.fieldLink RX7 54 "FaultLoom$Weaver" "made" "I" ∈ wsX7_hasRoom := by decide +kernel
theorem in_X7_makeRow_7 : ∀ w ∈ wsX70, w ∈ wsX7_makeRow := fun _ h => List.mem_cons_of_mem _ (List.mem_append_left _ (List.mem_append_left _ (List.mem_append_left _ (List.mem_append_right _ h))))
theorem in_X7_makeRow_5 : ∀ w ∈ wsX50, w ∈ wsX7_makeRow := fun _ h => List.mem_cons_of_mem _ (List.mem_append_left _ (List.mem_append_left _ (List.mem_append_right _ h)))
theorem in_X7_makeRow_6 : ∀ w ∈ wsX60, w ∈ wsX7_makeRow := fun _ h => List.mem_cons_of_mem _ (List.mem_append_left _ (List.mem_append_right _ h))
theorem in_X7_makeRow_3 : ∀ w ∈ wsX30, w ∈ wsX7_makeRow := fun _ h => List.mem_cons_of_mem _ (List.mem_append_right _ h)
theorem lk_X7_makeRow_9 : Cond.fieldLink RX7 9 "FaultLoom$Weaver" "registers" "LFaultLoom$Registers;" ∈ wsX7_makeRow := by decide +kernel
theorem lk_X7_makeRow_57 : Cond.fieldLink RX7 57 "FaultLoom$Step" "c" "I" ∈ wsX7_makeRow := by decide +kernel
theorem lk_X7_makeRow_54 : Cond.fieldLink RX7 54 "FaultLoom$Weaver" "made" "I" ∈ wsX7_makeRow := by decide +kernel
theorem lk_X7_makeRow_69 : Cond.fieldLink RX7 69 "FaultLoom$Step" "a" "I" ∈ wsX7_makeRow := by decide +kernel
theorem lk_X7_makeRow_72 : Cond.classLink RX7 72 RX6 ∈ wsX7_makeRow := by decide +kernel
theorem lki_X7_makeRow_72 : Cond.instantiable RX6 8 ∈ wsX7_makeRow := by decide +kernel
theorem lkz_X7_makeRow_72 : Cond.initialized RX6 ∈ wsX7_makeRow := by decide +kernel
theorem lk_X7_makeRow_74 : Cond.fieldLink RX7 74 "FaultLoom$Step" "b" "I" ∈ wsX7_makeRow := by decide +kernel
theorem lk_X7_makeRow_77 : Cond.methodLink RX7 77 yX6_init ∈ wsX7_makeRow := by decide +kernel
theorem lki_X7_makeRow_77 : Cond.instanceMethod yX6_init ∈ wsX7_makeRow := by decide +kernel
theorem lkz_X7_makeRow_77 : Cond.initialized yX6_init.cls ∈ wsX7_makeRow := by decide +kernel
theorem in_X7_makeGrid_7 : ∀ w ∈ wsX70, w ∈ wsX7_makeGrid := fun _ h => List.mem_cons_of_mem _ (List.mem_append_left _ (List.mem_append_left _ (List.mem_append_left _ (List.mem_append_right _ h))))
theorem in_X7_makeGrid_5 : ∀ w ∈ wsX50, w ∈ wsX7_makeGrid := fun _ h => List.mem_cons_of_mem _ (List.mem_append_left _ (List.mem_append_left _ (List.mem_append_right _ h)))
theorem in_X7_makeGrid_6 : ∀ w ∈ wsX60, w ∈ wsX7_makeGrid := fun _ h => List.mem_cons_of_mem _ (List.mem_append_left _ (List.mem_append_right _ h))
theorem in_X7_makeGrid_3 : ∀ w ∈ wsX30, w ∈ wsX7_makeGrid := fun _ h => List.mem_cons_of_mem _ (List.mem_append_right _ h)
theorem lk_X7_makeGrid_9 : Cond.fieldLink RX7 9 "FaultLoom$Weaver" "registers" "LFaultLoom$Registers;" ∈ wsX7_makeGrid := by decide +kernel
theorem lk_X7_makeGrid_74 : Cond.fieldLink RX7 74 "FaultLoom$Step" "b" "I" ∈ wsX7_makeGrid := by decide +kernel
theorem lk_X7_makeGrid_57 : Cond.fieldLink RX7 57 "FaultLoom$Step" "c" "I" ∈ wsX7_makeGrid := by decide +kernel
theorem lk_X7_makeGrid_54 : Cond.fieldLink RX7 54 "FaultLoom$Weaver" "made" "I" ∈ wsX7_makeGrid := by decide +kernel
theorem lk_X7_makeGrid_72 : Cond.classLink RX7 72 RX6 ∈ wsX7_makeGrid := by decide +kernel
theorem lki_X7_makeGrid_72 : Cond.instantiable RX6 8 ∈ wsX7_makeGrid := by decide +kernel
theorem lkz_X7_makeGrid_72 : Cond.initialized RX6 ∈ wsX7_makeGrid := by decide +kernel
theorem lk_X7_makeGrid_77 : Cond.methodLink RX7 77 yX6_init ∈ wsX7_makeGrid := by decide +kernel
theorem lki_X7_makeGrid_77 : Cond.instanceMethod yX6_init ∈ wsX7_makeGrid := by decide +kernel
theorem lkz_X7_makeGrid_77 : Cond.initialized yX6_init.cls ∈ wsX7_makeGrid := by decide +kernel
theorem lk_X7_makeGrid_69 : Cond.fieldLink RX7 69 "FaultLoom$Step" "a" "I" ∈ wsX7_makeGrid := by decide +kernel
theorem in_X7_makeKnot_7 : ∀ w ∈ wsX70, w ∈ wsX7_makeKnot := fun _ h => List.mem_cons_of_mem _ (List.mem_append_left _ (List.mem_append_left _ (List.mem_append_left _ (List.mem_append_right _ h))))
theorem in_X7_makeKnot_6 : ∀ w ∈ wsX60, w ∈ wsX7_makeKnot := fun _ h => List.mem_cons_of_mem _ (List.mem_append_left _ (List.mem_append_left _ (List.mem_append_right _ h)))
theorem in_X7_makeKnot_5 : ∀ w ∈ wsX50, w ∈ wsX7_makeKnot := fun _ h => List.mem_cons_of_mem _ (List.mem_append_left _ (List.mem_append_right _ h))
theorem in_X7_makeKnot_3 : ∀ w ∈ wsX30, w ∈ wsX7_makeKnot := fun _ h => List.mem_cons_of_mem _ (List.mem_append_right _ h)
theorem lk_X7_makeKnot_54 : Cond.fieldLink RX7 54 "FaultLoom$Weaver" "made" "I" ∈ wsX7_makeKnot := by decide +kernel
theorem lk_X7_makeKnot_72 : Cond.classLink RX7 72 RX6 ∈ wsX7_makeKnot := by decide +kernel
theorem lki_X7_makeKnot_72 : Cond.instantiable RX6 8 ∈ wsX7_makeKnot := by decide +kernel
theorem lkz_X7_makeKnot_72 : Cond.initialized RX6 ∈ wsX7_makeKnot := by decide +kernel
theorem lk_X7_makeKnot_74 : Cond.fieldLink RX7 74 "FaultLoom$Step" "b" "I" ∈ wsX7_makeKnot := by decide +kernel
theorem lk_X7_makeKnot_77 : Cond.methodLink RX7 77 yX6_init ∈ wsX7_makeKnot := by decide +kernel
theorem lki_X7_makeKnot_77 : Cond.instanceMethod yX6_init ∈ wsX7_makeKnot := by decide +kernel
theorem lkz_X7_makeKnot_77 : Cond.initialized yX6_init.cls ∈ wsX7_makeKnot := by decide +kernel
theorem lk_X7_makeKnot_9 : Cond.fieldLink RX7 9 "FaultLoom$Weaver" "registers" "LFaultLoom$Registers;" ∈ wsX7_makeKnot := by decide +kernel
theorem lk_X7_makeKnot_57 : Cond.fieldLink RX7 57 "FaultLoom$Step" "c" "I" ∈ wsX7_makeKnot := by decide +kernel
theorem lk_X7_makeKnot_87 : Cond.fieldLink RX7 87 "FaultLoom$Thing" "tag" "I" ∈ wsX7_makeKnot := by decide +kernel
theorem lk_X7_makeKnot_69 : Cond.fieldLink RX7 69 "FaultLoom$Step" "a" "I" ∈ wsX7_makeKnot := by decide +kernel
theorem in_X7_makeFault_7 : ∀ w ∈ wsX70, w ∈ wsX7_makeFault := fun _ h => List.mem_cons_of_mem _ (List.mem_append_left _ (List.mem_append_left _ (List.mem_append_left _ (List.mem_append_right _ h))))
theorem in_X7_makeFault_5 : ∀ w ∈ wsX50, w ∈ wsX7_makeFault := fun _ h => List.mem_cons_of_mem _ (List.mem_append_left _ (List.mem_append_left _ (List.mem_append_right _ h)))
theorem in_X7_makeFault_6 : ∀ w ∈ wsX60, w ∈ wsX7_makeFault := fun _ h => List.mem_cons_of_mem _ (List.mem_append_left _ (List.mem_append_right _ h))
theorem in_X7_makeFault_3 : ∀ w ∈ wsX30, w ∈ wsX7_makeFault := fun _ h => List.mem_cons_of_mem _ (List.mem_append_right _ h)
theorem lk_X7_makeFault_9 : Cond.fieldLink RX7 9 "FaultLoom$Weaver" "registers" "LFaultLoom$Registers;" ∈ wsX7_makeFault := by decide +kernel
theorem lk_X7_makeFault_57 : Cond.fieldLink RX7 57 "FaultLoom$Step" "c" "I" ∈ wsX7_makeFault := by decide +kernel
theorem lk_X7_makeFault_54 : Cond.fieldLink RX7 54 "FaultLoom$Weaver" "made" "I" ∈ wsX7_makeFault := by decide +kernel
theorem lk_X7_makeFault_72 : Cond.classLink RX7 72 RX6 ∈ wsX7_makeFault := by decide +kernel
theorem lki_X7_makeFault_72 : Cond.instantiable RX6 8 ∈ wsX7_makeFault := by decide +kernel
theorem lkz_X7_makeFault_72 : Cond.initialized RX6 ∈ wsX7_makeFault := by decide +kernel
theorem lk_X7_makeFault_77 : Cond.methodLink RX7 77 yX6_init ∈ wsX7_makeFault := by decide +kernel
theorem lki_X7_makeFault_77 : Cond.instanceMethod yX6_init ∈ wsX7_makeFault := by decide +kernel
theorem lkz_X7_makeFault_77 : Cond.initialized yX6_init.cls ∈ wsX7_makeFault := by decide +kernel
theorem lk_X7_makeFault_74 : Cond.fieldLink RX7 74 "FaultLoom$Step" "b" "I" ∈ wsX7_makeFault := by decide +kernel
theorem lk_X7_makeFault_87 : Cond.fieldLink RX7 87 "FaultLoom$Thing" "tag" "I" ∈ wsX7_makeFault := by decide +kernel
theorem lk_X7_makeFault_98 : Cond.fieldLink RX7 98 "FaultLoom$Thing" "link" "LFaultLoom$Thing;" ∈ wsX7_makeFault := by decide +kernel
theorem lk_X7_makeFault_69 : Cond.fieldLink RX7 69 "FaultLoom$Step" "a" "I" ∈ wsX7_makeFault := by decide +kernel
theorem in_X7_lookAtThing_7 : ∀ w ∈ wsX70, w ∈ wsX7_lookAtThing := fun _ h => List.mem_cons_of_mem _ (List.mem_append_left _ (List.mem_append_left _ (List.mem_append_left _ (List.mem_append_right _ h))))
theorem in_X7_lookAtThing_5 : ∀ w ∈ wsX50, w ∈ wsX7_lookAtThing := fun _ h => List.mem_cons_of_mem _ (List.mem_append_left _ (List.mem_append_left _ (List.mem_append_right _ h)))
theorem in_X7_lookAtThing_3 : ∀ w ∈ wsX30, w ∈ wsX7_lookAtThing := fun _ h => List.mem_cons_of_mem _ (List.mem_append_left _ (List.mem_append_right _ h))
theorem in_X7_lookAtThing_6 : ∀ w ∈ wsX60, w ∈ wsX7_lookAtThing := fun _ h => List.mem_cons_of_mem _ (List.mem_append_right _ h)
theorem lk_X7_lookAtThing_9 : Cond.fieldLink RX7 9 "FaultLoom$Weaver" "registers" "LFaultLoom$Registers;" ∈ wsX7_lookAtThing := by decide +kernel
theorem lk_X7_lookAtThing_74 : Cond.fieldLink RX7 74 "FaultLoom$Step" "b" "I" ∈ wsX7_lookAtThing := by decide +kernel
theorem lk_X7_lookAtThing_15 : Cond.fieldLink RX7 15 "FaultLoom$Step" "op" "I" ∈ wsX7_lookAtThing := by decide +kernel
theorem lk_X7_lookAtThing_69 : Cond.fieldLink RX7 69 "FaultLoom$Step" "a" "I" ∈ wsX7_lookAtThing := by decide +kernel
theorem lk_X7_lookAtThing_57 : Cond.fieldLink RX7 57 "FaultLoom$Step" "c" "I" ∈ wsX7_lookAtThing := by decide +kernel
theorem in_X7_countPlaces_7 : ∀ w ∈ wsX70, w ∈ wsX7_countPlaces := fun _ h => List.mem_cons_of_mem _ (List.mem_append_left _ (List.mem_append_left _ (List.mem_append_left _ (List.mem_append_right _ h))))
theorem in_X7_countPlaces_5 : ∀ w ∈ wsX50, w ∈ wsX7_countPlaces := fun _ h => List.mem_cons_of_mem _ (List.mem_append_left _ (List.mem_append_left _ (List.mem_append_right _ h)))
theorem in_X7_countPlaces_6 : ∀ w ∈ wsX60, w ∈ wsX7_countPlaces := fun _ h => List.mem_cons_of_mem _ (List.mem_append_left _ (List.mem_append_right _ h))
theorem in_X7_countPlaces_3 : ∀ w ∈ wsX30, w ∈ wsX7_countPlaces := fun _ h => List.mem_cons_of_mem _ (List.mem_append_right _ h)
theorem lk_X7_countPlaces_9 : Cond.fieldLink RX7 9 "FaultLoom$Weaver" "registers" "LFaultLoom$Registers;" ∈ wsX7_countPlaces := by decide +kernel
theorem lk_X7_countPlaces_69 : Cond.fieldLink RX7 69 "FaultLoom$Step" "a" "I" ∈ wsX7_countPlaces := by decide +kernel
theorem lk_X7_countPlaces_116 : Cond.fieldLink RX7 116 "FaultLoom$Thing" "places" "I" ∈ wsX7_countPlaces := by decide +kernel
theorem in_X7_getFromRow_7 : ∀ w ∈ wsX70, w ∈ wsX7_getFromRow := fun _ h => List.mem_cons_of_mem _ (List.mem_append_left _ (List.mem_append_left _ (List.mem_append_left _ (List.mem_append_right _ h))))
theorem in_X7_getFromRow_5 : ∀ w ∈ wsX50, w ∈ wsX7_getFromRow := fun _ h => List.mem_cons_of_mem _ (List.mem_append_left _ (List.mem_append_left _ (List.mem_append_right _ h)))
theorem in_X7_getFromRow_3 : ∀ w ∈ wsX30, w ∈ wsX7_getFromRow := fun _ h => List.mem_cons_of_mem _ (List.mem_append_left _ (List.mem_append_right _ h))
theorem in_X7_getFromRow_6 : ∀ w ∈ wsX60, w ∈ wsX7_getFromRow := fun _ h => List.mem_cons_of_mem _ (List.mem_append_right _ h)
theorem lk_X7_getFromRow_9 : Cond.fieldLink RX7 9 "FaultLoom$Weaver" "registers" "LFaultLoom$Registers;" ∈ wsX7_getFromRow := by decide +kernel
theorem lk_X7_getFromRow_74 : Cond.fieldLink RX7 74 "FaultLoom$Step" "b" "I" ∈ wsX7_getFromRow := by decide +kernel
theorem lk_X7_getFromRow_57 : Cond.fieldLink RX7 57 "FaultLoom$Step" "c" "I" ∈ wsX7_getFromRow := by decide +kernel
theorem lk_X7_getFromRow_69 : Cond.fieldLink RX7 69 "FaultLoom$Step" "a" "I" ∈ wsX7_getFromRow := by decide +kernel
theorem in_X7_putIntoRow_7 : ∀ w ∈ wsX70, w ∈ wsX7_putIntoRow := fun _ h => List.mem_cons_of_mem _ (List.mem_append_left _ (List.mem_append_left _ (List.mem_append_left _ (List.mem_append_right _ h))))
theorem in_X7_putIntoRow_5 : ∀ w ∈ wsX50, w ∈ wsX7_putIntoRow := fun _ h => List.mem_cons_of_mem _ (List.mem_append_left _ (List.mem_append_left _ (List.mem_append_right _ h)))
theorem in_X7_putIntoRow_6 : ∀ w ∈ wsX60, w ∈ wsX7_putIntoRow := fun _ h => List.mem_cons_of_mem _ (List.mem_append_left _ (List.mem_append_right _ h))
theorem in_X7_putIntoRow_3 : ∀ w ∈ wsX30, w ∈ wsX7_putIntoRow := fun _ h => List.mem_cons_of_mem _ (List.mem_append_right _ h)
theorem lk_X7_putIntoRow_9 : Cond.fieldLink RX7 9 "FaultLoom$Weaver" "registers" "LFaultLoom$Registers;" ∈ wsX7_putIntoRow := by decide +kernel
theorem lk_X7_putIntoRow_74 : Cond.fieldLink RX7 74 "FaultLoom$Step" "b" "I" ∈ wsX7_putIntoRow := by decide +kernel
theorem lk_X7_putIntoRow_69 : Cond.fieldLink RX7 69 "FaultLoom$Step" "a" "I" ∈ wsX7_putIntoRow := by decide +kernel
theorem lk_X7_putIntoRow_57 : Cond.fieldLink RX7 57 "FaultLoom$Step" "c" "I" ∈ wsX7_putIntoRow := by decide +kernel
theorem lk_X7_putIntoRow_145 : Cond.fieldLink RX7 145 "FaultLoom$Thing" "kind" "I" ∈ wsX7_putIntoRow := by decide +kernel
theorem in_X7_useKnot_7 : ∀ w ∈ wsX70, w ∈ wsX7_useKnot := fun _ h => List.mem_cons_of_mem _ (List.mem_append_left _ (List.mem_append_left _ (List.mem_append_left _ (List.mem_append_right _ h))))
theorem in_X7_useKnot_5 : ∀ w ∈ wsX50, w ∈ wsX7_useKnot := fun _ h => List.mem_cons_of_mem _ (List.mem_append_left _ (List.mem_append_left _ (List.mem_append_right _ h)))
theorem in_X7_useKnot_6 : ∀ w ∈ wsX60, w ∈ wsX7_useKnot := fun _ h => List.mem_cons_of_mem _ (List.mem_append_left _ (List.mem_append_right _ h))
theorem in_X7_useKnot_3 : ∀ w ∈ wsX30, w ∈ wsX7_useKnot := fun _ h => List.mem_cons_of_mem _ (List.mem_append_right _ h)
theorem lk_X7_useKnot_9 : Cond.fieldLink RX7 9 "FaultLoom$Weaver" "registers" "LFaultLoom$Registers;" ∈ wsX7_useKnot := by decide +kernel
theorem lk_X7_useKnot_74 : Cond.fieldLink RX7 74 "FaultLoom$Step" "b" "I" ∈ wsX7_useKnot := by decide +kernel
theorem lk_X7_useKnot_15 : Cond.fieldLink RX7 15 "FaultLoom$Step" "op" "I" ∈ wsX7_useKnot := by decide +kernel
theorem lk_X7_useKnot_69 : Cond.fieldLink RX7 69 "FaultLoom$Step" "a" "I" ∈ wsX7_useKnot := by decide +kernel
theorem lk_X7_useKnot_87 : Cond.fieldLink RX7 87 "FaultLoom$Thing" "tag" "I" ∈ wsX7_useKnot := by decide +kernel
theorem lk_X7_useKnot_168 : Cond.fieldLink RX7 168 "FaultLoom$Thing" "weight" "J" ∈ wsX7_useKnot := by decide +kernel
theorem lk_X7_useKnot_98 : Cond.fieldLink RX7 98 "FaultLoom$Thing" "link" "LFaultLoom$Thing;" ∈ wsX7_useKnot := by decide +kernel
theorem lk_X7_useKnot_57 : Cond.fieldLink RX7 57 "FaultLoom$Step" "c" "I" ∈ wsX7_useKnot := by decide +kernel
theorem in_X7_useFault_7 : ∀ w ∈ wsX70, w ∈ wsX7_useFault := fun _ h => List.mem_cons_of_mem _ (List.mem_append_left _ (List.mem_append_left _ (List.mem_append_left _ (List.mem_append_right _ h))))
theorem in_X7_useFault_5 : ∀ w ∈ wsX50, w ∈ wsX7_useFault := fun _ h => List.mem_cons_of_mem _ (List.mem_append_left _ (List.mem_append_left _ (List.mem_append_right _ h)))
theorem in_X7_useFault_6 : ∀ w ∈ wsX60, w ∈ wsX7_useFault := fun _ h => List.mem_cons_of_mem _ (List.mem_append_left _ (List.mem_append_right _ h))
theorem in_X7_useFault_3 : ∀ w ∈ wsX30, w ∈ wsX7_useFault := fun _ h => List.mem_cons_of_mem _ (List.mem_append_right _ h)
theorem lk_X7_useFault_9 : Cond.fieldLink RX7 9 "FaultLoom$Weaver" "registers" "LFaultLoom$Registers;" ∈ wsX7_useFault := by decide +kernel
theorem lk_X7_useFault_74 : Cond.fieldLink RX7 74 "FaultLoom$Step" "b" "I" ∈ wsX7_useFault := by decide +kernel
theorem lk_X7_useFault_15 : Cond.fieldLink RX7 15 "FaultLoom$Step" "op" "I" ∈ wsX7_useFault := by decide +kernel
theorem lk_X7_useFault_69 : Cond.fieldLink RX7 69 "FaultLoom$Step" "a" "I" ∈ wsX7_useFault := by decide +kernel
theorem lk_X7_useFault_87 : Cond.fieldLink RX7 87 "FaultLoom$Thing" "tag" "I" ∈ wsX7_useFault := by decide +kernel
theorem lk_X7_useFault_98 : Cond.fieldLink RX7 98 "FaultLoom$Thing" "link" "LFaultLoom$Thing;" ∈ wsX7_useFault := by decide +kernel
theorem in_X8_init_1 : ∀ w ∈ wsX10, w ∈ wsX8_init := fun _ h => List.mem_cons_of_mem _ (List.mem_append_left _ (List.mem_append_left _ (List.mem_append_left _ (List.mem_append_left _ (List.mem_append_left _ (List.mem_append_right _ h))))))
theorem in_X8_init_8 : ∀ w ∈ wsX80, w ∈ wsX8_init := fun _ h => List.mem_cons_of_mem _ (List.mem_append_left _ (List.mem_append_left _ (List.mem_append_left _ (List.mem_append_left _ (List.mem_append_right _ h)))))
theorem in_X8_init_3 : ∀ w ∈ wsX30, w ∈ wsX8_init := fun _ h => List.mem_cons_of_mem _ (List.mem_append_left _ (List.mem_append_left _ (List.mem_append_left _ (List.mem_append_right _ h))))
theorem in_X8_init_4 : ∀ w ∈ wsX40, w ∈ wsX8_init := fun _ h => List.mem_cons_of_mem _ (List.mem_append_left _ (List.mem_append_left _ (List.mem_append_right _ h)))
theorem in_X8_init_2 : ∀ w ∈ wsX20, w ∈ wsX8_init := fun _ h => List.mem_cons_of_mem _ (List.mem_append_left _ (List.mem_append_right _ h))
theorem in_X8_init_7 : ∀ w ∈ wsX70, w ∈ wsX8_init := fun _ h => List.mem_cons_of_mem _ (List.mem_append_right _ h)
theorem lk_X8_init_1 : Cond.methodLink RX8 1 objectInit ∈ wsX8_init := by decide +kernel
theorem lki_X8_init_1 : Cond.instanceMethod objectInit ∈ wsX8_init := by decide +kernel
theorem lkc_X8_init_1 : Cond.code objectInit ⟨#[0xb1]⟩ 1 none ∈ wsX8_init := by decide +kernel
theorem lk_X8_init_7 : Cond.classLink RX8 7 RX1 ∈ wsX8_init := by decide +kernel
theorem lki_X8_init_7 : Cond.instantiable RX1 4 ∈ wsX8_init := by decide +kernel
theorem lkz_X8_init_7 : Cond.initialized RX1 ∈ wsX8_init := by decide +kernel
theorem lk_X8_init_9 : Cond.methodLink RX8 9 yX1_init ∈ wsX8_init := by decide +kernel
theorem lki_X8_init_9 : Cond.instanceMethod yX1_init ∈ wsX8_init := by decide +kernel
theorem lkz_X8_init_9 : Cond.initialized yX1_init.cls ∈ wsX8_init := by decide +kernel
theorem lk_X8_init_10 : Cond.fieldLink RX8 10 "FaultLoom" "program" "LFaultLoom$Program;" ∈ wsX8_init := by decide +kernel
theorem lk_X8_init_16 : Cond.classLink RX8 16 RX3 ∈ wsX8_init := by decide +kernel
theorem lki_X8_init_16 : Cond.instantiable RX3 5 ∈ wsX8_init := by decide +kernel
theorem lkz_X8_init_16 : Cond.initialized RX3 ∈ wsX8_init := by decide +kernel
theorem lk_X8_init_18 : Cond.methodLink RX8 18 yX3_init ∈ wsX8_init := by decide +kernel
theorem lki_X8_init_18 : Cond.instanceMethod yX3_init ∈ wsX8_init := by decide +kernel
theorem lkz_X8_init_18 : Cond.initialized yX3_init.cls ∈ wsX8_init := by decide +kernel
theorem lk_X8_init_19 : Cond.fieldLink RX8 19 "FaultLoom" "registers" "LFaultLoom$Registers;" ∈ wsX8_init := by decide +kernel
theorem lk_X8_init_23 : Cond.classLink RX8 23 RX4 ∈ wsX8_init := by decide +kernel
theorem lki_X8_init_23 : Cond.instantiable RX4 16 ∈ wsX8_init := by decide +kernel
theorem lkz_X8_init_23 : Cond.initialized RX4 ∈ wsX8_init := by decide +kernel
theorem lk_X8_init_25 : Cond.methodLink RX8 25 yX4_init ∈ wsX8_init := by decide +kernel
theorem lki_X8_init_25 : Cond.instanceMethod yX4_init ∈ wsX8_init := by decide +kernel
theorem lkz_X8_init_25 : Cond.initialized yX4_init.cls ∈ wsX8_init := by decide +kernel
theorem lk_X8_init_28 : Cond.fieldLink RX8 28 "FaultLoom" "run" "LFaultLoom$Run;" ∈ wsX8_init := by decide +kernel
theorem in_X8_put_8 : ∀ w ∈ wsX80, w ∈ wsX8_put := fun _ h => List.mem_cons_of_mem _ (List.mem_append_left _ (List.mem_append_left _ (List.mem_append_left _ (List.mem_append_right _ h))))
theorem in_X8_put_1 : ∀ w ∈ wsX10, w ∈ wsX8_put := fun _ h => List.mem_cons_of_mem _ (List.mem_append_left _ (List.mem_append_left _ (List.mem_append_right _ h)))
theorem in_X8_put_5 : ∀ w ∈ wsX50, w ∈ wsX8_put := fun _ h => List.mem_cons_of_mem _ (List.mem_append_left _ (List.mem_append_right _ h))
theorem in_X8_put_4 : ∀ w ∈ wsX40, w ∈ wsX8_put := fun _ h => List.mem_cons_of_mem _ (List.mem_append_right _ h)
theorem lk_X8_put_10 : Cond.fieldLink RX8 10 "FaultLoom" "program" "LFaultLoom$Program;" ∈ wsX8_put := by decide +kernel
theorem lk_X8_put_36 : Cond.fieldLink RX8 36 "FaultLoom$Program" "stepCount" "I" ∈ wsX8_put := by decide +kernel
theorem lk_X8_put_28 : Cond.fieldLink RX8 28 "FaultLoom" "run" "LFaultLoom$Run;" ∈ wsX8_put := by decide +kernel
theorem lk_X8_put_43 : Cond.classLink RX8 43 RX5 ∈ wsX8_put := by decide +kernel
theorem lki_X8_put_43 : Cond.instantiable RX5 4 ∈ wsX8_put := by decide +kernel
theorem lkz_X8_put_43 : Cond.initialized RX5 ∈ wsX8_put := by decide +kernel
theorem lk_X8_put_45 : Cond.methodLink RX8 45 yX5_init ∈ wsX8_put := by decide +kernel
theorem lki_X8_put_45 : Cond.instanceMethod yX5_init ∈ wsX8_put := by decide +kernel
theorem lkz_X8_put_45 : Cond.initialized yX5_init.cls ∈ wsX8_put := by decide +kernel
theorem in_X8_handler_8 : ∀ w ∈ wsX80, w ∈ wsX8_handler := fun _ h => List.mem_cons_of_mem _ (List.mem_append_left _ (List.mem_append_left _ (List.mem_append_left _ (List.mem_append_right _ h))))
theorem in_X8_handler_1 : ∀ w ∈ wsX10, w ∈ wsX8_handler := fun _ h => List.mem_cons_of_mem _ (List.mem_append_left _ (List.mem_append_left _ (List.mem_append_right _ h)))
theorem in_X8_handler_0 : ∀ w ∈ wsX00, w ∈ wsX8_handler := fun _ h => List.mem_cons_of_mem _ (List.mem_append_left _ (List.mem_append_right _ h))
theorem in_X8_handler_4 : ∀ w ∈ wsX40, w ∈ wsX8_handler := fun _ h => List.mem_cons_of_mem _ (List.mem_append_right _ h)
theorem lk_X8_handler_10 : Cond.fieldLink RX8 10 "FaultLoom" "program" "LFaultLoom$Program;" ∈ wsX8_handler := by decide +kernel
theorem lk_X8_handler_56 : Cond.fieldLink RX8 56 "FaultLoom$Program" "handlerCount" "I" ∈ wsX8_handler := by decide +kernel
theorem lk_X8_handler_28 : Cond.fieldLink RX8 28 "FaultLoom" "run" "LFaultLoom$Run;" ∈ wsX8_handler := by decide +kernel
theorem lk_X8_handler_59 : Cond.classLink RX8 59 RX0 ∈ wsX8_handler := by decide +kernel
theorem lki_X8_handler_59 : Cond.instantiable RX0 4 ∈ wsX8_handler := by decide +kernel
theorem lkz_X8_handler_59 : Cond.initialized RX0 ∈ wsX8_handler := by decide +kernel
theorem lk_X8_handler_61 : Cond.methodLink RX8 61 yX0_init ∈ wsX8_handler := by decide +kernel
theorem lki_X8_handler_61 : Cond.instanceMethod yX0_init ∈ wsX8_handler := by decide +kernel
theorem lkz_X8_handler_61 : Cond.initialized yX0_init.cls ∈ wsX8_handler := by decide +kernel
theorem in_X8_clear_8 : ∀ w ∈ wsX80, w ∈ wsX8_clear := fun _ h => List.mem_cons_of_mem _ (List.mem_append_left _ (List.mem_append_left _ (List.mem_append_right _ h)))
theorem in_X8_clear_1 : ∀ w ∈ wsX10, w ∈ wsX8_clear := fun _ h => List.mem_cons_of_mem _ (List.mem_append_left _ (List.mem_append_right _ h))
theorem in_X8_clear_4 : ∀ w ∈ wsX40, w ∈ wsX8_clear := fun _ h => List.mem_cons_of_mem _ (List.mem_append_right _ h)
theorem lk_X8_clear_10 : Cond.fieldLink RX8 10 "FaultLoom" "program" "LFaultLoom$Program;" ∈ wsX8_clear := by decide +kernel
theorem lk_X8_clear_36 : Cond.fieldLink RX8 36 "FaultLoom$Program" "stepCount" "I" ∈ wsX8_clear := by decide +kernel
theorem lk_X8_clear_28 : Cond.fieldLink RX8 28 "FaultLoom" "run" "LFaultLoom$Run;" ∈ wsX8_clear := by decide +kernel
theorem in_X8_start_8 : ∀ w ∈ wsX80, w ∈ wsX8_start := fun _ h => List.mem_cons_of_mem _ (List.mem_append_left _ (List.mem_append_left _ (List.mem_append_left _ (List.mem_append_left _ (List.mem_append_right _ h)))))
theorem in_X8_start_1 : ∀ w ∈ wsX10, w ∈ wsX8_start := fun _ h => List.mem_cons_of_mem _ (List.mem_append_left _ (List.mem_append_left _ (List.mem_append_left _ (List.mem_append_right _ h))))
theorem in_X8_start_3 : ∀ w ∈ wsX30, w ∈ wsX8_start := fun _ h => List.mem_cons_of_mem _ (List.mem_append_left _ (List.mem_append_left _ (List.mem_append_right _ h)))
theorem in_X8_start_4 : ∀ w ∈ wsX40, w ∈ wsX8_start := fun _ h => List.mem_cons_of_mem _ (List.mem_append_left _ (List.mem_append_right _ h))
theorem in_X8_start_7 : ∀ w ∈ wsX70, w ∈ wsX8_start := fun _ h => List.mem_cons_of_mem _ (List.mem_append_right _ h)
theorem lk_X8_start_19 : Cond.fieldLink RX8 19 "FaultLoom" "registers" "LFaultLoom$Registers;" ∈ wsX8_start := by decide +kernel
theorem lk_X8_start_28 : Cond.fieldLink RX8 28 "FaultLoom" "run" "LFaultLoom$Run;" ∈ wsX8_start := by decide +kernel
theorem lk_X8_start_10 : Cond.fieldLink RX8 10 "FaultLoom" "program" "LFaultLoom$Program;" ∈ wsX8_start := by decide +kernel
theorem lk_X8_start_36 : Cond.fieldLink RX8 36 "FaultLoom$Program" "stepCount" "I" ∈ wsX8_start := by decide +kernel
theorem in_X8_step_8 : ∀ w ∈ wsX80, w ∈ wsX8_step := fun _ h => List.mem_cons_of_mem _ (List.mem_append_left _ (List.mem_append_left _ (List.mem_append_left _ (List.mem_append_left _ (List.mem_append_left _ (List.mem_append_left _ (List.mem_append_left _ (List.mem_append_left _ (List.mem_append_right _ h)))))))))
theorem in_X8_step_4 : ∀ w ∈ wsX40, w ∈ wsX8_step := fun _ h => List.mem_cons_of_mem _ (List.mem_append_left _ (List.mem_append_left _ (List.mem_append_left _ (List.mem_append_left _ (List.mem_append_left _ (List.mem_append_left _ (List.mem_append_left _ (List.mem_append_right _ h))))))))
theorem in_X8_step_1 : ∀ w ∈ wsX10, w ∈ wsX8_step := fun _ h => List.mem_cons_of_mem _ (List.mem_append_left _ (List.mem_append_left _ (List.mem_append_left _ (List.mem_append_left _ (List.mem_append_left _ (List.mem_append_left _ (List.mem_append_right _ h)))))))
theorem in_X8_step_5 : ∀ w ∈ wsX50, w ∈ wsX8_step := fun _ h => List.mem_cons_of_mem _ (List.mem_append_left _ (List.mem_append_left _ (List.mem_append_left _ (List.mem_append_left _ (List.mem_append_left _ (List.mem_append_right _ h))))))
theorem in_X8_step_2 : ∀ w ∈ wsX20, w ∈ wsX8_step := fun _ h => List.mem_cons_of_mem _ (List.mem_append_left _ (List.mem_append_left _ (List.mem_append_left _ (List.mem_append_left _ (List.mem_append_right _ h)))))
theorem in_X8_step_3 : ∀ w ∈ wsX30, w ∈ wsX8_step := fun _ h => List.mem_cons_of_mem _ (List.mem_append_left _ (List.mem_append_left _ (List.mem_append_left _ (List.mem_append_right _ h))))
theorem in_X8_step_6 : ∀ w ∈ wsX60, w ∈ wsX8_step := fun _ h => List.mem_cons_of_mem _ (List.mem_append_left _ (List.mem_append_left _ (List.mem_append_right _ h)))
theorem in_X8_step_7 : ∀ w ∈ wsX70, w ∈ wsX8_step := fun _ h => List.mem_cons_of_mem _ (List.mem_append_left _ (List.mem_append_right _ h))
theorem in_X8_step_0 : ∀ w ∈ wsX00, w ∈ wsX8_step := fun _ h => List.mem_cons_of_mem _ (List.mem_append_right _ h)
theorem lk_X8_step_28 : Cond.fieldLink RX8 28 "FaultLoom" "run" "LFaultLoom$Run;" ∈ wsX8_step := by decide +kernel
theorem lk_X8_step_75 : Cond.fieldLink RX8 75 "FaultLoom$Run" "phase" "I" ∈ wsX8_step := by decide +kernel
theorem lk_X8_step_10 : Cond.fieldLink RX8 10 "FaultLoom" "program" "LFaultLoom$Program;" ∈ wsX8_step := by decide +kernel
theorem lk_X8_step_78 : Cond.fieldLink RX8 78 "FaultLoom$Run" "place" "I" ∈ wsX8_step := by decide +kernel
theorem in_X8_word_8 : ∀ w ∈ wsX80, w ∈ wsX8_word := fun _ h => List.mem_cons_of_mem _ (List.mem_append_left _ (List.mem_append_right _ h))
theorem in_X8_word_3 : ∀ w ∈ wsX30, w ∈ wsX8_word := fun _ h => List.mem_cons_of_mem _ (List.mem_append_right _ h)
theorem lk_X8_word_19 : Cond.fieldLink RX8 19 "FaultLoom" "registers" "LFaultLoom$Registers;" ∈ wsX8_word := by decide +kernel
theorem in_X8_wide_8 : ∀ w ∈ wsX80, w ∈ wsX8_wide := fun _ h => List.mem_cons_of_mem _ (List.mem_append_left _ (List.mem_append_right _ h))
theorem in_X8_wide_3 : ∀ w ∈ wsX30, w ∈ wsX8_wide := fun _ h => List.mem_cons_of_mem _ (List.mem_append_right _ h)
theorem lk_X8_wide_19 : Cond.fieldLink RX8 19 "FaultLoom" "registers" "LFaultLoom$Registers;" ∈ wsX8_wide := by decide +kernel
theorem in_X8_single_8 : ∀ w ∈ wsX80, w ∈ wsX8_single := fun _ h => List.mem_cons_of_mem _ (List.mem_append_left _ (List.mem_append_right _ h))
theorem in_X8_single_3 : ∀ w ∈ wsX30, w ∈ wsX8_single := fun _ h => List.mem_cons_of_mem _ (List.mem_append_right _ h)
theorem lk_X8_single_19 : Cond.fieldLink RX8 19 "FaultLoom" "registers" "LFaultLoom$Registers;" ∈ wsX8_single := by decide +kernel
theorem in_X8_real_8 : ∀ w ∈ wsX80, w ∈ wsX8_real := fun _ h => List.mem_cons_of_mem _ (List.mem_append_left _ (List.mem_append_right _ h))
theorem in_X8_real_3 : ∀ w ∈ wsX30, w ∈ wsX8_real := fun _ h => List.mem_cons_of_mem _ (List.mem_append_right _ h)
theorem lk_X8_real_19 : Cond.fieldLink RX8 19 "FaultLoom" "registers" "LFaultLoom$Registers;" ∈ wsX8_real := by decide +kernel
theorem in_X8_kind_8 : ∀ w ∈ wsX80, w ∈ wsX8_kind := fun _ h => List.mem_cons_of_mem _ (List.mem_append_left _ (List.mem_append_left _ (List.mem_append_right _ h)))
theorem in_X8_kind_3 : ∀ w ∈ wsX30, w ∈ wsX8_kind := fun _ h => List.mem_cons_of_mem _ (List.mem_append_left _ (List.mem_append_right _ h))
theorem in_X8_kind_6 : ∀ w ∈ wsX60, w ∈ wsX8_kind := fun _ h => List.mem_cons_of_mem _ (List.mem_append_right _ h)
theorem lk_X8_kind_19 : Cond.fieldLink RX8 19 "FaultLoom" "registers" "LFaultLoom$Registers;" ∈ wsX8_kind := by decide +kernel
theorem in_X8_size_8 : ∀ w ∈ wsX80, w ∈ wsX8_size := fun _ h => List.mem_cons_of_mem _ (List.mem_append_left _ (List.mem_append_left _ (List.mem_append_right _ h)))
theorem in_X8_size_3 : ∀ w ∈ wsX30, w ∈ wsX8_size := fun _ h => List.mem_cons_of_mem _ (List.mem_append_left _ (List.mem_append_right _ h))
theorem in_X8_size_6 : ∀ w ∈ wsX60, w ∈ wsX8_size := fun _ h => List.mem_cons_of_mem _ (List.mem_append_right _ h)
theorem lk_X8_size_19 : Cond.fieldLink RX8 19 "FaultLoom" "registers" "LFaultLoom$Registers;" ∈ wsX8_size := by decide +kernel
theorem in_X8_cell_8 : ∀ w ∈ wsX80, w ∈ wsX8_cell := fun _ h => List.mem_cons_of_mem _ (List.mem_append_left _ (List.mem_append_left _ (List.mem_append_right _ h)))
theorem in_X8_cell_3 : ∀ w ∈ wsX30, w ∈ wsX8_cell := fun _ h => List.mem_cons_of_mem _ (List.mem_append_left _ (List.mem_append_right _ h))
theorem in_X8_cell_6 : ∀ w ∈ wsX60, w ∈ wsX8_cell := fun _ h => List.mem_cons_of_mem _ (List.mem_append_right _ h)
theorem lk_X8_cell_19 : Cond.fieldLink RX8 19 "FaultLoom" "registers" "LFaultLoom$Registers;" ∈ wsX8_cell := by decide +kernel
theorem in_X8_point_8 : ∀ w ∈ wsX80, w ∈ wsX8_point := fun _ h => List.mem_cons_of_mem _ (List.mem_append_left _ (List.mem_append_left _ (List.mem_append_right _ h)))
theorem in_X8_point_3 : ∀ w ∈ wsX30, w ∈ wsX8_point := fun _ h => List.mem_cons_of_mem _ (List.mem_append_left _ (List.mem_append_right _ h))
theorem in_X8_point_6 : ∀ w ∈ wsX60, w ∈ wsX8_point := fun _ h => List.mem_cons_of_mem _ (List.mem_append_right _ h)
theorem lk_X8_point_19 : Cond.fieldLink RX8 19 "FaultLoom" "registers" "LFaultLoom$Registers;" ∈ wsX8_point := by decide +kernel
theorem in_X8_field_8 : ∀ w ∈ wsX80, w ∈ wsX8_field := fun _ h => List.mem_cons_of_mem _ (List.mem_append_left _ (List.mem_append_left _ (List.mem_append_right _ h)))
theorem in_X8_field_6 : ∀ w ∈ wsX60, w ∈ wsX8_field := fun _ h => List.mem_cons_of_mem _ (List.mem_append_left _ (List.mem_append_right _ h))
theorem in_X8_field_3 : ∀ w ∈ wsX30, w ∈ wsX8_field := fun _ h => List.mem_cons_of_mem _ (List.mem_append_right _ h)
theorem lk_X8_field_19 : Cond.fieldLink RX8 19 "FaultLoom" "registers" "LFaultLoom$Registers;" ∈ wsX8_field := by decide +kernel
theorem lk_X8_field_136 : Cond.fieldLink RX8 136 "FaultLoom$Thing" "tag" "I" ∈ wsX8_field := by decide +kernel
theorem lk_X8_field_139 : Cond.fieldLink RX8 139 "FaultLoom$Thing" "weight" "J" ∈ wsX8_field := by decide +kernel
theorem lk_X8_field_143 : Cond.fieldLink RX8 143 "FaultLoom$Thing" "link" "LFaultLoom$Thing;" ∈ wsX8_field := by decide +kernel
theorem in_X8_same_8 : ∀ w ∈ wsX80, w ∈ wsX8_same := fun _ h => List.mem_cons_of_mem _ (List.mem_append_left _ (List.mem_append_right _ h))
theorem in_X8_same_3 : ∀ w ∈ wsX30, w ∈ wsX8_same := fun _ h => List.mem_cons_of_mem _ (List.mem_append_right _ h)
theorem lk_X8_same_19 : Cond.fieldLink RX8 19 "FaultLoom" "registers" "LFaultLoom$Registers;" ∈ wsX8_same := by decide +kernel
theorem in_X8_told_8 : ∀ w ∈ wsX80, w ∈ wsX8_told := fun _ h => List.mem_cons_of_mem _ (List.mem_append_left _ (List.mem_append_right _ h))
theorem in_X8_told_4 : ∀ w ∈ wsX40, w ∈ wsX8_told := fun _ h => List.mem_cons_of_mem _ (List.mem_append_right _ h)
theorem lk_X8_told_28 : Cond.fieldLink RX8 28 "FaultLoom" "run" "LFaultLoom$Run;" ∈ wsX8_told := by decide +kernel
theorem in_X8_state_8 : ∀ w ∈ wsX80, w ∈ wsX8_state := fun _ h => List.mem_cons_of_mem _ (List.mem_append_left _ (List.mem_append_left _ (List.mem_append_left _ (List.mem_append_right _ h))))
theorem in_X8_state_1 : ∀ w ∈ wsX10, w ∈ wsX8_state := fun _ h => List.mem_cons_of_mem _ (List.mem_append_left _ (List.mem_append_left _ (List.mem_append_right _ h)))
theorem in_X8_state_4 : ∀ w ∈ wsX40, w ∈ wsX8_state := fun _ h => List.mem_cons_of_mem _ (List.mem_append_left _ (List.mem_append_right _ h))
theorem in_X8_state_7 : ∀ w ∈ wsX70, w ∈ wsX8_state := fun _ h => List.mem_cons_of_mem _ (List.mem_append_right _ h)
theorem lk_X8_state_10 : Cond.fieldLink RX8 10 "FaultLoom" "program" "LFaultLoom$Program;" ∈ wsX8_state := by decide +kernel
theorem lk_X8_state_36 : Cond.fieldLink RX8 36 "FaultLoom$Program" "stepCount" "I" ∈ wsX8_state := by decide +kernel
theorem lk_X8_state_56 : Cond.fieldLink RX8 56 "FaultLoom$Program" "handlerCount" "I" ∈ wsX8_state := by decide +kernel
theorem lk_X8_state_28 : Cond.fieldLink RX8 28 "FaultLoom" "run" "LFaultLoom$Run;" ∈ wsX8_state := by decide +kernel
theorem lk_X8_fitsShape_153 : Cond.fieldLink RX8 153 "FaultLoom" "SHAPES" "[I" ∈ wsX8_fitsShape := by decide +kernel
theorem in_X8_kindOf_6 : ∀ w ∈ wsX60, w ∈ wsX8_kindOf := fun _ h => List.mem_cons_of_mem _ (List.mem_append_right _ h)
theorem lk_X8_kindOf_161 : Cond.fieldLink RX8 161 "FaultLoom$Thing" "kind" "I" ∈ wsX8_kindOf := by decide +kernel
theorem in_X8_placesOf_6 : ∀ w ∈ wsX60, w ∈ wsX8_placesOf := fun _ h => List.mem_cons_of_mem _ (List.mem_append_right _ h)
theorem lk_X8_placesOf_168 : Cond.fieldLink RX8 168 "FaultLoom$Thing" "places" "I" ∈ wsX8_placesOf := by decide +kernel
theorem in_X8_misfits_6 : ∀ w ∈ wsX60, w ∈ wsX8_misfits := fun _ h => List.mem_cons_of_mem _ (List.mem_append_right _ h)
theorem in_X9_init_9 : ∀ w ∈ wsX90, w ∈ wsX9_init := fun _ h => List.mem_cons_of_mem _ (List.mem_append_right _ h)
theorem lk_X9_init_1 : Cond.methodLink RX9 1 objectInit ∈ wsX9_init := by decide +kernel
theorem lki_X9_init_1 : Cond.instanceMethod objectInit ∈ wsX9_init := by decide +kernel
theorem lkc_X9_init_1 : Cond.code objectInit ⟨#[0xb1]⟩ 1 none ∈ wsX9_init := by decide +kernel
theorem lka_X9_init_int : Cond.arrayClass (newarray.typeOf .int) ∈ wsX9_init := by decide +kernel
theorem lk_X9_init_7 : Cond.fieldLink RX9 7 "FaultLoomModel" "steps" "[I" ∈ wsX9_init := by decide +kernel
theorem lk_X9_init_13 : Cond.fieldLink RX9 13 "FaultLoomModel" "handlers" "[I" ∈ wsX9_init := by decide +kernel
theorem lk_X9_init_16 : Cond.fieldLink RX9 16 "FaultLoomModel" "words" "[I" ∈ wsX9_init := by decide +kernel
theorem lka_X9_init_long : Cond.arrayClass (newarray.typeOf .long) ∈ wsX9_init := by decide +kernel
theorem lk_X9_init_19 : Cond.fieldLink RX9 19 "FaultLoomModel" "wides" "[J" ∈ wsX9_init := by decide +kernel
theorem lka_X9_init_float : Cond.arrayClass (newarray.typeOf .float) ∈ wsX9_init := by decide +kernel
theorem lk_X9_init_23 : Cond.fieldLink RX9 23 "FaultLoomModel" "singles" "[F" ∈ wsX9_init := by decide +kernel
theorem lka_X9_init_double : Cond.arrayClass (newarray.typeOf .double) ∈ wsX9_init := by decide +kernel
theorem lk_X9_init_27 : Cond.fieldLink RX9 27 "FaultLoomModel" "reals" "[D" ∈ wsX9_init := by decide +kernel
theorem lk_X9_init_31 : Cond.fieldLink RX9 31 "FaultLoomModel" "refs" "[I" ∈ wsX9_init := by decide +kernel
theorem lk_X9_init_34 : Cond.fieldLink RX9 34 "FaultLoomModel" "kinds" "[I" ∈ wsX9_init := by decide +kernel
theorem lk_X9_init_37 : Cond.fieldLink RX9 37 "FaultLoomModel" "sizes" "[I" ∈ wsX9_init := by decide +kernel
theorem lk_X9_init_40 : Cond.fieldLink RX9 40 "FaultLoomModel" "cells" "[J" ∈ wsX9_init := by decide +kernel
theorem lk_X9_init_43 : Cond.fieldLink RX9 43 "FaultLoomModel" "points" "[D" ∈ wsX9_init := by decide +kernel
theorem lk_X9_init_46 : Cond.fieldLink RX9 46 "FaultLoomModel" "inner" "[I" ∈ wsX9_init := by decide +kernel
theorem lk_X9_init_49 : Cond.fieldLink RX9 49 "FaultLoomModel" "tags" "[I" ∈ wsX9_init := by decide +kernel
theorem lk_X9_init_52 : Cond.fieldLink RX9 52 "FaultLoomModel" "weights" "[J" ∈ wsX9_init := by decide +kernel
theorem lk_X9_init_55 : Cond.fieldLink RX9 55 "FaultLoomModel" "nexts" "[I" ∈ wsX9_init := by decide +kernel
theorem lk_X9_init_58 : Cond.fieldLink RX9 58 "FaultLoomModel" "callPlaces" "[I" ∈ wsX9_init := by decide +kernel
theorem lk_X9_init_61 : Cond.fieldLink RX9 61 "FaultLoomModel" "tolds" "[I" ∈ wsX9_init := by decide +kernel
theorem lk_X9_init_64 : Cond.fieldLink RX9 64 "FaultLoomModel" "latestPlace" "I" ∈ wsX9_init := by decide +kernel
theorem in_X9_put_9 : ∀ w ∈ wsX90, w ∈ wsX9_put := fun _ h => List.mem_cons_of_mem _ (List.mem_append_right _ h)
theorem lk_X9_put_80 : Cond.fieldLink RX9 80 "FaultLoomModel" "many" "I" ∈ wsX9_put := by decide +kernel
theorem lk_X9_put_7 : Cond.fieldLink RX9 7 "FaultLoomModel" "steps" "[I" ∈ wsX9_put := by decide +kernel
theorem lk_X9_put_83 : Cond.fieldLink RX9 83 "FaultLoomModel" "status" "I" ∈ wsX9_put := by decide +kernel
theorem in_X9_handler_9 : ∀ w ∈ wsX90, w ∈ wsX9_handler := fun _ h => List.mem_cons_of_mem _ (List.mem_append_right _ h)
theorem lk_X9_handler_86 : Cond.fieldLink RX9 86 "FaultLoomModel" "handlerMany" "I" ∈ wsX9_handler := by decide +kernel
theorem lk_X9_handler_13 : Cond.fieldLink RX9 13 "FaultLoomModel" "handlers" "[I" ∈ wsX9_handler := by decide +kernel
theorem lk_X9_handler_83 : Cond.fieldLink RX9 83 "FaultLoomModel" "status" "I" ∈ wsX9_handler := by decide +kernel
theorem in_X9_clear_9 : ∀ w ∈ wsX90, w ∈ wsX9_clear := fun _ h => List.mem_cons_of_mem _ (List.mem_append_right _ h)
theorem lk_X9_clear_80 : Cond.fieldLink RX9 80 "FaultLoomModel" "many" "I" ∈ wsX9_clear := by decide +kernel
theorem lk_X9_clear_86 : Cond.fieldLink RX9 86 "FaultLoomModel" "handlerMany" "I" ∈ wsX9_clear := by decide +kernel
theorem lk_X9_clear_83 : Cond.fieldLink RX9 83 "FaultLoomModel" "status" "I" ∈ wsX9_clear := by decide +kernel
theorem in_X9_start_9 : ∀ w ∈ wsX90, w ∈ wsX9_start := fun _ h => List.mem_cons_of_mem _ (List.mem_append_right _ h)
theorem lk_X9_start_16 : Cond.fieldLink RX9 16 "FaultLoomModel" "words" "[I" ∈ wsX9_start := by decide +kernel
theorem lk_X9_start_31 : Cond.fieldLink RX9 31 "FaultLoomModel" "refs" "[I" ∈ wsX9_start := by decide +kernel
theorem lk_X9_start_19 : Cond.fieldLink RX9 19 "FaultLoomModel" "wides" "[J" ∈ wsX9_start := by decide +kernel
theorem lk_X9_start_23 : Cond.fieldLink RX9 23 "FaultLoomModel" "singles" "[F" ∈ wsX9_start := by decide +kernel
theorem lk_X9_start_27 : Cond.fieldLink RX9 27 "FaultLoomModel" "reals" "[D" ∈ wsX9_start := by decide +kernel
theorem lk_X9_start_89 : Cond.fieldLink RX9 89 "FaultLoomModel" "made" "I" ∈ wsX9_start := by decide +kernel
theorem lk_X9_start_92 : Cond.fieldLink RX9 92 "FaultLoomModel" "place" "I" ∈ wsX9_start := by decide +kernel
theorem lk_X9_start_95 : Cond.fieldLink RX9 95 "FaultLoomModel" "done" "I" ∈ wsX9_start := by decide +kernel
theorem lk_X9_start_98 : Cond.fieldLink RX9 98 "FaultLoomModel" "calls" "I" ∈ wsX9_start := by decide +kernel
theorem lk_X9_start_101 : Cond.fieldLink RX9 101 "FaultLoomModel" "toldMany" "I" ∈ wsX9_start := by decide +kernel
theorem lk_X9_start_104 : Cond.fieldLink RX9 104 "FaultLoomModel" "failures" "I" ∈ wsX9_start := by decide +kernel
theorem lk_X9_start_107 : Cond.fieldLink RX9 107 "FaultLoomModel" "latest" "I" ∈ wsX9_start := by decide +kernel
theorem lk_X9_start_64 : Cond.fieldLink RX9 64 "FaultLoomModel" "latestPlace" "I" ∈ wsX9_start := by decide +kernel
theorem lk_X9_start_110 : Cond.fieldLink RX9 110 "FaultLoomModel" "handled" "I" ∈ wsX9_start := by decide +kernel
theorem lk_X9_start_113 : Cond.fieldLink RX9 113 "FaultLoomModel" "thrown" "I" ∈ wsX9_start := by decide +kernel
theorem lk_X9_start_80 : Cond.fieldLink RX9 80 "FaultLoomModel" "many" "I" ∈ wsX9_start := by decide +kernel
theorem lk_X9_start_83 : Cond.fieldLink RX9 83 "FaultLoomModel" "status" "I" ∈ wsX9_start := by decide +kernel
theorem in_X9_isWrong_9 : ∀ w ∈ wsX90, w ∈ wsX9_isWrong := fun _ h => List.mem_cons_of_mem _ (List.mem_append_right _ h)
theorem lk_X9_isWrong_34 : Cond.fieldLink RX9 34 "FaultLoomModel" "kinds" "[I" ∈ wsX9_isWrong := by decide +kernel
theorem in_X9_whyNot_9 : ∀ w ∈ wsX90, w ∈ wsX9_whyNot := fun _ h => List.mem_cons_of_mem _ (List.mem_append_right _ h)
theorem lk_X9_whyNot_16 : Cond.fieldLink RX9 16 "FaultLoomModel" "words" "[I" ∈ wsX9_whyNot := by decide +kernel
theorem lk_X9_whyNot_123 : Cond.fieldLink RX9 123 "FaultLoomModel" "c" "I" ∈ wsX9_whyNot := by decide +kernel
theorem lk_X9_whyNot_19 : Cond.fieldLink RX9 19 "FaultLoomModel" "wides" "[J" ∈ wsX9_whyNot := by decide +kernel
theorem lk_X9_whyNot_23 : Cond.fieldLink RX9 23 "FaultLoomModel" "singles" "[F" ∈ wsX9_whyNot := by decide +kernel
theorem lk_X9_whyNot_27 : Cond.fieldLink RX9 27 "FaultLoomModel" "reals" "[D" ∈ wsX9_whyNot := by decide +kernel
theorem lk_X9_whyNot_98 : Cond.fieldLink RX9 98 "FaultLoomModel" "calls" "I" ∈ wsX9_whyNot := by decide +kernel
theorem lk_X9_whyNot_89 : Cond.fieldLink RX9 89 "FaultLoomModel" "made" "I" ∈ wsX9_whyNot := by decide +kernel
theorem lk_X9_whyNot_126 : Cond.fieldLink RX9 126 "FaultLoomModel" "b" "I" ∈ wsX9_whyNot := by decide +kernel
theorem in_X9_whyNotThing_9 : ∀ w ∈ wsX90, w ∈ wsX9_whyNotThing := fun _ h => List.mem_cons_of_mem _ (List.mem_append_right _ h)
theorem lk_X9_whyNotThing_31 : Cond.fieldLink RX9 31 "FaultLoomModel" "refs" "[I" ∈ wsX9_whyNotThing := by decide +kernel
theorem lk_X9_whyNotThing_126 : Cond.fieldLink RX9 126 "FaultLoomModel" "b" "I" ∈ wsX9_whyNotThing := by decide +kernel
theorem lk_X9_whyNotThing_34 : Cond.fieldLink RX9 34 "FaultLoomModel" "kinds" "[I" ∈ wsX9_whyNotThing := by decide +kernel
theorem lk_X9_whyNotThing_142 : Cond.fieldLink RX9 142 "FaultLoomModel" "a" "I" ∈ wsX9_whyNotThing := by decide +kernel
theorem lk_X9_whyNotThing_123 : Cond.fieldLink RX9 123 "FaultLoomModel" "c" "I" ∈ wsX9_whyNotThing := by decide +kernel
theorem lk_X9_whyNotThing_89 : Cond.fieldLink RX9 89 "FaultLoomModel" "made" "I" ∈ wsX9_whyNotThing := by decide +kernel
theorem lk_X9_whyNotThing_49 : Cond.fieldLink RX9 49 "FaultLoomModel" "tags" "[I" ∈ wsX9_whyNotThing := by decide +kernel
theorem in_X9_whyNotPlace_9 : ∀ w ∈ wsX90, w ∈ wsX9_whyNotPlace := fun _ h => List.mem_cons_of_mem _ (List.mem_append_right _ h)
theorem lk_X9_whyNotPlace_31 : Cond.fieldLink RX9 31 "FaultLoomModel" "refs" "[I" ∈ wsX9_whyNotPlace := by decide +kernel
theorem lk_X9_whyNotPlace_126 : Cond.fieldLink RX9 126 "FaultLoomModel" "b" "I" ∈ wsX9_whyNotPlace := by decide +kernel
theorem lk_X9_whyNotPlace_142 : Cond.fieldLink RX9 142 "FaultLoomModel" "a" "I" ∈ wsX9_whyNotPlace := by decide +kernel
theorem lk_X9_whyNotPlace_16 : Cond.fieldLink RX9 16 "FaultLoomModel" "words" "[I" ∈ wsX9_whyNotPlace := by decide +kernel
theorem lk_X9_whyNotPlace_123 : Cond.fieldLink RX9 123 "FaultLoomModel" "c" "I" ∈ wsX9_whyNotPlace := by decide +kernel
theorem lk_X9_whyNotPlace_37 : Cond.fieldLink RX9 37 "FaultLoomModel" "sizes" "[I" ∈ wsX9_whyNotPlace := by decide +kernel
theorem lk_X9_whyNotPlace_34 : Cond.fieldLink RX9 34 "FaultLoomModel" "kinds" "[I" ∈ wsX9_whyNotPlace := by decide +kernel
theorem in_X9_does_9 : ∀ w ∈ wsX90, w ∈ wsX9_does := fun _ h => List.mem_cons_of_mem _ (List.mem_append_right _ h)
theorem in_X9_doesWhole_9 : ∀ w ∈ wsX90, w ∈ wsX9_doesWhole := fun _ h => List.mem_cons_of_mem _ (List.mem_append_right _ h)
theorem lk_X9_doesWhole_83 : Cond.fieldLink RX9 83 "FaultLoomModel" "status" "I" ∈ wsX9_doesWhole := by decide +kernel
theorem lk_X9_doesWhole_16 : Cond.fieldLink RX9 16 "FaultLoomModel" "words" "[I" ∈ wsX9_doesWhole := by decide +kernel
theorem lk_X9_doesWhole_142 : Cond.fieldLink RX9 142 "FaultLoomModel" "a" "I" ∈ wsX9_doesWhole := by decide +kernel
theorem lk_X9_doesWhole_126 : Cond.fieldLink RX9 126 "FaultLoomModel" "b" "I" ∈ wsX9_doesWhole := by decide +kernel
theorem lk_X9_doesWhole_19 : Cond.fieldLink RX9 19 "FaultLoomModel" "wides" "[J" ∈ wsX9_doesWhole := by decide +kernel
theorem lk_X9_doesWhole_123 : Cond.fieldLink RX9 123 "FaultLoomModel" "c" "I" ∈ wsX9_doesWhole := by decide +kernel
theorem lk_X9_doesWhole_170 : Cond.constantLong RX9 170 (4294967295) ∈ wsX9_doesWhole := by decide +kernel
theorem in_X9_doesPoint_9 : ∀ w ∈ wsX90, w ∈ wsX9_doesPoint := fun _ h => List.mem_cons_of_mem _ (List.mem_append_right _ h)
theorem lk_X9_doesPoint_23 : Cond.fieldLink RX9 23 "FaultLoomModel" "singles" "[F" ∈ wsX9_doesPoint := by decide +kernel
theorem lk_X9_doesPoint_142 : Cond.fieldLink RX9 142 "FaultLoomModel" "a" "I" ∈ wsX9_doesPoint := by decide +kernel
theorem lk_X9_doesPoint_19 : Cond.fieldLink RX9 19 "FaultLoomModel" "wides" "[J" ∈ wsX9_doesPoint := by decide +kernel
theorem lk_X9_doesPoint_126 : Cond.fieldLink RX9 126 "FaultLoomModel" "b" "I" ∈ wsX9_doesPoint := by decide +kernel
theorem lk_X9_doesPoint_27 : Cond.fieldLink RX9 27 "FaultLoomModel" "reals" "[D" ∈ wsX9_doesPoint := by decide +kernel
theorem lk_X9_doesPoint_16 : Cond.fieldLink RX9 16 "FaultLoomModel" "words" "[I" ∈ wsX9_doesPoint := by decide +kernel
theorem lk_X9_doesPoint_172 : Cond.constantDouble RX9 172 (4611686018427387904) ∈ wsX9_doesPoint := by decide +kernel
theorem lk_X9_doesPoint_123 : Cond.fieldLink RX9 123 "FaultLoomModel" "c" "I" ∈ wsX9_doesPoint := by decide +kernel
theorem in_X9_doesWay_9 : ∀ w ∈ wsX90, w ∈ wsX9_doesWay := fun _ h => List.mem_cons_of_mem _ (List.mem_append_right _ h)
theorem lk_X9_doesWay_142 : Cond.fieldLink RX9 142 "FaultLoomModel" "a" "I" ∈ wsX9_doesWay := by decide +kernel
theorem lk_X9_doesWay_174 : Cond.fieldLink RX9 174 "FaultLoomModel" "after" "I" ∈ wsX9_doesWay := by decide +kernel
theorem lk_X9_doesWay_16 : Cond.fieldLink RX9 16 "FaultLoomModel" "words" "[I" ∈ wsX9_doesWay := by decide +kernel
theorem lk_X9_doesWay_126 : Cond.fieldLink RX9 126 "FaultLoomModel" "b" "I" ∈ wsX9_doesWay := by decide +kernel
theorem lk_X9_doesWay_58 : Cond.fieldLink RX9 58 "FaultLoomModel" "callPlaces" "[I" ∈ wsX9_doesWay := by decide +kernel
theorem lk_X9_doesWay_98 : Cond.fieldLink RX9 98 "FaultLoomModel" "calls" "I" ∈ wsX9_doesWay := by decide +kernel
theorem lk_X9_doesWay_92 : Cond.fieldLink RX9 92 "FaultLoomModel" "place" "I" ∈ wsX9_doesWay := by decide +kernel
theorem lk_X9_doesWay_83 : Cond.fieldLink RX9 83 "FaultLoomModel" "status" "I" ∈ wsX9_doesWay := by decide +kernel
theorem in_X9_make_9 : ∀ w ∈ wsX90, w ∈ wsX9_make := fun _ h => List.mem_cons_of_mem _ (List.mem_append_right _ h)
theorem lk_X9_make_34 : Cond.fieldLink RX9 34 "FaultLoomModel" "kinds" "[I" ∈ wsX9_make := by decide +kernel
theorem lk_X9_make_89 : Cond.fieldLink RX9 89 "FaultLoomModel" "made" "I" ∈ wsX9_make := by decide +kernel
theorem lk_X9_make_37 : Cond.fieldLink RX9 37 "FaultLoomModel" "sizes" "[I" ∈ wsX9_make := by decide +kernel
theorem lk_X9_make_40 : Cond.fieldLink RX9 40 "FaultLoomModel" "cells" "[J" ∈ wsX9_make := by decide +kernel
theorem lk_X9_make_43 : Cond.fieldLink RX9 43 "FaultLoomModel" "points" "[D" ∈ wsX9_make := by decide +kernel
theorem lk_X9_make_46 : Cond.fieldLink RX9 46 "FaultLoomModel" "inner" "[I" ∈ wsX9_make := by decide +kernel
theorem lk_X9_make_49 : Cond.fieldLink RX9 49 "FaultLoomModel" "tags" "[I" ∈ wsX9_make := by decide +kernel
theorem lk_X9_make_52 : Cond.fieldLink RX9 52 "FaultLoomModel" "weights" "[J" ∈ wsX9_make := by decide +kernel
theorem lk_X9_make_55 : Cond.fieldLink RX9 55 "FaultLoomModel" "nexts" "[I" ∈ wsX9_make := by decide +kernel
theorem in_X9_doesThing_9 : ∀ w ∈ wsX90, w ∈ wsX9_doesThing := fun _ h => List.mem_cons_of_mem _ (List.mem_append_right _ h)
theorem lk_X9_doesThing_31 : Cond.fieldLink RX9 31 "FaultLoomModel" "refs" "[I" ∈ wsX9_doesThing := by decide +kernel
theorem lk_X9_doesThing_142 : Cond.fieldLink RX9 142 "FaultLoomModel" "a" "I" ∈ wsX9_doesThing := by decide +kernel
theorem lk_X9_doesThing_126 : Cond.fieldLink RX9 126 "FaultLoomModel" "b" "I" ∈ wsX9_doesThing := by decide +kernel
theorem lk_X9_doesThing_16 : Cond.fieldLink RX9 16 "FaultLoomModel" "words" "[I" ∈ wsX9_doesThing := by decide +kernel
theorem lk_X9_doesThing_123 : Cond.fieldLink RX9 123 "FaultLoomModel" "c" "I" ∈ wsX9_doesThing := by decide +kernel
theorem lk_X9_doesThing_46 : Cond.fieldLink RX9 46 "FaultLoomModel" "inner" "[I" ∈ wsX9_doesThing := by decide +kernel
theorem lk_X9_doesThing_49 : Cond.fieldLink RX9 49 "FaultLoomModel" "tags" "[I" ∈ wsX9_doesThing := by decide +kernel
theorem lk_X9_doesThing_34 : Cond.fieldLink RX9 34 "FaultLoomModel" "kinds" "[I" ∈ wsX9_doesThing := by decide +kernel
theorem lk_X9_doesThing_37 : Cond.fieldLink RX9 37 "FaultLoomModel" "sizes" "[I" ∈ wsX9_doesThing := by decide +kernel
theorem in_X9_gets_9 : ∀ w ∈ wsX90, w ∈ wsX9_gets := fun _ h => List.mem_cons_of_mem _ (List.mem_append_right _ h)
theorem lk_X9_gets_31 : Cond.fieldLink RX9 31 "FaultLoomModel" "refs" "[I" ∈ wsX9_gets := by decide +kernel
theorem lk_X9_gets_126 : Cond.fieldLink RX9 126 "FaultLoomModel" "b" "I" ∈ wsX9_gets := by decide +kernel
theorem lk_X9_gets_16 : Cond.fieldLink RX9 16 "FaultLoomModel" "words" "[I" ∈ wsX9_gets := by decide +kernel
theorem lk_X9_gets_123 : Cond.fieldLink RX9 123 "FaultLoomModel" "c" "I" ∈ wsX9_gets := by decide +kernel
theorem lk_X9_gets_142 : Cond.fieldLink RX9 142 "FaultLoomModel" "a" "I" ∈ wsX9_gets := by decide +kernel
theorem lk_X9_gets_40 : Cond.fieldLink RX9 40 "FaultLoomModel" "cells" "[J" ∈ wsX9_gets := by decide +kernel
theorem lk_X9_gets_19 : Cond.fieldLink RX9 19 "FaultLoomModel" "wides" "[J" ∈ wsX9_gets := by decide +kernel
theorem lk_X9_gets_23 : Cond.fieldLink RX9 23 "FaultLoomModel" "singles" "[F" ∈ wsX9_gets := by decide +kernel
theorem lk_X9_gets_43 : Cond.fieldLink RX9 43 "FaultLoomModel" "points" "[D" ∈ wsX9_gets := by decide +kernel
theorem lk_X9_gets_27 : Cond.fieldLink RX9 27 "FaultLoomModel" "reals" "[D" ∈ wsX9_gets := by decide +kernel
theorem lk_X9_gets_46 : Cond.fieldLink RX9 46 "FaultLoomModel" "inner" "[I" ∈ wsX9_gets := by decide +kernel
theorem in_X9_puts_9 : ∀ w ∈ wsX90, w ∈ wsX9_puts := fun _ h => List.mem_cons_of_mem _ (List.mem_append_right _ h)
theorem lk_X9_puts_31 : Cond.fieldLink RX9 31 "FaultLoomModel" "refs" "[I" ∈ wsX9_puts := by decide +kernel
theorem lk_X9_puts_126 : Cond.fieldLink RX9 126 "FaultLoomModel" "b" "I" ∈ wsX9_puts := by decide +kernel
theorem lk_X9_puts_16 : Cond.fieldLink RX9 16 "FaultLoomModel" "words" "[I" ∈ wsX9_puts := by decide +kernel
theorem lk_X9_puts_123 : Cond.fieldLink RX9 123 "FaultLoomModel" "c" "I" ∈ wsX9_puts := by decide +kernel
theorem lk_X9_puts_40 : Cond.fieldLink RX9 40 "FaultLoomModel" "cells" "[J" ∈ wsX9_puts := by decide +kernel
theorem lk_X9_puts_142 : Cond.fieldLink RX9 142 "FaultLoomModel" "a" "I" ∈ wsX9_puts := by decide +kernel
theorem lk_X9_puts_180 : Cond.constant RX9 180 (65535) ∈ wsX9_puts := by decide +kernel
theorem lk_X9_puts_19 : Cond.fieldLink RX9 19 "FaultLoomModel" "wides" "[J" ∈ wsX9_puts := by decide +kernel
theorem lk_X9_puts_43 : Cond.fieldLink RX9 43 "FaultLoomModel" "points" "[D" ∈ wsX9_puts := by decide +kernel
theorem lk_X9_puts_23 : Cond.fieldLink RX9 23 "FaultLoomModel" "singles" "[F" ∈ wsX9_puts := by decide +kernel
theorem lk_X9_puts_27 : Cond.fieldLink RX9 27 "FaultLoomModel" "reals" "[D" ∈ wsX9_puts := by decide +kernel
theorem lk_X9_puts_46 : Cond.fieldLink RX9 46 "FaultLoomModel" "inner" "[I" ∈ wsX9_puts := by decide +kernel
theorem in_X9_doesKnot_9 : ∀ w ∈ wsX90, w ∈ wsX9_doesKnot := fun _ h => List.mem_cons_of_mem _ (List.mem_append_right _ h)
theorem lk_X9_doesKnot_31 : Cond.fieldLink RX9 31 "FaultLoomModel" "refs" "[I" ∈ wsX9_doesKnot := by decide +kernel
theorem lk_X9_doesKnot_126 : Cond.fieldLink RX9 126 "FaultLoomModel" "b" "I" ∈ wsX9_doesKnot := by decide +kernel
theorem lk_X9_doesKnot_16 : Cond.fieldLink RX9 16 "FaultLoomModel" "words" "[I" ∈ wsX9_doesKnot := by decide +kernel
theorem lk_X9_doesKnot_142 : Cond.fieldLink RX9 142 "FaultLoomModel" "a" "I" ∈ wsX9_doesKnot := by decide +kernel
theorem lk_X9_doesKnot_49 : Cond.fieldLink RX9 49 "FaultLoomModel" "tags" "[I" ∈ wsX9_doesKnot := by decide +kernel
theorem lk_X9_doesKnot_19 : Cond.fieldLink RX9 19 "FaultLoomModel" "wides" "[J" ∈ wsX9_doesKnot := by decide +kernel
theorem lk_X9_doesKnot_52 : Cond.fieldLink RX9 52 "FaultLoomModel" "weights" "[J" ∈ wsX9_doesKnot := by decide +kernel
theorem lk_X9_doesKnot_55 : Cond.fieldLink RX9 55 "FaultLoomModel" "nexts" "[I" ∈ wsX9_doesKnot := by decide +kernel
theorem lk_X9_doesKnot_34 : Cond.fieldLink RX9 34 "FaultLoomModel" "kinds" "[I" ∈ wsX9_doesKnot := by decide +kernel
theorem lk_X9_doesKnot_123 : Cond.fieldLink RX9 123 "FaultLoomModel" "c" "I" ∈ wsX9_doesKnot := by decide +kernel
theorem in_X9_doesFault_9 : ∀ w ∈ wsX90, w ∈ wsX9_doesFault := fun _ h => List.mem_cons_of_mem _ (List.mem_append_right _ h)
theorem lk_X9_doesFault_16 : Cond.fieldLink RX9 16 "FaultLoomModel" "words" "[I" ∈ wsX9_doesFault := by decide +kernel
theorem lk_X9_doesFault_126 : Cond.fieldLink RX9 126 "FaultLoomModel" "b" "I" ∈ wsX9_doesFault := by decide +kernel
theorem lk_X9_doesFault_31 : Cond.fieldLink RX9 31 "FaultLoomModel" "refs" "[I" ∈ wsX9_doesFault := by decide +kernel
theorem lk_X9_doesFault_123 : Cond.fieldLink RX9 123 "FaultLoomModel" "c" "I" ∈ wsX9_doesFault := by decide +kernel
theorem lk_X9_doesFault_142 : Cond.fieldLink RX9 142 "FaultLoomModel" "a" "I" ∈ wsX9_doesFault := by decide +kernel
theorem lk_X9_doesFault_49 : Cond.fieldLink RX9 49 "FaultLoomModel" "tags" "[I" ∈ wsX9_doesFault := by decide +kernel
theorem lk_X9_doesFault_55 : Cond.fieldLink RX9 55 "FaultLoomModel" "nexts" "[I" ∈ wsX9_doesFault := by decide +kernel
theorem lk_X9_doesFault_113 : Cond.fieldLink RX9 113 "FaultLoomModel" "thrown" "I" ∈ wsX9_doesFault := by decide +kernel
theorem lk_X9_doesFault_110 : Cond.fieldLink RX9 110 "FaultLoomModel" "handled" "I" ∈ wsX9_doesFault := by decide +kernel
theorem lk_X9_doesFault_101 : Cond.fieldLink RX9 101 "FaultLoomModel" "toldMany" "I" ∈ wsX9_doesFault := by decide +kernel
theorem lk_X9_doesFault_61 : Cond.fieldLink RX9 61 "FaultLoomModel" "tolds" "[I" ∈ wsX9_doesFault := by decide +kernel
theorem in_X9_handlerOf_9 : ∀ w ∈ wsX90, w ∈ wsX9_handlerOf := fun _ h => List.mem_cons_of_mem _ (List.mem_append_right _ h)
theorem lk_X9_handlerOf_86 : Cond.fieldLink RX9 86 "FaultLoomModel" "handlerMany" "I" ∈ wsX9_handlerOf := by decide +kernel
theorem lk_X9_handlerOf_13 : Cond.fieldLink RX9 13 "FaultLoomModel" "handlers" "[I" ∈ wsX9_handlerOf := by decide +kernel
theorem in_X9_fails_9 : ∀ w ∈ wsX90, w ∈ wsX9_fails := fun _ h => List.mem_cons_of_mem _ (List.mem_append_right _ h)
theorem lk_X9_fails_104 : Cond.fieldLink RX9 104 "FaultLoomModel" "failures" "I" ∈ wsX9_fails := by decide +kernel
theorem lk_X9_fails_107 : Cond.fieldLink RX9 107 "FaultLoomModel" "latest" "I" ∈ wsX9_fails := by decide +kernel
theorem lk_X9_fails_92 : Cond.fieldLink RX9 92 "FaultLoomModel" "place" "I" ∈ wsX9_fails := by decide +kernel
theorem lk_X9_fails_64 : Cond.fieldLink RX9 64 "FaultLoomModel" "latestPlace" "I" ∈ wsX9_fails := by decide +kernel
theorem lk_X9_fails_98 : Cond.fieldLink RX9 98 "FaultLoomModel" "calls" "I" ∈ wsX9_fails := by decide +kernel
theorem lk_X9_fails_58 : Cond.fieldLink RX9 58 "FaultLoomModel" "callPlaces" "[I" ∈ wsX9_fails := by decide +kernel
theorem lk_X9_fails_83 : Cond.fieldLink RX9 83 "FaultLoomModel" "status" "I" ∈ wsX9_fails := by decide +kernel
theorem lk_X9_fails_110 : Cond.fieldLink RX9 110 "FaultLoomModel" "handled" "I" ∈ wsX9_fails := by decide +kernel
theorem lk_X9_fails_31 : Cond.fieldLink RX9 31 "FaultLoomModel" "refs" "[I" ∈ wsX9_fails := by decide +kernel
theorem lk_X9_fails_142 : Cond.fieldLink RX9 142 "FaultLoomModel" "a" "I" ∈ wsX9_fails := by decide +kernel
theorem lk_X9_fails_113 : Cond.fieldLink RX9 113 "FaultLoomModel" "thrown" "I" ∈ wsX9_fails := by decide +kernel
theorem lk_X9_fails_13 : Cond.fieldLink RX9 13 "FaultLoomModel" "handlers" "[I" ∈ wsX9_fails := by decide +kernel
theorem lk_X9_fails_174 : Cond.fieldLink RX9 174 "FaultLoomModel" "after" "I" ∈ wsX9_fails := by decide +kernel
theorem in_X9_one_9 : ∀ w ∈ wsX90, w ∈ wsX9_one := fun _ h => List.mem_cons_of_mem _ (List.mem_append_right _ h)
theorem lk_X9_one_7 : Cond.fieldLink RX9 7 "FaultLoomModel" "steps" "[I" ∈ wsX9_one := by decide +kernel
theorem lk_X9_one_92 : Cond.fieldLink RX9 92 "FaultLoomModel" "place" "I" ∈ wsX9_one := by decide +kernel
theorem lk_X9_one_142 : Cond.fieldLink RX9 142 "FaultLoomModel" "a" "I" ∈ wsX9_one := by decide +kernel
theorem lk_X9_one_126 : Cond.fieldLink RX9 126 "FaultLoomModel" "b" "I" ∈ wsX9_one := by decide +kernel
theorem lk_X9_one_123 : Cond.fieldLink RX9 123 "FaultLoomModel" "c" "I" ∈ wsX9_one := by decide +kernel
theorem lk_X9_one_174 : Cond.fieldLink RX9 174 "FaultLoomModel" "after" "I" ∈ wsX9_one := by decide +kernel
theorem lk_X9_one_95 : Cond.fieldLink RX9 95 "FaultLoomModel" "done" "I" ∈ wsX9_one := by decide +kernel
theorem lk_X9_one_83 : Cond.fieldLink RX9 83 "FaultLoomModel" "status" "I" ∈ wsX9_one := by decide +kernel
theorem lk_X9_one_80 : Cond.fieldLink RX9 80 "FaultLoomModel" "many" "I" ∈ wsX9_one := by decide +kernel
theorem in_X9_step_9 : ∀ w ∈ wsX90, w ∈ wsX9_step := fun _ h => List.mem_cons_of_mem _ (List.mem_append_right _ h)
theorem lk_X9_step_83 : Cond.fieldLink RX9 83 "FaultLoomModel" "status" "I" ∈ wsX9_step := by decide +kernel
theorem in_X9_word_9 : ∀ w ∈ wsX90, w ∈ wsX9_word := fun _ h => List.mem_cons_of_mem _ (List.mem_append_right _ h)
theorem lk_X9_word_16 : Cond.fieldLink RX9 16 "FaultLoomModel" "words" "[I" ∈ wsX9_word := by decide +kernel
theorem in_X9_wide_9 : ∀ w ∈ wsX90, w ∈ wsX9_wide := fun _ h => List.mem_cons_of_mem _ (List.mem_append_right _ h)
theorem lk_X9_wide_19 : Cond.fieldLink RX9 19 "FaultLoomModel" "wides" "[J" ∈ wsX9_wide := by decide +kernel
theorem in_X9_single_9 : ∀ w ∈ wsX90, w ∈ wsX9_single := fun _ h => List.mem_cons_of_mem _ (List.mem_append_right _ h)
theorem lk_X9_single_23 : Cond.fieldLink RX9 23 "FaultLoomModel" "singles" "[F" ∈ wsX9_single := by decide +kernel
theorem in_X9_real_9 : ∀ w ∈ wsX90, w ∈ wsX9_real := fun _ h => List.mem_cons_of_mem _ (List.mem_append_right _ h)
theorem lk_X9_real_27 : Cond.fieldLink RX9 27 "FaultLoomModel" "reals" "[D" ∈ wsX9_real := by decide +kernel
theorem in_X9_thingIn_9 : ∀ w ∈ wsX90, w ∈ wsX9_thingIn := fun _ h => List.mem_cons_of_mem _ (List.mem_append_right _ h)
theorem lk_X9_thingIn_31 : Cond.fieldLink RX9 31 "FaultLoomModel" "refs" "[I" ∈ wsX9_thingIn := by decide +kernel
theorem in_X9_kindOf_9 : ∀ w ∈ wsX90, w ∈ wsX9_kindOf := fun _ h => List.mem_cons_of_mem _ (List.mem_append_right _ h)
theorem lk_X9_kindOf_34 : Cond.fieldLink RX9 34 "FaultLoomModel" "kinds" "[I" ∈ wsX9_kindOf := by decide +kernel
theorem in_X9_kind_9 : ∀ w ∈ wsX90, w ∈ wsX9_kind := fun _ h => List.mem_cons_of_mem _ (List.mem_append_right _ h)
theorem lk_X9_kind_31 : Cond.fieldLink RX9 31 "FaultLoomModel" "refs" "[I" ∈ wsX9_kind := by decide +kernel
theorem in_X9_size_9 : ∀ w ∈ wsX90, w ∈ wsX9_size := fun _ h => List.mem_cons_of_mem _ (List.mem_append_right _ h)
theorem lk_X9_size_34 : Cond.fieldLink RX9 34 "FaultLoomModel" "kinds" "[I" ∈ wsX9_size := by decide +kernel
theorem lk_X9_size_37 : Cond.fieldLink RX9 37 "FaultLoomModel" "sizes" "[I" ∈ wsX9_size := by decide +kernel
theorem in_X9_cell_9 : ∀ w ∈ wsX90, w ∈ wsX9_cell := fun _ h => List.mem_cons_of_mem _ (List.mem_append_right _ h)
theorem lk_X9_cell_34 : Cond.fieldLink RX9 34 "FaultLoomModel" "kinds" "[I" ∈ wsX9_cell := by decide +kernel
theorem lk_X9_cell_37 : Cond.fieldLink RX9 37 "FaultLoomModel" "sizes" "[I" ∈ wsX9_cell := by decide +kernel
theorem lk_X9_cell_40 : Cond.fieldLink RX9 40 "FaultLoomModel" "cells" "[J" ∈ wsX9_cell := by decide +kernel
theorem lk_X9_cell_46 : Cond.fieldLink RX9 46 "FaultLoomModel" "inner" "[I" ∈ wsX9_cell := by decide +kernel
theorem lk_X9_cell_207 : Cond.constantLong RX9 207 (-1) ∈ wsX9_cell := by decide +kernel
theorem in_X9_point_9 : ∀ w ∈ wsX90, w ∈ wsX9_point := fun _ h => List.mem_cons_of_mem _ (List.mem_append_right _ h)
theorem lk_X9_point_34 : Cond.fieldLink RX9 34 "FaultLoomModel" "kinds" "[I" ∈ wsX9_point := by decide +kernel
theorem lk_X9_point_37 : Cond.fieldLink RX9 37 "FaultLoomModel" "sizes" "[I" ∈ wsX9_point := by decide +kernel
theorem lk_X9_point_43 : Cond.fieldLink RX9 43 "FaultLoomModel" "points" "[D" ∈ wsX9_point := by decide +kernel
theorem in_X9_field_9 : ∀ w ∈ wsX90, w ∈ wsX9_field := fun _ h => List.mem_cons_of_mem _ (List.mem_append_right _ h)
theorem lk_X9_field_34 : Cond.fieldLink RX9 34 "FaultLoomModel" "kinds" "[I" ∈ wsX9_field := by decide +kernel
theorem lk_X9_field_49 : Cond.fieldLink RX9 49 "FaultLoomModel" "tags" "[I" ∈ wsX9_field := by decide +kernel
theorem lk_X9_field_52 : Cond.fieldLink RX9 52 "FaultLoomModel" "weights" "[J" ∈ wsX9_field := by decide +kernel
theorem lk_X9_field_55 : Cond.fieldLink RX9 55 "FaultLoomModel" "nexts" "[I" ∈ wsX9_field := by decide +kernel
theorem in_X9_same_9 : ∀ w ∈ wsX90, w ∈ wsX9_same := fun _ h => List.mem_cons_of_mem _ (List.mem_append_right _ h)
theorem in_X9_told_9 : ∀ w ∈ wsX90, w ∈ wsX9_told := fun _ h => List.mem_cons_of_mem _ (List.mem_append_right _ h)
theorem lk_X9_told_101 : Cond.fieldLink RX9 101 "FaultLoomModel" "toldMany" "I" ∈ wsX9_told := by decide +kernel
theorem lk_X9_told_61 : Cond.fieldLink RX9 61 "FaultLoomModel" "tolds" "[I" ∈ wsX9_told := by decide +kernel
theorem in_X9_state_9 : ∀ w ∈ wsX90, w ∈ wsX9_state := fun _ h => List.mem_cons_of_mem _ (List.mem_append_right _ h)
theorem lk_X9_state_80 : Cond.fieldLink RX9 80 "FaultLoomModel" "many" "I" ∈ wsX9_state := by decide +kernel
theorem lk_X9_state_86 : Cond.fieldLink RX9 86 "FaultLoomModel" "handlerMany" "I" ∈ wsX9_state := by decide +kernel
theorem lk_X9_state_92 : Cond.fieldLink RX9 92 "FaultLoomModel" "place" "I" ∈ wsX9_state := by decide +kernel
theorem lk_X9_state_95 : Cond.fieldLink RX9 95 "FaultLoomModel" "done" "I" ∈ wsX9_state := by decide +kernel
theorem lk_X9_state_98 : Cond.fieldLink RX9 98 "FaultLoomModel" "calls" "I" ∈ wsX9_state := by decide +kernel
theorem lk_X9_state_89 : Cond.fieldLink RX9 89 "FaultLoomModel" "made" "I" ∈ wsX9_state := by decide +kernel
theorem lk_X9_state_101 : Cond.fieldLink RX9 101 "FaultLoomModel" "toldMany" "I" ∈ wsX9_state := by decide +kernel
theorem lk_X9_state_104 : Cond.fieldLink RX9 104 "FaultLoomModel" "failures" "I" ∈ wsX9_state := by decide +kernel
theorem lk_X9_state_107 : Cond.fieldLink RX9 107 "FaultLoomModel" "latest" "I" ∈ wsX9_state := by decide +kernel
theorem lk_X9_state_64 : Cond.fieldLink RX9 64 "FaultLoomModel" "latestPlace" "I" ∈ wsX9_state := by decide +kernel
theorem lk_X9_state_83 : Cond.fieldLink RX9 83 "FaultLoomModel" "status" "I" ∈ wsX9_state := by decide +kernel
