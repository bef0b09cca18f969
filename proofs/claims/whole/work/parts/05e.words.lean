/-! words of the JDK's members that the rows use; the throws -/
theorem ow_X8_1 : Cond.methodLink RX8 1 Lib.objectInit ∈ gTbl := gm 182 (by decide +kernel) rfl
theorem ow_X5_3 : Cond.methodLink RX5 3 Lib.objectInit ∈ gTbl := gm 190 (by decide +kernel) rfl
theorem ow_X2_3 : Cond.methodLink RX2 3 Lib.objectInit ∈ gTbl := gm 196 (by decide +kernel) rfl
theorem ow_X3_3 : Cond.methodLink RX3 3 Lib.objectInit ∈ gTbl := gm 230 (by decide +kernel) rfl
theorem ow_X0_3 : Cond.methodLink RX0 3 Lib.objectInit ∈ gTbl := gm 236 (by decide +kernel) rfl
theorem ow_X7_3 : Cond.methodLink RX7 3 Lib.objectInit ∈ gTbl := gm 275 (by decide +kernel) rfl
theorem ow_X4_3 : Cond.methodLink RX4 3 Lib.objectInit ∈ gTbl := gm 419 (by decide +kernel) rfl
theorem ow_X1_3 : Cond.methodLink RX1 3 Lib.objectInit ∈ gTbl := gm 434 (by decide +kernel) rfl
theorem ow_X6_1 : Cond.methodLink RX6 1 Lib.objectInit ∈ gTbl := gm 454 (by decide +kernel) rfl
theorem mw_X2_38 : MW RX2 38 Lib.Math.min.name Lib.Math.min.code 2 := ⟨gm 617 (by decide +kernel) rfl, gm 618 (by decide +kernel) rfl, gm 168 (by decide +kernel) rfl, gm 619 (by decide +kernel) rfl⟩
theorem mw_X0_49 : MW RX0 49 Lib.Math.max.name Lib.Math.max.code 2 := ⟨gm 779 (by decide +kernel) rfl, gm 780 (by decide +kernel) rfl, gm 168 (by decide +kernel) rfl, gm 781 (by decide +kernel) rfl⟩
theorem mw_X3_151 : MW RX3 151 Lib.Math.max.name Lib.Math.max.code 2 := ⟨gm 1241 (by decide +kernel) rfl, gm 780 (by decide +kernel) rfl, gm 168 (by decide +kernel) rfl, gm 781 (by decide +kernel) rfl⟩
theorem mw_X8_344 : MW RX8 344 Lib.Math.min.name Lib.Math.min.code 2 := ⟨gm 1419 (by decide +kernel) rfl, gm 618 (by decide +kernel) rfl, gm 168 (by decide +kernel) rfl, gm 619 (by decide +kernel) rfl⟩
theorem aw_X8_347 : AW RX8 347 := ⟨gm 1420 (by decide +kernel) rfl, gm 1422 (by decide +kernel) rfl, gm 1421 (by decide +kernel) rfl, gm 176 (by decide +kernel) rfl⟩
theorem mw_X8_275 : MW RX8 275 Lib.Math.abs.name Lib.Math.abs.code 1 := ⟨gm 1442 (by decide +kernel) rfl, gm 1443 (by decide +kernel) rfl, gm 168 (by decide +kernel) rfl, gm 1444 (by decide +kernel) rfl⟩
theorem mw_X1_33 : MW RX1 33 Lib.Math.min.name Lib.Math.min.code 2 := ⟨gm 1515 (by decide +kernel) rfl, gm 618 (by decide +kernel) rfl, gm 168 (by decide +kernel) rfl, gm 619 (by decide +kernel) rfl⟩
theorem ow_X9_1 : Cond.methodLink RX9 1 Lib.objectInit ∈ gTbl := gm 1605 (by decide +kernel) rfl
theorem mw_X9_177 : MW RX9 177 Lib.Math.max.name Lib.Math.max.code 2 := ⟨gm 1815 (by decide +kernel) rfl, gm 780 (by decide +kernel) rfl, gm 168 (by decide +kernel) rfl, gm 781 (by decide +kernel) rfl⟩
theorem mw_X9_463 : MW RX9 463 Lib.Math.abs.name Lib.Math.abs.code 1 := ⟨gm 2304 (by decide +kernel) rfl, gm 1443 (by decide +kernel) rfl, gm 168 (by decide +kernel) rfl, gm 1444 (by decide +kernel) rfl⟩
theorem ow_i : Cond.instanceMethod Lib.objectInit ∈ gTbl := gm 183 (by decide +kernel) rfl
theorem ow_c : Cond.code Lib.objectInit ⟨#[0xb1]⟩ 1 none ∈ gTbl := gm 184 (by decide +kernel) rfl
theorem nw_L : Cond.initialized RL ∈ gTbl := gm 152 (by decide +kernel) rfl
theorem nw_X8 : Cond.initialized RX8 ∈ gTbl := gm 153 (by decide +kernel) rfl
theorem nw_X5 : Cond.initialized RX5 ∈ gTbl := gm 154 (by decide +kernel) rfl
theorem nw_X2 : Cond.initialized RX2 ∈ gTbl := gm 155 (by decide +kernel) rfl
theorem nw_X3 : Cond.initialized RX3 ∈ gTbl := gm 156 (by decide +kernel) rfl
theorem nw_X0 : Cond.initialized RX0 ∈ gTbl := gm 157 (by decide +kernel) rfl
theorem nw_X7 : Cond.initialized RX7 ∈ gTbl := gm 158 (by decide +kernel) rfl
theorem nw_X4 : Cond.initialized RX4 ∈ gTbl := gm 159 (by decide +kernel) rfl
theorem nw_X1 : Cond.initialized RX1 ∈ gTbl := gm 160 (by decide +kernel) rfl
theorem nw_X6 : Cond.initialized RX6 ∈ gTbl := gm 161 (by decide +kernel) rfl
theorem nw_X9 : Cond.initialized RX9 ∈ gTbl := gm 162 (by decide +kernel) rfl
theorem cw_L_8 : Cond.classLink RL 8 "CardLoom" ∈ gTbl := gm 177 (by decide +kernel) rfl
theorem iw_7_CardLoom : Cond.instantiable "CardLoom" 7 ∈ gTbl := gm 178 (by decide +kernel) rfl
theorem cw_X8_7 : Cond.classLink RX8 7 "CardLoom$Parser" ∈ gTbl := gm 185 (by decide +kernel) rfl
theorem iw_5_CardLoom_Parser : Cond.instantiable "CardLoom$Parser" 5 ∈ gTbl := gm 186 (by decide +kernel) rfl
theorem cw_X5_9 : Cond.classLink RX5 9 "CardLoom$Input" ∈ gTbl := gm 191 (by decide +kernel) rfl
theorem iw_7_CardLoom_Input : Cond.instantiable "CardLoom$Input" 7 ∈ gTbl := gm 192 (by decide +kernel) rfl
theorem yw_int : Cond.arrayClass .int ∈ gTbl := gm 224 (by decide +kernel) rfl
theorem cw_X5_18 : Cond.classLink RX5 18 "CardLoom$Loom" ∈ gTbl := gm 225 (by decide +kernel) rfl
theorem iw_13_CardLoom_Loom : Cond.instantiable "CardLoom$Loom" 13 ∈ gTbl := gm 226 (by decide +kernel) rfl
theorem cw_X3_43 : Cond.classLink RX3 43 "CardLoom$Deck" ∈ gTbl := gm 231 (by decide +kernel) rfl
theorem iw_8_CardLoom_Deck : Cond.instantiable "CardLoom$Deck" 8 ∈ gTbl := gm 232 (by decide +kernel) rfl
theorem cw_X3_50 : Cond.classLink RX3 50 "CardLoom$State" ∈ gTbl := gm 270 (by decide +kernel) rfl
theorem iw_12_CardLoom_State : Cond.instantiable "CardLoom$State" 12 ∈ gTbl := gm 271 (by decide +kernel) rfl
theorem cw_X8_16 : Cond.classLink RX8 16 "CardLoom$Output" ∈ gTbl := gm 414 (by decide +kernel) rfl
theorem iw_2_CardLoom_Output : Cond.instantiable "CardLoom$Output" 2 ∈ gTbl := gm 415 (by decide +kernel) rfl
theorem cw_X8_23 : Cond.classLink RX8 23 "CardLoom$History" ∈ gTbl := gm 429 (by decide +kernel) rfl
theorem iw_3_CardLoom_History : Cond.instantiable "CardLoom$History" 3 ∈ gTbl := gm 430 (by decide +kernel) rfl
theorem cw_X1_9 : Cond.classLink RX1 9 "CardLoom$State" ∈ gTbl := gm 435 (by decide +kernel) rfl
theorem cw_X8_30 : Cond.classLink RX8 30 "CardLoom$Slot" ∈ gTbl := gm 449 (by decide +kernel) rfl
theorem iw_2_CardLoom_Slot : Cond.instantiable "CardLoom$Slot" 2 ∈ gTbl := gm 450 (by decide +kernel) rfl
theorem cw_X6_7 : Cond.classLink RX6 7 "CardLoom$State" ∈ gTbl := gm 455 (by decide +kernel) rfl
theorem cw_X8_40 : Cond.classLink RX8 40 "CardLoom$Loom" ∈ gTbl := gm 466 (by decide +kernel) rfl
theorem cw_L_13 : Cond.classLink RL 13 "java/lang/IndexOutOfBoundsException" ∈ gTbl := gm 520 (by decide +kernel) rfl
theorem cw_L_15 : Cond.classLink RL 15 "java/lang/IllegalArgumentException" ∈ gTbl := gm 521 (by decide +kernel) rfl
theorem cw_X8_65 : Cond.classLink RX8 65 "java/lang/IndexOutOfBoundsException" ∈ gTbl := gm 526 (by decide +kernel) rfl
theorem iw_6_java_lang_IndexOutOfBoundsException : Cond.instantiable "java/lang/IndexOutOfBoundsException" 6 ∈ gTbl := gm 527 (by decide +kernel) rfl
theorem iw_6_java_lang_Throwable : Cond.instantiable "java/lang/Throwable" 6 ∈ gTbl := gm 565 (by decide +kernel) rfl
theorem yw_byte : Cond.arrayClass .byte ∈ gTbl := gm 593 (by decide +kernel) rfl
theorem kw_J6_265 : Cond.constant RJ6 265 1431655765 ∈ gTbl := gm 861 (by decide +kernel) rfl
theorem kw_J6_266 : Cond.constant RJ6 266 858993459 ∈ gTbl := gm 862 (by decide +kernel) rfl
theorem kw_J6_267 : Cond.constant RJ6 267 252645135 ∈ gTbl := gm 863 (by decide +kernel) rfl
theorem cw_X8_76 : Cond.classLink RX8 76 "java/lang/IllegalArgumentException" ∈ gTbl := gm 969 (by decide +kernel) rfl
theorem iw_6_java_lang_IllegalArgumentException : Cond.instantiable "java/lang/IllegalArgumentException" 6 ∈ gTbl := gm 970 (by decide +kernel) rfl
theorem cw_L_21 : Cond.classLink RL 21 "java/lang/IllegalStateException" ∈ gTbl := gm 992 (by decide +kernel) rfl
theorem cw_X8_325 : Cond.classLink RX8 325 "java/lang/IllegalStateException" ∈ gTbl := gm 1001 (by decide +kernel) rfl
theorem iw_6_java_lang_IllegalStateException : Cond.instantiable "java/lang/IllegalStateException" 6 ∈ gTbl := gm 1002 (by decide +kernel) rfl
theorem cw_L_201 : Cond.classLink RL 201 "CardLoomModel" ∈ gTbl := gm 1600 (by decide +kernel) rfl
theorem iw_23_CardLoomModel : Cond.instantiable "CardLoomModel" 23 ∈ gTbl := gm 1601 (by decide +kernel) rfl
theorem yw_boolean : Cond.arrayClass .boolean ∈ gTbl := gm 1676 (by decide +kernel) rfl
theorem yw_long : Cond.arrayClass .long ∈ gTbl := gm 2392 (by decide +kernel) rfl
theorem yw_double : Cond.arrayClass .double ∈ gTbl := gm 2393 (by decide +kernel) rfl
set_option maxRecDepth 100000 in
theorem th_X8_parseSetup_18 : TH RX8 65 67 69 "java/lang/IndexOutOfBoundsException" "the buffer does not hold as many bytes" := ⟨gm 526 (by decide +kernel) rfl, gm 166 (by decide +kernel) rfl, List.mem_of_getElem? (i := 567) (by decide +kernel), th_all (by decide +kernel), by decide +kernel, by decide +kernel, by decide +kernel⟩
set_option maxRecDepth 100000 in
theorem th_X8_parseSetup_39 : TH RX8 76 78 80 "java/lang/IllegalArgumentException" "the setup is invalid" := ⟨gm 969 (by decide +kernel) rfl, gm 174 (by decide +kernel) rfl, List.mem_of_getElem? (i := 978) (by decide +kernel), th_all (by decide +kernel), by decide +kernel, by decide +kernel, by decide +kernel⟩
set_option maxRecDepth 100000 in
theorem th_X8_mend_22 : TH RX8 76 316 80 "java/lang/IllegalArgumentException" "the warp is not broken" := ⟨gm 969 (by decide +kernel) rfl, gm 174 (by decide +kernel) rfl, List.mem_of_getElem? (i := 1571) (by decide +kernel), th_all (by decide +kernel), by decide +kernel, by decide +kernel, by decide +kernel⟩
set_option maxRecDepth 100000 in
theorem th_X8_undo_17 : TH RX8 325 327 329 "java/lang/IllegalStateException" "there is nothing to undo" := ⟨gm 1001 (by decide +kernel) rfl, gm 175 (by decide +kernel) rfl, List.mem_of_getElem? (i := 1584) (by decide +kernel), th_all (by decide +kernel), by decide +kernel, by decide +kernel, by decide +kernel⟩
set_option maxRecDepth 100000 in
theorem th_X8_restoreState_28 : TH RX8 325 336 329 "java/lang/IllegalStateException" "no state is saved in the slot" := ⟨gm 1001 (by decide +kernel) rfl, gm 175 (by decide +kernel) rfl, List.mem_of_getElem? (i := 1599) (by decide +kernel), th_all (by decide +kernel), by decide +kernel, by decide +kernel, by decide +kernel⟩
set_option maxRecDepth 100000 in
theorem th_X8_requireLoaded_7 : TH RX8 325 338 329 "java/lang/IllegalStateException" "no setup has been loaded" := ⟨gm 1001 (by decide +kernel) rfl, gm 175 (by decide +kernel) rfl, List.mem_of_getElem? (i := 1010) (by decide +kernel), th_all (by decide +kernel), by decide +kernel, by decide +kernel, by decide +kernel⟩
set_option maxRecDepth 100000 in
theorem th_X8_requireIndex_9 : TH RX8 65 340 69 "java/lang/IndexOutOfBoundsException" "there is none with this index" := ⟨gm 526 (by decide +kernel) rfl, gm 166 (by decide +kernel) rfl, List.mem_of_getElem? (i := 1038) (by decide +kernel), th_all (by decide +kernel), by decide +kernel, by decide +kernel, by decide +kernel⟩
set_option maxRecDepth 100000 in
theorem th_X8_requireRange_10 : TH RX8 76 342 80 "java/lang/IllegalArgumentException" "the argument is out of range" := ⟨gm 969 (by decide +kernel) rfl, gm 174 (by decide +kernel) rfl, List.mem_of_getElem? (i := 1267) (by decide +kernel), th_all (by decide +kernel), by decide +kernel, by decide +kernel, by decide +kernel⟩
