/-! words of the JDK's members that the rows use; the throws -/
theorem ow_X8_1 : Cond.methodLink RX8 1 Lib.objectInit ∈ gTbl := gm 94 (by decide +kernel) rfl
theorem ow_X5_3 : Cond.methodLink RX5 3 Lib.objectInit ∈ gTbl := gm 102 (by decide +kernel) rfl
theorem ow_X2_3 : Cond.methodLink RX2 3 Lib.objectInit ∈ gTbl := gm 108 (by decide +kernel) rfl
theorem ow_X3_3 : Cond.methodLink RX3 3 Lib.objectInit ∈ gTbl := gm 142 (by decide +kernel) rfl
theorem ow_X0_3 : Cond.methodLink RX0 3 Lib.objectInit ∈ gTbl := gm 148 (by decide +kernel) rfl
theorem ow_X7_3 : Cond.methodLink RX7 3 Lib.objectInit ∈ gTbl := gm 182 (by decide +kernel) rfl
theorem ow_X4_3 : Cond.methodLink RX4 3 Lib.objectInit ∈ gTbl := gm 322 (by decide +kernel) rfl
theorem ow_X1_3 : Cond.methodLink RX1 3 Lib.objectInit ∈ gTbl := gm 335 (by decide +kernel) rfl
theorem ow_X6_1 : Cond.methodLink RX6 1 Lib.objectInit ∈ gTbl := gm 355 (by decide +kernel) rfl
theorem mw_X2_38 : MW RX2 38 Lib.Math.min.name Lib.Math.min.code 2 := ⟨gm 486 (by decide +kernel) rfl, gm 487 (by decide +kernel) rfl, gm 71 (by decide +kernel) rfl, gm 488 (by decide +kernel) rfl⟩
theorem mw_X0_49 : MW RX0 49 Lib.Math.max.name Lib.Math.max.code 2 := ⟨gm 650 (by decide +kernel) rfl, gm 651 (by decide +kernel) rfl, gm 71 (by decide +kernel) rfl, gm 652 (by decide +kernel) rfl⟩
theorem mw_X8_344 : MW RX8 344 Lib.Math.min.name Lib.Math.min.code 2 := ⟨gm 963 (by decide +kernel) rfl, gm 487 (by decide +kernel) rfl, gm 71 (by decide +kernel) rfl, gm 488 (by decide +kernel) rfl⟩
theorem aw_X8_347 : AW RX8 347 := ⟨gm 964 (by decide +kernel) rfl, gm 966 (by decide +kernel) rfl, gm 965 (by decide +kernel) rfl, gm 73 (by decide +kernel) rfl⟩
theorem mw_X8_275 : MW RX8 275 Lib.Math.abs.name Lib.Math.abs.code 1 := ⟨gm 996 (by decide +kernel) rfl, gm 997 (by decide +kernel) rfl, gm 71 (by decide +kernel) rfl, gm 998 (by decide +kernel) rfl⟩
theorem mw_X1_33 : MW RX1 33 Lib.Math.min.name Lib.Math.min.code 2 := ⟨gm 1012 (by decide +kernel) rfl, gm 487 (by decide +kernel) rfl, gm 71 (by decide +kernel) rfl, gm 488 (by decide +kernel) rfl⟩
theorem ow_X9_1 : Cond.methodLink RX9 1 Lib.objectInit ∈ gTbl := gm 1067 (by decide +kernel) rfl
theorem ow_Jxa1e45_1 : Cond.methodLink RJxa1e45 1 Lib.objectInit ∈ gTbl := gm 1079 (by decide +kernel) rfl
theorem ow_J5_3 : Cond.methodLink RJ5 3 Lib.objectInit ∈ gTbl := gm 1168 (by decide +kernel) rfl
theorem mw_J8_194 : MW RJ8 194 Lib.Math.max.name Lib.Math.max.code 2 := ⟨gm 1208 (by decide +kernel) rfl, gm 651 (by decide +kernel) rfl, gm 71 (by decide +kernel) rfl, gm 652 (by decide +kernel) rfl⟩
theorem mw_J7_304 : MW RJ7 304 Lib.Math.min.name Lib.Math.min.code 2 := ⟨gm 1223 (by decide +kernel) rfl, gm 487 (by decide +kernel) rfl, gm 71 (by decide +kernel) rfl, gm 488 (by decide +kernel) rfl⟩
theorem aw_J7_150 : AW RJ7 150 := ⟨gm 1224 (by decide +kernel) rfl, gm 966 (by decide +kernel) rfl, gm 965 (by decide +kernel) rfl, gm 73 (by decide +kernel) rfl⟩
theorem aw_J0_212 : AW RJ0 212 := ⟨gm 1277 (by decide +kernel) rfl, gm 966 (by decide +kernel) rfl, gm 965 (by decide +kernel) rfl, gm 73 (by decide +kernel) rfl⟩
theorem mw_Jx4a65c_79 : MW RJx4a65c 79 Lib.Math.max.name Lib.Math.max.code 2 := ⟨gm 1425 (by decide +kernel) rfl, gm 651 (by decide +kernel) rfl, gm 71 (by decide +kernel) rfl, gm 652 (by decide +kernel) rfl⟩
theorem ow_Jxd2413_1 : Cond.methodLink RJxd2413 1 Lib.objectInit ∈ gTbl := gm 1463 (by decide +kernel) rfl
theorem ow_J0_1 : Cond.methodLink RJ0 1 Lib.objectInit ∈ gTbl := gm 1484 (by decide +kernel) rfl
theorem aw_Jx4a65c_112 : AW RJx4a65c 112 := ⟨gm 1543 (by decide +kernel) rfl, gm 966 (by decide +kernel) rfl, gm 965 (by decide +kernel) rfl, gm 73 (by decide +kernel) rfl⟩
theorem mw_J5_138 : MW RJ5 138 Lib.Math.min.name Lib.Math.min.code 2 := ⟨gm 1578 (by decide +kernel) rfl, gm 487 (by decide +kernel) rfl, gm 71 (by decide +kernel) rfl, gm 488 (by decide +kernel) rfl⟩
theorem mw_L_243 : MW RL 243 Lib.Math.min.name Lib.Math.min.code 2 := ⟨gm 1702 (by decide +kernel) rfl, gm 487 (by decide +kernel) rfl, gm 71 (by decide +kernel) rfl, gm 488 (by decide +kernel) rfl⟩
theorem ow_i : Cond.instanceMethod Lib.objectInit ∈ gTbl := gm 95 (by decide +kernel) rfl
theorem ow_c : Cond.code Lib.objectInit ⟨#[0xb1]⟩ 1 none ∈ gTbl := gm 96 (by decide +kernel) rfl
theorem nw_L : Cond.initialized RL ∈ gTbl := gm 52 (by decide +kernel) rfl
theorem nw_X8 : Cond.initialized RX8 ∈ gTbl := gm 53 (by decide +kernel) rfl
theorem nw_X5 : Cond.initialized RX5 ∈ gTbl := gm 54 (by decide +kernel) rfl
theorem nw_X2 : Cond.initialized RX2 ∈ gTbl := gm 55 (by decide +kernel) rfl
theorem nw_X3 : Cond.initialized RX3 ∈ gTbl := gm 56 (by decide +kernel) rfl
theorem nw_X0 : Cond.initialized RX0 ∈ gTbl := gm 57 (by decide +kernel) rfl
theorem nw_X7 : Cond.initialized RX7 ∈ gTbl := gm 58 (by decide +kernel) rfl
theorem nw_X4 : Cond.initialized RX4 ∈ gTbl := gm 59 (by decide +kernel) rfl
theorem nw_X1 : Cond.initialized RX1 ∈ gTbl := gm 60 (by decide +kernel) rfl
theorem nw_X6 : Cond.initialized RX6 ∈ gTbl := gm 61 (by decide +kernel) rfl
theorem nw_X9 : Cond.initialized RX9 ∈ gTbl := gm 62 (by decide +kernel) rfl
theorem nw_Jxa1e45 : Cond.initialized RJxa1e45 ∈ gTbl := gm 63 (by decide +kernel) rfl
theorem nw_Jxc12de : Cond.initialized RJxc12de ∈ gTbl := gm 64 (by decide +kernel) rfl
theorem nw_Jx4a65c : Cond.initialized RJx4a65c ∈ gTbl := gm 65 (by decide +kernel) rfl
theorem nw_J5 : Cond.initialized RJ5 ∈ gTbl := gm 66 (by decide +kernel) rfl
theorem nw_J4 : Cond.initialized RJ4 ∈ gTbl := gm 67 (by decide +kernel) rfl
theorem nw_J0 : Cond.initialized RJ0 ∈ gTbl := gm 68 (by decide +kernel) rfl
theorem nw_J2 : Cond.initialized RJ2 ∈ gTbl := gm 69 (by decide +kernel) rfl
theorem nw_J8 : Cond.initialized RJ8 ∈ gTbl := gm 70 (by decide +kernel) rfl
theorem nw_J9 : Cond.initialized RJ9 ∈ gTbl := gm 71 (by decide +kernel) rfl
theorem nw_J7 : Cond.initialized RJ7 ∈ gTbl := gm 72 (by decide +kernel) rfl
theorem nw_J10 : Cond.initialized RJ10 ∈ gTbl := gm 73 (by decide +kernel) rfl
theorem nw_J3 : Cond.initialized RJ3 ∈ gTbl := gm 74 (by decide +kernel) rfl
theorem nw_J1 : Cond.initialized RJ1 ∈ gTbl := gm 75 (by decide +kernel) rfl
theorem nw_Jxd2413 : Cond.initialized RJxd2413 ∈ gTbl := gm 76 (by decide +kernel) rfl
theorem nw_J6 : Cond.initialized RJ6 ∈ gTbl := gm 77 (by decide +kernel) rfl
theorem nw_J15 : Cond.initialized RJ15 ∈ gTbl := gm 78 (by decide +kernel) rfl
theorem nw_Jxabbfe : Cond.initialized RJxabbfe ∈ gTbl := gm 79 (by decide +kernel) rfl
theorem nw_Jx9a822 : Cond.initialized RJx9a822 ∈ gTbl := gm 86 (by decide +kernel) rfl
theorem nw_Jxf92f9 : Cond.initialized RJxf92f9 ∈ gTbl := gm 87 (by decide +kernel) rfl
theorem nw_J13 : Cond.initialized RJ13 ∈ gTbl := gm 88 (by decide +kernel) rfl
theorem cw_L_14 : Cond.classLink RL 14 "CardLoom" ∈ gTbl := gm 89 (by decide +kernel) rfl
theorem iw_7_CardLoom : Cond.instantiable "CardLoom" 7 ∈ gTbl := gm 90 (by decide +kernel) rfl
theorem cw_X8_7 : Cond.classLink RX8 7 "CardLoom$Parser" ∈ gTbl := gm 97 (by decide +kernel) rfl
theorem iw_5_CardLoom_Parser : Cond.instantiable "CardLoom$Parser" 5 ∈ gTbl := gm 98 (by decide +kernel) rfl
theorem cw_X5_9 : Cond.classLink RX5 9 "CardLoom$Input" ∈ gTbl := gm 103 (by decide +kernel) rfl
theorem iw_7_CardLoom_Input : Cond.instantiable "CardLoom$Input" 7 ∈ gTbl := gm 104 (by decide +kernel) rfl
theorem yw_int : Cond.arrayClass .int ∈ gTbl := gm 136 (by decide +kernel) rfl
theorem cw_X5_18 : Cond.classLink RX5 18 "CardLoom$Loom" ∈ gTbl := gm 137 (by decide +kernel) rfl
theorem iw_13_CardLoom_Loom : Cond.instantiable "CardLoom$Loom" 13 ∈ gTbl := gm 138 (by decide +kernel) rfl
theorem cw_X3_43 : Cond.classLink RX3 43 "CardLoom$Deck" ∈ gTbl := gm 143 (by decide +kernel) rfl
theorem iw_8_CardLoom_Deck : Cond.instantiable "CardLoom$Deck" 8 ∈ gTbl := gm 144 (by decide +kernel) rfl
theorem cw_X3_50 : Cond.classLink RX3 50 "CardLoom$State" ∈ gTbl := gm 177 (by decide +kernel) rfl
theorem iw_12_CardLoom_State : Cond.instantiable "CardLoom$State" 12 ∈ gTbl := gm 178 (by decide +kernel) rfl
theorem cw_X8_16 : Cond.classLink RX8 16 "CardLoom$Output" ∈ gTbl := gm 317 (by decide +kernel) rfl
theorem iw_2_CardLoom_Output : Cond.instantiable "CardLoom$Output" 2 ∈ gTbl := gm 318 (by decide +kernel) rfl
theorem cw_X8_23 : Cond.classLink RX8 23 "CardLoom$History" ∈ gTbl := gm 330 (by decide +kernel) rfl
theorem iw_3_CardLoom_History : Cond.instantiable "CardLoom$History" 3 ∈ gTbl := gm 331 (by decide +kernel) rfl
theorem cw_X1_9 : Cond.classLink RX1 9 "CardLoom$State" ∈ gTbl := gm 336 (by decide +kernel) rfl
theorem cw_X8_30 : Cond.classLink RX8 30 "CardLoom$Slot" ∈ gTbl := gm 350 (by decide +kernel) rfl
theorem iw_2_CardLoom_Slot : Cond.instantiable "CardLoom$Slot" 2 ∈ gTbl := gm 351 (by decide +kernel) rfl
theorem cw_X6_7 : Cond.classLink RX6 7 "CardLoom$State" ∈ gTbl := gm 356 (by decide +kernel) rfl
theorem cw_X8_40 : Cond.classLink RX8 40 "CardLoom$Loom" ∈ gTbl := gm 367 (by decide +kernel) rfl
theorem cw_X8_65 : Cond.classLink RX8 65 "java/lang/IndexOutOfBoundsException" ∈ gTbl := gm 395 (by decide +kernel) rfl
theorem iw_6_java_lang_IndexOutOfBoundsException : Cond.instantiable "java/lang/IndexOutOfBoundsException" 6 ∈ gTbl := gm 396 (by decide +kernel) rfl
theorem iw_6_java_lang_Throwable : Cond.instantiable "java/lang/Throwable" 6 ∈ gTbl := gm 434 (by decide +kernel) rfl
theorem yw_byte : Cond.arrayClass .byte ∈ gTbl := gm 462 (by decide +kernel) rfl
theorem kw_J6_265 : Cond.constant RJ6 265 1431655765 ∈ gTbl := gm 732 (by decide +kernel) rfl
theorem kw_J6_266 : Cond.constant RJ6 266 858993459 ∈ gTbl := gm 733 (by decide +kernel) rfl
theorem kw_J6_267 : Cond.constant RJ6 267 252645135 ∈ gTbl := gm 734 (by decide +kernel) rfl
theorem cw_X8_76 : Cond.classLink RX8 76 "java/lang/IllegalArgumentException" ∈ gTbl := gm 840 (by decide +kernel) rfl
theorem iw_6_java_lang_IllegalArgumentException : Cond.instantiable "java/lang/IllegalArgumentException" 6 ∈ gTbl := gm 841 (by decide +kernel) rfl
theorem cw_X8_325 : Cond.classLink RX8 325 "java/lang/IllegalStateException" ∈ gTbl := gm 868 (by decide +kernel) rfl
theorem iw_6_java_lang_IllegalStateException : Cond.instantiable "java/lang/IllegalStateException" 6 ∈ gTbl := gm 869 (by decide +kernel) rfl
theorem cw_L_25 : Cond.classLink RL 25 "CardLoomLaw$Loom" ∈ gTbl := gm 1062 (by decide +kernel) rfl
theorem iw_15_CardLoomLaw_Loom : Cond.instantiable "CardLoomLaw$Loom" 15 ∈ gTbl := gm 1063 (by decide +kernel) rfl
theorem cw_X9_13 : Cond.classLink RX9 13 "java/util/ArrayList" ∈ gTbl := gm 1068 (by decide +kernel) rfl
theorem iw_3_java_util_ArrayList : Cond.instantiable "java/util/ArrayList" 3 ∈ gTbl := gm 1069 (by decide +kernel) rfl
theorem cw_L_65 : Cond.classLink RL 65 "[I" ∈ gTbl := gm 1153 (by decide +kernel) rfl
theorem yw_boolean : Cond.arrayClass .boolean ∈ gTbl := gm 1155 (by decide +kernel) rfl
theorem cw_L_74 : Cond.classLink RL 74 "java/lang/StringBuilder" ∈ gTbl := gm 1159 (by decide +kernel) rfl
theorem iw_4_java_lang_StringBuilder : Cond.instantiable "java/lang/StringBuilder" 4 ∈ gTbl := gm 1160 (by decide +kernel) rfl
theorem kw_J5_38 : Cond.constant RJ5 38 2147483631 ∈ gTbl := gm 1170 (by decide +kernel) rfl
theorem kw_J5_39 : Cond.constant RJ5 39 2147483647 ∈ gTbl := gm 1171 (by decide +kernel) rfl
theorem kw_J2_20 : Cond.constant RJ2 20 1073741823 ∈ gTbl := gm 1179 (by decide +kernel) rfl
theorem kw_J8_200 : Cond.constant RJ8 200 2147483639 ∈ gTbl := gm 1209 (by decide +kernel) rfl
theorem cw_J7_311 : Cond.classLink RJ7 311 "[B" ∈ gTbl := gm 1222 (by decide +kernel) rfl
theorem cw_X9_8 : Cond.classLink RX9 8 "CardLoomLaw$Loom" ∈ gTbl := gm 1349 (by decide +kernel) rfl
theorem cw_X9_38 : Cond.classLink RX9 38 "[Z" ∈ gTbl := gm 1355 (by decide +kernel) rfl
theorem cw_X9_53 : Cond.classLink RX9 53 "[I" ∈ gTbl := gm 1360 (by decide +kernel) rfl
theorem cw_J7_110 : Cond.classLink RJ7 110 "[Ljava/lang/Object;" ∈ gTbl := gm 1422 (by decide +kernel) rfl
theorem cw_J7_2 : Cond.classLink RJ7 2 "java/lang/Object" ∈ gTbl := gm 1424 (by decide +kernel) rfl
theorem cw_Jx4a65c_7 : Cond.classLink RJx4a65c 7 "java/lang/Object" ∈ gTbl := gm 1426 (by decide +kernel) rfl
theorem cw_X9_82 : Cond.classLink RX9 82 "java/lang/Integer" ∈ gTbl := gm 1427 (by decide +kernel) rfl
theorem cw_J6_1 : Cond.classLink RJ6 1 "java/lang/Integer" ∈ gTbl := gm 1455 (by decide +kernel) rfl
theorem iw_1_java_lang_Integer : Cond.instantiable "java/lang/Integer" 1 ∈ gTbl := gm 1456 (by decide +kernel) rfl
theorem cw_J4_18 : Cond.classLink RJ4 18 "java/lang/String" ∈ gTbl := gm 1476 (by decide +kernel) rfl
theorem iw_4_java_lang_String : Cond.instantiable "java/lang/String" 4 ∈ gTbl := gm 1477 (by decide +kernel) rfl
theorem kw_J6_264 : Cond.constant RJ6 264 65536 ∈ gTbl := gm 1778 (by decide +kernel) rfl
theorem kw_Jx9a822_374 : Cond.constant RJx9a822 374 65535 ∈ gTbl := gm 1799 (by decide +kernel) rfl
theorem yw_long : Cond.arrayClass .long ∈ gTbl := gm 1808 (by decide +kernel) rfl
set_option maxRecDepth 100000 in
theorem th_X8_parseSetup_18 : TH RX8 65 67 69 "java/lang/IndexOutOfBoundsException" "the buffer does not hold as many bytes" := ⟨gm 395 (by decide +kernel) rfl, gm 83 (by decide +kernel) rfl, List.mem_of_getElem? (i := 436) (by decide +kernel), th_all (by decide +kernel), by decide +kernel, by decide +kernel, by decide +kernel⟩
set_option maxRecDepth 100000 in
theorem th_X8_parseSetup_39 : TH RX8 76 78 80 "java/lang/IllegalArgumentException" "the setup is invalid" := ⟨gm 840 (by decide +kernel) rfl, gm 84 (by decide +kernel) rfl, List.mem_of_getElem? (i := 849) (by decide +kernel), th_all (by decide +kernel), by decide +kernel, by decide +kernel, by decide +kernel⟩
set_option maxRecDepth 100000 in
theorem th_X8_restoreState_28 : TH RX8 325 336 329 "java/lang/IllegalStateException" "no state is saved in the slot" := ⟨gm 868 (by decide +kernel) rfl, gm 85 (by decide +kernel) rfl, List.mem_of_getElem? (i := 1055) (by decide +kernel), th_all (by decide +kernel), by decide +kernel, by decide +kernel, by decide +kernel⟩
set_option maxRecDepth 100000 in
theorem th_X8_requireLoaded_7 : TH RX8 325 338 329 "java/lang/IllegalStateException" "no setup has been loaded" := ⟨gm 868 (by decide +kernel) rfl, gm 85 (by decide +kernel) rfl, List.mem_of_getElem? (i := 877) (by decide +kernel), th_all (by decide +kernel), by decide +kernel, by decide +kernel, by decide +kernel⟩
set_option maxRecDepth 100000 in
theorem th_X8_requireIndex_9 : TH RX8 65 340 69 "java/lang/IndexOutOfBoundsException" "there is none with this index" := ⟨gm 395 (by decide +kernel) rfl, gm 83 (by decide +kernel) rfl, List.mem_of_getElem? (i := 899) (by decide +kernel), th_all (by decide +kernel), by decide +kernel, by decide +kernel, by decide +kernel⟩
set_option maxRecDepth 100000 in
theorem th_X8_requireRange_10 : TH RX8 76 342 80 "java/lang/IllegalArgumentException" "the argument is out of range" := ⟨gm 840 (by decide +kernel) rfl, gm 84 (by decide +kernel) rfl, List.mem_of_getElem? (i := 941) (by decide +kernel), th_all (by decide +kernel), by decide +kernel, by decide +kernel, by decide +kernel⟩
