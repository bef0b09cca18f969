/-! words of inherited calls, of clones, of statics, of casts -/
theorem cl_X9_37 : Cond.methodLink RX9 37 ⟨"[Z", "clone", "()Ljava/lang/Object;"⟩ ∈ gTbl := gm 1351 (by decide +kernel) rfl
theorem cl_X9_52 : Cond.methodLink RX9 52 ⟨"[I", "clone", "()Ljava/lang/Object;"⟩ ∈ gTbl := gm 1356 (by decide +kernel) rfl
theorem uc_J5_43 : UW RJ5 RJ4 "java/lang/AbstractStringBuilder" 43 1 ⟨"java/lang/AbstractStringBuilder", "append", "(Ljava/lang/String;)Ljava/lang/AbstractStringBuilder;"⟩ m_J4_append_cf1ce := ⟨⟨gm 1185 (by decide +kernel) rfl, gm 1180 (by decide +kernel) rfl, gm 1182 (by decide +kernel) rfl, gm 1184 (by decide +kernel) rfl, gm 67 (by decide +kernel) rfl⟩, gm 1183 (by decide +kernel) rfl, by decide +kernel, Or.inr ⟨gm 1181 (by decide +kernel) rfl, cJ5_append_cf1ce, 3, (some (.object "java/lang/AbstractStringBuilder")), gm 1192 (by decide +kernel) rfl⟩⟩
theorem uc_J5_100 : UW RJ5 RJ4 "java/lang/AbstractStringBuilder" 100 1 ⟨"java/lang/AbstractStringBuilder", "ensureCapacityInternal", "(I)V"⟩ m_J5_ensureCapacityInternal_d00df := ⟨⟨gm 1200 (by decide +kernel) rfl, gm 1197 (by decide +kernel) rfl, gm 1811 (by decide +kernel) rfl, gm 1199 (by decide +kernel) rfl, gm 66 (by decide +kernel) rfl⟩, gx 0 (by decide +kernel) rfl, by decide +kernel, Or.inl rfl⟩
theorem uc_J5_83 : UW RJ5 RJ4 "java/lang/AbstractStringBuilder" 83 0 ⟨"java/lang/AbstractStringBuilder", "isLatin1", "()Z"⟩ m_J5_isLatin1_aae02 := ⟨⟨gm 1229 (by decide +kernel) rfl, gm 1225 (by decide +kernel) rfl, gm 1227 (by decide +kernel) rfl, gm 1226 (by decide +kernel) rfl, gm 66 (by decide +kernel) rfl⟩, gm 1228 (by decide +kernel) rfl, by decide +kernel, Or.inl rfl⟩
theorem uc_J5_208 : UW RJ5 RJ4 "java/lang/AbstractStringBuilder" 208 2 ⟨"java/lang/AbstractStringBuilder", "putStringAt", "(ILjava/lang/String;)V"⟩ m_J5_putStringAt_47b60 := ⟨⟨gm 1249 (by decide +kernel) rfl, gm 1246 (by decide +kernel) rfl, gm 1813 (by decide +kernel) rfl, gm 1248 (by decide +kernel) rfl, gm 66 (by decide +kernel) rfl⟩, gx 2 (by decide +kernel) rfl, by decide +kernel, Or.inl rfl⟩
theorem uc_J5_104 : UW RJ5 RJ4 "java/lang/AbstractStringBuilder" 104 1 ⟨"java/lang/AbstractStringBuilder", "newCapacity", "(I)I"⟩ m_J5_newCapacity_0f7a4 := ⟨⟨gm 1204 (by decide +kernel) rfl, gm 1201 (by decide +kernel) rfl, gm 1812 (by decide +kernel) rfl, gm 1203 (by decide +kernel) rfl, gm 66 (by decide +kernel) rfl⟩, gx 1 (by decide +kernel) rfl, by decide +kernel, Or.inl rfl⟩
theorem uc_J5_397 : UW RJ5 RJ4 "java/lang/AbstractStringBuilder" 397 1 ⟨"java/lang/AbstractStringBuilder", "inflateIfNeededFor", "(Ljava/lang/String;)V"⟩ m_J5_inflateIfNeededFor_a7421 := ⟨⟨gm 1253 (by decide +kernel) rfl, gm 1250 (by decide +kernel) rfl, gm 1814 (by decide +kernel) rfl, gm 1252 (by decide +kernel) rfl, gm 66 (by decide +kernel) rfl⟩, gx 3 (by decide +kernel) rfl, by decide +kernel, Or.inl rfl⟩
theorem uc_J0_552 : UW RJ0 RJ4 "java/lang/AbstractStringBuilder" 552 0 ⟨"java/lang/AbstractStringBuilder", "getValue", "()[B"⟩ m_J5_getValue_6d5f1 := ⟨⟨gm 1489 (by decide +kernel) rfl, gm 1485 (by decide +kernel) rfl, gm 1487 (by decide +kernel) rfl, gm 1486 (by decide +kernel) rfl, gm 66 (by decide +kernel) rfl⟩, gm 1488 (by decide +kernel) rfl, by decide +kernel, Or.inl rfl⟩
theorem uc_J0_549 : UW RJ0 RJ4 "java/lang/AbstractStringBuilder" 549 0 ⟨"java/lang/AbstractStringBuilder", "length", "()I"⟩ m_J4_length_8abf5 := ⟨⟨gm 1495 (by decide +kernel) rfl, gm 1490 (by decide +kernel) rfl, gm 1492 (by decide +kernel) rfl, gm 1494 (by decide +kernel) rfl, gm 67 (by decide +kernel) rfl⟩, gm 1493 (by decide +kernel) rfl, by decide +kernel, Or.inr ⟨gm 1491 (by decide +kernel) rfl, cJ5_length_8abf5, 1, (some .int), gm 1497 (by decide +kernel) rfl⟩⟩
theorem uc_J0_1047 : UW RJ0 RJ4 "java/lang/AbstractStringBuilder" 1047 0 ⟨"java/lang/AbstractStringBuilder", "isLatin1", "()Z"⟩ m_J5_isLatin1_aae02 := ⟨⟨gm 1229 (by decide +kernel) rfl, gm 1498 (by decide +kernel) rfl, gm 1227 (by decide +kernel) rfl, gm 1226 (by decide +kernel) rfl, gm 66 (by decide +kernel) rfl⟩, gm 1228 (by decide +kernel) rfl, by decide +kernel, Or.inl rfl⟩
theorem sc_J4_50 : SW RJ4 50 1 m_J5_append_3fe6f := ⟨⟨gm 1322 (by decide +kernel) rfl, by
  intro w hw
  simp only [List.mem_cons, List.not_mem_nil, or_false] at hw
  rcases hw with rfl | rfl | rfl | rfl | rfl
  · exact gm 1320 (by decide +kernel) rfl
  · exact gm 1817 (by decide +kernel) rfl
  · exact gm 1191 (by decide +kernel) rfl
  · exact gm 1321 (by decide +kernel) rfl
  · exact gm 66 (by decide +kernel) rfl⟩, by decide +kernel⟩
theorem sc_J4_53 : SW RJ4 53 1 m_J5_append_c97b9 := ⟨⟨gm 1297 (by decide +kernel) rfl, by
  intro w hw
  simp only [List.mem_cons, List.not_mem_nil, or_false] at hw
  rcases hw with rfl | rfl | rfl | rfl | rfl
  · exact gm 1295 (by decide +kernel) rfl
  · exact gm 1816 (by decide +kernel) rfl
  · exact gm 1191 (by decide +kernel) rfl
  · exact gm 1296 (by decide +kernel) rfl
  · exact gm 66 (by decide +kernel) rfl⟩, by decide +kernel⟩
theorem sc_J4_29 : SW RJ4 29 1 m_J5_append_cf1ce := ⟨⟨gm 1192 (by decide +kernel) rfl, by
  intro w hw
  simp only [List.mem_cons, List.not_mem_nil, or_false] at hw
  rcases hw with rfl | rfl | rfl | rfl | rfl
  · exact gm 1190 (by decide +kernel) rfl
  · exact gm 1182 (by decide +kernel) rfl
  · exact gm 1191 (by decide +kernel) rfl
  · exact gm 1181 (by decide +kernel) rfl
  · exact gm 66 (by decide +kernel) rfl⟩, by decide +kernel⟩
theorem cl_J7_310 : Cond.methodLink RJ7 310 ⟨"[B", "clone", "()Ljava/lang/Object;"⟩ ∈ gTbl := gm 1216 (by decide +kernel) rfl
theorem sc_J4_343 : SW RJ4 343 0 m_J5_length_8abf5 := ⟨⟨gm 1497 (by decide +kernel) rfl, by
  intro w hw
  simp only [List.mem_cons, List.not_mem_nil, or_false] at hw
  rcases hw with rfl | rfl | rfl | rfl | rfl
  · exact gm 1496 (by decide +kernel) rfl
  · exact gm 1492 (by decide +kernel) rfl
  · exact gm 1191 (by decide +kernel) rfl
  · exact gm 1491 (by decide +kernel) rfl
  · exact gm 66 (by decide +kernel) rfl⟩, by decide +kernel⟩
theorem clm_Z : Cond.sameMethod "[Z" "java/lang/Object" "clone" "()Ljava/lang/Object;" ∈ gTbl := gm 1352 (by decide +kernel) rfl
theorem cls_Z : Cond.selects "[Z" ⟨"[Z", "clone", "()Ljava/lang/Object;"⟩ ⟨"java/lang/Object", "clone", "()Ljava/lang/Object;"⟩ ∈ gTbl := gm 1353 (by decide +kernel) rfl
theorem clc_Z : Cond.castable "[Z" "java/lang/Cloneable" ∈ lw_tbl := List.mem_of_getElem? (i := 1354) (by decide +kernel)
theorem clm_I : Cond.sameMethod "[I" "java/lang/Object" "clone" "()Ljava/lang/Object;" ∈ gTbl := gm 1357 (by decide +kernel) rfl
theorem cls_I : Cond.selects "[I" ⟨"[I", "clone", "()Ljava/lang/Object;"⟩ ⟨"java/lang/Object", "clone", "()Ljava/lang/Object;"⟩ ∈ gTbl := gm 1358 (by decide +kernel) rfl
theorem clc_I : Cond.castable "[I" "java/lang/Cloneable" ∈ lw_tbl := List.mem_of_getElem? (i := 1359) (by decide +kernel)
theorem clm_B : Cond.sameMethod "[B" "java/lang/Object" "clone" "()Ljava/lang/Object;" ∈ gTbl := gm 1217 (by decide +kernel) rfl
theorem cls_B : Cond.selects "[B" ⟨"[B", "clone", "()Ljava/lang/Object;"⟩ ⟨"java/lang/Object", "clone", "()Ljava/lang/Object;"⟩ ∈ gTbl := gm 1220 (by decide +kernel) rfl
theorem clc_B : Cond.castable "[B" "java/lang/Cloneable" ∈ lw_tbl := List.mem_of_getElem? (i := 1221) (by decide +kernel)
theorem cln_n : Cond.native ⟨"java/lang/Object", "clone", "()Ljava/lang/Object;"⟩ ∈ gTbl := gm 1218 (by decide +kernel) rfl
theorem cln_i : Cond.instanceMethod ⟨"java/lang/Object", "clone", "()Ljava/lang/Object;"⟩ ∈ gTbl := gm 1219 (by decide +kernel) rfl
theorem ca_IO : Cond.castable "[I" "java/lang/Object" ∈ lw_tbl := List.mem_of_getElem? (i := 1841) (by decide +kernel)
theorem ca_NO : Cond.castable "java/lang/Integer" "java/lang/Object" ∈ lw_tbl := List.mem_of_getElem? (i := 1820) (by decide +kernel)
theorem fl_J0_38 : Cond.fieldLink RJ0 38 "java/lang/String" "COMPACT_STRINGS" "Z" ∈ gTbl := gm 530 (by decide +kernel) rfl
theorem fl_Jx4a65c_39 : Cond.fieldLink RJx4a65c 39 "java/util/ArrayList" "DEFAULTCAPACITY_EMPTY_ELEMENTDATA" "[Ljava/lang/Object;" ∈ gTbl := gm 1080 (by decide +kernel) rfl
theorem fl_J5_18 : Cond.fieldLink RJ5 18 "java/lang/String" "COMPACT_STRINGS" "Z" ∈ gTbl := gm 1230 (by decide +kernel) rfl
theorem fl_J6_83 : Cond.fieldLink RJ6 83 "java/lang/Integer" "DigitOnes" "[B" ∈ gTbl := gm 1304 (by decide +kernel) rfl
theorem fl_J6_87 : Cond.fieldLink RJ6 87 "java/lang/Integer" "DigitTens" "[B" ∈ gTbl := gm 1306 (by decide +kernel) rfl
theorem fl_J2_403 : Cond.fieldLink RJ2 403 "java/lang/Integer" "DigitOnes" "[B" ∈ gTbl := gm 1314 (by decide +kernel) rfl
theorem fl_J2_407 : Cond.fieldLink RJ2 407 "java/lang/Integer" "DigitTens" "[B" ∈ gTbl := gm 1315 (by decide +kernel) rfl
theorem fl_J6_191 : Cond.fieldLink RJ6 191 "java/lang/Integer$IntegerCache" "high" "I" ∈ gTbl := gm 1451 (by decide +kernel) rfl
theorem fl_J6_195 : Cond.fieldLink RJ6 195 "java/lang/Integer$IntegerCache" "cache" "[Ljava/lang/Integer;" ∈ gTbl := gm 1453 (by decide +kernel) rfl
theorem fl_J6_205 : Cond.fieldLink RJ6 205 "java/lang/Integer" "value" "I" ∈ gTbl := gm 1464 (by decide +kernel) rfl
theorem fl_J0_9 : Cond.fieldLink RJ0 9 "java/lang/String" "value" "[B" ∈ gTbl := gm 1518 (by decide +kernel) rfl
theorem fl_J0_15 : Cond.fieldLink RJ0 15 "java/lang/String" "coder" "B" ∈ gTbl := gm 1519 (by decide +kernel) rfl
theorem kl_L_320 : Cond.constantLong RL 320 4 ∈ gTbl := gm 1678 (by decide +kernel) rfl
theorem kl_L_322 : Cond.constantLong RL 322 2 ∈ gTbl := gm 1683 (by decide +kernel) rfl
theorem kl_L_324 : Cond.constantLong RL 324 31 ∈ gTbl := gm 1684 (by decide +kernel) rfl
theorem fl_J8_170 : Cond.fieldLink RJ8 170 "jdk/internal/misc/Unsafe" "ARRAY_LONG_BASE_OFFSET" "I" ∈ gTbl := gm 1709 (by decide +kernel) rfl
theorem fl_J8_20 : Cond.fieldLink RJ8 20 "jdk/internal/util/ArraysSupport" "LOG2_ARRAY_LONG_INDEX_SCALE" "I" ∈ gTbl := gm 1711 (by decide +kernel) rfl
theorem fl_J8_26 : Cond.fieldLink RJ8 26 "jdk/internal/util/ArraysSupport" "U" "Ljdk/internal/misc/Unsafe;" ∈ gTbl := gm 1716 (by decide +kernel) rfl
theorem kl_Jx9a822_696 : Cond.constantLong RJx9a822 696 7 ∈ gTbl := gm 1722 (by decide +kernel) rfl
theorem kl_Jx9a822_349 : Cond.constantLong RJx9a822 349 3 ∈ gTbl := gm 1727 (by decide +kernel) rfl
theorem kl_Jx9a822_205 : Cond.constantLong RJx9a822 205 4 ∈ gTbl := gm 1732 (by decide +kernel) rfl
theorem kl_Jx9a822_812 : Cond.constantLong RJx9a822 812 4294967295 ∈ gTbl := gm 1739 (by decide +kernel) rfl
theorem kl_Jx9a822_203 : Cond.constantLong RJx9a822 203 2 ∈ gTbl := gm 1749 (by decide +kernel) rfl
theorem kl_Jx9a822_702 : Cond.constantLong RJx9a822 702 6 ∈ gTbl := gm 1750 (by decide +kernel) rfl
theorem kl_Jx9a822_810 : Cond.constantLong RJx9a822 810 65535 ∈ gTbl := gm 1757 (by decide +kernel) rfl
theorem kl_Jx9a822_707 : Cond.constantLong RJx9a822 707 5 ∈ gTbl := gm 1762 (by decide +kernel) rfl
theorem kl_Jx9a822_808 : Cond.constantLong RJx9a822 808 255 ∈ gTbl := gm 1769 (by decide +kernel) rfl
theorem fl_J8_51 : Cond.fieldLink RJ8 51 "jdk/internal/util/ArraysSupport" "LOG2_ARRAY_INT_INDEX_SCALE" "I" ∈ gTbl := gm 1787 (by decide +kernel) rfl
theorem sw_L_81 : Cond.stringRef RL 81 "loom " ∈ lw_tbl := List.mem_of_getElem? (i := 1161) (by decide +kernel)
theorem sw_L_86 : Cond.stringRef RL 86 ";strain " ∈ lw_tbl := List.mem_of_getElem? (i := 1329) (by decide +kernel)
theorem sw_L_91 : Cond.stringRef RL 91 ";motor " ∈ lw_tbl := List.mem_of_getElem? (i := 1331) (by decide +kernel)
theorem sw_L_93 : Cond.stringRef RL 93 ";warp " ∈ lw_tbl := List.mem_of_getElem? (i := 1332) (by decide +kernel)
theorem sw_L_95 : Cond.stringRef RL 95 ";card " ∈ lw_tbl := List.mem_of_getElem? (i := 1333) (by decide +kernel)
theorem sw_L_101 : Cond.stringRef RL 101 ";yarn " ∈ lw_tbl := List.mem_of_getElem? (i := 1337) (by decide +kernel)
theorem sw_L_103 : Cond.stringRef RL 103 ";deck " ∈ lw_tbl := List.mem_of_getElem? (i := 1338) (by decide +kernel)
theorem sw_L_105 : Cond.stringRef RL 105 " repeat " ∈ lw_tbl := List.mem_of_getElem? (i := 1339) (by decide +kernel)
theorem sw_L_107 : Cond.stringRef RL 107 " (" ∈ lw_tbl := List.mem_of_getElem? (i := 1340) (by decide +kernel)
theorem sw_L_109 : Cond.stringRef RL 109 ");deck mirror (" ∈ lw_tbl := List.mem_of_getElem? (i := 1341) (by decide +kernel)
theorem sw_L_111 : Cond.stringRef RL 111 ") back (" ∈ lw_tbl := List.mem_of_getElem? (i := 1342) (by decide +kernel)
theorem sw_L_113 : Cond.stringRef RL 113 " repeat 2 (" ∈ lw_tbl := List.mem_of_getElem? (i := 1343) (by decide +kernel)
theorem sw_L_115 : Cond.stringRef RL 115 "))" ∈ lw_tbl := List.mem_of_getElem? (i := 1344) (by decide +kernel)
theorem sw_L_132 : Cond.stringRef RL 132 ";weave " ∈ lw_tbl := List.mem_of_getElem? (i := 1529) (by decide +kernel)
theorem sw_L_134 : Cond.stringRef RL 134 ";unweave 1" ∈ lw_tbl := List.mem_of_getElem? (i := 1530) (by decide +kernel)
