/-! words of the tables, by their places; methods as the core has them -/
abbrev m_X8_init : JM := (yX8_init, cX8_init, 1, none, [], { frames := 4, cells := 127, slots := 5407, locals := 148 })
theorem mb_X8_init : SB m_X8_init 0 := ⟨gm 181 (by decide +kernel) rfl, gm 153 (by decide +kernel) rfl, by decide +kernel, by decide +kernel⟩
theorem mc_X8_init : SC m_X8_init := ⟨gm 180 (by decide +kernel) rfl, rfl, rfl⟩
abbrev m_X8_append : JM := (yX8_append, cX8_append, 7, (some .int), [], { frames := 2, cells := 0, slots := 0, locals := 74 })
theorem mb_X8_append : SB m_X8_append 5 := ⟨gm 493 (by decide +kernel) rfl, gm 153 (by decide +kernel) rfl, by decide +kernel, by decide +kernel⟩
theorem mi_X8_append : SI m_X8_append := ⟨gm 491 (by decide +kernel) rfl, gm 492 (by decide +kernel) rfl⟩
abbrev m_X8_parseSetup : JM := (yX8_parseSetup, cX8_parseSetup, 3, (some .int), [], { frames := 12, cells := 2, slots := 12, locals := 444 })
theorem mb_X8_parseSetup : SB m_X8_parseSetup 1 := ⟨gm 525 (by decide +kernel) rfl, gm 153 (by decide +kernel) rfl, by decide +kernel, by decide +kernel⟩
theorem mi_X8_parseSetup : SI m_X8_parseSetup := ⟨gm 523 (by decide +kernel) rfl, gm 524 (by decide +kernel) rfl⟩
abbrev m_X8_parseErrorCode : JM := (yX8_parseErrorCode, cX8_parseErrorCode, 1, (some .int), [], { frames := 0, cells := 0, slots := 0, locals := 0 })
theorem mb_X8_parseErrorCode : SB m_X8_parseErrorCode 0 := ⟨gm 504 (by decide +kernel) rfl, gm 153 (by decide +kernel) rfl, by decide +kernel, by decide +kernel⟩
theorem mi_X8_parseErrorCode : SI m_X8_parseErrorCode := ⟨gm 502 (by decide +kernel) rfl, gm 503 (by decide +kernel) rfl⟩
abbrev m_X8_parseErrorPosition : JM := (yX8_parseErrorPosition, cX8_parseErrorPosition, 1, (some .int), [], { frames := 0, cells := 0, slots := 0, locals := 0 })
theorem mb_X8_parseErrorPosition : SB m_X8_parseErrorPosition 0 := ⟨gm 508 (by decide +kernel) rfl, gm 153 (by decide +kernel) rfl, by decide +kernel, by decide +kernel⟩
theorem mi_X8_parseErrorPosition : SI m_X8_parseErrorPosition := ⟨gm 506 (by decide +kernel) rfl, gm 507 (by decide +kernel) rfl⟩
abbrev m_X8_bufferLength : JM := (yX8_bufferLength, cX8_bufferLength, 1, (some .int), [], { frames := 0, cells := 0, slots := 0, locals := 0 })
theorem mb_X8_bufferLength : SB m_X8_bufferLength 0 := ⟨gm 512 (by decide +kernel) rfl, gm 153 (by decide +kernel) rfl, by decide +kernel, by decide +kernel⟩
theorem mi_X8_bufferLength : SI m_X8_bufferLength := ⟨gm 510 (by decide +kernel) rfl, gm 511 (by decide +kernel) rfl⟩
abbrev m_X8_harnessCount : JM := (yX8_harnessCount, cX8_harnessCount, 1, (some .int), [], { frames := 7, cells := 1, slots := 6, locals := 259 })
theorem mb_X8_harnessCount : SB m_X8_harnessCount 0 := ⟨gm 996 (by decide +kernel) rfl, gm 153 (by decide +kernel) rfl, by decide +kernel, by decide +kernel⟩
theorem mi_X8_harnessCount : SI m_X8_harnessCount := ⟨gm 994 (by decide +kernel) rfl, gm 995 (by decide +kernel) rfl⟩
abbrev m_X8_warpCount : JM := (yX8_warpCount, cX8_warpCount, 1, (some .int), [], { frames := 7, cells := 1, slots := 6, locals := 259 })
theorem mb_X8_warpCount : SB m_X8_warpCount 0 := ⟨gm 1023 (by decide +kernel) rfl, gm 153 (by decide +kernel) rfl, by decide +kernel, by decide +kernel⟩
theorem mi_X8_warpCount : SI m_X8_warpCount := ⟨gm 1021 (by decide +kernel) rfl, gm 1022 (by decide +kernel) rfl⟩
abbrev m_X8_warpHarness : JM := (yX8_warpHarness, cX8_warpHarness, 2, (some .int), [], { frames := 8, cells := 2, slots := 12, locals := 296 })
theorem mb_X8_warpHarness : SB m_X8_warpHarness 1 := ⟨gm 1030 (by decide +kernel) rfl, gm 153 (by decide +kernel) rfl, by decide +kernel, by decide +kernel⟩
theorem mi_X8_warpHarness : SI m_X8_warpHarness := ⟨gm 1028 (by decide +kernel) rfl, gm 1029 (by decide +kernel) rfl⟩
abbrev m_X8_warpColour : JM := (yX8_warpColour, cX8_warpColour, 2, (some .int), [], { frames := 8, cells := 2, slots := 12, locals := 296 })
theorem mb_X8_warpColour : SB m_X8_warpColour 1 := ⟨gm 1046 (by decide +kernel) rfl, gm 153 (by decide +kernel) rfl, by decide +kernel, by decide +kernel⟩
theorem mi_X8_warpColour : SI m_X8_warpColour := ⟨gm 1044 (by decide +kernel) rfl, gm 1045 (by decide +kernel) rfl⟩
abbrev m_X8_warpsOn : JM := (yX8_warpsOn, cX8_warpsOn, 2, (some .int), [], { frames := 8, cells := 2, slots := 12, locals := 296 })
theorem mb_X8_warpsOn : SB m_X8_warpsOn 1 := ⟨gm 1053 (by decide +kernel) rfl, gm 153 (by decide +kernel) rfl, by decide +kernel, by decide +kernel⟩
theorem mi_X8_warpsOn : SI m_X8_warpsOn := ⟨gm 1051 (by decide +kernel) rfl, gm 1052 (by decide +kernel) rfl⟩
abbrev m_X8_isBroken : JM := (yX8_isBroken, cX8_isBroken, 2, (some .boolean), [], { frames := 8, cells := 2, slots := 12, locals := 296 })
theorem mb_X8_isBroken : SB m_X8_isBroken 1 := ⟨gm 1066 (by decide +kernel) rfl, gm 153 (by decide +kernel) rfl, by decide +kernel, by decide +kernel⟩
theorem mi_X8_isBroken : SI m_X8_isBroken := ⟨gm 1064 (by decide +kernel) rfl, gm 1065 (by decide +kernel) rfl⟩
abbrev m_X8_brokenCount : JM := (yX8_brokenCount, cX8_brokenCount, 1, (some .int), [], { frames := 7, cells := 1, slots := 6, locals := 259 })
theorem mb_X8_brokenCount : SB m_X8_brokenCount 0 := ⟨gm 1074 (by decide +kernel) rfl, gm 153 (by decide +kernel) rfl, by decide +kernel, by decide +kernel⟩
theorem mi_X8_brokenCount : SI m_X8_brokenCount := ⟨gm 1072 (by decide +kernel) rfl, gm 1073 (by decide +kernel) rfl⟩
abbrev m_X8_isLifted : JM := (yX8_isLifted, cX8_isLifted, 2, (some .boolean), [], { frames := 8, cells := 2, slots := 12, locals := 296 })
theorem mb_X8_isLifted : SB m_X8_isLifted 1 := ⟨gm 1081 (by decide +kernel) rfl, gm 153 (by decide +kernel) rfl, by decide +kernel, by decide +kernel⟩
theorem mi_X8_isLifted : SI m_X8_isLifted := ⟨gm 1079 (by decide +kernel) rfl, gm 1080 (by decide +kernel) rfl⟩
abbrev m_X8_wear : JM := (yX8_wear, cX8_wear, 2, (some .int), [], { frames := 8, cells := 2, slots := 12, locals := 296 })
theorem mb_X8_wear : SB m_X8_wear 1 := ⟨gm 1088 (by decide +kernel) rfl, gm 153 (by decide +kernel) rfl, by decide +kernel, by decide +kernel⟩
theorem mi_X8_wear : SI m_X8_wear := ⟨gm 1086 (by decide +kernel) rfl, gm 1087 (by decide +kernel) rfl⟩
abbrev m_X8_isStuck : JM := (yX8_isStuck, cX8_isStuck, 2, (some .boolean), [], { frames := 8, cells := 2, slots := 12, locals := 296 })
theorem mb_X8_isStuck : SB m_X8_isStuck 1 := ⟨gm 1095 (by decide +kernel) rfl, gm 153 (by decide +kernel) rfl, by decide +kernel, by decide +kernel⟩
theorem mi_X8_isStuck : SI m_X8_isStuck := ⟨gm 1093 (by decide +kernel) rfl, gm 1094 (by decide +kernel) rfl⟩
abbrev m_X8_cardCount : JM := (yX8_cardCount, cX8_cardCount, 1, (some .int), [], { frames := 7, cells := 1, slots := 6, locals := 259 })
theorem mb_X8_cardCount : SB m_X8_cardCount 0 := ⟨gm 1102 (by decide +kernel) rfl, gm 153 (by decide +kernel) rfl, by decide +kernel, by decide +kernel⟩
theorem mi_X8_cardCount : SI m_X8_cardCount := ⟨gm 1100 (by decide +kernel) rfl, gm 1101 (by decide +kernel) rfl⟩
abbrev m_X8_lifts : JM := (yX8_lifts, cX8_lifts, 3, (some .boolean), [], { frames := 8, cells := 4, slots := 24, locals := 296 })
theorem mb_X8_lifts : SB m_X8_lifts 2 := ⟨gm 1109 (by decide +kernel) rfl, gm 153 (by decide +kernel) rfl, by decide +kernel, by decide +kernel⟩
theorem mi_X8_lifts : SI m_X8_lifts := ⟨gm 1107 (by decide +kernel) rfl, gm 1108 (by decide +kernel) rfl⟩
abbrev m_X8_cardColour : JM := (yX8_cardColour, cX8_cardColour, 2, (some .int), [], { frames := 8, cells := 2, slots := 12, locals := 296 })
theorem mb_X8_cardColour : SB m_X8_cardColour 1 := ⟨gm 1120 (by decide +kernel) rfl, gm 153 (by decide +kernel) rfl, by decide +kernel, by decide +kernel⟩
theorem mi_X8_cardColour : SI m_X8_cardColour := ⟨gm 1118 (by decide +kernel) rfl, gm 1119 (by decide +kernel) rfl⟩
abbrev m_X8_liftedWarps : JM := (yX8_liftedWarps, cX8_liftedWarps, 2, (some .int), [], { frames := 8, cells := 2, slots := 12, locals := 296 })
theorem mb_X8_liftedWarps : SB m_X8_liftedWarps 1 := ⟨gm 1127 (by decide +kernel) rfl, gm 153 (by decide +kernel) rfl, by decide +kernel, by decide +kernel⟩
theorem mi_X8_liftedWarps : SI m_X8_liftedWarps := ⟨gm 1125 (by decide +kernel) rfl, gm 1126 (by decide +kernel) rfl⟩
abbrev m_X8_liftDistance : JM := (yX8_liftDistance, cX8_liftDistance, 3, (some .int), [], { frames := 8, cells := 4, slots := 24, locals := 296 })
theorem mb_X8_liftDistance : SB m_X8_liftDistance 2 := ⟨gm 1134 (by decide +kernel) rfl, gm 153 (by decide +kernel) rfl, by decide +kernel, by decide +kernel⟩
theorem mi_X8_liftDistance : SI m_X8_liftDistance := ⟨gm 1132 (by decide +kernel) rfl, gm 1133 (by decide +kernel) rfl⟩
abbrev m_X8_oppositeCard : JM := (yX8_oppositeCard, cX8_oppositeCard, 4, (some .int), [], { frames := 8, cells := 2, slots := 12, locals := 296 })
theorem mb_X8_oppositeCard : SB m_X8_oppositeCard 1 := ⟨gm 1141 (by decide +kernel) rfl, gm 153 (by decide +kernel) rfl, by decide +kernel, by decide +kernel⟩
theorem mi_X8_oppositeCard : SI m_X8_oppositeCard := ⟨gm 1139 (by decide +kernel) rfl, gm 1140 (by decide +kernel) rfl⟩
abbrev m_X8_deckLength : JM := (yX8_deckLength, cX8_deckLength, 1, (some .int), [], { frames := 7, cells := 1, slots := 6, locals := 259 })
theorem mb_X8_deckLength : SB m_X8_deckLength 0 := ⟨gm 1149 (by decide +kernel) rfl, gm 153 (by decide +kernel) rfl, by decide +kernel, by decide +kernel⟩
theorem mi_X8_deckLength : SI m_X8_deckLength := ⟨gm 1147 (by decide +kernel) rfl, gm 1148 (by decide +kernel) rfl⟩
abbrev m_X8_deckCard : JM := (yX8_deckCard, cX8_deckCard, 2, (some .int), [], { frames := 7, cells := 2, slots := 12, locals := 259 })
theorem mb_X8_deckCard : SB m_X8_deckCard 1 := ⟨gm 1156 (by decide +kernel) rfl, gm 153 (by decide +kernel) rfl, by decide +kernel, by decide +kernel⟩
theorem mi_X8_deckCard : SI m_X8_deckCard := ⟨gm 1154 (by decide +kernel) rfl, gm 1155 (by decide +kernel) rfl⟩
abbrev m_X8_cardUses : JM := (yX8_cardUses, cX8_cardUses, 2, (some .int), [], { frames := 8, cells := 2, slots := 12, locals := 296 })
theorem mb_X8_cardUses : SB m_X8_cardUses 1 := ⟨gm 1163 (by decide +kernel) rfl, gm 153 (by decide +kernel) rfl, by decide +kernel, by decide +kernel⟩
theorem mi_X8_cardUses : SI m_X8_cardUses := ⟨gm 1161 (by decide +kernel) rfl, gm 1162 (by decide +kernel) rfl⟩
abbrev m_X8_deckDepth : JM := (yX8_deckDepth, cX8_deckDepth, 1, (some .int), [], { frames := 7, cells := 1, slots := 6, locals := 259 })
theorem mb_X8_deckDepth : SB m_X8_deckDepth 0 := ⟨gm 1174 (by decide +kernel) rfl, gm 153 (by decide +kernel) rfl, by decide +kernel, by decide +kernel⟩
theorem mi_X8_deckDepth : SI m_X8_deckDepth := ⟨gm 1172 (by decide +kernel) rfl, gm 1173 (by decide +kernel) rfl⟩
abbrev m_X8_deckPeriod : JM := (yX8_deckPeriod, cX8_deckPeriod, 1, (some .int), [], { frames := 7, cells := 1, slots := 6, locals := 259 })
theorem mb_X8_deckPeriod : SB m_X8_deckPeriod 0 := ⟨gm 1181 (by decide +kernel) rfl, gm 153 (by decide +kernel) rfl, by decide +kernel, by decide +kernel⟩
theorem mi_X8_deckPeriod : SI m_X8_deckPeriod := ⟨gm 1179 (by decide +kernel) rfl, gm 1180 (by decide +kernel) rfl⟩
abbrev m_X8_isPalindrome : JM := (yX8_isPalindrome, cX8_isPalindrome, 1, (some .boolean), [], { frames := 7, cells := 1, slots := 6, locals := 259 })
theorem mb_X8_isPalindrome : SB m_X8_isPalindrome 0 := ⟨gm 1196 (by decide +kernel) rfl, gm 153 (by decide +kernel) rfl, by decide +kernel, by decide +kernel⟩
theorem mi_X8_isPalindrome : SI m_X8_isPalindrome := ⟨gm 1194 (by decide +kernel) rfl, gm 1195 (by decide +kernel) rfl⟩
abbrev m_X8_rowCount : JM := (yX8_rowCount, cX8_rowCount, 1, (some .int), [], { frames := 7, cells := 1, slots := 6, locals := 259 })
theorem mb_X8_rowCount : SB m_X8_rowCount 0 := ⟨gm 1207 (by decide +kernel) rfl, gm 153 (by decide +kernel) rfl, by decide +kernel, by decide +kernel⟩
theorem mi_X8_rowCount : SI m_X8_rowCount := ⟨gm 1205 (by decide +kernel) rfl, gm 1206 (by decide +kernel) rfl⟩
abbrev m_X8_cellColour : JM := (yX8_cellColour, cX8_cellColour, 3, (some .int), [], { frames := 8, cells := 4, slots := 24, locals := 296 })
theorem mb_X8_cellColour : SB m_X8_cellColour 2 := ⟨gm 1214 (by decide +kernel) rfl, gm 153 (by decide +kernel) rfl, by decide +kernel, by decide +kernel⟩
theorem mi_X8_cellColour : SI m_X8_cellColour := ⟨gm 1212 (by decide +kernel) rfl, gm 1213 (by decide +kernel) rfl⟩
abbrev m_X8_showsWarp : JM := (yX8_showsWarp, cX8_showsWarp, 3, (some .boolean), [], { frames := 8, cells := 4, slots := 24, locals := 296 })
theorem mb_X8_showsWarp : SB m_X8_showsWarp 2 := ⟨gm 1229 (by decide +kernel) rfl, gm 153 (by decide +kernel) rfl, by decide +kernel, by decide +kernel⟩
theorem mi_X8_showsWarp : SI m_X8_showsWarp := ⟨gm 1227 (by decide +kernel) rfl, gm 1228 (by decide +kernel) rfl⟩
abbrev m_X8_longestWarpFloat : JM := (yX8_longestWarpFloat, cX8_longestWarpFloat, 2, (some .int), [], { frames := 8, cells := 2, slots := 12, locals := 296 })
theorem mb_X8_longestWarpFloat : SB m_X8_longestWarpFloat 1 := ⟨gm 1236 (by decide +kernel) rfl, gm 153 (by decide +kernel) rfl, by decide +kernel, by decide +kernel⟩
theorem mi_X8_longestWarpFloat : SI m_X8_longestWarpFloat := ⟨gm 1234 (by decide +kernel) rfl, gm 1235 (by decide +kernel) rfl⟩
abbrev m_X8_longestWeftFloat : JM := (yX8_longestWeftFloat, cX8_longestWeftFloat, 2, (some .int), [], { frames := 8, cells := 2, slots := 12, locals := 296 })
theorem mb_X8_longestWeftFloat : SB m_X8_longestWeftFloat 1 := ⟨gm 1248 (by decide +kernel) rfl, gm 153 (by decide +kernel) rfl, by decide +kernel, by decide +kernel⟩
theorem mi_X8_longestWeftFloat : SI m_X8_longestWeftFloat := ⟨gm 1246 (by decide +kernel) rfl, gm 1247 (by decide +kernel) rfl⟩
abbrev m_X8_cellsOfColour : JM := (yX8_cellsOfColour, cX8_cellsOfColour, 2, (some .int), [], { frames := 8, cells := 2, slots := 12, locals := 296 })
theorem mb_X8_cellsOfColour : SB m_X8_cellsOfColour 1 := ⟨gm 1259 (by decide +kernel) rfl, gm 153 (by decide +kernel) rfl, by decide +kernel, by decide +kernel⟩
theorem mi_X8_cellsOfColour : SI m_X8_cellsOfColour := ⟨gm 1257 (by decide +kernel) rfl, gm 1258 (by decide +kernel) rfl⟩
abbrev m_X8_rowPeriod : JM := (yX8_rowPeriod, cX8_rowPeriod, 1, (some .int), [], { frames := 7, cells := 1, slots := 6, locals := 259 })
theorem mb_X8_rowPeriod : SB m_X8_rowPeriod 0 := ⟨gm 1279 (by decide +kernel) rfl, gm 153 (by decide +kernel) rfl, by decide +kernel, by decide +kernel⟩
theorem mi_X8_rowPeriod : SI m_X8_rowPeriod := ⟨gm 1277 (by decide +kernel) rfl, gm 1278 (by decide +kernel) rfl⟩
abbrev m_X8_warpShare : JM := (yX8_warpShare, cX8_warpShare, 2, (some .float), [], { frames := 7, cells := 1, slots := 6, locals := 259 })
theorem mb_X8_warpShare : SB m_X8_warpShare 0 := ⟨gm 1294 (by decide +kernel) rfl, gm 153 (by decide +kernel) rfl, by decide +kernel, by decide +kernel⟩
theorem mi_X8_warpShare : SI m_X8_warpShare := ⟨gm 1292 (by decide +kernel) rfl, gm 1293 (by decide +kernel) rfl⟩
abbrev m_X8_averageLifts : JM := (yX8_averageLifts, cX8_averageLifts, 4, (some .double), [], { frames := 7, cells := 1, slots := 6, locals := 259 })
theorem mb_X8_averageLifts : SB m_X8_averageLifts 0 := ⟨gm 1309 (by decide +kernel) rfl, gm 153 (by decide +kernel) rfl, by decide +kernel, by decide +kernel⟩
theorem mi_X8_averageLifts : SI m_X8_averageLifts := ⟨gm 1307 (by decide +kernel) rfl, gm 1308 (by decide +kernel) rfl⟩
abbrev m_X8_isWrong : JM := (yX8_isWrong, cX8_isWrong, 2, (some .boolean), [], { frames := 8, cells := 2, slots := 12, locals := 296 })
theorem mb_X8_isWrong : SB m_X8_isWrong 1 := ⟨gm 1316 (by decide +kernel) rfl, gm 153 (by decide +kernel) rfl, by decide +kernel, by decide +kernel⟩
theorem mi_X8_isWrong : SI m_X8_isWrong := ⟨gm 1314 (by decide +kernel) rfl, gm 1315 (by decide +kernel) rfl⟩
abbrev m_X8_wrongCount : JM := (yX8_wrongCount, cX8_wrongCount, 1, (some .int), [], { frames := 7, cells := 1, slots := 6, locals := 259 })
theorem mb_X8_wrongCount : SB m_X8_wrongCount 0 := ⟨gm 1331 (by decide +kernel) rfl, gm 153 (by decide +kernel) rfl, by decide +kernel, by decide +kernel⟩
theorem mi_X8_wrongCount : SI m_X8_wrongCount := ⟨gm 1329 (by decide +kernel) rfl, gm 1330 (by decide +kernel) rfl⟩
abbrev m_X8_firstWrongRow : JM := (yX8_firstWrongRow, cX8_firstWrongRow, 1, (some .int), [], { frames := 7, cells := 1, slots := 6, locals := 259 })
theorem mb_X8_firstWrongRow : SB m_X8_firstWrongRow 0 := ⟨gm 1343 (by decide +kernel) rfl, gm 153 (by decide +kernel) rfl, by decide +kernel, by decide +kernel⟩
theorem mi_X8_firstWrongRow : SI m_X8_firstWrongRow := ⟨gm 1341 (by decide +kernel) rfl, gm 1342 (by decide +kernel) rfl⟩
abbrev m_X8_swapFirst : JM := (yX8_swapFirst, cX8_swapFirst, 2, (some .int), [], { frames := 7, cells := 1, slots := 6, locals := 259 })
theorem mb_X8_swapFirst : SB m_X8_swapFirst 0 := ⟨gm 1354 (by decide +kernel) rfl, gm 153 (by decide +kernel) rfl, by decide +kernel, by decide +kernel⟩
theorem mi_X8_swapFirst : SI m_X8_swapFirst := ⟨gm 1352 (by decide +kernel) rfl, gm 1353 (by decide +kernel) rfl⟩
abbrev m_X8_swapSecond : JM := (yX8_swapSecond, cX8_swapSecond, 2, (some .int), [], { frames := 7, cells := 1, slots := 6, locals := 259 })
theorem mb_X8_swapSecond : SB m_X8_swapSecond 0 := ⟨gm 1370 (by decide +kernel) rfl, gm 153 (by decide +kernel) rfl, by decide +kernel, by decide +kernel⟩
theorem mi_X8_swapSecond : SI m_X8_swapSecond := ⟨gm 1368 (by decide +kernel) rfl, gm 1369 (by decide +kernel) rfl⟩
abbrev m_X8_yarn : JM := (yX8_yarn, cX8_yarn, 2, (some .int), [], { frames := 8, cells := 2, slots := 12, locals := 296 })
theorem mb_X8_yarn : SB m_X8_yarn 1 := ⟨gm 1377 (by decide +kernel) rfl, gm 153 (by decide +kernel) rfl, by decide +kernel, by decide +kernel⟩
theorem mi_X8_yarn : SI m_X8_yarn := ⟨gm 1375 (by decide +kernel) rfl, gm 1376 (by decide +kernel) rfl⟩
abbrev m_X8_yarnNeeded : JM := (yX8_yarnNeeded, cX8_yarnNeeded, 2, (some .int), [], { frames := 8, cells := 2, slots := 12, locals := 296 })
theorem mb_X8_yarnNeeded : SB m_X8_yarnNeeded 1 := ⟨gm 1384 (by decide +kernel) rfl, gm 153 (by decide +kernel) rfl, by decide +kernel, by decide +kernel⟩
theorem mi_X8_yarnNeeded : SI m_X8_yarnNeeded := ⟨gm 1382 (by decide +kernel) rfl, gm 1383 (by decide +kernel) rfl⟩
abbrev m_X8_nextCard : JM := (yX8_nextCard, cX8_nextCard, 1, (some .int), [], { frames := 7, cells := 1, slots := 6, locals := 259 })
theorem mb_X8_nextCard : SB m_X8_nextCard 0 := ⟨gm 1395 (by decide +kernel) rfl, gm 153 (by decide +kernel) rfl, by decide +kernel, by decide +kernel⟩
theorem mi_X8_nextCard : SI m_X8_nextCard := ⟨gm 1393 (by decide +kernel) rfl, gm 1394 (by decide +kernel) rfl⟩
abbrev m_X8_weaveObstacle : JM := (yX8_weaveObstacle, cX8_weaveObstacle, 1, (some .int), [], { frames := 7, cells := 1, slots := 6, locals := 259 })
theorem mb_X8_weaveObstacle : SB m_X8_weaveObstacle 0 := ⟨gm 1403 (by decide +kernel) rfl, gm 153 (by decide +kernel) rfl, by decide +kernel, by decide +kernel⟩
theorem mi_X8_weaveObstacle : SI m_X8_weaveObstacle := ⟨gm 1401 (by decide +kernel) rfl, gm 1402 (by decide +kernel) rfl⟩
abbrev m_X8_picksPossible : JM := (yX8_picksPossible, cX8_picksPossible, 1, (some .int), [], { frames := 7, cells := 1, slots := 6, locals := 259 })
theorem mb_X8_picksPossible : SB m_X8_picksPossible 0 := ⟨gm 1411 (by decide +kernel) rfl, gm 153 (by decide +kernel) rfl, by decide +kernel, by decide +kernel⟩
theorem mi_X8_picksPossible : SI m_X8_picksPossible := ⟨gm 1409 (by decide +kernel) rfl, gm 1410 (by decide +kernel) rfl⟩
abbrev m_X8_picksUntilStuck : JM := (yX8_picksUntilStuck, cX8_picksUntilStuck, 2, (some .int), [], { frames := 7, cells := 1, slots := 6, locals := 259 })
theorem mb_X8_picksUntilStuck : SB m_X8_picksUntilStuck 0 := ⟨gm 1430 (by decide +kernel) rfl, gm 153 (by decide +kernel) rfl, by decide +kernel, by decide +kernel⟩
theorem mi_X8_picksUntilStuck : SI m_X8_picksUntilStuck := ⟨gm 1428 (by decide +kernel) rfl, gm 1429 (by decide +kernel) rfl⟩
abbrev m_X8_imbalance : JM := (yX8_imbalance, cX8_imbalance, 3, (some .int), [], { frames := 7, cells := 1, slots := 6, locals := 259 })
theorem mb_X8_imbalance : SB m_X8_imbalance 0 := ⟨gm 1437 (by decide +kernel) rfl, gm 153 (by decide +kernel) rfl, by decide +kernel, by decide +kernel⟩
theorem mi_X8_imbalance : SI m_X8_imbalance := ⟨gm 1435 (by decide +kernel) rfl, gm 1436 (by decide +kernel) rfl⟩
abbrev m_X8_writeRow : JM := (yX8_writeRow, cX8_writeRow, 4, (some .int), [], { frames := 8, cells := 2, slots := 12, locals := 296 })
theorem mb_X8_writeRow : SB m_X8_writeRow 1 := ⟨gm 1451 (by decide +kernel) rfl, gm 153 (by decide +kernel) rfl, by decide +kernel, by decide +kernel⟩
theorem mi_X8_writeRow : SI m_X8_writeRow := ⟨gm 1449 (by decide +kernel) rfl, gm 1450 (by decide +kernel) rfl⟩
abbrev m_X8_writeCard : JM := (yX8_writeCard, cX8_writeCard, 3, (some .int), [], { frames := 8, cells := 2, slots := 12, locals := 296 })
theorem mb_X8_writeCard : SB m_X8_writeCard 1 := ⟨gm 1463 (by decide +kernel) rfl, gm 153 (by decide +kernel) rfl, by decide +kernel, by decide +kernel⟩
theorem mi_X8_writeCard : SI m_X8_writeCard := ⟨gm 1461 (by decide +kernel) rfl, gm 1462 (by decide +kernel) rfl⟩
abbrev m_X8_writeDeck : JM := (yX8_writeDeck, cX8_writeDeck, 1, (some .int), [], { frames := 7, cells := 1, slots := 6, locals := 259 })
theorem mb_X8_writeDeck : SB m_X8_writeDeck 0 := ⟨gm 1470 (by decide +kernel) rfl, gm 153 (by decide +kernel) rfl, by decide +kernel, by decide +kernel⟩
theorem mi_X8_writeDeck : SI m_X8_writeDeck := ⟨gm 1468 (by decide +kernel) rfl, gm 1469 (by decide +kernel) rfl⟩
abbrev m_X8_outputByte : JM := (yX8_outputByte, cX8_outputByte, 2, (some .int), [], { frames := 7, cells := 1, slots := 6, locals := 259 })
theorem mb_X8_outputByte : SB m_X8_outputByte 1 := ⟨gm 1498 (by decide +kernel) rfl, gm 153 (by decide +kernel) rfl, by decide +kernel, by decide +kernel⟩
theorem mi_X8_outputByte : SI m_X8_outputByte := ⟨gm 1496 (by decide +kernel) rfl, gm 1497 (by decide +kernel) rfl⟩
abbrev m_X8_weave : JM := (yX8_weave, cX8_weave, 2, (some .int), [], { frames := 7, cells := 2, slots := 12, locals := 259 })
theorem mb_X8_weave : SB m_X8_weave 1 := ⟨gm 1505 (by decide +kernel) rfl, gm 153 (by decide +kernel) rfl, by decide +kernel, by decide +kernel⟩
theorem mi_X8_weave : SI m_X8_weave := ⟨gm 1503 (by decide +kernel) rfl, gm 1504 (by decide +kernel) rfl⟩
abbrev m_X8_unweave : JM := (yX8_unweave, cX8_unweave, 2, (some .int), [], { frames := 7, cells := 2, slots := 12, locals := 259 })
theorem mb_X8_unweave : SB m_X8_unweave 1 := ⟨gm 1522 (by decide +kernel) rfl, gm 153 (by decide +kernel) rfl, by decide +kernel, by decide +kernel⟩
theorem mi_X8_unweave : SI m_X8_unweave := ⟨gm 1520 (by decide +kernel) rfl, gm 1521 (by decide +kernel) rfl⟩
abbrev m_X8_swapCards : JM := (yX8_swapCards, cX8_swapCards, 4, (some .int), [], { frames := 8, cells := 4, slots := 24, locals := 296 })
theorem mb_X8_swapCards : SB m_X8_swapCards 2 := ⟨gm 1530 (by decide +kernel) rfl, gm 153 (by decide +kernel) rfl, by decide +kernel, by decide +kernel⟩
theorem mi_X8_swapCards : SI m_X8_swapCards := ⟨gm 1528 (by decide +kernel) rfl, gm 1529 (by decide +kernel) rfl⟩
abbrev m_X8_punch : JM := (yX8_punch, cX8_punch, 3, (some .boolean), [], { frames := 8, cells := 4, slots := 24, locals := 296 })
theorem mb_X8_punch : SB m_X8_punch 2 := ⟨gm 1538 (by decide +kernel) rfl, gm 153 (by decide +kernel) rfl, by decide +kernel, by decide +kernel⟩
theorem mi_X8_punch : SI m_X8_punch := ⟨gm 1536 (by decide +kernel) rfl, gm 1537 (by decide +kernel) rfl⟩
abbrev m_X8_setCardColour : JM := (yX8_setCardColour, cX8_setCardColour, 4, (some .int), [], { frames := 8, cells := 4, slots := 24, locals := 296 })
theorem mb_X8_setCardColour : SB m_X8_setCardColour 2 := ⟨gm 1546 (by decide +kernel) rfl, gm 153 (by decide +kernel) rfl, by decide +kernel, by decide +kernel⟩
theorem mi_X8_setCardColour : SI m_X8_setCardColour := ⟨gm 1544 (by decide +kernel) rfl, gm 1545 (by decide +kernel) rfl⟩
abbrev m_X8_bringYarn : JM := (yX8_bringYarn, cX8_bringYarn, 3, (some .int), [], { frames := 8, cells := 3, slots := 18, locals := 296 })
theorem mb_X8_bringYarn : SB m_X8_bringYarn 2 := ⟨gm 1554 (by decide +kernel) rfl, gm 153 (by decide +kernel) rfl, by decide +kernel, by decide +kernel⟩
theorem mi_X8_bringYarn : SI m_X8_bringYarn := ⟨gm 1552 (by decide +kernel) rfl, gm 1553 (by decide +kernel) rfl⟩
abbrev m_X8_oil : JM := (yX8_oil, cX8_oil, 3, (some .int), [], { frames := 8, cells := 2, slots := 12, locals := 296 })
theorem mb_X8_oil : SB m_X8_oil 1 := ⟨gm 1562 (by decide +kernel) rfl, gm 153 (by decide +kernel) rfl, by decide +kernel, by decide +kernel⟩
theorem mi_X8_oil : SI m_X8_oil := ⟨gm 1560 (by decide +kernel) rfl, gm 1561 (by decide +kernel) rfl⟩
abbrev m_X8_mend : JM := (yX8_mend, cX8_mend, 2, (some .int), [], { frames := 8, cells := 3, slots := 18, locals := 296 })
theorem mb_X8_mend : SB m_X8_mend 1 := ⟨gm 1570 (by decide +kernel) rfl, gm 153 (by decide +kernel) rfl, by decide +kernel, by decide +kernel⟩
theorem mi_X8_mend : SI m_X8_mend := ⟨gm 1568 (by decide +kernel) rfl, gm 1569 (by decide +kernel) rfl⟩
abbrev m_X8_undo : JM := (yX8_undo, cX8_undo, 1, (some .int), [], { frames := 6, cells := 1, slots := 6, locals := 222 })
theorem mb_X8_undo : SB m_X8_undo 0 := ⟨gm 1579 (by decide +kernel) rfl, gm 153 (by decide +kernel) rfl, by decide +kernel, by decide +kernel⟩
theorem mi_X8_undo : SI m_X8_undo := ⟨gm 1577 (by decide +kernel) rfl, gm 1578 (by decide +kernel) rfl⟩
abbrev m_X8_undoCount : JM := (yX8_undoCount, cX8_undoCount, 1, (some .int), [], { frames := 0, cells := 0, slots := 0, locals := 0 })
theorem mb_X8_undoCount : SB m_X8_undoCount 0 := ⟨gm 516 (by decide +kernel) rfl, gm 153 (by decide +kernel) rfl, by decide +kernel, by decide +kernel⟩
theorem mi_X8_undoCount : SI m_X8_undoCount := ⟨gm 514 (by decide +kernel) rfl, gm 515 (by decide +kernel) rfl⟩
abbrev m_X8_saveState : JM := (yX8_saveState, cX8_saveState, 3, (some .int), [], { frames := 7, cells := 2, slots := 12, locals := 259 })
theorem mb_X8_saveState : SB m_X8_saveState 1 := ⟨gm 1591 (by decide +kernel) rfl, gm 153 (by decide +kernel) rfl, by decide +kernel, by decide +kernel⟩
theorem mi_X8_saveState : SI m_X8_saveState := ⟨gm 1589 (by decide +kernel) rfl, gm 1590 (by decide +kernel) rfl⟩
abbrev m_X8_restoreState : JM := (yX8_restoreState, cX8_restoreState, 3, (some .int), [], { frames := 7, cells := 2, slots := 12, locals := 259 })
theorem mb_X8_restoreState : SB m_X8_restoreState 1 := ⟨gm 1598 (by decide +kernel) rfl, gm 153 (by decide +kernel) rfl, by decide +kernel, by decide +kernel⟩
theorem mi_X8_restoreState : SI m_X8_restoreState := ⟨gm 1596 (by decide +kernel) rfl, gm 1597 (by decide +kernel) rfl⟩
abbrev m_X8_requireLoaded : JM := (yX8_requireLoaded, cX8_requireLoaded, 1, none, [], { frames := 6, cells := 1, slots := 6, locals := 222 })
theorem mb_X8_requireLoaded : SB m_X8_requireLoaded 0 := ⟨gm 1000 (by decide +kernel) rfl, gm 153 (by decide +kernel) rfl, by decide +kernel, by decide +kernel⟩
theorem mi_X8_requireLoaded : SI m_X8_requireLoaded := ⟨gm 999 (by decide +kernel) rfl, gm 38 (by decide +kernel) rfl⟩
abbrev m_X8_requireWarp : JM := (yX8_requireWarp, cX8_requireWarp, 2, none, [], { frames := 7, cells := 2, slots := 12, locals := 259 })
theorem mb_X8_requireWarp : SB m_X8_requireWarp 1 := ⟨gm 1034 (by decide +kernel) rfl, gm 153 (by decide +kernel) rfl, by decide +kernel, by decide +kernel⟩
theorem mi_X8_requireWarp : SI m_X8_requireWarp := ⟨gm 1033 (by decide +kernel) rfl, gm 39 (by decide +kernel) rfl⟩
abbrev m_X8_requireHarness : JM := (yX8_requireHarness, cX8_requireHarness, 2, none, [], { frames := 7, cells := 2, slots := 12, locals := 259 })
theorem mb_X8_requireHarness : SB m_X8_requireHarness 1 := ⟨gm 1057 (by decide +kernel) rfl, gm 153 (by decide +kernel) rfl, by decide +kernel, by decide +kernel⟩
theorem mi_X8_requireHarness : SI m_X8_requireHarness := ⟨gm 1056 (by decide +kernel) rfl, gm 40 (by decide +kernel) rfl⟩
abbrev m_X8_requireCard : JM := (yX8_requireCard, cX8_requireCard, 2, none, [], { frames := 7, cells := 2, slots := 12, locals := 259 })
theorem mb_X8_requireCard : SB m_X8_requireCard 1 := ⟨gm 1113 (by decide +kernel) rfl, gm 153 (by decide +kernel) rfl, by decide +kernel, by decide +kernel⟩
theorem mi_X8_requireCard : SI m_X8_requireCard := ⟨gm 1112 (by decide +kernel) rfl, gm 41 (by decide +kernel) rfl⟩
abbrev m_X8_requireRow : JM := (yX8_requireRow, cX8_requireRow, 2, none, [], { frames := 7, cells := 2, slots := 12, locals := 259 })
theorem mb_X8_requireRow : SB m_X8_requireRow 1 := ⟨gm 1218 (by decide +kernel) rfl, gm 153 (by decide +kernel) rfl, by decide +kernel, by decide +kernel⟩
theorem mi_X8_requireRow : SI m_X8_requireRow := ⟨gm 1217 (by decide +kernel) rfl, gm 43 (by decide +kernel) rfl⟩
abbrev m_X8_requireColour : JM := (yX8_requireColour, cX8_requireColour, 2, none, [], { frames := 7, cells := 2, slots := 12, locals := 259 })
theorem mb_X8_requireColour : SB m_X8_requireColour 1 := ⟨gm 1263 (by decide +kernel) rfl, gm 153 (by decide +kernel) rfl, by decide +kernel, by decide +kernel⟩
theorem mi_X8_requireColour : SI m_X8_requireColour := ⟨gm 1262 (by decide +kernel) rfl, gm 44 (by decide +kernel) rfl⟩
abbrev m_X8_requireIndex : JM := (yX8_requireIndex, cX8_requireIndex, 2, none, [], { frames := 6, cells := 1, slots := 6, locals := 222 })
theorem mb_X8_requireIndex : SB m_X8_requireIndex 2 := ⟨gm 1037 (by decide +kernel) rfl, gm 153 (by decide +kernel) rfl, by decide +kernel, by decide +kernel⟩
theorem ms_X8_requireIndex : SS m_X8_requireIndex := gm 1036 (by decide +kernel) rfl
abbrev m_X8_requireRange : JM := (yX8_requireRange, cX8_requireRange, 3, none, [], { frames := 6, cells := 1, slots := 6, locals := 222 })
theorem mb_X8_requireRange : SB m_X8_requireRange 3 := ⟨gm 1266 (by decide +kernel) rfl, gm 153 (by decide +kernel) rfl, by decide +kernel, by decide +kernel⟩
theorem ms_X8_requireRange : SS m_X8_requireRange := gm 1265 (by decide +kernel) rfl
abbrev m_X8_at : JM := (yX8_at, cX8_at, 2, (some .int), [], { frames := 0, cells := 0, slots := 0, locals := 0 })
theorem mb_X8_at : SB m_X8_at 2 := ⟨gm 626 (by decide +kernel) rfl, gm 153 (by decide +kernel) rfl, by decide +kernel, by decide +kernel⟩
theorem ms_X8_at : SS m_X8_at := gm 625 (by decide +kernel) rfl
abbrev m_X8_put : JM := (yX8_put, cX8_put, 3, none, [], { frames := 0, cells := 0, slots := 0, locals := 0 })
theorem mb_X8_put : SB m_X8_put 3 := ⟨gm 500 (by decide +kernel) rfl, gm 153 (by decide +kernel) rfl, by decide +kernel, by decide +kernel⟩
theorem ms_X8_put : SS m_X8_put := gm 499 (by decide +kernel) rfl
abbrev m_X8_copy : JM := (yX8_copy, cX8_copy, 2, none, [], { frames := 1, cells := 0, slots := 0, locals := 37 })
theorem mb_X8_copy : SB m_X8_copy 2 := ⟨gm 1418 (by decide +kernel) rfl, gm 153 (by decide +kernel) rfl, by decide +kernel, by decide +kernel⟩
theorem ms_X8_copy : SS m_X8_copy := gm 1417 (by decide +kernel) rfl
abbrev m_X8_has : JM := (yX8_has, cX8_has, 2, (some .boolean), [], { frames := 0, cells := 0, slots := 0, locals := 0 })
theorem mb_X8_has : SB m_X8_has 2 := ⟨gm 747 (by decide +kernel) rfl, gm 153 (by decide +kernel) rfl, by decide +kernel, by decide +kernel⟩
theorem ms_X8_has : SS m_X8_has := gm 746 (by decide +kernel) rfl
abbrev m_X9_init : JM := (yX9_init, cX9_init, 1, none, [], { frames := 1, cells := 10, slots := 26270, locals := 37 })
theorem mb_X9_init : SB m_X9_init 0 := ⟨gm 1604 (by decide +kernel) rfl, gm 162 (by decide +kernel) rfl, by decide +kernel, by decide +kernel⟩
theorem mc_X9_init : SC m_X9_init := ⟨gm 1603 (by decide +kernel) rfl, rfl, rfl⟩
abbrev m_X9_thrown : JM := (yX9_thrown, cX9_thrown, 1, (some .int), [], { frames := 0, cells := 0, slots := 0, locals := 0 })
theorem mb_X9_thrown : SB m_X9_thrown 0 := ⟨gm 1680 (by decide +kernel) rfl, gm 162 (by decide +kernel) rfl, by decide +kernel, by decide +kernel⟩
theorem mi_X9_thrown : SI m_X9_thrown := ⟨gm 1678 (by decide +kernel) rfl, gm 1679 (by decide +kernel) rfl⟩
abbrev m_X9_in : JM := (yX9_in, cX9_in, 3, (some .boolean), [], { frames := 0, cells := 0, slots := 0, locals := 0 })
theorem mb_X9_in : SB m_X9_in 3 := ⟨gm 1711 (by decide +kernel) rfl, gm 162 (by decide +kernel) rfl, by decide +kernel, by decide +kernel⟩
theorem ms_X9_in : SS m_X9_in := gm 1710 (by decide +kernel) rfl
abbrev m_X9_one : JM := (yX9_one, cX9_one, 1, (some .int), [], { frames := 0, cells := 0, slots := 0, locals := 0 })
theorem mb_X9_one : SB m_X9_one 1 := ⟨gm 1898 (by decide +kernel) rfl, gm 162 (by decide +kernel) rfl, by decide +kernel, by decide +kernel⟩
theorem ms_X9_one : SS m_X9_one := gm 1897 (by decide +kernel) rfl
abbrev m_X9_has : JM := (yX9_has, cX9_has, 2, (some .boolean), [], { frames := 0, cells := 0, slots := 0, locals := 0 })
theorem mb_X9_has : SB m_X9_has 2 := ⟨gm 1805 (by decide +kernel) rfl, gm 162 (by decide +kernel) rfl, by decide +kernel, by decide +kernel⟩
theorem ms_X9_has : SS m_X9_has := gm 1804 (by decide +kernel) rfl
abbrev m_X9_may : JM := (yX9_may, cX9_may, 4, (some .boolean), [], { frames := 0, cells := 0, slots := 0, locals := 0 })
theorem mb_X9_may : SB m_X9_may 3 := ⟨gm 1715 (by decide +kernel) rfl, gm 162 (by decide +kernel) rfl, by decide +kernel, by decide +kernel⟩
theorem mi_X9_may : SI m_X9_may := ⟨gm 1714 (by decide +kernel) rfl, gm 54 (by decide +kernel) rfl⟩
abbrev m_X9_mayTwo : JM := (yX9_mayTwo, cX9_mayTwo, 3, (some .boolean), [], { frames := 1, cells := 0, slots := 0, locals := 37 })
theorem mb_X9_mayTwo : SB m_X9_mayTwo 2 := ⟨gm 2050 (by decide +kernel) rfl, gm 162 (by decide +kernel) rfl, by decide +kernel, by decide +kernel⟩
theorem mi_X9_mayTwo : SI m_X9_mayTwo := ⟨gm 2049 (by decide +kernel) rfl, gm 125 (by decide +kernel) rfl⟩
abbrev m_X9_mayLook : JM := (yX9_mayLook, cX9_mayLook, 1, (some .boolean), [], { frames := 1, cells := 0, slots := 0, locals := 37 })
theorem mb_X9_mayLook : SB m_X9_mayLook 0 := ⟨gm 2030 (by decide +kernel) rfl, gm 162 (by decide +kernel) rfl, by decide +kernel, by decide +kernel⟩
theorem mi_X9_mayLook : SI m_X9_mayLook := ⟨gm 2029 (by decide +kernel) rfl, gm 122 (by decide +kernel) rfl⟩
abbrev m_X9_lays : JM := (yX9_lays, cX9_lays, 5, none, [], { frames := 0, cells := 0, slots := 0, locals := 0 })
theorem mb_X9_lays : SB m_X9_lays 4 := ⟨gm 1722 (by decide +kernel) rfl, gm 162 (by decide +kernel) rfl, by decide +kernel, by decide +kernel⟩
theorem ms_X9_lays : SS m_X9_lays := gm 1721 (by decide +kernel) rfl
abbrev m_X9_thinks : JM := (yX9_thinks, cX9_thinks, 1, none, [], { frames := 1, cells := 0, slots := 0, locals := 37 })
theorem mb_X9_thinks : SB m_X9_thinks 0 := ⟨gm 1719 (by decide +kernel) rfl, gm 162 (by decide +kernel) rfl, by decide +kernel, by decide +kernel⟩
theorem mi_X9_thinks : SI m_X9_thinks := ⟨gm 1718 (by decide +kernel) rfl, gm 55 (by decide +kernel) rfl⟩
abbrev m_X9_back : JM := (yX9_back, cX9_back, 2, (some .int), [], { frames := 1, cells := 0, slots := 0, locals := 37 })
theorem mb_X9_back : SB m_X9_back 1 := ⟨gm 2018 (by decide +kernel) rfl, gm 162 (by decide +kernel) rfl, by decide +kernel, by decide +kernel⟩
theorem mi_X9_back : SI m_X9_back := ⟨gm 2017 (by decide +kernel) rfl, gm 120 (by decide +kernel) rfl⟩
abbrev m_X9_append : JM := (yX9_append, cX9_append, 6, (some .int), [], { frames := 1, cells := 0, slots := 0, locals := 37 })
theorem mb_X9_append : SB m_X9_append 5 := ⟨gm 1684 (by decide +kernel) rfl, gm 162 (by decide +kernel) rfl, by decide +kernel, by decide +kernel⟩
theorem mi_X9_append : SI m_X9_append := ⟨gm 1682 (by decide +kernel) rfl, gm 1683 (by decide +kernel) rfl⟩
abbrev m_X9_four : JM := (yX9_four, cX9_four, 3, none, [], { frames := 0, cells := 0, slots := 0, locals := 0 })
theorem mb_X9_four : SB m_X9_four 1 := ⟨gm 1688 (by decide +kernel) rfl, gm 162 (by decide +kernel) rfl, by decide +kernel, by decide +kernel⟩
theorem mi_X9_four : SI m_X9_four := ⟨gm 1687 (by decide +kernel) rfl, gm 52 (by decide +kernel) rfl⟩
abbrev m_X9_told : JM := (yX9_told, cX9_told, 2, (some .int), [], { frames := 0, cells := 0, slots := 0, locals := 0 })
theorem mb_X9_told : SB m_X9_told 1 := ⟨gm 1696 (by decide +kernel) rfl, gm 162 (by decide +kernel) rfl, by decide +kernel, by decide +kernel⟩
theorem mi_X9_told : SI m_X9_told := ⟨gm 1695 (by decide +kernel) rfl, gm 53 (by decide +kernel) rfl⟩
abbrev m_X9_parseErrorCode : JM := (yX9_parseErrorCode, cX9_parseErrorCode, 1, (some .int), [], { frames := 1, cells := 0, slots := 0, locals := 37 })
theorem mb_X9_parseErrorCode : SB m_X9_parseErrorCode 0 := ⟨gm 1692 (by decide +kernel) rfl, gm 162 (by decide +kernel) rfl, by decide +kernel, by decide +kernel⟩
theorem mi_X9_parseErrorCode : SI m_X9_parseErrorCode := ⟨gm 1690 (by decide +kernel) rfl, gm 1691 (by decide +kernel) rfl⟩
abbrev m_X9_parseErrorPosition : JM := (yX9_parseErrorPosition, cX9_parseErrorPosition, 1, (some .int), [], { frames := 1, cells := 0, slots := 0, locals := 37 })
theorem mb_X9_parseErrorPosition : SB m_X9_parseErrorPosition 0 := ⟨gm 1700 (by decide +kernel) rfl, gm 162 (by decide +kernel) rfl, by decide +kernel, by decide +kernel⟩
theorem mi_X9_parseErrorPosition : SI m_X9_parseErrorPosition := ⟨gm 1698 (by decide +kernel) rfl, gm 1699 (by decide +kernel) rfl⟩
abbrev m_X9_bufferLength : JM := (yX9_bufferLength, cX9_bufferLength, 1, (some .int), [], { frames := 1, cells := 0, slots := 0, locals := 37 })
theorem mb_X9_bufferLength : SB m_X9_bufferLength 0 := ⟨gm 1704 (by decide +kernel) rfl, gm 162 (by decide +kernel) rfl, by decide +kernel, by decide +kernel⟩
theorem mi_X9_bufferLength : SI m_X9_bufferLength := ⟨gm 1702 (by decide +kernel) rfl, gm 1703 (by decide +kernel) rfl⟩
abbrev m_X9_isSmall : JM := (yX9_isSmall, cX9_isSmall, 2, (some .boolean), [], { frames := 1, cells := 0, slots := 0, locals := 37 })
theorem mb_X9_isSmall : SB m_X9_isSmall 1 := ⟨gm 1734 (by decide +kernel) rfl, gm 162 (by decide +kernel) rfl, by decide +kernel, by decide +kernel⟩
theorem mi_X9_isSmall : SI m_X9_isSmall := ⟨gm 1733 (by decide +kernel) rfl, gm 58 (by decide +kernel) rfl⟩
abbrev m_X9_isDigit : JM := (yX9_isDigit, cX9_isDigit, 2, (some .boolean), [], { frames := 1, cells := 0, slots := 0, locals := 37 })
theorem mb_X9_isDigit : SB m_X9_isDigit 1 := ⟨gm 1738 (by decide +kernel) rfl, gm 162 (by decide +kernel) rfl, by decide +kernel, by decide +kernel⟩
theorem mi_X9_isDigit : SI m_X9_isDigit := ⟨gm 1737 (by decide +kernel) rfl, gm 59 (by decide +kernel) rfl⟩
abbrev m_X9_goes : JM := (yX9_goes, cX9_goes, 1, none, [], { frames := 2, cells := 0, slots := 0, locals := 74 })
theorem mb_X9_goes : SB m_X9_goes 0 := ⟨gm 1730 (by decide +kernel) rfl, gm 162 (by decide +kernel) rfl, by decide +kernel, by decide +kernel⟩
theorem mi_X9_goes : SI m_X9_goes := ⟨gm 1729 (by decide +kernel) rfl, gm 57 (by decide +kernel) rfl⟩
abbrev m_X9_signOf : JM := (yX9_signOf, cX9_signOf, 1, (some .int), [], { frames := 0, cells := 0, slots := 0, locals := 0 })
theorem mb_X9_signOf : SB m_X9_signOf 1 := ⟨gm 1741 (by decide +kernel) rfl, gm 162 (by decide +kernel) rfl, by decide +kernel, by decide +kernel⟩
theorem ms_X9_signOf : SS m_X9_signOf := gm 1740 (by decide +kernel) rfl
abbrev m_X9_faults : JM := (yX9_faults, cX9_faults, 2, none, [], { frames := 0, cells := 0, slots := 0, locals := 0 })
theorem mb_X9_faults : SB m_X9_faults 1 := ⟨gm 1756 (by decide +kernel) rfl, gm 162 (by decide +kernel) rfl, by decide +kernel, by decide +kernel⟩
theorem mi_X9_faults : SI m_X9_faults := ⟨gm 1755 (by decide +kernel) rfl, gm 62 (by decide +kernel) rfl⟩
abbrev m_X9_refuses : JM := (yX9_refuses, cX9_refuses, 2, none, [], { frames := 1, cells := 0, slots := 0, locals := 37 })
theorem mb_X9_refuses : SB m_X9_refuses 1 := ⟨gm 1777 (by decide +kernel) rfl, gm 162 (by decide +kernel) rfl, by decide +kernel, by decide +kernel⟩
theorem mi_X9_refuses : SI m_X9_refuses := ⟨gm 1776 (by decide +kernel) rfl, gm 67 (by decide +kernel) rfl⟩
abbrev m_X9_limits : JM := (yX9_limits, cX9_limits, 2, none, [], { frames := 1, cells := 0, slots := 0, locals := 37 })
theorem mb_X9_limits : SB m_X9_limits 1 := ⟨gm 1793 (by decide +kernel) rfl, gm 162 (by decide +kernel) rfl, by decide +kernel, by decide +kernel⟩
theorem mi_X9_limits : SI m_X9_limits := ⟨gm 1792 (by decide +kernel) rfl, gm 71 (by decide +kernel) rfl⟩
abbrev m_X9_is : JM := (yX9_is, cX9_is, 2, (some .boolean), [], { frames := 0, cells := 0, slots := 0, locals := 0 })
theorem mb_X9_is : SB m_X9_is 1 := ⟨gm 1750 (by decide +kernel) rfl, gm 162 (by decide +kernel) rfl, by decide +kernel, by decide +kernel⟩
theorem mi_X9_is : SI m_X9_is := ⟨gm 1749 (by decide +kernel) rfl, gm 61 (by decide +kernel) rfl⟩
abbrev m_X9_isWord : JM := (yX9_isWord, cX9_isWord, 3, (some .boolean), [], { frames := 7, cells := 0, slots := 0, locals := 259 })
theorem mb_X9_isWord : SB m_X9_isWord 1 := ⟨gm 1746 (by decide +kernel) rfl, gm 162 (by decide +kernel) rfl, by decide +kernel, by decide +kernel⟩
theorem mi_X9_isWord : SI m_X9_isWord := ⟨gm 1745 (by decide +kernel) rfl, gm 60 (by decide +kernel) rfl⟩
abbrev m_X9_numberHere : JM := (yX9_numberHere, cX9_numberHere, 3, (some .int), [], { frames := 1, cells := 0, slots := 0, locals := 37 })
theorem mb_X9_numberHere : SB m_X9_numberHere 2 := ⟨gm 1764 (by decide +kernel) rfl, gm 162 (by decide +kernel) rfl, by decide +kernel, by decide +kernel⟩
theorem mi_X9_numberHere : SI m_X9_numberHere := ⟨gm 1763 (by decide +kernel) rfl, gm 64 (by decide +kernel) rfl⟩
abbrev m_X9_readNumber : JM := (yX9_readNumber, cX9_readNumber, 4, (some .int), [], { frames := 3, cells := 0, slots := 0, locals := 111 })
theorem mb_X9_readNumber : SB m_X9_readNumber 2 := ⟨gm 1760 (by decide +kernel) rfl, gm 162 (by decide +kernel) rfl, by decide +kernel, by decide +kernel⟩
theorem mi_X9_readNumber : SI m_X9_readNumber := ⟨gm 1759 (by decide +kernel) rfl, gm 63 (by decide +kernel) rfl⟩
abbrev m_X9_indexHere : JM := (yX9_indexHere, cX9_indexHere, 2, (some .int), [], { frames := 2, cells := 0, slots := 0, locals := 74 })
theorem mb_X9_indexHere : SB m_X9_indexHere 1 := ⟨gm 1789 (by decide +kernel) rfl, gm 162 (by decide +kernel) rfl, by decide +kernel, by decide +kernel⟩
theorem mi_X9_indexHere : SI m_X9_indexHere := ⟨gm 1788 (by decide +kernel) rfl, gm 70 (by decide +kernel) rfl⟩
abbrev m_X9_readIndex : JM := (yX9_readIndex, cX9_readIndex, 3, (some .int), [], { frames := 3, cells := 0, slots := 0, locals := 111 })
theorem mb_X9_readIndex : SB m_X9_readIndex 1 := ⟨gm 1967 (by decide +kernel) rfl, gm 162 (by decide +kernel) rfl, by decide +kernel, by decide +kernel⟩
theorem mi_X9_readIndex : SI m_X9_readIndex := ⟨gm 1966 (by decide +kernel) rfl, gm 109 (by decide +kernel) rfl⟩
abbrev m_X9_readColour : JM := (yX9_readColour, cX9_readColour, 3, (some .int), [], { frames := 3, cells := 0, slots := 0, locals := 111 })
theorem mb_X9_readColour : SB m_X9_readColour 0 := ⟨gm 1781 (by decide +kernel) rfl, gm 162 (by decide +kernel) rfl, by decide +kernel, by decide +kernel⟩
theorem mi_X9_readColour : SI m_X9_readColour := ⟨gm 1780 (by decide +kernel) rfl, gm 68 (by decide +kernel) rfl⟩
abbrev m_X9_addsWarp : JM := (yX9_addsWarp, cX9_addsWarp, 3, none, [], { frames := 3, cells := 0, slots := 0, locals := 111 })
theorem mb_X9_addsWarp : SB m_X9_addsWarp 1 := ⟨gm 1785 (by decide +kernel) rfl, gm 162 (by decide +kernel) rfl, by decide +kernel, by decide +kernel⟩
theorem mi_X9_addsWarp : SI m_X9_addsWarp := ⟨gm 1784 (by decide +kernel) rfl, gm 69 (by decide +kernel) rfl⟩
abbrev m_X9_readsWarp : JM := (yX9_readsWarp, cX9_readsWarp, 2, none, [], { frames := 4, cells := 0, slots := 0, locals := 148 })
theorem mb_X9_readsWarp : SB m_X9_readsWarp 0 := ⟨gm 1773 (by decide +kernel) rfl, gm 162 (by decide +kernel) rfl, by decide +kernel, by decide +kernel⟩
theorem mi_X9_readsWarp : SI m_X9_readsWarp := ⟨gm 1772 (by decide +kernel) rfl, gm 66 (by decide +kernel) rfl⟩
abbrev m_X9_readsCard : JM := (yX9_readsCard, cX9_readsCard, 4, none, [], { frames := 4, cells := 0, slots := 0, locals := 148 })
theorem mb_X9_readsCard : SB m_X9_readsCard 0 := ⟨gm 1802 (by decide +kernel) rfl, gm 162 (by decide +kernel) rfl, by decide +kernel, by decide +kernel⟩
theorem mi_X9_readsCard : SI m_X9_readsCard := ⟨gm 1801 (by decide +kernel) rfl, gm 73 (by decide +kernel) rfl⟩
abbrev m_X9_addsPart : JM := (yX9_addsPart, cX9_addsPart, 2, none, [], { frames := 0, cells := 0, slots := 0, locals := 0 })
theorem mb_X9_addsPart : SB m_X9_addsPart 1 := ⟨gm 1827 (by decide +kernel) rfl, gm 162 (by decide +kernel) rfl, by decide +kernel, by decide +kernel⟩
theorem mi_X9_addsPart : SI m_X9_addsPart := ⟨gm 1826 (by decide +kernel) rfl, gm 78 (by decide +kernel) rfl⟩
abbrev m_X9_addsPick : JM := (yX9_addsPick, cX9_addsPick, 3, none, [], { frames := 0, cells := 0, slots := 0, locals := 0 })
theorem mb_X9_addsPick : SB m_X9_addsPick 2 := ⟨gm 1831 (by decide +kernel) rfl, gm 162 (by decide +kernel) rfl, by decide +kernel, by decide +kernel⟩
theorem mi_X9_addsPick : SI m_X9_addsPick := ⟨gm 1830 (by decide +kernel) rfl, gm 79 (by decide +kernel) rfl⟩
abbrev m_X9_pickOf : JM := (yX9_pickOf, cX9_pickOf, 3, (some .int), [], { frames := 0, cells := 0, slots := 0, locals := 0 })
theorem mb_X9_pickOf : SB m_X9_pickOf 2 := ⟨gm 1857 (by decide +kernel) rfl, gm 162 (by decide +kernel) rfl, by decide +kernel, by decide +kernel⟩
theorem mi_X9_pickOf : SI m_X9_pickOf := ⟨gm 1856 (by decide +kernel) rfl, gm 84 (by decide +kernel) rfl⟩
abbrev m_X9_readsDeckCard : JM := (yX9_readsDeckCard, cX9_readsDeckCard, 2, none, [], { frames := 3, cells := 0, slots := 0, locals := 111 })
theorem mb_X9_readsDeckCard : SB m_X9_readsDeckCard 0 := ⟨gm 1823 (by decide +kernel) rfl, gm 162 (by decide +kernel) rfl, by decide +kernel, by decide +kernel⟩
theorem mi_X9_readsDeckCard : SI m_X9_readsDeckCard := ⟨gm 1822 (by decide +kernel) rfl, gm 77 (by decide +kernel) rfl⟩
abbrev m_X9_isBracketWord : JM := (yX9_isBracketWord, cX9_isBracketWord, 1, (some .boolean), [], { frames := 8, cells := 0, slots := 0, locals := 296 })
theorem mb_X9_isBracketWord : SB m_X9_isBracketWord 0 := ⟨gm 1835 (by decide +kernel) rfl, gm 162 (by decide +kernel) rfl, by decide +kernel, by decide +kernel⟩
theorem mi_X9_isBracketWord : SI m_X9_isBracketWord := ⟨gm 1834 (by decide +kernel) rfl, gm 80 (by decide +kernel) rfl⟩
abbrev m_X9_opensPart : JM := (yX9_opensPart, cX9_opensPart, 3, none, [], { frames := 8, cells := 0, slots := 0, locals := 296 })
theorem mb_X9_opensPart : SB m_X9_opensPart 0 := ⟨gm 1842 (by decide +kernel) rfl, gm 162 (by decide +kernel) rfl, by decide +kernel, by decide +kernel⟩
theorem mi_X9_opensPart : SI m_X9_opensPart := ⟨gm 1841 (by decide +kernel) rfl, gm 81 (by decide +kernel) rfl⟩
abbrev m_X9_picksOf : JM := (yX9_picksOf, cX9_picksOf, 3, (some .int), [], { frames := 0, cells := 0, slots := 0, locals := 0 })
theorem mb_X9_picksOf : SB m_X9_picksOf 2 := ⟨gm 1850 (by decide +kernel) rfl, gm 162 (by decide +kernel) rfl, by decide +kernel, by decide +kernel⟩
theorem mi_X9_picksOf : SI m_X9_picksOf := ⟨gm 1849 (by decide +kernel) rfl, gm 83 (by decide +kernel) rfl⟩
abbrev m_X9_closesPart : JM := (yX9_closesPart, cX9_closesPart, 4, none, [], { frames := 3, cells := 0, slots := 0, locals := 111 })
theorem mb_X9_closesPart : SB m_X9_closesPart 0 := ⟨gm 1846 (by decide +kernel) rfl, gm 162 (by decide +kernel) rfl, by decide +kernel, by decide +kernel⟩
theorem mi_X9_closesPart : SI m_X9_closesPart := ⟨gm 1845 (by decide +kernel) rfl, gm 82 (by decide +kernel) rfl⟩
abbrev m_X9_placeOf : JM := (yX9_placeOf, cX9_placeOf, 3, (some .int), [], { frames := 0, cells := 0, slots := 0, locals := 0 })
theorem mb_X9_placeOf : SB m_X9_placeOf 3 := ⟨gm 1853 (by decide +kernel) rfl, gm 162 (by decide +kernel) rfl, by decide +kernel, by decide +kernel⟩
theorem ms_X9_placeOf : SS m_X9_placeOf := gm 1852 (by decide +kernel) rfl
abbrev m_X9_readsPart : JM := (yX9_readsPart, cX9_readsPart, 1, none, [], { frames := 9, cells := 0, slots := 0, locals := 333 })
theorem mb_X9_readsPart : SB m_X9_readsPart 0 := ⟨gm 1819 (by decide +kernel) rfl, gm 162 (by decide +kernel) rfl, by decide +kernel, by decide +kernel⟩
theorem mi_X9_readsPart : SI m_X9_readsPart := ⟨gm 1818 (by decide +kernel) rfl, gm 76 (by decide +kernel) rfl⟩
abbrev m_X9_readsDeck : JM := (yX9_readsDeck, cX9_readsDeck, 2, none, [], { frames := 10, cells := 0, slots := 0, locals := 370 })
theorem mb_X9_readsDeck : SB m_X9_readsDeck 0 := ⟨gm 1814 (by decide +kernel) rfl, gm 162 (by decide +kernel) rfl, by decide +kernel, by decide +kernel⟩
theorem mi_X9_readsDeck : SI m_X9_readsDeck := ⟨gm 1813 (by decide +kernel) rfl, gm 75 (by decide +kernel) rfl⟩
abbrev m_X9_readsYarn : JM := (yX9_readsYarn, cX9_readsYarn, 3, none, [], { frames := 4, cells := 0, slots := 0, locals := 148 })
theorem mb_X9_readsYarn : SB m_X9_readsYarn 0 := ⟨gm 1862 (by decide +kernel) rfl, gm 162 (by decide +kernel) rfl, by decide +kernel, by decide +kernel⟩
theorem mi_X9_readsYarn : SI m_X9_readsYarn := ⟨gm 1861 (by decide +kernel) rfl, gm 85 (by decide +kernel) rfl⟩
abbrev m_X9_readsWeave : JM := (yX9_readsWeave, cX9_readsWeave, 3, none, [], { frames := 6, cells := 0, slots := 0, locals := 222 })
theorem mb_X9_readsWeave : SB m_X9_readsWeave 0 := ⟨gm 1871 (by decide +kernel) rfl, gm 162 (by decide +kernel) rfl, by decide +kernel, by decide +kernel⟩
theorem mi_X9_readsWeave : SI m_X9_readsWeave := ⟨gm 1870 (by decide +kernel) rfl, gm 87 (by decide +kernel) rfl⟩
abbrev m_X9_readsUnweave : JM := (yX9_readsUnweave, cX9_readsUnweave, 2, none, [], { frames := 3, cells := 0, slots := 0, locals := 111 })
theorem mb_X9_readsUnweave : SB m_X9_readsUnweave 0 := ⟨gm 1950 (by decide +kernel) rfl, gm 162 (by decide +kernel) rfl, by decide +kernel, by decide +kernel⟩
theorem mi_X9_readsUnweave : SI m_X9_readsUnweave := ⟨gm 1949 (by decide +kernel) rfl, gm 105 (by decide +kernel) rfl⟩
abbrev m_X9_readsSwap : JM := (yX9_readsSwap, cX9_readsSwap, 3, none, [], { frames := 4, cells := 0, slots := 0, locals := 148 })
theorem mb_X9_readsSwap : SB m_X9_readsSwap 0 := ⟨gm 1963 (by decide +kernel) rfl, gm 162 (by decide +kernel) rfl, by decide +kernel, by decide +kernel⟩
theorem mi_X9_readsSwap : SI m_X9_readsSwap := ⟨gm 1962 (by decide +kernel) rfl, gm 108 (by decide +kernel) rfl⟩
abbrev m_X9_readsPunch : JM := (yX9_readsPunch, cX9_readsPunch, 3, none, [], { frames := 4, cells := 0, slots := 0, locals := 148 })
theorem mb_X9_readsPunch : SB m_X9_readsPunch 0 := ⟨gm 1976 (by decide +kernel) rfl, gm 162 (by decide +kernel) rfl, by decide +kernel, by decide +kernel⟩
theorem mi_X9_readsPunch : SI m_X9_readsPunch := ⟨gm 1975 (by decide +kernel) rfl, gm 111 (by decide +kernel) rfl⟩
abbrev m_X9_readsDye : JM := (yX9_readsDye, cX9_readsDye, 3, none, [], { frames := 4, cells := 0, slots := 0, locals := 148 })
theorem mb_X9_readsDye : SB m_X9_readsDye 0 := ⟨gm 1985 (by decide +kernel) rfl, gm 162 (by decide +kernel) rfl, by decide +kernel, by decide +kernel⟩
theorem mi_X9_readsDye : SI m_X9_readsDye := ⟨gm 1984 (by decide +kernel) rfl, gm 113 (by decide +kernel) rfl⟩
abbrev m_X9_readsOil : JM := (yX9_readsOil, cX9_readsOil, 2, none, [], { frames := 4, cells := 0, slots := 0, locals := 148 })
theorem mb_X9_readsOil : SB m_X9_readsOil 0 := ⟨gm 1994 (by decide +kernel) rfl, gm 162 (by decide +kernel) rfl, by decide +kernel, by decide +kernel⟩
theorem mi_X9_readsOil : SI m_X9_readsOil := ⟨gm 1993 (by decide +kernel) rfl, gm 115 (by decide +kernel) rfl⟩
abbrev m_X9_readsInvert : JM := (yX9_readsInvert, cX9_readsInvert, 2, none, [], { frames := 4, cells := 0, slots := 0, locals := 148 })
theorem mb_X9_readsInvert : SB m_X9_readsInvert 0 := ⟨gm 2003 (by decide +kernel) rfl, gm 162 (by decide +kernel) rfl, by decide +kernel, by decide +kernel⟩
theorem mi_X9_readsInvert : SI m_X9_readsInvert := ⟨gm 2002 (by decide +kernel) rfl, gm 117 (by decide +kernel) rfl⟩
abbrev m_X9_readsSetting : JM := (yX9_readsSetting, cX9_readsSetting, 5, none, [], { frames := 4, cells := 0, slots := 0, locals := 148 })
theorem mb_X9_readsSetting : SB m_X9_readsSetting 3 := ⟨gm 2008 (by decide +kernel) rfl, gm 162 (by decide +kernel) rfl, by decide +kernel, by decide +kernel⟩
theorem mi_X9_readsSetting : SI m_X9_readsSetting := ⟨gm 2007 (by decide +kernel) rfl, gm 118 (by decide +kernel) rfl⟩
abbrev m_X9_readsMend : JM := (yX9_readsMend, cX9_readsMend, 2, none, [], { frames := 3, cells := 0, slots := 0, locals := 111 })
theorem mb_X9_readsMend : SB m_X9_readsMend 0 := ⟨gm 2014 (by decide +kernel) rfl, gm 162 (by decide +kernel) rfl, by decide +kernel, by decide +kernel⟩
theorem mi_X9_readsMend : SI m_X9_readsMend := ⟨gm 2013 (by decide +kernel) rfl, gm 119 (by decide +kernel) rfl⟩
abbrev m_X9_readsItem : JM := (yX9_readsItem, cX9_readsItem, 1, none, [], { frames := 11, cells := 0, slots := 0, locals := 407 })
theorem mb_X9_readsItem : SB m_X9_readsItem 0 := ⟨gm 1768 (by decide +kernel) rfl, gm 162 (by decide +kernel) rfl, by decide +kernel, by decide +kernel⟩
theorem mi_X9_readsItem : SI m_X9_readsItem := ⟨gm 1767 (by decide +kernel) rfl, gm 65 (by decide +kernel) rfl⟩
abbrev m_X9_readsDeed : JM := (yX9_readsDeed, cX9_readsDeed, 1, none, [], { frames := 8, cells := 0, slots := 0, locals := 296 })
theorem mb_X9_readsDeed : SB m_X9_readsDeed 0 := ⟨gm 1945 (by decide +kernel) rfl, gm 162 (by decide +kernel) rfl, by decide +kernel, by decide +kernel⟩
theorem mi_X9_readsDeed : SI m_X9_readsDeed := ⟨gm 1944 (by decide +kernel) rfl, gm 104 (by decide +kernel) rfl⟩
abbrev m_X9_readsText : JM := (yX9_readsText, cX9_readsText, 1, none, [], { frames := 12, cells := 0, slots := 0, locals := 444 })
theorem mb_X9_readsText : SB m_X9_readsText 0 := ⟨gm 1726 (by decide +kernel) rfl, gm 162 (by decide +kernel) rfl, by decide +kernel, by decide +kernel⟩
theorem mi_X9_readsText : SI m_X9_readsText := ⟨gm 1725 (by decide +kernel) rfl, gm 56 (by decide +kernel) rfl⟩
abbrev m_X9_parseSetup : JM := (yX9_parseSetup, cX9_parseSetup, 3, (some .int), [], { frames := 13, cells := 0, slots := 0, locals := 481 })
theorem mb_X9_parseSetup : SB m_X9_parseSetup 1 := ⟨gm 1708 (by decide +kernel) rfl, gm 162 (by decide +kernel) rfl, by decide +kernel, by decide +kernel⟩
theorem mi_X9_parseSetup : SI m_X9_parseSetup := ⟨gm 1706 (by decide +kernel) rfl, gm 1707 (by decide +kernel) rfl⟩
abbrev m_X9_ofHarness : JM := (yX9_ofHarness, cX9_ofHarness, 3, (some .int), [], { frames := 0, cells := 0, slots := 0, locals := 0 })
theorem mb_X9_ofHarness : SB m_X9_ofHarness 2 := ⟨gm 1910 (by decide +kernel) rfl, gm 162 (by decide +kernel) rfl, by decide +kernel, by decide +kernel⟩
theorem mi_X9_ofHarness : SI m_X9_ofHarness := ⟨gm 1909 (by decide +kernel) rfl, gm 96 (by decide +kernel) rfl⟩
abbrev m_X9_putsHarness : JM := (yX9_putsHarness, cX9_putsHarness, 4, none, [], { frames := 0, cells := 0, slots := 0, locals := 0 })
theorem mb_X9_putsHarness : SB m_X9_putsHarness 3 := ⟨gm 1914 (by decide +kernel) rfl, gm 162 (by decide +kernel) rfl, by decide +kernel, by decide +kernel⟩
theorem mi_X9_putsHarness : SI m_X9_putsHarness := ⟨gm 1913 (by decide +kernel) rfl, gm 97 (by decide +kernel) rfl⟩
abbrev m_X9_putsWarp : JM := (yX9_putsWarp, cX9_putsWarp, 4, none, [], { frames := 0, cells := 0, slots := 0, locals := 0 })
theorem mb_X9_putsWarp : SB m_X9_putsWarp 3 := ⟨gm 1797 (by decide +kernel) rfl, gm 162 (by decide +kernel) rfl, by decide +kernel, by decide +kernel⟩
theorem mi_X9_putsWarp : SI m_X9_putsWarp := ⟨gm 1796 (by decide +kernel) rfl, gm 72 (by decide +kernel) rfl⟩
abbrev m_X9_harnessOf : JM := (yX9_harnessOf, cX9_harnessOf, 2, (some .int), [], { frames := 0, cells := 0, slots := 0, locals := 0 })
theorem mb_X9_harnessOf : SB m_X9_harnessOf 1 := ⟨gm 1895 (by decide +kernel) rfl, gm 162 (by decide +kernel) rfl, by decide +kernel, by decide +kernel⟩
theorem mi_X9_harnessOf : SI m_X9_harnessOf := ⟨gm 1894 (by decide +kernel) rfl, gm 93 (by decide +kernel) rfl⟩
abbrev m_X9_colourOf : JM := (yX9_colourOf, cX9_colourOf, 2, (some .int), [], { frames := 0, cells := 0, slots := 0, locals := 0 })
theorem mb_X9_colourOf : SB m_X9_colourOf 1 := ⟨gm 1922 (by decide +kernel) rfl, gm 162 (by decide +kernel) rfl, by decide +kernel, by decide +kernel⟩
theorem mi_X9_colourOf : SI m_X9_colourOf := ⟨gm 1921 (by decide +kernel) rfl, gm 99 (by decide +kernel) rfl⟩
abbrev m_X9_breaks : JM := (yX9_breaks, cX9_breaks, 2, (some .boolean), [], { frames := 0, cells := 0, slots := 0, locals := 0 })
theorem mb_X9_breaks : SB m_X9_breaks 1 := ⟨gm 1918 (by decide +kernel) rfl, gm 162 (by decide +kernel) rfl, by decide +kernel, by decide +kernel⟩
theorem mi_X9_breaks : SI m_X9_breaks := ⟨gm 1917 (by decide +kernel) rfl, gm 98 (by decide +kernel) rfl⟩
abbrev m_X9_brokenOnes : JM := (yX9_brokenOnes, cX9_brokenOnes, 3, (some .int), [], { frames := 1, cells := 0, slots := 0, locals := 37 })
theorem mb_X9_brokenOnes : SB m_X9_brokenOnes 0 := ⟨gm 2078 (by decide +kernel) rfl, gm 162 (by decide +kernel) rfl, by decide +kernel, by decide +kernel⟩
theorem mi_X9_brokenOnes : SI m_X9_brokenOnes := ⟨gm 2077 (by decide +kernel) rfl, gm 128 (by decide +kernel) rfl⟩
abbrev m_X9_warpsOf : JM := (yX9_warpsOf, cX9_warpsOf, 4, (some .int), [], { frames := 1, cells := 0, slots := 0, locals := 37 })
theorem mb_X9_warpsOf : SB m_X9_warpsOf 1 := ⟨gm 1891 (by decide +kernel) rfl, gm 162 (by decide +kernel) rfl, by decide +kernel, by decide +kernel⟩
theorem mi_X9_warpsOf : SI m_X9_warpsOf := ⟨gm 1890 (by decide +kernel) rfl, gm 92 (by decide +kernel) rfl⟩
abbrev m_X9_ofCard : JM := (yX9_ofCard, cX9_ofCard, 3, (some .int), [], { frames := 0, cells := 0, slots := 0, locals := 0 })
theorem mb_X9_ofCard : SB m_X9_ofCard 2 := ⟨gm 1887 (by decide +kernel) rfl, gm 162 (by decide +kernel) rfl, by decide +kernel, by decide +kernel⟩
theorem mi_X9_ofCard : SI m_X9_ofCard := ⟨gm 1886 (by decide +kernel) rfl, gm 91 (by decide +kernel) rfl⟩
abbrev m_X9_putsCard : JM := (yX9_putsCard, cX9_putsCard, 4, none, [], { frames := 0, cells := 0, slots := 0, locals := 0 })
theorem mb_X9_putsCard : SB m_X9_putsCard 3 := ⟨gm 1809 (by decide +kernel) rfl, gm 162 (by decide +kernel) rfl, by decide +kernel, by decide +kernel⟩
theorem mi_X9_putsCard : SI m_X9_putsCard := ⟨gm 1808 (by decide +kernel) rfl, gm 74 (by decide +kernel) rfl⟩
abbrev m_X9_weftOf : JM := (yX9_weftOf, cX9_weftOf, 2, (some .int), [], { frames := 0, cells := 0, slots := 0, locals := 0 })
theorem mb_X9_weftOf : SB m_X9_weftOf 1 := ⟨gm 1958 (by decide +kernel) rfl, gm 162 (by decide +kernel) rfl, by decide +kernel, by decide +kernel⟩
theorem mi_X9_weftOf : SI m_X9_weftOf := ⟨gm 1957 (by decide +kernel) rfl, gm 107 (by decide +kernel) rfl⟩
abbrev m_X9_cellOf : JM := (yX9_cellOf, cX9_cellOf, 3, (some .int), [], { frames := 0, cells := 0, slots := 0, locals := 0 })
theorem mb_X9_cellOf : SB m_X9_cellOf 2 := ⟨gm 1941 (by decide +kernel) rfl, gm 162 (by decide +kernel) rfl, by decide +kernel, by decide +kernel⟩
theorem mi_X9_cellOf : SI m_X9_cellOf := ⟨gm 1940 (by decide +kernel) rfl, gm 103 (by decide +kernel) rfl⟩
abbrev m_X9_brings : JM := (yX9_brings, cX9_brings, 3, none, [], { frames := 0, cells := 0, slots := 0, locals := 0 })
theorem mb_X9_brings : SB m_X9_brings 2 := ⟨gm 1866 (by decide +kernel) rfl, gm 162 (by decide +kernel) rfl, by decide +kernel, by decide +kernel⟩
theorem mi_X9_brings : SI m_X9_brings := ⟨gm 1865 (by decide +kernel) rfl, gm 86 (by decide +kernel) rfl⟩
abbrev m_X9_swaps : JM := (yX9_swaps, cX9_swaps, 5, none, [], { frames := 1, cells := 0, slots := 0, locals := 37 })
theorem mb_X9_swaps : SB m_X9_swaps 2 := ⟨gm 1971 (by decide +kernel) rfl, gm 162 (by decide +kernel) rfl, by decide +kernel, by decide +kernel⟩
theorem mi_X9_swaps : SI m_X9_swaps := ⟨gm 1970 (by decide +kernel) rfl, gm 110 (by decide +kernel) rfl⟩
abbrev m_X9_punches : JM := (yX9_punches, cX9_punches, 3, none, [], { frames := 1, cells := 0, slots := 0, locals := 37 })
theorem mb_X9_punches : SB m_X9_punches 2 := ⟨gm 1980 (by decide +kernel) rfl, gm 162 (by decide +kernel) rfl, by decide +kernel, by decide +kernel⟩
theorem mi_X9_punches : SI m_X9_punches := ⟨gm 1979 (by decide +kernel) rfl, gm 112 (by decide +kernel) rfl⟩
abbrev m_X9_dyes : JM := (yX9_dyes, cX9_dyes, 3, none, [], { frames := 1, cells := 0, slots := 0, locals := 37 })
theorem mb_X9_dyes : SB m_X9_dyes 2 := ⟨gm 1989 (by decide +kernel) rfl, gm 162 (by decide +kernel) rfl, by decide +kernel, by decide +kernel⟩
theorem mi_X9_dyes : SI m_X9_dyes := ⟨gm 1988 (by decide +kernel) rfl, gm 114 (by decide +kernel) rfl⟩
abbrev m_X9_oils : JM := (yX9_oils, cX9_oils, 2, none, [], { frames := 1, cells := 0, slots := 0, locals := 37 })
theorem mb_X9_oils : SB m_X9_oils 1 := ⟨gm 1998 (by decide +kernel) rfl, gm 162 (by decide +kernel) rfl, by decide +kernel, by decide +kernel⟩
theorem mi_X9_oils : SI m_X9_oils := ⟨gm 1997 (by decide +kernel) rfl, gm 116 (by decide +kernel) rfl⟩
abbrev m_X9_next : JM := (yX9_next, cX9_next, 1, (some .int), [], { frames := 0, cells := 0, slots := 0, locals := 0 })
theorem mb_X9_next : SB m_X9_next 0 := ⟨gm 1883 (by decide +kernel) rfl, gm 162 (by decide +kernel) rfl, by decide +kernel, by decide +kernel⟩
theorem mi_X9_next : SI m_X9_next := ⟨gm 1882 (by decide +kernel) rfl, gm 90 (by decide +kernel) rfl⟩
abbrev m_X9_why : JM := (yX9_why, cX9_why, 1, (some .int), [], { frames := 2, cells := 0, slots := 0, locals := 74 })
theorem mb_X9_why : SB m_X9_why 0 := ⟨gm 1879 (by decide +kernel) rfl, gm 162 (by decide +kernel) rfl, by decide +kernel, by decide +kernel⟩
theorem mi_X9_why : SI m_X9_why := ⟨gm 1878 (by decide +kernel) rfl, gm 89 (by decide +kernel) rfl⟩
abbrev m_X9_isStrained : JM := (yX9_isStrained, cX9_isStrained, 3, (some .boolean), [], { frames := 2, cells := 0, slots := 0, locals := 74 })
theorem mb_X9_isStrained : SB m_X9_isStrained 1 := ⟨gm 1933 (by decide +kernel) rfl, gm 162 (by decide +kernel) rfl, by decide +kernel, by decide +kernel⟩
theorem mi_X9_isStrained : SI m_X9_isStrained := ⟨gm 1932 (by decide +kernel) rfl, gm 101 (by decide +kernel) rfl⟩
abbrev m_X9_strains : JM := (yX9_strains, cX9_strains, 2, none, [], { frames := 3, cells := 0, slots := 0, locals := 111 })
theorem mb_X9_strains : SB m_X9_strains 0 := ⟨gm 1929 (by decide +kernel) rfl, gm 162 (by decide +kernel) rfl, by decide +kernel, by decide +kernel⟩
theorem mi_X9_strains : SI m_X9_strains := ⟨gm 1928 (by decide +kernel) rfl, gm 100 (by decide +kernel) rfl⟩
abbrev m_X9_moves : JM := (yX9_moves, cX9_moves, 3, none, [], { frames := 1, cells := 0, slots := 0, locals := 37 })
theorem mb_X9_moves : SB m_X9_moves 2 := ⟨gm 1906 (by decide +kernel) rfl, gm 162 (by decide +kernel) rfl, by decide +kernel, by decide +kernel⟩
theorem mi_X9_moves : SI m_X9_moves := ⟨gm 1905 (by decide +kernel) rfl, gm 95 (by decide +kernel) rfl⟩
abbrev m_X9_cell : JM := (yX9_cell, cX9_cell, 2, (some .int), [], { frames := 1, cells := 0, slots := 0, locals := 37 })
theorem mb_X9_cell : SB m_X9_cell 2 := ⟨gm 1925 (by decide +kernel) rfl, gm 162 (by decide +kernel) rfl, by decide +kernel, by decide +kernel⟩
theorem ms_X9_cell : SS m_X9_cell := gm 1924 (by decide +kernel) rfl
abbrev m_X9_weavesOne : JM := (yX9_weavesOne, cX9_weavesOne, 6, none, [], { frames := 4, cells := 0, slots := 0, locals := 148 })
theorem mb_X9_weavesOne : SB m_X9_weavesOne 0 := ⟨gm 1902 (by decide +kernel) rfl, gm 162 (by decide +kernel) rfl, by decide +kernel, by decide +kernel⟩
theorem mi_X9_weavesOne : SI m_X9_weavesOne := ⟨gm 1901 (by decide +kernel) rfl, gm 94 (by decide +kernel) rfl⟩
abbrev m_X9_weaves : JM := (yX9_weaves, cX9_weaves, 3, (some .int), [], { frames := 5, cells := 0, slots := 0, locals := 185 })
theorem mb_X9_weaves : SB m_X9_weaves 1 := ⟨gm 1875 (by decide +kernel) rfl, gm 162 (by decide +kernel) rfl, by decide +kernel, by decide +kernel⟩
theorem mi_X9_weaves : SI m_X9_weaves := ⟨gm 1874 (by decide +kernel) rfl, gm 88 (by decide +kernel) rfl⟩
abbrev m_X9_removes : JM := (yX9_removes, cX9_removes, 3, none, [], { frames := 1, cells := 0, slots := 0, locals := 37 })
theorem mb_X9_removes : SB m_X9_removes 1 := ⟨gm 1954 (by decide +kernel) rfl, gm 162 (by decide +kernel) rfl, by decide +kernel, by decide +kernel⟩
theorem mi_X9_removes : SI m_X9_removes := ⟨gm 1953 (by decide +kernel) rfl, gm 106 (by decide +kernel) rfl⟩
abbrev m_X9_exchanged : JM := (yX9_exchanged, cX9_exchanged, 3, (some .int), [], { frames := 0, cells := 0, slots := 0, locals := 0 })
theorem mb_X9_exchanged : SB m_X9_exchanged 3 := ⟨gm 2239 (by decide +kernel) rfl, gm 162 (by decide +kernel) rfl, by decide +kernel, by decide +kernel⟩
theorem ms_X9_exchanged : SS m_X9_exchanged := gm 2238 (by decide +kernel) rfl
abbrev m_X9_isAsExpected : JM := (yX9_isAsExpected, cX9_isAsExpected, 7, (some .boolean), [], { frames := 2, cells := 0, slots := 0, locals := 74 })
theorem mb_X9_isAsExpected : SB m_X9_isAsExpected 3 := ⟨gm 2236 (by decide +kernel) rfl, gm 162 (by decide +kernel) rfl, by decide +kernel, by decide +kernel⟩
theorem mi_X9_isAsExpected : SI m_X9_isAsExpected := ⟨gm 2235 (by decide +kernel) rfl, gm 141 (by decide +kernel) rfl⟩
abbrev m_X9_isWrongRow : JM := (yX9_isWrongRow, cX9_isWrongRow, 2, (some .boolean), [], { frames := 3, cells := 0, slots := 0, locals := 111 })
theorem mb_X9_isWrongRow : SB m_X9_isWrongRow 1 := ⟨gm 2232 (by decide +kernel) rfl, gm 162 (by decide +kernel) rfl, by decide +kernel, by decide +kernel⟩
theorem mi_X9_isWrongRow : SI m_X9_isWrongRow := ⟨gm 2231 (by decide +kernel) rfl, gm 140 (by decide +kernel) rfl⟩
abbrev m_X9_wrongs : JM := (yX9_wrongs, cX9_wrongs, 3, (some .int), [], { frames := 4, cells := 0, slots := 0, locals := 148 })
theorem mb_X9_wrongs : SB m_X9_wrongs 0 := ⟨gm 2247 (by decide +kernel) rfl, gm 162 (by decide +kernel) rfl, by decide +kernel, by decide +kernel⟩
theorem mi_X9_wrongs : SI m_X9_wrongs := ⟨gm 2246 (by decide +kernel) rfl, gm 142 (by decide +kernel) rfl⟩
abbrev m_X9_explains : JM := (yX9_explains, cX9_explains, 4, (some .boolean), [], { frames := 3, cells := 0, slots := 0, locals := 111 })
theorem mb_X9_explains : SB m_X9_explains 2 := ⟨gm 2263 (by decide +kernel) rfl, gm 162 (by decide +kernel) rfl, by decide +kernel, by decide +kernel⟩
theorem mi_X9_explains : SI m_X9_explains := ⟨gm 2262 (by decide +kernel) rfl, gm 144 (by decide +kernel) rfl⟩
abbrev m_X9_suspicion : JM := (yX9_suspicion, cX9_suspicion, 3, (some .int), [], { frames := 5, cells := 0, slots := 0, locals := 185 })
theorem mb_X9_suspicion : SB m_X9_suspicion 0 := ⟨gm 2259 (by decide +kernel) rfl, gm 162 (by decide +kernel) rfl, by decide +kernel, by decide +kernel⟩
theorem mi_X9_suspicion : SI m_X9_suspicion := ⟨gm 2258 (by decide +kernel) rfl, gm 143 (by decide +kernel) rfl⟩
abbrev m_X9_isHarness : JM := (yX9_isHarness, cX9_isHarness, 2, (some .boolean), [], { frames := 1, cells := 0, slots := 0, locals := 37 })
theorem mb_X9_isHarness : SB m_X9_isHarness 1 := ⟨gm 2066 (by decide +kernel) rfl, gm 162 (by decide +kernel) rfl, by decide +kernel, by decide +kernel⟩
theorem mi_X9_isHarness : SI m_X9_isHarness := ⟨gm 2065 (by decide +kernel) rfl, gm 127 (by decide +kernel) rfl⟩
abbrev m_X9_isWarp : JM := (yX9_isWarp, cX9_isWarp, 2, (some .boolean), [], { frames := 1, cells := 0, slots := 0, locals := 37 })
theorem mb_X9_isWarp : SB m_X9_isWarp 1 := ⟨gm 2046 (by decide +kernel) rfl, gm 162 (by decide +kernel) rfl, by decide +kernel, by decide +kernel⟩
theorem mi_X9_isWarp : SI m_X9_isWarp := ⟨gm 2045 (by decide +kernel) rfl, gm 124 (by decide +kernel) rfl⟩
abbrev m_X9_isCard : JM := (yX9_isCard, cX9_isCard, 2, (some .boolean), [], { frames := 1, cells := 0, slots := 0, locals := 37 })
theorem mb_X9_isCard : SB m_X9_isCard 1 := ⟨gm 2102 (by decide +kernel) rfl, gm 162 (by decide +kernel) rfl, by decide +kernel, by decide +kernel⟩
theorem mi_X9_isCard : SI m_X9_isCard := ⟨gm 2101 (by decide +kernel) rfl, gm 129 (by decide +kernel) rfl⟩
abbrev m_X9_isRow : JM := (yX9_isRow, cX9_isRow, 2, (some .boolean), [], { frames := 1, cells := 0, slots := 0, locals := 37 })
theorem mb_X9_isRow : SB m_X9_isRow 1 := ⟨gm 2177 (by decide +kernel) rfl, gm 162 (by decide +kernel) rfl, by decide +kernel, by decide +kernel⟩
theorem mi_X9_isRow : SI m_X9_isRow := ⟨gm 2176 (by decide +kernel) rfl, gm 135 (by decide +kernel) rfl⟩
abbrev m_X9_isColour : JM := (yX9_isColour, cX9_isColour, 1, (some .boolean), [], { frames := 1, cells := 0, slots := 0, locals := 37 })
theorem mb_X9_isColour : SB m_X9_isColour 1 := ⟨gm 2204 (by decide +kernel) rfl, gm 162 (by decide +kernel) rfl, by decide +kernel, by decide +kernel⟩
theorem ms_X9_isColour : SS m_X9_isColour := gm 2203 (by decide +kernel) rfl
abbrev m_X9_mayHarness : JM := (yX9_mayHarness, cX9_mayHarness, 2, (some .boolean), [], { frames := 2, cells := 0, slots := 0, locals := 74 })
theorem mb_X9_mayHarness : SB m_X9_mayHarness 1 := ⟨gm 2062 (by decide +kernel) rfl, gm 162 (by decide +kernel) rfl, by decide +kernel, by decide +kernel⟩
theorem mi_X9_mayHarness : SI m_X9_mayHarness := ⟨gm 2061 (by decide +kernel) rfl, gm 126 (by decide +kernel) rfl⟩
abbrev m_X9_mayWarp : JM := (yX9_mayWarp, cX9_mayWarp, 2, (some .boolean), [], { frames := 2, cells := 0, slots := 0, locals := 74 })
theorem mb_X9_mayWarp : SB m_X9_mayWarp 1 := ⟨gm 2042 (by decide +kernel) rfl, gm 162 (by decide +kernel) rfl, by decide +kernel, by decide +kernel⟩
theorem mi_X9_mayWarp : SI m_X9_mayWarp := ⟨gm 2041 (by decide +kernel) rfl, gm 123 (by decide +kernel) rfl⟩
abbrev m_X9_mayCard : JM := (yX9_mayCard, cX9_mayCard, 2, (some .boolean), [], { frames := 2, cells := 0, slots := 0, locals := 74 })
theorem mb_X9_mayCard : SB m_X9_mayCard 1 := ⟨gm 2110 (by decide +kernel) rfl, gm 162 (by decide +kernel) rfl, by decide +kernel, by decide +kernel⟩
theorem mi_X9_mayCard : SI m_X9_mayCard := ⟨gm 2109 (by decide +kernel) rfl, gm 130 (by decide +kernel) rfl⟩
abbrev m_X9_mayCards : JM := (yX9_mayCards, cX9_mayCards, 3, (some .boolean), [], { frames := 2, cells := 0, slots := 0, locals := 74 })
theorem mb_X9_mayCards : SB m_X9_mayCards 2 := ⟨gm 2122 (by decide +kernel) rfl, gm 162 (by decide +kernel) rfl, by decide +kernel, by decide +kernel⟩
theorem mi_X9_mayCards : SI m_X9_mayCards := ⟨gm 2121 (by decide +kernel) rfl, gm 131 (by decide +kernel) rfl⟩
abbrev m_X9_mayRow : JM := (yX9_mayRow, cX9_mayRow, 2, (some .boolean), [], { frames := 2, cells := 0, slots := 0, locals := 74 })
theorem mb_X9_mayRow : SB m_X9_mayRow 1 := ⟨gm 2193 (by decide +kernel) rfl, gm 162 (by decide +kernel) rfl, by decide +kernel, by decide +kernel⟩
theorem mi_X9_mayRow : SI m_X9_mayRow := ⟨gm 2192 (by decide +kernel) rfl, gm 136 (by decide +kernel) rfl⟩
abbrev m_X9_mayCell : JM := (yX9_mayCell, cX9_mayCell, 3, (some .boolean), [], { frames := 2, cells := 0, slots := 0, locals := 74 })
theorem mb_X9_mayCell : SB m_X9_mayCell 2 := ⟨gm 2173 (by decide +kernel) rfl, gm 162 (by decide +kernel) rfl, by decide +kernel, by decide +kernel⟩
theorem mi_X9_mayCell : SI m_X9_mayCell := ⟨gm 2172 (by decide +kernel) rfl, gm 134 (by decide +kernel) rfl⟩
abbrev m_X9_mayColour : JM := (yX9_mayColour, cX9_mayColour, 2, (some .boolean), [], { frames := 2, cells := 0, slots := 0, locals := 74 })
theorem mb_X9_mayColour : SB m_X9_mayColour 1 := ⟨gm 2201 (by decide +kernel) rfl, gm 162 (by decide +kernel) rfl, by decide +kernel, by decide +kernel⟩
theorem mi_X9_mayColour : SI m_X9_mayColour := ⟨gm 2200 (by decide +kernel) rfl, gm 137 (by decide +kernel) rfl⟩
abbrev m_X9_look : JM := (yX9_look, cX9_look, 2, (some .int), [], { frames := 2, cells := 0, slots := 0, locals := 74 })
theorem mb_X9_look : SB m_X9_look 1 := ⟨gm 2026 (by decide +kernel) rfl, gm 162 (by decide +kernel) rfl, by decide +kernel, by decide +kernel⟩
theorem mi_X9_look : SI m_X9_look := ⟨gm 2025 (by decide +kernel) rfl, gm 121 (by decide +kernel) rfl⟩
abbrev m_X9_harnessCount : JM := (yX9_harnessCount, cX9_harnessCount, 1, (some .int), [], { frames := 3, cells := 0, slots := 0, locals := 111 })
theorem mb_X9_harnessCount : SB m_X9_harnessCount 0 := ⟨gm 2022 (by decide +kernel) rfl, gm 162 (by decide +kernel) rfl, by decide +kernel, by decide +kernel⟩
theorem mi_X9_harnessCount : SI m_X9_harnessCount := ⟨gm 2020 (by decide +kernel) rfl, gm 2021 (by decide +kernel) rfl⟩
abbrev m_X9_warpCount : JM := (yX9_warpCount, cX9_warpCount, 1, (some .int), [], { frames := 3, cells := 0, slots := 0, locals := 111 })
theorem mb_X9_warpCount : SB m_X9_warpCount 0 := ⟨gm 2034 (by decide +kernel) rfl, gm 162 (by decide +kernel) rfl, by decide +kernel, by decide +kernel⟩
theorem mi_X9_warpCount : SI m_X9_warpCount := ⟨gm 2032 (by decide +kernel) rfl, gm 2033 (by decide +kernel) rfl⟩
abbrev m_X9_warpHarness : JM := (yX9_warpHarness, cX9_warpHarness, 2, (some .int), [], { frames := 3, cells := 0, slots := 0, locals := 111 })
theorem mb_X9_warpHarness : SB m_X9_warpHarness 1 := ⟨gm 2038 (by decide +kernel) rfl, gm 162 (by decide +kernel) rfl, by decide +kernel, by decide +kernel⟩
theorem mi_X9_warpHarness : SI m_X9_warpHarness := ⟨gm 2036 (by decide +kernel) rfl, gm 2037 (by decide +kernel) rfl⟩
abbrev m_X9_warpColour : JM := (yX9_warpColour, cX9_warpColour, 2, (some .int), [], { frames := 3, cells := 0, slots := 0, locals := 111 })
theorem mb_X9_warpColour : SB m_X9_warpColour 1 := ⟨gm 2054 (by decide +kernel) rfl, gm 162 (by decide +kernel) rfl, by decide +kernel, by decide +kernel⟩
theorem mi_X9_warpColour : SI m_X9_warpColour := ⟨gm 2052 (by decide +kernel) rfl, gm 2053 (by decide +kernel) rfl⟩
abbrev m_X9_warpsOn : JM := (yX9_warpsOn, cX9_warpsOn, 4, (some .int), [], { frames := 3, cells := 0, slots := 0, locals := 111 })
theorem mb_X9_warpsOn : SB m_X9_warpsOn 1 := ⟨gm 2058 (by decide +kernel) rfl, gm 162 (by decide +kernel) rfl, by decide +kernel, by decide +kernel⟩
theorem mi_X9_warpsOn : SI m_X9_warpsOn := ⟨gm 2056 (by decide +kernel) rfl, gm 2057 (by decide +kernel) rfl⟩
abbrev m_X9_isBroken : JM := (yX9_isBroken, cX9_isBroken, 2, (some .boolean), [], { frames := 3, cells := 0, slots := 0, locals := 111 })
theorem mb_X9_isBroken : SB m_X9_isBroken 1 := ⟨gm 2070 (by decide +kernel) rfl, gm 162 (by decide +kernel) rfl, by decide +kernel, by decide +kernel⟩
theorem mi_X9_isBroken : SI m_X9_isBroken := ⟨gm 2068 (by decide +kernel) rfl, gm 2069 (by decide +kernel) rfl⟩
abbrev m_X9_brokenCount : JM := (yX9_brokenCount, cX9_brokenCount, 1, (some .int), [], { frames := 2, cells := 0, slots := 0, locals := 74 })
theorem mb_X9_brokenCount : SB m_X9_brokenCount 0 := ⟨gm 2074 (by decide +kernel) rfl, gm 162 (by decide +kernel) rfl, by decide +kernel, by decide +kernel⟩
theorem mi_X9_brokenCount : SI m_X9_brokenCount := ⟨gm 2072 (by decide +kernel) rfl, gm 2073 (by decide +kernel) rfl⟩
abbrev m_X9_isLifted : JM := (yX9_isLifted, cX9_isLifted, 2, (some .boolean), [], { frames := 3, cells := 0, slots := 0, locals := 111 })
theorem mb_X9_isLifted : SB m_X9_isLifted 1 := ⟨gm 2082 (by decide +kernel) rfl, gm 162 (by decide +kernel) rfl, by decide +kernel, by decide +kernel⟩
theorem mi_X9_isLifted : SI m_X9_isLifted := ⟨gm 2080 (by decide +kernel) rfl, gm 2081 (by decide +kernel) rfl⟩
abbrev m_X9_wear : JM := (yX9_wear, cX9_wear, 2, (some .int), [], { frames := 3, cells := 0, slots := 0, locals := 111 })
theorem mb_X9_wear : SB m_X9_wear 1 := ⟨gm 2086 (by decide +kernel) rfl, gm 162 (by decide +kernel) rfl, by decide +kernel, by decide +kernel⟩
theorem mi_X9_wear : SI m_X9_wear := ⟨gm 2084 (by decide +kernel) rfl, gm 2085 (by decide +kernel) rfl⟩
abbrev m_X9_isStuck : JM := (yX9_isStuck, cX9_isStuck, 2, (some .boolean), [], { frames := 3, cells := 0, slots := 0, locals := 111 })
theorem mb_X9_isStuck : SB m_X9_isStuck 1 := ⟨gm 2090 (by decide +kernel) rfl, gm 162 (by decide +kernel) rfl, by decide +kernel, by decide +kernel⟩
theorem mi_X9_isStuck : SI m_X9_isStuck := ⟨gm 2088 (by decide +kernel) rfl, gm 2089 (by decide +kernel) rfl⟩
abbrev m_X9_cardCount : JM := (yX9_cardCount, cX9_cardCount, 1, (some .int), [], { frames := 3, cells := 0, slots := 0, locals := 111 })
theorem mb_X9_cardCount : SB m_X9_cardCount 0 := ⟨gm 2094 (by decide +kernel) rfl, gm 162 (by decide +kernel) rfl, by decide +kernel, by decide +kernel⟩
theorem mi_X9_cardCount : SI m_X9_cardCount := ⟨gm 2092 (by decide +kernel) rfl, gm 2093 (by decide +kernel) rfl⟩
abbrev m_X9_lifts : JM := (yX9_lifts, cX9_lifts, 3, (some .boolean), [], { frames := 2, cells := 0, slots := 0, locals := 74 })
theorem mb_X9_lifts : SB m_X9_lifts 2 := ⟨gm 2098 (by decide +kernel) rfl, gm 162 (by decide +kernel) rfl, by decide +kernel, by decide +kernel⟩
theorem mi_X9_lifts : SI m_X9_lifts := ⟨gm 2096 (by decide +kernel) rfl, gm 2097 (by decide +kernel) rfl⟩
abbrev m_X9_cardColour : JM := (yX9_cardColour, cX9_cardColour, 2, (some .int), [], { frames := 3, cells := 0, slots := 0, locals := 111 })
theorem mb_X9_cardColour : SB m_X9_cardColour 1 := ⟨gm 2106 (by decide +kernel) rfl, gm 162 (by decide +kernel) rfl, by decide +kernel, by decide +kernel⟩
theorem mi_X9_cardColour : SI m_X9_cardColour := ⟨gm 2104 (by decide +kernel) rfl, gm 2105 (by decide +kernel) rfl⟩
abbrev m_X9_liftedWarps : JM := (yX9_liftedWarps, cX9_liftedWarps, 2, (some .int), [], { frames := 3, cells := 0, slots := 0, locals := 111 })
theorem mb_X9_liftedWarps : SB m_X9_liftedWarps 1 := ⟨gm 2114 (by decide +kernel) rfl, gm 162 (by decide +kernel) rfl, by decide +kernel, by decide +kernel⟩
theorem mi_X9_liftedWarps : SI m_X9_liftedWarps := ⟨gm 2112 (by decide +kernel) rfl, gm 2113 (by decide +kernel) rfl⟩
abbrev m_X9_countOf : JM := (yX9_countOf, cX9_countOf, 3, (some .int), [], { frames := 1, cells := 0, slots := 0, locals := 37 })
theorem mb_X9_countOf : SB m_X9_countOf 1 := ⟨gm 2125 (by decide +kernel) rfl, gm 162 (by decide +kernel) rfl, by decide +kernel, by decide +kernel⟩
theorem ms_X9_countOf : SS m_X9_countOf := gm 2124 (by decide +kernel) rfl
abbrev m_X9_liftDistance : JM := (yX9_liftDistance, cX9_liftDistance, 3, (some .int), [], { frames := 3, cells := 0, slots := 0, locals := 111 })
theorem mb_X9_liftDistance : SB m_X9_liftDistance 2 := ⟨gm 2118 (by decide +kernel) rfl, gm 162 (by decide +kernel) rfl, by decide +kernel, by decide +kernel⟩
theorem mi_X9_liftDistance : SI m_X9_liftDistance := ⟨gm 2116 (by decide +kernel) rfl, gm 2117 (by decide +kernel) rfl⟩
abbrev m_X9_oppositeCard : JM := (yX9_oppositeCard, cX9_oppositeCard, 3, (some .int), [], { frames := 3, cells := 0, slots := 0, locals := 111 })
theorem mb_X9_oppositeCard : SB m_X9_oppositeCard 1 := ⟨gm 2129 (by decide +kernel) rfl, gm 162 (by decide +kernel) rfl, by decide +kernel, by decide +kernel⟩
theorem mi_X9_oppositeCard : SI m_X9_oppositeCard := ⟨gm 2127 (by decide +kernel) rfl, gm 2128 (by decide +kernel) rfl⟩
abbrev m_X9_deckLength : JM := (yX9_deckLength, cX9_deckLength, 1, (some .int), [], { frames := 3, cells := 0, slots := 0, locals := 111 })
theorem mb_X9_deckLength : SB m_X9_deckLength 0 := ⟨gm 2133 (by decide +kernel) rfl, gm 162 (by decide +kernel) rfl, by decide +kernel, by decide +kernel⟩
theorem mi_X9_deckLength : SI m_X9_deckLength := ⟨gm 2131 (by decide +kernel) rfl, gm 2132 (by decide +kernel) rfl⟩
abbrev m_X9_deckCard : JM := (yX9_deckCard, cX9_deckCard, 2, (some .int), [], { frames := 2, cells := 0, slots := 0, locals := 74 })
theorem mb_X9_deckCard : SB m_X9_deckCard 1 := ⟨gm 2137 (by decide +kernel) rfl, gm 162 (by decide +kernel) rfl, by decide +kernel, by decide +kernel⟩
theorem mi_X9_deckCard : SI m_X9_deckCard := ⟨gm 2135 (by decide +kernel) rfl, gm 2136 (by decide +kernel) rfl⟩
abbrev m_X9_usesOf : JM := (yX9_usesOf, cX9_usesOf, 5, (some .int), [], { frames := 1, cells := 0, slots := 0, locals := 37 })
theorem mb_X9_usesOf : SB m_X9_usesOf 2 := ⟨gm 2145 (by decide +kernel) rfl, gm 162 (by decide +kernel) rfl, by decide +kernel, by decide +kernel⟩
theorem mi_X9_usesOf : SI m_X9_usesOf := ⟨gm 2144 (by decide +kernel) rfl, gm 132 (by decide +kernel) rfl⟩
abbrev m_X9_cardUses : JM := (yX9_cardUses, cX9_cardUses, 2, (some .int), [], { frames := 3, cells := 0, slots := 0, locals := 111 })
theorem mb_X9_cardUses : SB m_X9_cardUses 1 := ⟨gm 2141 (by decide +kernel) rfl, gm 162 (by decide +kernel) rfl, by decide +kernel, by decide +kernel⟩
theorem mi_X9_cardUses : SI m_X9_cardUses := ⟨gm 2139 (by decide +kernel) rfl, gm 2140 (by decide +kernel) rfl⟩
abbrev m_X9_deckDepth : JM := (yX9_deckDepth, cX9_deckDepth, 1, (some .int), [], { frames := 3, cells := 0, slots := 0, locals := 111 })
theorem mb_X9_deckDepth : SB m_X9_deckDepth 0 := ⟨gm 2149 (by decide +kernel) rfl, gm 162 (by decide +kernel) rfl, by decide +kernel, by decide +kernel⟩
theorem mi_X9_deckDepth : SI m_X9_deckDepth := ⟨gm 2147 (by decide +kernel) rfl, gm 2148 (by decide +kernel) rfl⟩
abbrev m_X9_isPeriod : JM := (yX9_isPeriod, cX9_isPeriod, 3, (some .boolean), [], { frames := 0, cells := 0, slots := 0, locals := 0 })
theorem mb_X9_isPeriod : SB m_X9_isPeriod 1 := ⟨gm 2157 (by decide +kernel) rfl, gm 162 (by decide +kernel) rfl, by decide +kernel, by decide +kernel⟩
theorem mi_X9_isPeriod : SI m_X9_isPeriod := ⟨gm 2156 (by decide +kernel) rfl, gm 133 (by decide +kernel) rfl⟩
abbrev m_X9_deckPeriod : JM := (yX9_deckPeriod, cX9_deckPeriod, 2, (some .int), [], { frames := 2, cells := 0, slots := 0, locals := 74 })
theorem mb_X9_deckPeriod : SB m_X9_deckPeriod 0 := ⟨gm 2153 (by decide +kernel) rfl, gm 162 (by decide +kernel) rfl, by decide +kernel, by decide +kernel⟩
theorem mi_X9_deckPeriod : SI m_X9_deckPeriod := ⟨gm 2151 (by decide +kernel) rfl, gm 2152 (by decide +kernel) rfl⟩
abbrev m_X9_isPalindrome : JM := (yX9_isPalindrome, cX9_isPalindrome, 2, (some .boolean), [], { frames := 2, cells := 0, slots := 0, locals := 74 })
theorem mb_X9_isPalindrome : SB m_X9_isPalindrome 0 := ⟨gm 2161 (by decide +kernel) rfl, gm 162 (by decide +kernel) rfl, by decide +kernel, by decide +kernel⟩
theorem mi_X9_isPalindrome : SI m_X9_isPalindrome := ⟨gm 2159 (by decide +kernel) rfl, gm 2160 (by decide +kernel) rfl⟩
abbrev m_X9_rowCount : JM := (yX9_rowCount, cX9_rowCount, 1, (some .int), [], { frames := 3, cells := 0, slots := 0, locals := 111 })
theorem mb_X9_rowCount : SB m_X9_rowCount 0 := ⟨gm 2165 (by decide +kernel) rfl, gm 162 (by decide +kernel) rfl, by decide +kernel, by decide +kernel⟩
theorem mi_X9_rowCount : SI m_X9_rowCount := ⟨gm 2163 (by decide +kernel) rfl, gm 2164 (by decide +kernel) rfl⟩
abbrev m_X9_cellColour : JM := (yX9_cellColour, cX9_cellColour, 3, (some .int), [], { frames := 3, cells := 0, slots := 0, locals := 111 })
theorem mb_X9_cellColour : SB m_X9_cellColour 2 := ⟨gm 2169 (by decide +kernel) rfl, gm 162 (by decide +kernel) rfl, by decide +kernel, by decide +kernel⟩
theorem mi_X9_cellColour : SI m_X9_cellColour := ⟨gm 2167 (by decide +kernel) rfl, gm 2168 (by decide +kernel) rfl⟩
abbrev m_X9_shows : JM := (yX9_shows, cX9_shows, 3, (some .boolean), [], { frames := 1, cells := 0, slots := 0, locals := 37 })
theorem mb_X9_shows : SB m_X9_shows 2 := ⟨gm 1937 (by decide +kernel) rfl, gm 162 (by decide +kernel) rfl, by decide +kernel, by decide +kernel⟩
theorem mi_X9_shows : SI m_X9_shows := ⟨gm 1936 (by decide +kernel) rfl, gm 102 (by decide +kernel) rfl⟩
abbrev m_X9_showsWarp : JM := (yX9_showsWarp, cX9_showsWarp, 3, (some .boolean), [], { frames := 3, cells := 0, slots := 0, locals := 111 })
theorem mb_X9_showsWarp : SB m_X9_showsWarp 2 := ⟨gm 2181 (by decide +kernel) rfl, gm 162 (by decide +kernel) rfl, by decide +kernel, by decide +kernel⟩
theorem mi_X9_showsWarp : SI m_X9_showsWarp := ⟨gm 2179 (by decide +kernel) rfl, gm 2180 (by decide +kernel) rfl⟩
abbrev m_X9_longestWarpFloat : JM := (yX9_longestWarpFloat, cX9_longestWarpFloat, 5, (some .int), [], { frames := 3, cells := 0, slots := 0, locals := 111 })
theorem mb_X9_longestWarpFloat : SB m_X9_longestWarpFloat 1 := ⟨gm 2185 (by decide +kernel) rfl, gm 162 (by decide +kernel) rfl, by decide +kernel, by decide +kernel⟩
theorem mi_X9_longestWarpFloat : SI m_X9_longestWarpFloat := ⟨gm 2183 (by decide +kernel) rfl, gm 2184 (by decide +kernel) rfl⟩
abbrev m_X9_longestWeftFloat : JM := (yX9_longestWeftFloat, cX9_longestWeftFloat, 5, (some .int), [], { frames := 3, cells := 0, slots := 0, locals := 111 })
theorem mb_X9_longestWeftFloat : SB m_X9_longestWeftFloat 1 := ⟨gm 2189 (by decide +kernel) rfl, gm 162 (by decide +kernel) rfl, by decide +kernel, by decide +kernel⟩
theorem mi_X9_longestWeftFloat : SI m_X9_longestWeftFloat := ⟨gm 2187 (by decide +kernel) rfl, gm 2188 (by decide +kernel) rfl⟩
abbrev m_X9_cellsOfColour : JM := (yX9_cellsOfColour, cX9_cellsOfColour, 5, (some .int), [], { frames := 3, cells := 0, slots := 0, locals := 111 })
theorem mb_X9_cellsOfColour : SB m_X9_cellsOfColour 1 := ⟨gm 2197 (by decide +kernel) rfl, gm 162 (by decide +kernel) rfl, by decide +kernel, by decide +kernel⟩
theorem mi_X9_cellsOfColour : SI m_X9_cellsOfColour := ⟨gm 2195 (by decide +kernel) rfl, gm 2196 (by decide +kernel) rfl⟩
abbrev m_X9_areAlike : JM := (yX9_areAlike, cX9_areAlike, 4, (some .boolean), [], { frames := 1, cells := 0, slots := 0, locals := 37 })
theorem mb_X9_areAlike : SB m_X9_areAlike 2 := ⟨gm 2216 (by decide +kernel) rfl, gm 162 (by decide +kernel) rfl, by decide +kernel, by decide +kernel⟩
theorem mi_X9_areAlike : SI m_X9_areAlike := ⟨gm 2215 (by decide +kernel) rfl, gm 139 (by decide +kernel) rfl⟩
abbrev m_X9_isRowPeriod : JM := (yX9_isRowPeriod, cX9_isRowPeriod, 3, (some .boolean), [], { frames := 2, cells := 0, slots := 0, locals := 74 })
theorem mb_X9_isRowPeriod : SB m_X9_isRowPeriod 1 := ⟨gm 2212 (by decide +kernel) rfl, gm 162 (by decide +kernel) rfl, by decide +kernel, by decide +kernel⟩
theorem mi_X9_isRowPeriod : SI m_X9_isRowPeriod := ⟨gm 2211 (by decide +kernel) rfl, gm 138 (by decide +kernel) rfl⟩
abbrev m_X9_rowPeriod : JM := (yX9_rowPeriod, cX9_rowPeriod, 2, (some .int), [], { frames := 3, cells := 0, slots := 0, locals := 111 })
theorem mb_X9_rowPeriod : SB m_X9_rowPeriod 0 := ⟨gm 2208 (by decide +kernel) rfl, gm 162 (by decide +kernel) rfl, by decide +kernel, by decide +kernel⟩
theorem mi_X9_rowPeriod : SI m_X9_rowPeriod := ⟨gm 2206 (by decide +kernel) rfl, gm 2207 (by decide +kernel) rfl⟩
abbrev m_X9_warpShare : JM := (yX9_warpShare, cX9_warpShare, 4, (some .float), [], { frames := 2, cells := 0, slots := 0, locals := 74 })
theorem mb_X9_warpShare : SB m_X9_warpShare 0 := ⟨gm 2220 (by decide +kernel) rfl, gm 162 (by decide +kernel) rfl, by decide +kernel, by decide +kernel⟩
theorem mi_X9_warpShare : SI m_X9_warpShare := ⟨gm 2218 (by decide +kernel) rfl, gm 2219 (by decide +kernel) rfl⟩
abbrev m_X9_averageLifts : JM := (yX9_averageLifts, cX9_averageLifts, 3, (some .double), [], { frames := 2, cells := 0, slots := 0, locals := 74 })
theorem mb_X9_averageLifts : SB m_X9_averageLifts 0 := ⟨gm 2224 (by decide +kernel) rfl, gm 162 (by decide +kernel) rfl, by decide +kernel, by decide +kernel⟩
theorem mi_X9_averageLifts : SI m_X9_averageLifts := ⟨gm 2222 (by decide +kernel) rfl, gm 2223 (by decide +kernel) rfl⟩
abbrev m_X9_isWrong : JM := (yX9_isWrong, cX9_isWrong, 2, (some .boolean), [], { frames := 4, cells := 0, slots := 0, locals := 148 })
theorem mb_X9_isWrong : SB m_X9_isWrong 1 := ⟨gm 2228 (by decide +kernel) rfl, gm 162 (by decide +kernel) rfl, by decide +kernel, by decide +kernel⟩
theorem mi_X9_isWrong : SI m_X9_isWrong := ⟨gm 2226 (by decide +kernel) rfl, gm 2227 (by decide +kernel) rfl⟩
abbrev m_X9_wrongCount : JM := (yX9_wrongCount, cX9_wrongCount, 1, (some .int), [], { frames := 5, cells := 0, slots := 0, locals := 185 })
theorem mb_X9_wrongCount : SB m_X9_wrongCount 0 := ⟨gm 2243 (by decide +kernel) rfl, gm 162 (by decide +kernel) rfl, by decide +kernel, by decide +kernel⟩
theorem mi_X9_wrongCount : SI m_X9_wrongCount := ⟨gm 2241 (by decide +kernel) rfl, gm 2242 (by decide +kernel) rfl⟩
abbrev m_X9_firstWrongRow : JM := (yX9_firstWrongRow, cX9_firstWrongRow, 2, (some .int), [], { frames := 4, cells := 0, slots := 0, locals := 148 })
theorem mb_X9_firstWrongRow : SB m_X9_firstWrongRow 0 := ⟨gm 2251 (by decide +kernel) rfl, gm 162 (by decide +kernel) rfl, by decide +kernel, by decide +kernel⟩
theorem mi_X9_firstWrongRow : SI m_X9_firstWrongRow := ⟨gm 2249 (by decide +kernel) rfl, gm 2250 (by decide +kernel) rfl⟩
abbrev m_X9_swapFirst : JM := (yX9_swapFirst, cX9_swapFirst, 2, (some .int), [], { frames := 6, cells := 0, slots := 0, locals := 222 })
theorem mb_X9_swapFirst : SB m_X9_swapFirst 0 := ⟨gm 2255 (by decide +kernel) rfl, gm 162 (by decide +kernel) rfl, by decide +kernel, by decide +kernel⟩
theorem mi_X9_swapFirst : SI m_X9_swapFirst := ⟨gm 2253 (by decide +kernel) rfl, gm 2254 (by decide +kernel) rfl⟩
abbrev m_X9_swapSecond : JM := (yX9_swapSecond, cX9_swapSecond, 2, (some .int), [], { frames := 6, cells := 0, slots := 0, locals := 222 })
theorem mb_X9_swapSecond : SB m_X9_swapSecond 0 := ⟨gm 2267 (by decide +kernel) rfl, gm 162 (by decide +kernel) rfl, by decide +kernel, by decide +kernel⟩
theorem mi_X9_swapSecond : SI m_X9_swapSecond := ⟨gm 2265 (by decide +kernel) rfl, gm 2266 (by decide +kernel) rfl⟩
abbrev m_X9_yarn : JM := (yX9_yarn, cX9_yarn, 2, (some .int), [], { frames := 3, cells := 0, slots := 0, locals := 111 })
theorem mb_X9_yarn : SB m_X9_yarn 1 := ⟨gm 2271 (by decide +kernel) rfl, gm 162 (by decide +kernel) rfl, by decide +kernel, by decide +kernel⟩
theorem mi_X9_yarn : SI m_X9_yarn := ⟨gm 2269 (by decide +kernel) rfl, gm 2270 (by decide +kernel) rfl⟩
abbrev m_X9_yarnNeeded : JM := (yX9_yarnNeeded, cX9_yarnNeeded, 4, (some .int), [], { frames := 3, cells := 0, slots := 0, locals := 111 })
theorem mb_X9_yarnNeeded : SB m_X9_yarnNeeded 1 := ⟨gm 2275 (by decide +kernel) rfl, gm 162 (by decide +kernel) rfl, by decide +kernel, by decide +kernel⟩
theorem mi_X9_yarnNeeded : SI m_X9_yarnNeeded := ⟨gm 2273 (by decide +kernel) rfl, gm 2274 (by decide +kernel) rfl⟩
abbrev m_X9_nextCard : JM := (yX9_nextCard, cX9_nextCard, 1, (some .int), [], { frames := 2, cells := 0, slots := 0, locals := 74 })
theorem mb_X9_nextCard : SB m_X9_nextCard 0 := ⟨gm 2279 (by decide +kernel) rfl, gm 162 (by decide +kernel) rfl, by decide +kernel, by decide +kernel⟩
theorem mi_X9_nextCard : SI m_X9_nextCard := ⟨gm 2277 (by decide +kernel) rfl, gm 2278 (by decide +kernel) rfl⟩
abbrev m_X9_weaveObstacle : JM := (yX9_weaveObstacle, cX9_weaveObstacle, 1, (some .int), [], { frames := 3, cells := 0, slots := 0, locals := 111 })
theorem mb_X9_weaveObstacle : SB m_X9_weaveObstacle 0 := ⟨gm 2283 (by decide +kernel) rfl, gm 162 (by decide +kernel) rfl, by decide +kernel, by decide +kernel⟩
theorem mi_X9_weaveObstacle : SI m_X9_weaveObstacle := ⟨gm 2281 (by decide +kernel) rfl, gm 2282 (by decide +kernel) rfl⟩
abbrev m_X9_picksPossible : JM := (yX9_picksPossible, cX9_picksPossible, 1, (some .int), [], { frames := 6, cells := 0, slots := 0, locals := 222 })
theorem mb_X9_picksPossible : SB m_X9_picksPossible 0 := ⟨gm 2287 (by decide +kernel) rfl, gm 162 (by decide +kernel) rfl, by decide +kernel, by decide +kernel⟩
theorem mi_X9_picksPossible : SI m_X9_picksPossible := ⟨gm 2285 (by decide +kernel) rfl, gm 2286 (by decide +kernel) rfl⟩
abbrev m_X9_stuckOnes : JM := (yX9_stuckOnes, cX9_stuckOnes, 3, (some .int), [], { frames := 1, cells := 0, slots := 0, locals := 37 })
theorem mb_X9_stuckOnes : SB m_X9_stuckOnes 0 := ⟨gm 2299 (by decide +kernel) rfl, gm 162 (by decide +kernel) rfl, by decide +kernel, by decide +kernel⟩
theorem mi_X9_stuckOnes : SI m_X9_stuckOnes := ⟨gm 2298 (by decide +kernel) rfl, gm 146 (by decide +kernel) rfl⟩
abbrev m_X9_untilStuck : JM := (yX9_untilStuck, cX9_untilStuck, 3, (some .int), [], { frames := 5, cells := 0, slots := 0, locals := 185 })
theorem mb_X9_untilStuck : SB m_X9_untilStuck 0 := ⟨gm 2295 (by decide +kernel) rfl, gm 162 (by decide +kernel) rfl, by decide +kernel, by decide +kernel⟩
theorem mi_X9_untilStuck : SI m_X9_untilStuck := ⟨gm 2294 (by decide +kernel) rfl, gm 145 (by decide +kernel) rfl⟩
abbrev m_X9_picksUntilStuck : JM := (yX9_picksUntilStuck, cX9_picksUntilStuck, 1, (some .int), [], { frames := 6, cells := 0, slots := 0, locals := 222 })
theorem mb_X9_picksUntilStuck : SB m_X9_picksUntilStuck 0 := ⟨gm 2291 (by decide +kernel) rfl, gm 162 (by decide +kernel) rfl, by decide +kernel, by decide +kernel⟩
theorem mi_X9_picksUntilStuck : SI m_X9_picksUntilStuck := ⟨gm 2289 (by decide +kernel) rfl, gm 2290 (by decide +kernel) rfl⟩
abbrev m_X9_imbalance : JM := (yX9_imbalance, cX9_imbalance, 3, (some .int), [], { frames := 5, cells := 0, slots := 0, locals := 185 })
theorem mb_X9_imbalance : SB m_X9_imbalance 0 := ⟨gm 2303 (by decide +kernel) rfl, gm 162 (by decide +kernel) rfl, by decide +kernel, by decide +kernel⟩
theorem mi_X9_imbalance : SI m_X9_imbalance := ⟨gm 2301 (by decide +kernel) rfl, gm 2302 (by decide +kernel) rfl⟩
abbrev m_X9_writesByte : JM := (yX9_writesByte, cX9_writesByte, 2, none, [], { frames := 0, cells := 0, slots := 0, locals := 0 })
theorem mb_X9_writesByte : SB m_X9_writesByte 1 := ⟨gm 2312 (by decide +kernel) rfl, gm 162 (by decide +kernel) rfl, by decide +kernel, by decide +kernel⟩
theorem mi_X9_writesByte : SI m_X9_writesByte := ⟨gm 2311 (by decide +kernel) rfl, gm 147 (by decide +kernel) rfl⟩
abbrev m_X9_writesNumber : JM := (yX9_writesNumber, cX9_writesNumber, 2, none, [], { frames := 1, cells := 0, slots := 0, locals := 37 })
theorem mb_X9_writesNumber : SB m_X9_writesNumber 1 := ⟨gm 2332 (by decide +kernel) rfl, gm 162 (by decide +kernel) rfl, by decide +kernel, by decide +kernel⟩
theorem mi_X9_writesNumber : SI m_X9_writesNumber := ⟨gm 2331 (by decide +kernel) rfl, gm 150 (by decide +kernel) rfl⟩
abbrev m_X9_writeRow : JM := (yX9_writeRow, cX9_writeRow, 3, (some .int), [], { frames := 3, cells := 0, slots := 0, locals := 111 })
theorem mb_X9_writeRow : SB m_X9_writeRow 1 := ⟨gm 2308 (by decide +kernel) rfl, gm 162 (by decide +kernel) rfl, by decide +kernel, by decide +kernel⟩
theorem mi_X9_writeRow : SI m_X9_writeRow := ⟨gm 2306 (by decide +kernel) rfl, gm 2307 (by decide +kernel) rfl⟩
abbrev m_X9_writeCard : JM := (yX9_writeCard, cX9_writeCard, 3, (some .int), [], { frames := 3, cells := 0, slots := 0, locals := 111 })
theorem mb_X9_writeCard : SB m_X9_writeCard 1 := ⟨gm 2316 (by decide +kernel) rfl, gm 162 (by decide +kernel) rfl, by decide +kernel, by decide +kernel⟩
theorem mi_X9_writeCard : SI m_X9_writeCard := ⟨gm 2314 (by decide +kernel) rfl, gm 2315 (by decide +kernel) rfl⟩
abbrev m_X9_writesPart : JM := (yX9_writesPart, cX9_writesPart, 2, none, [], { frames := 2, cells := 0, slots := 0, locals := 74 })
theorem mb_X9_writesPart : SB m_X9_writesPart 1 := ⟨gm 2328 (by decide +kernel) rfl, gm 162 (by decide +kernel) rfl, by decide +kernel, by decide +kernel⟩
theorem mi_X9_writesPart : SI m_X9_writesPart := ⟨gm 2327 (by decide +kernel) rfl, gm 149 (by decide +kernel) rfl⟩
abbrev m_X9_isApart : JM := (yX9_isApart, cX9_isApart, 2, (some .boolean), [], { frames := 0, cells := 0, slots := 0, locals := 0 })
theorem mb_X9_isApart : SB m_X9_isApart 1 := ⟨gm 2324 (by decide +kernel) rfl, gm 162 (by decide +kernel) rfl, by decide +kernel, by decide +kernel⟩
theorem mi_X9_isApart : SI m_X9_isApart := ⟨gm 2323 (by decide +kernel) rfl, gm 148 (by decide +kernel) rfl⟩
abbrev m_X9_writeDeck : JM := (yX9_writeDeck, cX9_writeDeck, 2, (some .int), [], { frames := 3, cells := 0, slots := 0, locals := 111 })
theorem mb_X9_writeDeck : SB m_X9_writeDeck 0 := ⟨gm 2320 (by decide +kernel) rfl, gm 162 (by decide +kernel) rfl, by decide +kernel, by decide +kernel⟩
theorem mi_X9_writeDeck : SI m_X9_writeDeck := ⟨gm 2318 (by decide +kernel) rfl, gm 2319 (by decide +kernel) rfl⟩
abbrev m_X9_outputByte : JM := (yX9_outputByte, cX9_outputByte, 2, (some .int), [], { frames := 1, cells := 0, slots := 0, locals := 37 })
theorem mb_X9_outputByte : SB m_X9_outputByte 1 := ⟨gm 2336 (by decide +kernel) rfl, gm 162 (by decide +kernel) rfl, by decide +kernel, by decide +kernel⟩
theorem mi_X9_outputByte : SI m_X9_outputByte := ⟨gm 2334 (by decide +kernel) rfl, gm 2335 (by decide +kernel) rfl⟩
abbrev m_X9_remembers : JM := (yX9_remembers, cX9_remembers, 2, none, [], { frames := 1, cells := 0, slots := 0, locals := 37 })
theorem mb_X9_remembers : SB m_X9_remembers 0 := ⟨gm 2344 (by decide +kernel) rfl, gm 162 (by decide +kernel) rfl, by decide +kernel, by decide +kernel⟩
theorem mi_X9_remembers : SI m_X9_remembers := ⟨gm 2343 (by decide +kernel) rfl, gm 151 (by decide +kernel) rfl⟩
abbrev m_X9_weave : JM := (yX9_weave, cX9_weave, 2, (some .int), [], { frames := 6, cells := 0, slots := 0, locals := 222 })
theorem mb_X9_weave : SB m_X9_weave 1 := ⟨gm 2340 (by decide +kernel) rfl, gm 162 (by decide +kernel) rfl, by decide +kernel, by decide +kernel⟩
theorem mi_X9_weave : SI m_X9_weave := ⟨gm 2338 (by decide +kernel) rfl, gm 2339 (by decide +kernel) rfl⟩
abbrev m_X9_unweave : JM := (yX9_unweave, cX9_unweave, 2, (some .int), [], { frames := 2, cells := 0, slots := 0, locals := 74 })
theorem mb_X9_unweave : SB m_X9_unweave 1 := ⟨gm 2348 (by decide +kernel) rfl, gm 162 (by decide +kernel) rfl, by decide +kernel, by decide +kernel⟩
theorem mi_X9_unweave : SI m_X9_unweave := ⟨gm 2346 (by decide +kernel) rfl, gm 2347 (by decide +kernel) rfl⟩
abbrev m_X9_swapCards : JM := (yX9_swapCards, cX9_swapCards, 3, (some .int), [], { frames := 3, cells := 0, slots := 0, locals := 111 })
theorem mb_X9_swapCards : SB m_X9_swapCards 2 := ⟨gm 2352 (by decide +kernel) rfl, gm 162 (by decide +kernel) rfl, by decide +kernel, by decide +kernel⟩
theorem mi_X9_swapCards : SI m_X9_swapCards := ⟨gm 2350 (by decide +kernel) rfl, gm 2351 (by decide +kernel) rfl⟩
abbrev m_X9_punch : JM := (yX9_punch, cX9_punch, 3, (some .boolean), [], { frames := 2, cells := 0, slots := 0, locals := 74 })
theorem mb_X9_punch : SB m_X9_punch 2 := ⟨gm 2356 (by decide +kernel) rfl, gm 162 (by decide +kernel) rfl, by decide +kernel, by decide +kernel⟩
theorem mi_X9_punch : SI m_X9_punch := ⟨gm 2354 (by decide +kernel) rfl, gm 2355 (by decide +kernel) rfl⟩
abbrev m_X9_setCardColour : JM := (yX9_setCardColour, cX9_setCardColour, 4, (some .int), [], { frames := 2, cells := 0, slots := 0, locals := 74 })
theorem mb_X9_setCardColour : SB m_X9_setCardColour 2 := ⟨gm 2360 (by decide +kernel) rfl, gm 162 (by decide +kernel) rfl, by decide +kernel, by decide +kernel⟩
theorem mi_X9_setCardColour : SI m_X9_setCardColour := ⟨gm 2358 (by decide +kernel) rfl, gm 2359 (by decide +kernel) rfl⟩
abbrev m_X9_bringYarn : JM := (yX9_bringYarn, cX9_bringYarn, 3, (some .int), [], { frames := 2, cells := 0, slots := 0, locals := 74 })
theorem mb_X9_bringYarn : SB m_X9_bringYarn 2 := ⟨gm 2364 (by decide +kernel) rfl, gm 162 (by decide +kernel) rfl, by decide +kernel, by decide +kernel⟩
theorem mi_X9_bringYarn : SI m_X9_bringYarn := ⟨gm 2362 (by decide +kernel) rfl, gm 2363 (by decide +kernel) rfl⟩
abbrev m_X9_oil : JM := (yX9_oil, cX9_oil, 3, (some .int), [], { frames := 3, cells := 0, slots := 0, locals := 111 })
theorem mb_X9_oil : SB m_X9_oil 1 := ⟨gm 2368 (by decide +kernel) rfl, gm 162 (by decide +kernel) rfl, by decide +kernel, by decide +kernel⟩
theorem mi_X9_oil : SI m_X9_oil := ⟨gm 2366 (by decide +kernel) rfl, gm 2367 (by decide +kernel) rfl⟩
abbrev m_X9_mend : JM := (yX9_mend, cX9_mend, 3, (some .int), [], { frames := 2, cells := 0, slots := 0, locals := 74 })
theorem mb_X9_mend : SB m_X9_mend 1 := ⟨gm 2372 (by decide +kernel) rfl, gm 162 (by decide +kernel) rfl, by decide +kernel, by decide +kernel⟩
theorem mi_X9_mend : SI m_X9_mend := ⟨gm 2370 (by decide +kernel) rfl, gm 2371 (by decide +kernel) rfl⟩
abbrev m_X9_undo : JM := (yX9_undo, cX9_undo, 1, (some .int), [], { frames := 1, cells := 0, slots := 0, locals := 37 })
theorem mb_X9_undo : SB m_X9_undo 0 := ⟨gm 2376 (by decide +kernel) rfl, gm 162 (by decide +kernel) rfl, by decide +kernel, by decide +kernel⟩
theorem mi_X9_undo : SI m_X9_undo := ⟨gm 2374 (by decide +kernel) rfl, gm 2375 (by decide +kernel) rfl⟩
abbrev m_X9_undoCount : JM := (yX9_undoCount, cX9_undoCount, 1, (some .int), [], { frames := 1, cells := 0, slots := 0, locals := 37 })
theorem mb_X9_undoCount : SB m_X9_undoCount 0 := ⟨gm 2380 (by decide +kernel) rfl, gm 162 (by decide +kernel) rfl, by decide +kernel, by decide +kernel⟩
theorem mi_X9_undoCount : SI m_X9_undoCount := ⟨gm 2378 (by decide +kernel) rfl, gm 2379 (by decide +kernel) rfl⟩
abbrev m_X9_isSlot : JM := (yX9_isSlot, cX9_isSlot, 1, (some .boolean), [], { frames := 1, cells := 0, slots := 0, locals := 37 })
theorem mb_X9_isSlot : SB m_X9_isSlot 1 := ⟨gm 2387 (by decide +kernel) rfl, gm 162 (by decide +kernel) rfl, by decide +kernel, by decide +kernel⟩
theorem ms_X9_isSlot : SS m_X9_isSlot := gm 2386 (by decide +kernel) rfl
abbrev m_X9_saveState : JM := (yX9_saveState, cX9_saveState, 2, (some .int), [], { frames := 2, cells := 0, slots := 0, locals := 74 })
theorem mb_X9_saveState : SB m_X9_saveState 1 := ⟨gm 2384 (by decide +kernel) rfl, gm 162 (by decide +kernel) rfl, by decide +kernel, by decide +kernel⟩
theorem mi_X9_saveState : SI m_X9_saveState := ⟨gm 2382 (by decide +kernel) rfl, gm 2383 (by decide +kernel) rfl⟩
abbrev m_X9_restoreState : JM := (yX9_restoreState, cX9_restoreState, 3, (some .int), [], { frames := 2, cells := 0, slots := 0, locals := 74 })
theorem mb_X9_restoreState : SB m_X9_restoreState 1 := ⟨gm 2391 (by decide +kernel) rfl, gm 162 (by decide +kernel) rfl, by decide +kernel, by decide +kernel⟩
theorem mi_X9_restoreState : SI m_X9_restoreState := ⟨gm 2389 (by decide +kernel) rfl, gm 2390 (by decide +kernel) rfl⟩
abbrev m_X0_init : JM := (yX0_init, cX0_init, 1, none, [], { frames := 1, cells := 4, slots := 906, locals := 37 })
theorem mb_X0_init : SB m_X0_init 0 := ⟨gm 235 (by decide +kernel) rfl, gm 157 (by decide +kernel) rfl, by decide +kernel, by decide +kernel⟩
theorem mc_X0_init : SC m_X0_init := ⟨gm 234 (by decide +kernel) rfl, rfl, rfl⟩
abbrev m_X0_clear : JM := (yX0_clear, cX0_clear, 1, none, [], { frames := 0, cells := 0, slots := 0, locals := 0 })
theorem mb_X0_clear : SB m_X0_clear 0 := ⟨gm 605 (by decide +kernel) rfl, gm 157 (by decide +kernel) rfl, by decide +kernel, by decide +kernel⟩
theorem mi_X0_clear : SI m_X0_clear := ⟨gm 603 (by decide +kernel) rfl, gm 604 (by decide +kernel) rfl⟩
abbrev m_X0_isOpening : JM := (yX0_isOpening, cX0_isOpening, 1, (some .boolean), [], { frames := 0, cells := 0, slots := 0, locals := 0 })
theorem mb_X0_isOpening : SB m_X0_isOpening 1 := ⟨gm 1483 (by decide +kernel) rfl, gm 157 (by decide +kernel) rfl, by decide +kernel, by decide +kernel⟩
theorem ms_X0_isOpening : SS m_X0_isOpening := gm 1482 (by decide +kernel) rfl
abbrev m_X0_isNestingFull : JM := (yX0_isNestingFull, cX0_isNestingFull, 1, (some .boolean), [], { frames := 0, cells := 0, slots := 0, locals := 0 })
theorem mb_X0_isNestingFull : SB m_X0_isNestingFull 0 := ⟨gm 792 (by decide +kernel) rfl, gm 157 (by decide +kernel) rfl, by decide +kernel, by decide +kernel⟩
theorem mi_X0_isNestingFull : SI m_X0_isNestingFull := ⟨gm 790 (by decide +kernel) rfl, gm 791 (by decide +kernel) rfl⟩
abbrev m_X0_addCard : JM := (yX0_addCard, cX0_addCard, 2, (some .boolean), [], { frames := 2, cells := 0, slots := 0, locals := 74 })
theorem mb_X0_addCard : SB m_X0_addCard 1 := ⟨gm 768 (by decide +kernel) rfl, gm 157 (by decide +kernel) rfl, by decide +kernel, by decide +kernel⟩
theorem mi_X0_addCard : SI m_X0_addCard := ⟨gm 766 (by decide +kernel) rfl, gm 767 (by decide +kernel) rfl⟩
abbrev m_X0_openPart : JM := (yX0_openPart, cX0_openPart, 2, none, [], { frames := 2, cells := 0, slots := 0, locals := 74 })
theorem mb_X0_openPart : SB m_X0_openPart 1 := ⟨gm 796 (by decide +kernel) rfl, gm 157 (by decide +kernel) rfl, by decide +kernel, by decide +kernel⟩
theorem mi_X0_openPart : SI m_X0_openPart := ⟨gm 794 (by decide +kernel) rfl, gm 795 (by decide +kernel) rfl⟩
abbrev m_X0_closePart : JM := (yX0_closePart, cX0_closePart, 4, (some .boolean), [], { frames := 2, cells := 0, slots := 0, locals := 74 })
theorem mb_X0_closePart : SB m_X0_closePart 0 := ⟨gm 804 (by decide +kernel) rfl, gm 157 (by decide +kernel) rfl, by decide +kernel, by decide +kernel⟩
theorem mi_X0_closePart : SI m_X0_closePart := ⟨gm 802 (by decide +kernel) rfl, gm 803 (by decide +kernel) rfl⟩
abbrev m_X0_startOfList : JM := (yX0_startOfList, cX0_startOfList, 2, (some .int), [], { frames := 1, cells := 0, slots := 0, locals := 37 })
theorem mb_X0_startOfList : SB m_X0_startOfList 1 := ⟨gm 772 (by decide +kernel) rfl, gm 157 (by decide +kernel) rfl, by decide +kernel, by decide +kernel⟩
theorem mi_X0_startOfList : SI m_X0_startOfList := ⟨gm 771 (by decide +kernel) rfl, gm 15 (by decide +kernel) rfl⟩
abbrev m_X0_picksWhenClosed : JM := (yX0_picksWhenClosed, cX0_picksWhenClosed, 2, (some .int), [], { frames := 0, cells := 0, slots := 0, locals := 0 })
theorem mb_X0_picksWhenClosed : SB m_X0_picksWhenClosed 2 := ⟨gm 807 (by decide +kernel) rfl, gm 157 (by decide +kernel) rfl, by decide +kernel, by decide +kernel⟩
theorem ms_X0_picksWhenClosed : SS m_X0_picksWhenClosed := gm 806 (by decide +kernel) rfl
abbrev m_X0_mirrorPicks : JM := (yX0_mirrorPicks, cX0_mirrorPicks, 4, none, [], { frames := 1, cells := 0, slots := 0, locals := 37 })
theorem mb_X0_mirrorPicks : SB m_X0_mirrorPicks 2 := ⟨gm 811 (by decide +kernel) rfl, gm 157 (by decide +kernel) rfl, by decide +kernel, by decide +kernel⟩
theorem mi_X0_mirrorPicks : SI m_X0_mirrorPicks := ⟨gm 810 (by decide +kernel) rfl, gm 19 (by decide +kernel) rfl⟩
abbrev m_X0_reversePicks : JM := (yX0_reversePicks, cX0_reversePicks, 6, none, [], { frames := 1, cells := 0, slots := 0, locals := 37 })
theorem mb_X0_reversePicks : SB m_X0_reversePicks 2 := ⟨gm 815 (by decide +kernel) rfl, gm 157 (by decide +kernel) rfl, by decide +kernel, by decide +kernel⟩
theorem mi_X0_reversePicks : SI m_X0_reversePicks := ⟨gm 814 (by decide +kernel) rfl, gm 20 (by decide +kernel) rfl⟩
abbrev m_X0_repeatPicks : JM := (yX0_repeatPicks, cX0_repeatPicks, 4, none, [], { frames := 1, cells := 0, slots := 0, locals := 37 })
theorem mb_X0_repeatPicks : SB m_X0_repeatPicks 2 := ⟨gm 819 (by decide +kernel) rfl, gm 157 (by decide +kernel) rfl, by decide +kernel, by decide +kernel⟩
theorem mi_X0_repeatPicks : SI m_X0_repeatPicks := ⟨gm 818 (by decide +kernel) rfl, gm 21 (by decide +kernel) rfl⟩
abbrev m_X0_addPart : JM := (yX0_addPart, cX0_addPart, 2, none, [], { frames := 1, cells := 0, slots := 0, locals := 37 })
theorem mb_X0_addPart : SB m_X0_addPart 1 := ⟨gm 777 (by decide +kernel) rfl, gm 157 (by decide +kernel) rfl, by decide +kernel, by decide +kernel⟩
theorem mi_X0_addPart : SI m_X0_addPart := ⟨gm 776 (by decide +kernel) rfl, gm 16 (by decide +kernel) rfl⟩
abbrev m_X0_cardForRow : JM := (yX0_cardForRow, cX0_cardForRow, 2, (some .int), [], { frames := 1, cells := 0, slots := 0, locals := 37 })
theorem mb_X0_cardForRow : SB m_X0_cardForRow 1 := ⟨gm 851 (by decide +kernel) rfl, gm 157 (by decide +kernel) rfl, by decide +kernel, by decide +kernel⟩
theorem mi_X0_cardForRow : SI m_X0_cardForRow := ⟨gm 849 (by decide +kernel) rfl, gm 850 (by decide +kernel) rfl⟩
abbrev m_X0_countPicks : JM := (yX0_countPicks, cX0_countPicks, 4, (some .int), [], { frames := 1, cells := 0, slots := 0, locals := 37 })
theorem mb_X0_countPicks : SB m_X0_countPicks 1 := ⟨gm 1167 (by decide +kernel) rfl, gm 157 (by decide +kernel) rfl, by decide +kernel, by decide +kernel⟩
theorem mi_X0_countPicks : SI m_X0_countPicks := ⟨gm 1165 (by decide +kernel) rfl, gm 1166 (by decide +kernel) rfl⟩
abbrev m_X0_leastPeriod : JM := (yX0_leastPeriod, cX0_leastPeriod, 2, (some .int), [], { frames := 2, cells := 0, slots := 0, locals := 74 })
theorem mb_X0_leastPeriod : SB m_X0_leastPeriod 0 := ⟨gm 1185 (by decide +kernel) rfl, gm 157 (by decide +kernel) rfl, by decide +kernel, by decide +kernel⟩
theorem mi_X0_leastPeriod : SI m_X0_leastPeriod := ⟨gm 1183 (by decide +kernel) rfl, gm 1184 (by decide +kernel) rfl⟩
abbrev m_X0_repeatsAfter : JM := (yX0_repeatsAfter, cX0_repeatsAfter, 3, (some .boolean), [], { frames := 1, cells := 0, slots := 0, locals := 37 })
theorem mb_X0_repeatsAfter : SB m_X0_repeatsAfter 1 := ⟨gm 1189 (by decide +kernel) rfl, gm 157 (by decide +kernel) rfl, by decide +kernel, by decide +kernel⟩
theorem mi_X0_repeatsAfter : SI m_X0_repeatsAfter := ⟨gm 1188 (by decide +kernel) rfl, gm 42 (by decide +kernel) rfl⟩
abbrev m_X0_readsSameBackwards : JM := (yX0_readsSameBackwards, cX0_readsSameBackwards, 2, (some .boolean), [], { frames := 1, cells := 0, slots := 0, locals := 37 })
theorem mb_X0_readsSameBackwards : SB m_X0_readsSameBackwards 0 := ⟨gm 1200 (by decide +kernel) rfl, gm 157 (by decide +kernel) rfl, by decide +kernel, by decide +kernel⟩
theorem mi_X0_readsSameBackwards : SI m_X0_readsSameBackwards := ⟨gm 1198 (by decide +kernel) rfl, gm 1199 (by decide +kernel) rfl⟩
abbrev m_X1_init : JM := (yX1_init, cX1_init, 2, none, [], { frames := 2, cells := 57, slots := 1368, locals := 74 })
theorem mb_X1_init : SB m_X1_init 0 := ⟨gm 433 (by decide +kernel) rfl, gm 160 (by decide +kernel) rfl, by decide +kernel, by decide +kernel⟩
theorem mc_X1_init : SC m_X1_init := ⟨gm 432 (by decide +kernel) rfl, rfl, rfl⟩
abbrev m_X1_forgetAll : JM := (yX1_forgetAll, cX1_forgetAll, 1, none, [], { frames := 0, cells := 0, slots := 0, locals := 0 })
theorem mb_X1_forgetAll : SB m_X1_forgetAll 0 := ⟨gm 988 (by decide +kernel) rfl, gm 160 (by decide +kernel) rfl, by decide +kernel, by decide +kernel⟩
theorem mi_X1_forgetAll : SI m_X1_forgetAll := ⟨gm 986 (by decide +kernel) rfl, gm 987 (by decide +kernel) rfl⟩
abbrev m_X1_remember : JM := (yX1_remember, cX1_remember, 3, none, [], { frames := 3, cells := 0, slots := 0, locals := 111 })
theorem mb_X1_remember : SB m_X1_remember 1 := ⟨gm 1509 (by decide +kernel) rfl, gm 160 (by decide +kernel) rfl, by decide +kernel, by decide +kernel⟩
theorem mi_X1_remember : SI m_X1_remember := ⟨gm 1507 (by decide +kernel) rfl, gm 1508 (by decide +kernel) rfl⟩
abbrev m_X1_bringBack : JM := (yX1_bringBack, cX1_bringBack, 4, (some .boolean), [], { frames := 3, cells := 0, slots := 0, locals := 111 })
theorem mb_X1_bringBack : SB m_X1_bringBack 1 := ⟨gm 1583 (by decide +kernel) rfl, gm 160 (by decide +kernel) rfl, by decide +kernel, by decide +kernel⟩
theorem mi_X1_bringBack : SI m_X1_bringBack := ⟨gm 1581 (by decide +kernel) rfl, gm 1582 (by decide +kernel) rfl⟩
abbrev m_X1_stateAt : JM := (yX1_stateAt, cX1_stateAt, 2, (some (.object "CardLoom$State")), [], { frames := 0, cells := 0, slots := 0, locals := 0 })
theorem mb_X1_stateAt : SB m_X1_stateAt 1 := ⟨gm 1513 (by decide +kernel) rfl, gm 160 (by decide +kernel) rfl, by decide +kernel, by decide +kernel⟩
theorem mi_X1_stateAt : SI m_X1_stateAt := ⟨gm 1512 (by decide +kernel) rfl, gm 51 (by decide +kernel) rfl⟩
abbrev m_X2_init : JM := (yX2_init, cX2_init, 1, none, [], { frames := 1, cells := 1, slots := 500, locals := 37 })
theorem mb_X2_init : SB m_X2_init 0 := ⟨gm 195 (by decide +kernel) rfl, gm 155 (by decide +kernel) rfl, by decide +kernel, by decide +kernel⟩
theorem mc_X2_init : SC m_X2_init := ⟨gm 194 (by decide +kernel) rfl, rfl, rfl⟩
abbrev m_X2_addFourBytes : JM := (yX2_addFourBytes, cX2_addFourBytes, 3, none, [], { frames := 1, cells := 0, slots := 0, locals := 37 })
theorem mb_X2_addFourBytes : SB m_X2_addFourBytes 1 := ⟨gm 497 (by decide +kernel) rfl, gm 155 (by decide +kernel) rfl, by decide +kernel, by decide +kernel⟩
theorem mi_X2_addFourBytes : SI m_X2_addFourBytes := ⟨gm 495 (by decide +kernel) rfl, gm 496 (by decide +kernel) rfl⟩
abbrev m_X2_startReading : JM := (yX2_startReading, cX2_startReading, 2, none, [], { frames := 3, cells := 0, slots := 0, locals := 111 })
theorem mb_X2_startReading : SB m_X2_startReading 1 := ⟨gm 616 (by decide +kernel) rfl, gm 155 (by decide +kernel) rfl, by decide +kernel, by decide +kernel⟩
theorem mi_X2_startReading : SI m_X2_startReading := ⟨gm 614 (by decide +kernel) rfl, gm 615 (by decide +kernel) rfl⟩
abbrev m_X2_advance : JM := (yX2_advance, cX2_advance, 1, none, [], { frames := 2, cells := 0, slots := 0, locals := 74 })
theorem mb_X2_advance : SB m_X2_advance 0 := ⟨gm 623 (by decide +kernel) rfl, gm 155 (by decide +kernel) rfl, by decide +kernel, by decide +kernel⟩
theorem mi_X2_advance : SI m_X2_advance := ⟨gm 621 (by decide +kernel) rfl, gm 622 (by decide +kernel) rfl⟩
abbrev m_X2_readWord : JM := (yX2_readWord, cX2_readWord, 1, none, [], { frames := 1, cells := 0, slots := 0, locals := 37 })
theorem mb_X2_readWord : SB m_X2_readWord 0 := ⟨gm 633 (by decide +kernel) rfl, gm 155 (by decide +kernel) rfl, by decide +kernel, by decide +kernel⟩
theorem mi_X2_readWord : SI m_X2_readWord := ⟨gm 632 (by decide +kernel) rfl, gm 1 (by decide +kernel) rfl⟩
abbrev m_X2_readNumber : JM := (yX2_readNumber, cX2_readNumber, 1, none, [], { frames := 1, cells := 0, slots := 0, locals := 37 })
theorem mb_X2_readNumber : SB m_X2_readNumber 0 := ⟨gm 640 (by decide +kernel) rfl, gm 155 (by decide +kernel) rfl, by decide +kernel, by decide +kernel⟩
theorem mi_X2_readNumber : SI m_X2_readNumber := ⟨gm 639 (by decide +kernel) rfl, gm 2 (by decide +kernel) rfl⟩
abbrev m_X2_isLetter : JM := (yX2_isLetter, cX2_isLetter, 1, (some .boolean), [], { frames := 0, cells := 0, slots := 0, locals := 0 })
theorem mb_X2_isLetter : SB m_X2_isLetter 1 := ⟨gm 629 (by decide +kernel) rfl, gm 155 (by decide +kernel) rfl, by decide +kernel, by decide +kernel⟩
theorem ms_X2_isLetter : SS m_X2_isLetter := gm 628 (by decide +kernel) rfl
abbrev m_X2_isDigit : JM := (yX2_isDigit, cX2_isDigit, 1, (some .boolean), [], { frames := 0, cells := 0, slots := 0, locals := 0 })
theorem mb_X2_isDigit : SB m_X2_isDigit 1 := ⟨gm 636 (by decide +kernel) rfl, gm 155 (by decide +kernel) rfl, by decide +kernel, by decide +kernel⟩
theorem ms_X2_isDigit : SS m_X2_isDigit := gm 635 (by decide +kernel) rfl
abbrev m_X2_kindOfSign : JM := (yX2_kindOfSign, cX2_kindOfSign, 1, (some .int), [], { frames := 0, cells := 0, slots := 0, locals := 0 })
theorem mb_X2_kindOfSign : SB m_X2_kindOfSign 1 := ⟨gm 643 (by decide +kernel) rfl, gm 155 (by decide +kernel) rfl, by decide +kernel, by decide +kernel⟩
theorem ms_X2_kindOfSign : SS m_X2_kindOfSign := gm 642 (by decide +kernel) rfl
abbrev m_X2_isWord : JM := (yX2_isWord, cX2_isWord, 3, (some .boolean), [], { frames := 7, cells := 0, slots := 0, locals := 259 })
theorem mb_X2_isWord : SB m_X2_isWord 1 := ⟨gm 652 (by decide +kernel) rfl, gm 155 (by decide +kernel) rfl, by decide +kernel, by decide +kernel⟩
theorem mi_X2_isWord : SI m_X2_isWord := ⟨gm 650 (by decide +kernel) rfl, gm 651 (by decide +kernel) rfl⟩
abbrev m_X2_colour : JM := (yX2_colour, cX2_colour, 2, (some .int), [], { frames := 1, cells := 0, slots := 0, locals := 37 })
theorem mb_X2_colour : SB m_X2_colour 0 := ⟨gm 730 (by decide +kernel) rfl, gm 155 (by decide +kernel) rfl, by decide +kernel, by decide +kernel⟩
theorem mi_X2_colour : SI m_X2_colour := ⟨gm 728 (by decide +kernel) rfl, gm 729 (by decide +kernel) rfl⟩
abbrev m_X3_init : JM := (yX3_init, cX3_init, 1, none, [], { frames := 2, cells := 23, slots := 1326, locals := 74 })
theorem mb_X3_init : SB m_X3_init 0 := ⟨gm 229 (by decide +kernel) rfl, gm 156 (by decide +kernel) rfl, by decide +kernel, by decide +kernel⟩
theorem mc_X3_init : SC m_X3_init := ⟨gm 228 (by decide +kernel) rfl, rfl, rfl⟩
abbrev m_X3_clear : JM := (yX3_clear, cX3_clear, 1, none, [], { frames := 2, cells := 0, slots := 0, locals := 74 })
theorem mb_X3_clear : SB m_X3_clear 0 := ⟨gm 601 (by decide +kernel) rfl, gm 156 (by decide +kernel) rfl, by decide +kernel, by decide +kernel⟩
theorem mi_X3_clear : SI m_X3_clear := ⟨gm 599 (by decide +kernel) rfl, gm 600 (by decide +kernel) rfl⟩
abbrev m_X3_addWarp : JM := (yX3_addWarp, cX3_addWarp, 3, (some .boolean), [], { frames := 1, cells := 0, slots := 0, locals := 37 })
theorem mb_X3_addWarp : SB m_X3_addWarp 2 := ⟨gm 738 (by decide +kernel) rfl, gm 156 (by decide +kernel) rfl, by decide +kernel, by decide +kernel⟩
theorem mi_X3_addWarp : SI m_X3_addWarp := ⟨gm 736 (by decide +kernel) rfl, gm 737 (by decide +kernel) rfl⟩
abbrev m_X3_addCard : JM := (yX3_addCard, cX3_addCard, 3, none, [], { frames := 1, cells := 0, slots := 0, locals := 37 })
theorem mb_X3_addCard : SB m_X3_addCard 2 := ⟨gm 751 (by decide +kernel) rfl, gm 156 (by decide +kernel) rfl, by decide +kernel, by decide +kernel⟩
theorem mi_X3_addCard : SI m_X3_addCard := ⟨gm 749 (by decide +kernel) rfl, gm 750 (by decide +kernel) rfl⟩
abbrev m_X3_otherHarnesses : JM := (yX3_otherHarnesses, cX3_otherHarnesses, 2, (some .int), [], { frames := 0, cells := 0, slots := 0, locals := 0 })
theorem mb_X3_otherHarnesses : SB m_X3_otherHarnesses 1 := ⟨gm 948 (by decide +kernel) rfl, gm 156 (by decide +kernel) rfl, by decide +kernel, by decide +kernel⟩
theorem mi_X3_otherHarnesses : SI m_X3_otherHarnesses := ⟨gm 946 (by decide +kernel) rfl, gm 947 (by decide +kernel) rfl⟩
abbrev m_X3_warpsOfHarnesses : JM := (yX3_warpsOfHarnesses, cX3_warpsOfHarnesses, 4, (some .int), [], { frames := 1, cells := 0, slots := 0, locals := 37 })
theorem mb_X3_warpsOfHarnesses : SB m_X3_warpsOfHarnesses 1 := ⟨gm 856 (by decide +kernel) rfl, gm 156 (by decide +kernel) rfl, by decide +kernel, by decide +kernel⟩
theorem mi_X3_warpsOfHarnesses : SI m_X3_warpsOfHarnesses := ⟨gm 854 (by decide +kernel) rfl, gm 855 (by decide +kernel) rfl⟩
abbrev m_X3_obstacle : JM := (yX3_obstacle, cX3_obstacle, 4, (some .int), [], { frames := 2, cells := 0, slots := 0, locals := 74 })
theorem mb_X3_obstacle : SB m_X3_obstacle 1 := ⟨gm 847 (by decide +kernel) rfl, gm 156 (by decide +kernel) rfl, by decide +kernel, by decide +kernel⟩
theorem mi_X3_obstacle : SI m_X3_obstacle := ⟨gm 845 (by decide +kernel) rfl, gm 846 (by decide +kernel) rfl⟩
abbrev m_X3_weaveUpTo : JM := (yX3_weaveUpTo, cX3_weaveUpTo, 4, (some .int), [], { frames := 3, cells := 0, slots := 0, locals := 111 })
theorem mb_X3_weaveUpTo : SB m_X3_weaveUpTo 2 := ⟨gm 843 (by decide +kernel) rfl, gm 156 (by decide +kernel) rfl, by decide +kernel, by decide +kernel⟩
theorem mi_X3_weaveUpTo : SI m_X3_weaveUpTo := ⟨gm 841 (by decide +kernel) rfl, gm 842 (by decide +kernel) rfl⟩
abbrev m_X3_weaveNext : JM := (yX3_weaveNext, cX3_weaveNext, 4, none, [], { frames := 2, cells := 0, slots := 0, locals := 74 })
theorem mb_X3_weaveNext : SB m_X3_weaveNext 1 := ⟨gm 867 (by decide +kernel) rfl, gm 156 (by decide +kernel) rfl, by decide +kernel, by decide +kernel⟩
theorem mi_X3_weaveNext : SI m_X3_weaveNext := ⟨gm 866 (by decide +kernel) rfl, gm 24 (by decide +kernel) rfl⟩
abbrev m_X3_moveHarnesses : JM := (yX3_moveHarnesses, cX3_moveHarnesses, 6, none, [], { frames := 1, cells := 0, slots := 0, locals := 37 })
theorem mb_X3_moveHarnesses : SB m_X3_moveHarnesses 2 := ⟨gm 872 (by decide +kernel) rfl, gm 156 (by decide +kernel) rfl, by decide +kernel, by decide +kernel⟩
theorem mi_X3_moveHarnesses : SI m_X3_moveHarnesses := ⟨gm 871 (by decide +kernel) rfl, gm 25 (by decide +kernel) rfl⟩
abbrev m_X3_breakWarps : JM := (yX3_breakWarps, cX3_breakWarps, 4, none, [], { frames := 1, cells := 0, slots := 0, locals := 37 })
theorem mb_X3_breakWarps : SB m_X3_breakWarps 1 := ⟨gm 880 (by decide +kernel) rfl, gm 156 (by decide +kernel) rfl, by decide +kernel, by decide +kernel⟩
theorem mi_X3_breakWarps : SI m_X3_breakWarps := ⟨gm 879 (by decide +kernel) rfl, gm 26 (by decide +kernel) rfl⟩
abbrev m_X3_removeRows : JM := (yX3_removeRows, cX3_removeRows, 3, none, [], { frames := 2, cells := 0, slots := 0, locals := 74 })
theorem mb_X3_removeRows : SB m_X3_removeRows 1 := ⟨gm 889 (by decide +kernel) rfl, gm 156 (by decide +kernel) rfl, by decide +kernel, by decide +kernel⟩
theorem mi_X3_removeRows : SI m_X3_removeRows := ⟨gm 887 (by decide +kernel) rfl, gm 888 (by decide +kernel) rfl⟩
abbrev m_X3_cellCount : JM := (yX3_cellCount, cX3_cellCount, 1, (some .int), [], { frames := 0, cells := 0, slots := 0, locals := 0 })
theorem mb_X3_cellCount : SB m_X3_cellCount 0 := ⟨gm 1298 (by decide +kernel) rfl, gm 156 (by decide +kernel) rfl, by decide +kernel, by decide +kernel⟩
theorem mi_X3_cellCount : SI m_X3_cellCount := ⟨gm 1296 (by decide +kernel) rfl, gm 1297 (by decide +kernel) rfl⟩
abbrev m_X3_colourOfCell : JM := (yX3_colourOfCell, cX3_colourOfCell, 3, (some .int), [], { frames := 1, cells := 0, slots := 0, locals := 37 })
theorem mb_X3_colourOfCell : SB m_X3_colourOfCell 2 := ⟨gm 1222 (by decide +kernel) rfl, gm 156 (by decide +kernel) rfl, by decide +kernel, by decide +kernel⟩
theorem mi_X3_colourOfCell : SI m_X3_colourOfCell := ⟨gm 1220 (by decide +kernel) rfl, gm 1221 (by decide +kernel) rfl⟩
abbrev m_X3_countShown : JM := (yX3_countShown, cX3_countShown, 3, (some .int), [], { frames := 1, cells := 0, slots := 0, locals := 37 })
theorem mb_X3_countShown : SB m_X3_countShown 0 := ⟨gm 1302 (by decide +kernel) rfl, gm 156 (by decide +kernel) rfl, by decide +kernel, by decide +kernel⟩
theorem mi_X3_countShown : SI m_X3_countShown := ⟨gm 1300 (by decide +kernel) rfl, gm 1301 (by decide +kernel) rfl⟩
abbrev m_X3_countCells : JM := (yX3_countCells, cX3_countCells, 5, (some .int), [], { frames := 2, cells := 0, slots := 0, locals := 74 })
theorem mb_X3_countCells : SB m_X3_countCells 1 := ⟨gm 1271 (by decide +kernel) rfl, gm 156 (by decide +kernel) rfl, by decide +kernel, by decide +kernel⟩
theorem mi_X3_countCells : SI m_X3_countCells := ⟨gm 1269 (by decide +kernel) rfl, gm 1270 (by decide +kernel) rfl⟩
abbrev m_X3_longestRunOfWarp : JM := (yX3_longestRunOfWarp, cX3_longestRunOfWarp, 5, (some .int), [], { frames := 1, cells := 0, slots := 0, locals := 37 })
theorem mb_X3_longestRunOfWarp : SB m_X3_longestRunOfWarp 1 := ⟨gm 1240 (by decide +kernel) rfl, gm 156 (by decide +kernel) rfl, by decide +kernel, by decide +kernel⟩
theorem mi_X3_longestRunOfWarp : SI m_X3_longestRunOfWarp := ⟨gm 1238 (by decide +kernel) rfl, gm 1239 (by decide +kernel) rfl⟩
abbrev m_X3_longestRunOfWeft : JM := (yX3_longestRunOfWeft, cX3_longestRunOfWeft, 5, (some .int), [], { frames := 1, cells := 0, slots := 0, locals := 37 })
theorem mb_X3_longestRunOfWeft : SB m_X3_longestRunOfWeft 1 := ⟨gm 1252 (by decide +kernel) rfl, gm 156 (by decide +kernel) rfl, by decide +kernel, by decide +kernel⟩
theorem mi_X3_longestRunOfWeft : SI m_X3_longestRunOfWeft := ⟨gm 1250 (by decide +kernel) rfl, gm 1251 (by decide +kernel) rfl⟩
abbrev m_X3_leastRowDistance : JM := (yX3_leastRowDistance, cX3_leastRowDistance, 2, (some .int), [], { frames := 3, cells := 0, slots := 0, locals := 111 })
theorem mb_X3_leastRowDistance : SB m_X3_leastRowDistance 0 := ⟨gm 1283 (by decide +kernel) rfl, gm 156 (by decide +kernel) rfl, by decide +kernel, by decide +kernel⟩
theorem mi_X3_leastRowDistance : SI m_X3_leastRowDistance := ⟨gm 1281 (by decide +kernel) rfl, gm 1282 (by decide +kernel) rfl⟩
abbrev m_X3_coloursRepeatAfter : JM := (yX3_coloursRepeatAfter, cX3_coloursRepeatAfter, 4, (some .boolean), [], { frames := 2, cells := 0, slots := 0, locals := 74 })
theorem mb_X3_coloursRepeatAfter : SB m_X3_coloursRepeatAfter 1 := ⟨gm 1287 (by decide +kernel) rfl, gm 156 (by decide +kernel) rfl, by decide +kernel, by decide +kernel⟩
theorem mi_X3_coloursRepeatAfter : SI m_X3_coloursRepeatAfter := ⟨gm 1286 (by decide +kernel) rfl, gm 45 (by decide +kernel) rfl⟩
abbrev m_X3_differsFromDesign : JM := (yX3_differsFromDesign, cX3_differsFromDesign, 2, (some .boolean), [], { frames := 3, cells := 0, slots := 0, locals := 111 })
theorem mb_X3_differsFromDesign : SB m_X3_differsFromDesign 1 := ⟨gm 1320 (by decide +kernel) rfl, gm 156 (by decide +kernel) rfl, by decide +kernel, by decide +kernel⟩
theorem mi_X3_differsFromDesign : SI m_X3_differsFromDesign := ⟨gm 1318 (by decide +kernel) rfl, gm 1319 (by decide +kernel) rfl⟩
abbrev m_X3_equalsDesign : JM := (yX3_equalsDesign, cX3_equalsDesign, 5, (some .boolean), [], { frames := 2, cells := 0, slots := 0, locals := 74 })
theorem mb_X3_equalsDesign : SB m_X3_equalsDesign 2 := ⟨gm 1324 (by decide +kernel) rfl, gm 156 (by decide +kernel) rfl, by decide +kernel, by decide +kernel⟩
theorem mi_X3_equalsDesign : SI m_X3_equalsDesign := ⟨gm 1323 (by decide +kernel) rfl, gm 46 (by decide +kernel) rfl⟩
abbrev m_X3_countWrong : JM := (yX3_countWrong, cX3_countWrong, 3, (some .int), [], { frames := 4, cells := 0, slots := 0, locals := 148 })
theorem mb_X3_countWrong : SB m_X3_countWrong 0 := ⟨gm 1335 (by decide +kernel) rfl, gm 156 (by decide +kernel) rfl, by decide +kernel, by decide +kernel⟩
theorem mi_X3_countWrong : SI m_X3_countWrong := ⟨gm 1333 (by decide +kernel) rfl, gm 1334 (by decide +kernel) rfl⟩
abbrev m_X3_firstWrong : JM := (yX3_firstWrong, cX3_firstWrong, 2, (some .int), [], { frames := 4, cells := 0, slots := 0, locals := 148 })
theorem mb_X3_firstWrong : SB m_X3_firstWrong 0 := ⟨gm 1347 (by decide +kernel) rfl, gm 156 (by decide +kernel) rfl, by decide +kernel, by decide +kernel⟩
theorem mi_X3_firstWrong : SI m_X3_firstWrong := ⟨gm 1345 (by decide +kernel) rfl, gm 1346 (by decide +kernel) rfl⟩
abbrev m_X3_suspectedPair : JM := (yX3_suspectedPair, cX3_suspectedPair, 3, (some .int), [], { frames := 5, cells := 0, slots := 0, locals := 185 })
theorem mb_X3_suspectedPair : SB m_X3_suspectedPair 0 := ⟨gm 1358 (by decide +kernel) rfl, gm 156 (by decide +kernel) rfl, by decide +kernel, by decide +kernel⟩
theorem mi_X3_suspectedPair : SI m_X3_suspectedPair := ⟨gm 1356 (by decide +kernel) rfl, gm 1357 (by decide +kernel) rfl⟩
abbrev m_X3_exchangeExplainsCloth : JM := (yX3_exchangeExplainsCloth, cX3_exchangeExplainsCloth, 5, (some .boolean), [], { frames := 3, cells := 0, slots := 0, locals := 111 })
theorem mb_X3_exchangeExplainsCloth : SB m_X3_exchangeExplainsCloth 2 := ⟨gm 1363 (by decide +kernel) rfl, gm 156 (by decide +kernel) rfl, by decide +kernel, by decide +kernel⟩
theorem mi_X3_exchangeExplainsCloth : SI m_X3_exchangeExplainsCloth := ⟨gm 1362 (by decide +kernel) rfl, gm 47 (by decide +kernel) rfl⟩
abbrev m_X3_yarnToDeckEnd : JM := (yX3_yarnToDeckEnd, cX3_yarnToDeckEnd, 4, (some .int), [], { frames := 1, cells := 0, slots := 0, locals := 37 })
theorem mb_X3_yarnToDeckEnd : SB m_X3_yarnToDeckEnd 1 := ⟨gm 1388 (by decide +kernel) rfl, gm 156 (by decide +kernel) rfl, by decide +kernel, by decide +kernel⟩
theorem mi_X3_yarnToDeckEnd : SI m_X3_yarnToDeckEnd := ⟨gm 1386 (by decide +kernel) rfl, gm 1387 (by decide +kernel) rfl⟩
abbrev m_X4_init : JM := (yX4_init, cX4_init, 1, none, [], { frames := 1, cells := 1, slots := 500, locals := 37 })
theorem mb_X4_init : SB m_X4_init 0 := ⟨gm 418 (by decide +kernel) rfl, gm 159 (by decide +kernel) rfl, by decide +kernel, by decide +kernel⟩
theorem mc_X4_init : SC m_X4_init := ⟨gm 417 (by decide +kernel) rfl, rfl, rfl⟩
abbrev m_X4_add : JM := (yX4_add, cX4_add, 2, none, [], { frames := 1, cells := 0, slots := 0, locals := 37 })
theorem mb_X4_add : SB m_X4_add 1 := ⟨gm 1455 (by decide +kernel) rfl, gm 159 (by decide +kernel) rfl, by decide +kernel, by decide +kernel⟩
theorem mi_X4_add : SI m_X4_add := ⟨gm 1453 (by decide +kernel) rfl, gm 1454 (by decide +kernel) rfl⟩
abbrev m_X4_addDeck : JM := (yX4_addDeck, cX4_addDeck, 5, none, [], { frames := 5, cells := 0, slots := 0, locals := 185 })
theorem mb_X4_addDeck : SB m_X4_addDeck 1 := ⟨gm 1474 (by decide +kernel) rfl, gm 159 (by decide +kernel) rfl, by decide +kernel, by decide +kernel⟩
theorem mi_X4_addDeck : SI m_X4_addDeck := ⟨gm 1472 (by decide +kernel) rfl, gm 1473 (by decide +kernel) rfl⟩
abbrev m_X4_addPart : JM := (yX4_addPart, cX4_addPart, 2, none, [], { frames := 4, cells := 0, slots := 0, locals := 148 })
theorem mb_X4_addPart : SB m_X4_addPart 1 := ⟨gm 1480 (by decide +kernel) rfl, gm 159 (by decide +kernel) rfl, by decide +kernel, by decide +kernel⟩
theorem mi_X4_addPart : SI m_X4_addPart := ⟨gm 1479 (by decide +kernel) rfl, gm 48 (by decide +kernel) rfl⟩
abbrev m_X4_addOpening : JM := (yX4_addOpening, cX4_addOpening, 2, none, [], { frames := 3, cells := 0, slots := 0, locals := 111 })
theorem mb_X4_addOpening : SB m_X4_addOpening 1 := ⟨gm 1487 (by decide +kernel) rfl, gm 159 (by decide +kernel) rfl, by decide +kernel, by decide +kernel⟩
theorem mi_X4_addOpening : SI m_X4_addOpening := ⟨gm 1486 (by decide +kernel) rfl, gm 49 (by decide +kernel) rfl⟩
abbrev m_X4_addNumber : JM := (yX4_addNumber, cX4_addNumber, 2, none, [], { frames := 2, cells := 0, slots := 0, locals := 74 })
theorem mb_X4_addNumber : SB m_X4_addNumber 1 := ⟨gm 1491 (by decide +kernel) rfl, gm 159 (by decide +kernel) rfl, by decide +kernel, by decide +kernel⟩
theorem mi_X4_addNumber : SI m_X4_addNumber := ⟨gm 1490 (by decide +kernel) rfl, gm 50 (by decide +kernel) rfl⟩
abbrev m_X5_init : JM := (yX5_init, cX5_init, 1, none, [], { frames := 3, cells := 26, slots := 1846, locals := 111 })
theorem mb_X5_init : SB m_X5_init 0 := ⟨gm 189 (by decide +kernel) rfl, gm 154 (by decide +kernel) rfl, by decide +kernel, by decide +kernel⟩
theorem mc_X5_init : SC m_X5_init := ⟨gm 188 (by decide +kernel) rfl, rfl, rfl⟩
abbrev m_X5_parse : JM := (yX5_parse, cX5_parse, 3, (some .boolean), [], { frames := 11, cells := 0, slots := 0, locals := 407 })
theorem mb_X5_parse : SB m_X5_parse 1 := ⟨gm 597 (by decide +kernel) rfl, gm 154 (by decide +kernel) rfl, by decide +kernel, by decide +kernel⟩
theorem mi_X5_parse : SI m_X5_parse := ⟨gm 595 (by decide +kernel) rfl, gm 596 (by decide +kernel) rfl⟩
abbrev m_X5_fail : JM := (yX5_fail, cX5_fail, 2, (some .boolean), [], { frames := 0, cells := 0, slots := 0, locals := 0 })
theorem mb_X5_fail : SB m_X5_fail 1 := ⟨gm 704 (by decide +kernel) rfl, gm 154 (by decide +kernel) rfl, by decide +kernel, by decide +kernel⟩
theorem mi_X5_fail : SI m_X5_fail := ⟨gm 703 (by decide +kernel) rfl, gm 4 (by decide +kernel) rfl⟩
abbrev m_X5_seeNumber : JM := (yX5_seeNumber, cX5_seeNumber, 3, (some .boolean), [], { frames := 1, cells := 0, slots := 0, locals := 37 })
theorem mb_X5_seeNumber : SB m_X5_seeNumber 2 := ⟨gm 713 (by decide +kernel) rfl, gm 154 (by decide +kernel) rfl, by decide +kernel, by decide +kernel⟩
theorem mi_X5_seeNumber : SI m_X5_seeNumber := ⟨gm 712 (by decide +kernel) rfl, gm 6 (by decide +kernel) rfl⟩
abbrev m_X5_takeNumber : JM := (yX5_takeNumber, cX5_takeNumber, 3, (some .boolean), [], { frames := 3, cells := 0, slots := 0, locals := 111 })
theorem mb_X5_takeNumber : SB m_X5_takeNumber 2 := ⟨gm 709 (by decide +kernel) rfl, gm 154 (by decide +kernel) rfl, by decide +kernel, by decide +kernel⟩
theorem mi_X5_takeNumber : SI m_X5_takeNumber := ⟨gm 708 (by decide +kernel) rfl, gm 5 (by decide +kernel) rfl⟩
abbrev m_X5_seeCard : JM := (yX5_seeCard, cX5_seeCard, 1, (some .boolean), [], { frames := 2, cells := 0, slots := 0, locals := 74 })
theorem mb_X5_seeCard : SB m_X5_seeCard 0 := ⟨gm 764 (by decide +kernel) rfl, gm 154 (by decide +kernel) rfl, by decide +kernel, by decide +kernel⟩
theorem mi_X5_seeCard : SI m_X5_seeCard := ⟨gm 763 (by decide +kernel) rfl, gm 14 (by decide +kernel) rfl⟩
abbrev m_X5_takeCard : JM := (yX5_takeCard, cX5_takeCard, 1, (some .boolean), [], { frames := 3, cells := 0, slots := 0, locals := 111 })
theorem mb_X5_takeCard : SB m_X5_takeCard 0 := ⟨gm 898 (by decide +kernel) rfl, gm 154 (by decide +kernel) rfl, by decide +kernel, by decide +kernel⟩
theorem mi_X5_takeCard : SI m_X5_takeCard := ⟨gm 897 (by decide +kernel) rfl, gm 29 (by decide +kernel) rfl⟩
abbrev m_X5_seeHarness : JM := (yX5_seeHarness, cX5_seeHarness, 1, (some .boolean), [], { frames := 2, cells := 0, slots := 0, locals := 74 })
theorem mb_X5_seeHarness : SB m_X5_seeHarness 0 := ⟨gm 734 (by decide +kernel) rfl, gm 154 (by decide +kernel) rfl, by decide +kernel, by decide +kernel⟩
theorem mi_X5_seeHarness : SI m_X5_seeHarness := ⟨gm 733 (by decide +kernel) rfl, gm 10 (by decide +kernel) rfl⟩
abbrev m_X5_takeHarness : JM := (yX5_takeHarness, cX5_takeHarness, 1, (some .boolean), [], { frames := 3, cells := 0, slots := 0, locals := 111 })
theorem mb_X5_takeHarness : SB m_X5_takeHarness 0 := ⟨gm 919 (by decide +kernel) rfl, gm 154 (by decide +kernel) rfl, by decide +kernel, by decide +kernel⟩
theorem mi_X5_takeHarness : SI m_X5_takeHarness := ⟨gm 918 (by decide +kernel) rfl, gm 31 (by decide +kernel) rfl⟩
abbrev m_X5_takeColour : JM := (yX5_takeColour, cX5_takeColour, 1, (some .boolean), [], { frames := 3, cells := 0, slots := 0, locals := 111 })
theorem mb_X5_takeColour : SB m_X5_takeColour 0 := ⟨gm 726 (by decide +kernel) rfl, gm 154 (by decide +kernel) rfl, by decide +kernel, by decide +kernel⟩
theorem mi_X5_takeColour : SI m_X5_takeColour := ⟨gm 725 (by decide +kernel) rfl, gm 9 (by decide +kernel) rfl⟩
abbrev m_X5_readHeader : JM := (yX5_readHeader, cX5_readHeader, 1, (some .boolean), [], { frames := 8, cells := 0, slots := 0, locals := 296 })
theorem mb_X5_readHeader : SB m_X5_readHeader 0 := ⟨gm 647 (by decide +kernel) rfl, gm 154 (by decide +kernel) rfl, by decide +kernel, by decide +kernel⟩
theorem mi_X5_readHeader : SI m_X5_readHeader := ⟨gm 646 (by decide +kernel) rfl, gm 3 (by decide +kernel) rfl⟩
abbrev m_X5_readItem : JM := (yX5_readItem, cX5_readItem, 1, (some .boolean), [], { frames := 10, cells := 0, slots := 0, locals := 370 })
theorem mb_X5_readItem : SB m_X5_readItem 0 := ⟨gm 717 (by decide +kernel) rfl, gm 154 (by decide +kernel) rfl, by decide +kernel, by decide +kernel⟩
theorem mi_X5_readItem : SI m_X5_readItem := ⟨gm 716 (by decide +kernel) rfl, gm 7 (by decide +kernel) rfl⟩
abbrev m_X5_readWarps : JM := (yX5_readWarps, cX5_readWarps, 3, (some .boolean), [], { frames := 4, cells := 0, slots := 0, locals := 148 })
theorem mb_X5_readWarps : SB m_X5_readWarps 0 := ⟨gm 722 (by decide +kernel) rfl, gm 154 (by decide +kernel) rfl, by decide +kernel, by decide +kernel⟩
theorem mi_X5_readWarps : SI m_X5_readWarps := ⟨gm 721 (by decide +kernel) rfl, gm 8 (by decide +kernel) rfl⟩
abbrev m_X5_readCard : JM := (yX5_readCard, cX5_readCard, 4, (some .boolean), [], { frames := 4, cells := 0, slots := 0, locals := 148 })
theorem mb_X5_readCard : SB m_X5_readCard 0 := ⟨gm 744 (by decide +kernel) rfl, gm 154 (by decide +kernel) rfl, by decide +kernel, by decide +kernel⟩
theorem mi_X5_readCard : SI m_X5_readCard := ⟨gm 743 (by decide +kernel) rfl, gm 11 (by decide +kernel) rfl⟩
abbrev m_X5_readDeck : JM := (yX5_readDeck, cX5_readDeck, 4, (some .boolean), [], { frames := 9, cells := 0, slots := 0, locals := 333 })
theorem mb_X5_readDeck : SB m_X5_readDeck 0 := ⟨gm 756 (by decide +kernel) rfl, gm 154 (by decide +kernel) rfl, by decide +kernel, by decide +kernel⟩
theorem mi_X5_readDeck : SI m_X5_readDeck := ⟨gm 755 (by decide +kernel) rfl, gm 12 (by decide +kernel) rfl⟩
abbrev m_X5_readCardOfDeck : JM := (yX5_readCardOfDeck, cX5_readCardOfDeck, 1, (some .boolean), [], { frames := 3, cells := 0, slots := 0, locals := 111 })
theorem mb_X5_readCardOfDeck : SB m_X5_readCardOfDeck 0 := ⟨gm 760 (by decide +kernel) rfl, gm 154 (by decide +kernel) rfl, by decide +kernel, by decide +kernel⟩
theorem mi_X5_readCardOfDeck : SI m_X5_readCardOfDeck := ⟨gm 759 (by decide +kernel) rfl, gm 13 (by decide +kernel) rfl⟩
abbrev m_X5_readOpening : JM := (yX5_readOpening, cX5_readOpening, 3, (some .boolean), [], { frames := 8, cells := 0, slots := 0, locals := 296 })
theorem mb_X5_readOpening : SB m_X5_readOpening 0 := ⟨gm 788 (by decide +kernel) rfl, gm 154 (by decide +kernel) rfl, by decide +kernel, by decide +kernel⟩
theorem mi_X5_readOpening : SI m_X5_readOpening := ⟨gm 787 (by decide +kernel) rfl, gm 17 (by decide +kernel) rfl⟩
abbrev m_X5_readClosing : JM := (yX5_readClosing, cX5_readClosing, 1, (some .boolean), [], { frames := 3, cells := 0, slots := 0, locals := 111 })
theorem mb_X5_readClosing : SB m_X5_readClosing 0 := ⟨gm 800 (by decide +kernel) rfl, gm 154 (by decide +kernel) rfl, by decide +kernel, by decide +kernel⟩
theorem mi_X5_readClosing : SI m_X5_readClosing := ⟨gm 799 (by decide +kernel) rfl, gm 18 (by decide +kernel) rfl⟩
abbrev m_X5_readYarn : JM := (yX5_readYarn, cX5_readYarn, 2, (some .boolean), [], { frames := 4, cells := 0, slots := 0, locals := 148 })
theorem mb_X5_readYarn : SB m_X5_readYarn 0 := ⟨gm 824 (by decide +kernel) rfl, gm 154 (by decide +kernel) rfl, by decide +kernel, by decide +kernel⟩
theorem mi_X5_readYarn : SI m_X5_readYarn := ⟨gm 823 (by decide +kernel) rfl, gm 22 (by decide +kernel) rfl⟩
abbrev m_X5_readWeave : JM := (yX5_readWeave, cX5_readWeave, 1, (some .boolean), [], { frames := 4, cells := 0, slots := 0, locals := 148 })
theorem mb_X5_readWeave : SB m_X5_readWeave 0 := ⟨gm 839 (by decide +kernel) rfl, gm 154 (by decide +kernel) rfl, by decide +kernel, by decide +kernel⟩
theorem mi_X5_readWeave : SI m_X5_readWeave := ⟨gm 838 (by decide +kernel) rfl, gm 23 (by decide +kernel) rfl⟩
abbrev m_X5_readUnweave : JM := (yX5_readUnweave, cX5_readUnweave, 1, (some .boolean), [], { frames := 3, cells := 0, slots := 0, locals := 111 })
theorem mb_X5_readUnweave : SB m_X5_readUnweave 0 := ⟨gm 885 (by decide +kernel) rfl, gm 154 (by decide +kernel) rfl, by decide +kernel, by decide +kernel⟩
theorem mi_X5_readUnweave : SI m_X5_readUnweave := ⟨gm 884 (by decide +kernel) rfl, gm 27 (by decide +kernel) rfl⟩
abbrev m_X5_readSwap : JM := (yX5_readSwap, cX5_readSwap, 2, (some .boolean), [], { frames := 4, cells := 0, slots := 0, locals := 148 })
theorem mb_X5_readSwap : SB m_X5_readSwap 0 := ⟨gm 894 (by decide +kernel) rfl, gm 154 (by decide +kernel) rfl, by decide +kernel, by decide +kernel⟩
theorem mi_X5_readSwap : SI m_X5_readSwap := ⟨gm 893 (by decide +kernel) rfl, gm 28 (by decide +kernel) rfl⟩
abbrev m_X5_readPunch : JM := (yX5_readPunch, cX5_readPunch, 2, (some .boolean), [], { frames := 4, cells := 0, slots := 0, locals := 148 })
theorem mb_X5_readPunch : SB m_X5_readPunch 0 := ⟨gm 915 (by decide +kernel) rfl, gm 154 (by decide +kernel) rfl, by decide +kernel, by decide +kernel⟩
theorem mi_X5_readPunch : SI m_X5_readPunch := ⟨gm 914 (by decide +kernel) rfl, gm 30 (by decide +kernel) rfl⟩
abbrev m_X5_readDye : JM := (yX5_readDye, cX5_readDye, 2, (some .boolean), [], { frames := 4, cells := 0, slots := 0, locals := 148 })
theorem mb_X5_readDye : SB m_X5_readDye 0 := ⟨gm 928 (by decide +kernel) rfl, gm 154 (by decide +kernel) rfl, by decide +kernel, by decide +kernel⟩
theorem mi_X5_readDye : SI m_X5_readDye := ⟨gm 927 (by decide +kernel) rfl, gm 32 (by decide +kernel) rfl⟩
abbrev m_X5_readOil : JM := (yX5_readOil, cX5_readOil, 1, (some .boolean), [], { frames := 4, cells := 0, slots := 0, locals := 148 })
theorem mb_X5_readOil : SB m_X5_readOil 0 := ⟨gm 934 (by decide +kernel) rfl, gm 154 (by decide +kernel) rfl, by decide +kernel, by decide +kernel⟩
theorem mi_X5_readOil : SI m_X5_readOil := ⟨gm 933 (by decide +kernel) rfl, gm 33 (by decide +kernel) rfl⟩
abbrev m_X5_readInvert : JM := (yX5_readInvert, cX5_readInvert, 1, (some .boolean), [], { frames := 4, cells := 0, slots := 0, locals := 148 })
theorem mb_X5_readInvert : SB m_X5_readInvert 0 := ⟨gm 943 (by decide +kernel) rfl, gm 154 (by decide +kernel) rfl, by decide +kernel, by decide +kernel⟩
theorem mi_X5_readInvert : SI m_X5_readInvert := ⟨gm 942 (by decide +kernel) rfl, gm 34 (by decide +kernel) rfl⟩
abbrev m_X5_readStrain : JM := (yX5_readStrain, cX5_readStrain, 1, (some .boolean), [], { frames := 4, cells := 0, slots := 0, locals := 148 })
theorem mb_X5_readStrain : SB m_X5_readStrain 0 := ⟨gm 954 (by decide +kernel) rfl, gm 154 (by decide +kernel) rfl, by decide +kernel, by decide +kernel⟩
theorem mi_X5_readStrain : SI m_X5_readStrain := ⟨gm 953 (by decide +kernel) rfl, gm 35 (by decide +kernel) rfl⟩
abbrev m_X5_readMotor : JM := (yX5_readMotor, cX5_readMotor, 1, (some .boolean), [], { frames := 4, cells := 0, slots := 0, locals := 148 })
theorem mb_X5_readMotor : SB m_X5_readMotor 0 := ⟨gm 959 (by decide +kernel) rfl, gm 154 (by decide +kernel) rfl, by decide +kernel, by decide +kernel⟩
theorem mi_X5_readMotor : SI m_X5_readMotor := ⟨gm 958 (by decide +kernel) rfl, gm 36 (by decide +kernel) rfl⟩
abbrev m_X5_readMend : JM := (yX5_readMend, cX5_readMend, 1, (some .boolean), [], { frames := 3, cells := 0, slots := 0, locals := 111 })
theorem mb_X5_readMend : SB m_X5_readMend 0 := ⟨gm 964 (by decide +kernel) rfl, gm 154 (by decide +kernel) rfl, by decide +kernel, by decide +kernel⟩
theorem mi_X5_readMend : SI m_X5_readMend := ⟨gm 963 (by decide +kernel) rfl, gm 37 (by decide +kernel) rfl⟩
abbrev m_X6_init : JM := (yX6_init, cX6_init, 1, none, [], { frames := 2, cells := 7, slots := 170, locals := 74 })
theorem mb_X6_init : SB m_X6_init 0 := ⟨gm 453 (by decide +kernel) rfl, gm 161 (by decide +kernel) rfl, by decide +kernel, by decide +kernel⟩
theorem mc_X6_init : SC m_X6_init := ⟨gm 452 (by decide +kernel) rfl, rfl, rfl⟩
abbrev m_X7_init : JM := (yX7_init, cX7_init, 1, none, [], { frames := 1, cells := 6, slots := 158, locals := 37 })
theorem mb_X7_init : SB m_X7_init 0 := ⟨gm 274 (by decide +kernel) rfl, gm 158 (by decide +kernel) rfl, by decide +kernel, by decide +kernel⟩
theorem mc_X7_init : SC m_X7_init := ⟨gm 273 (by decide +kernel) rfl, rfl, rfl⟩
abbrev m_X7_clear : JM := (yX7_clear, cX7_clear, 1, none, [], { frames := 1, cells := 0, slots := 0, locals := 37 })
theorem mb_X7_clear : SB m_X7_clear 0 := ⟨gm 609 (by decide +kernel) rfl, gm 158 (by decide +kernel) rfl, by decide +kernel, by decide +kernel⟩
theorem mi_X7_clear : SI m_X7_clear := ⟨gm 607 (by decide +kernel) rfl, gm 608 (by decide +kernel) rfl⟩
abbrev m_X7_copyFrom : JM := (yX7_copyFrom, cX7_copyFrom, 2, none, [], { frames := 2, cells := 0, slots := 0, locals := 74 })
theorem mb_X7_copyFrom : SB m_X7_copyFrom 1 := ⟨gm 1415 (by decide +kernel) rfl, gm 158 (by decide +kernel) rfl, by decide +kernel, by decide +kernel⟩
theorem mi_X7_copyFrom : SI m_X7_copyFrom := ⟨gm 1413 (by decide +kernel) rfl, gm 1414 (by decide +kernel) rfl⟩
abbrev m_X7_changeLifts : JM := (yX7_changeLifts, cX7_changeLifts, 3, none, [], { frames := 1, cells := 0, slots := 0, locals := 37 })
theorem mb_X7_changeLifts : SB m_X7_changeLifts 2 := ⟨gm 906 (by decide +kernel) rfl, gm 158 (by decide +kernel) rfl, by decide +kernel, by decide +kernel⟩
theorem mi_X7_changeLifts : SI m_X7_changeLifts := ⟨gm 904 (by decide +kernel) rfl, gm 905 (by decide +kernel) rfl⟩
abbrev m_X7_punchCard : JM := (yX7_punchCard, cX7_punchCard, 3, none, [], { frames := 2, cells := 0, slots := 0, locals := 74 })
theorem mb_X7_punchCard : SB m_X7_punchCard 2 := ⟨gm 923 (by decide +kernel) rfl, gm 158 (by decide +kernel) rfl, by decide +kernel, by decide +kernel⟩
theorem mi_X7_punchCard : SI m_X7_punchCard := ⟨gm 921 (by decide +kernel) rfl, gm 922 (by decide +kernel) rfl⟩
abbrev m_X7_changeColour : JM := (yX7_changeColour, cX7_changeColour, 3, none, [], { frames := 1, cells := 0, slots := 0, locals := 37 })
theorem mb_X7_changeColour : SB m_X7_changeColour 2 := ⟨gm 910 (by decide +kernel) rfl, gm 158 (by decide +kernel) rfl, by decide +kernel, by decide +kernel⟩
theorem mi_X7_changeColour : SI m_X7_changeColour := ⟨gm 908 (by decide +kernel) rfl, gm 909 (by decide +kernel) rfl⟩
abbrev m_X7_exchangeCards : JM := (yX7_exchangeCards, cX7_exchangeCards, 5, none, [], { frames := 2, cells := 0, slots := 0, locals := 74 })
theorem mb_X7_exchangeCards : SB m_X7_exchangeCards 2 := ⟨gm 902 (by decide +kernel) rfl, gm 158 (by decide +kernel) rfl, by decide +kernel, by decide +kernel⟩
theorem mi_X7_exchangeCards : SI m_X7_exchangeCards := ⟨gm 900 (by decide +kernel) rfl, gm 901 (by decide +kernel) rfl⟩
abbrev m_X7_addYarn : JM := (yX7_addYarn, cX7_addYarn, 3, none, [], { frames := 1, cells := 0, slots := 0, locals := 37 })
theorem mb_X7_addYarn : SB m_X7_addYarn 2 := ⟨gm 832 (by decide +kernel) rfl, gm 158 (by decide +kernel) rfl, by decide +kernel, by decide +kernel⟩
theorem mi_X7_addYarn : SI m_X7_addYarn := ⟨gm 830 (by decide +kernel) rfl, gm 831 (by decide +kernel) rfl⟩
abbrev m_X7_bring : JM := (yX7_bring, cX7_bring, 3, none, [], { frames := 2, cells := 0, slots := 0, locals := 74 })
theorem mb_X7_bring : SB m_X7_bring 2 := ⟨gm 828 (by decide +kernel) rfl, gm 158 (by decide +kernel) rfl, by decide +kernel, by decide +kernel⟩
theorem mi_X7_bring : SI m_X7_bring := ⟨gm 826 (by decide +kernel) rfl, gm 827 (by decide +kernel) rfl⟩
abbrev m_X7_yarnOfAllColours : JM := (yX7_yarnOfAllColours, cX7_yarnOfAllColours, 3, (some .int), [], { frames := 1, cells := 0, slots := 0, locals := 37 })
theorem mb_X7_yarnOfAllColours : SB m_X7_yarnOfAllColours 0 := ⟨gm 1441 (by decide +kernel) rfl, gm 158 (by decide +kernel) rfl, by decide +kernel, by decide +kernel⟩
theorem mi_X7_yarnOfAllColours : SI m_X7_yarnOfAllColours := ⟨gm 1439 (by decide +kernel) rfl, gm 1440 (by decide +kernel) rfl⟩
abbrev m_X7_oilHarness : JM := (yX7_oilHarness, cX7_oilHarness, 2, none, [], { frames := 1, cells := 0, slots := 0, locals := 37 })
theorem mb_X7_oilHarness : SB m_X7_oilHarness 1 := ⟨gm 938 (by decide +kernel) rfl, gm 158 (by decide +kernel) rfl, by decide +kernel, by decide +kernel⟩
theorem mi_X7_oilHarness : SI m_X7_oilHarness := ⟨gm 936 (by decide +kernel) rfl, gm 937 (by decide +kernel) rfl⟩
abbrev m_X7_mendWarp : JM := (yX7_mendWarp, cX7_mendWarp, 2, none, [], { frames := 0, cells := 0, slots := 0, locals := 0 })
theorem mb_X7_mendWarp : SB m_X7_mendWarp 1 := ⟨gm 968 (by decide +kernel) rfl, gm 158 (by decide +kernel) rfl, by decide +kernel, by decide +kernel⟩
theorem mi_X7_mendWarp : SI m_X7_mendWarp := ⟨gm 966 (by decide +kernel) rfl, gm 967 (by decide +kernel) rfl⟩
abbrev m_X7_addRow : JM := (yX7_addRow, cX7_addRow, 3, none, [], { frames := 1, cells := 0, slots := 0, locals := 37 })
theorem mb_X7_addRow : SB m_X7_addRow 2 := ⟨gm 876 (by decide +kernel) rfl, gm 158 (by decide +kernel) rfl, by decide +kernel, by decide +kernel⟩
theorem mi_X7_addRow : SI m_X7_addRow := ⟨gm 874 (by decide +kernel) rfl, gm 875 (by decide +kernel) rfl⟩
abbrev m_J6_bitCount_0f7a4 : JM := (yJ6_bitCount_0f7a4, cJ6_bitCount_0f7a4, 1, (some .int), [], { frames := 0, cells := 0, slots := 0, locals := 0 })
theorem mb_J6_bitCount_0f7a4 : SB m_J6_bitCount_0f7a4 1 := ⟨gm 860 (by decide +kernel) rfl, gm 173 (by decide +kernel) rfl, by decide +kernel, by decide +kernel⟩
theorem ms_J6_bitCount_0f7a4 : SS m_J6_bitCount_0f7a4 := gm 859 (by decide +kernel) rfl
abbrev m_J9_abs_0f7a4 : JM := (yJ9_abs_0f7a4, cJ9_abs_0f7a4, 1, (some .int), [], { frames := 9, cells := 0, slots := 0, locals := 333 })
theorem mb_J9_abs_0f7a4 : SB m_J9_abs_0f7a4 1 := ⟨gm 1444 (by decide +kernel) rfl, gm 168 (by decide +kernel) rfl, by decide +kernel, by decide +kernel⟩
theorem ms_J9_abs_0f7a4 : SS m_J9_abs_0f7a4 := gm 1443 (by decide +kernel) rfl
abbrev m_J9_max_7cf53 : JM := (yJ9_max_7cf53, cJ9_max_7cf53, 2, (some .int), [], { frames := 9, cells := 0, slots := 0, locals := 333 })
theorem mb_J9_max_7cf53 : SB m_J9_max_7cf53 2 := ⟨gm 781 (by decide +kernel) rfl, gm 168 (by decide +kernel) rfl, by decide +kernel, by decide +kernel⟩
theorem ms_J9_max_7cf53 : SS m_J9_max_7cf53 := gm 780 (by decide +kernel) rfl
abbrev m_J9_min_7cf53 : JM := (yJ9_min_7cf53, cJ9_min_7cf53, 2, (some .int), [], { frames := 9, cells := 0, slots := 0, locals := 333 })
theorem mb_J9_min_7cf53 : SB m_J9_min_7cf53 2 := ⟨gm 619 (by decide +kernel) rfl, gm 168 (by decide +kernel) rfl, by decide +kernel, by decide +kernel⟩
theorem ms_J9_min_7cf53 : SS m_J9_min_7cf53 := gm 618 (by decide +kernel) rfl
abbrev m_J0_length_8abf5 : JM := (yJ0_length_8abf5, cJ0_length_8abf5, 1, (some .int), [], { frames := 1, cells := 0, slots := 0, locals := 37 })
theorem mb_J0_length_8abf5 : SB m_J0_length_8abf5 0 := ⟨gm 656 (by decide +kernel) rfl, gm 169 (by decide +kernel) rfl, by decide +kernel, by decide +kernel⟩
theorem mi_J0_length_8abf5 : SI m_J0_length_8abf5 := ⟨gm 654 (by decide +kernel) rfl, gm 655 (by decide +kernel) rfl⟩
abbrev m_J0_charAt_5068e : JM := (yJ0_charAt_5068e, cJ0_charAt_5068e, 2, (some .char), [], { frames := 6, cells := 0, slots := 0, locals := 222 })
theorem mb_J0_charAt_5068e : SB m_J0_charAt_5068e 1 := ⟨gm 666 (by decide +kernel) rfl, gm 169 (by decide +kernel) rfl, by decide +kernel, by decide +kernel⟩
theorem mi_J0_charAt_5068e : SI m_J0_charAt_5068e := ⟨gm 664 (by decide +kernel) rfl, gm 665 (by decide +kernel) rfl⟩
abbrev m_J0_coder_7d493 : JM := (yJ0_coder_7d493, cJ0_coder_7d493, 1, (some .byte), [], { frames := 0, cells := 0, slots := 0, locals := 0 })
theorem mb_J0_coder_7d493 : SB m_J0_coder_7d493 0 := ⟨gm 660 (by decide +kernel) rfl, gm 169 (by decide +kernel) rfl, by decide +kernel, by decide +kernel⟩
theorem mi_J0_coder_7d493 : SI m_J0_coder_7d493 := ⟨gm 658 (by decide +kernel) rfl, gm 659 (by decide +kernel) rfl⟩
abbrev m_J0_isLatin1_aae02 : JM := (yJ0_isLatin1_aae02, cJ0_isLatin1_aae02, 1, (some .boolean), [], { frames := 0, cells := 0, slots := 0, locals := 0 })
theorem mb_J0_isLatin1_aae02 : SB m_J0_isLatin1_aae02 0 := ⟨gm 670 (by decide +kernel) rfl, gm 169 (by decide +kernel) rfl, by decide +kernel, by decide +kernel⟩
theorem mi_J0_isLatin1_aae02 : SI m_J0_isLatin1_aae02 := ⟨gm 668 (by decide +kernel) rfl, gm 669 (by decide +kernel) rfl⟩
abbrev m_J0_checkIndex_df160 : JM := (yJ0_checkIndex_df160, cJ0_checkIndex_df160, 2, none, [], { frames := 1, cells := 0, slots := 0, locals := 37 })
theorem mb_J0_checkIndex_df160 : SB m_J0_checkIndex_df160 2 := ⟨gm 676 (by decide +kernel) rfl, gm 169 (by decide +kernel) rfl, by decide +kernel, by decide +kernel⟩
theorem ms_J0_checkIndex_df160 : SS m_J0_checkIndex_df160 := gm 675 (by decide +kernel) rfl
abbrev m_J1_charAt_3b067 : JM := (yJ1_charAt_3b067, cJ1_charAt_3b067, 2, (some .char), [], { frames := 5, cells := 0, slots := 0, locals := 185 })
theorem mb_J1_charAt_3b067 : SB m_J1_charAt_3b067 2 := ⟨gm 673 (by decide +kernel) rfl, gm 170 (by decide +kernel) rfl, by decide +kernel, by decide +kernel⟩
theorem ms_J1_charAt_3b067 : SS m_J1_charAt_3b067 := gm 672 (by decide +kernel) rfl
abbrev m_J2_getChar_3b067 : JM := (yJ2_getChar_3b067, cJ2_getChar_3b067, 2, (some .char), [], { frames := 9, cells := 0, slots := 0, locals := 333 })
theorem mb_J2_getChar_3b067 : SB m_J2_getChar_3b067 2 := ⟨gm 694 (by decide +kernel) rfl, gm 172 (by decide +kernel) rfl, by decide +kernel, by decide +kernel⟩
theorem ms_J2_getChar_3b067 : SS m_J2_getChar_3b067 := gm 693 (by decide +kernel) rfl
abbrev m_J2_length_9d52b : JM := (yJ2_length_9d52b, cJ2_length_9d52b, 1, (some .int), [], { frames := 1, cells := 0, slots := 0, locals := 37 })
theorem mb_J2_length_9d52b : SB m_J2_length_9d52b 1 := ⟨gm 690 (by decide +kernel) rfl, gm 172 (by decide +kernel) rfl, by decide +kernel, by decide +kernel⟩
theorem ms_J2_length_9d52b : SS m_J2_length_9d52b := gm 689 (by decide +kernel) rfl
abbrev m_J2_charAt_3b067 : JM := (yJ2_charAt_3b067, cJ2_charAt_3b067, 2, (some .char), [], { frames := 5, cells := 0, slots := 0, locals := 185 })
theorem mb_J2_charAt_3b067 : SB m_J2_charAt_3b067 2 := ⟨gm 684 (by decide +kernel) rfl, gm 172 (by decide +kernel) rfl, by decide +kernel, by decide +kernel⟩
theorem ms_J2_charAt_3b067 : SS m_J2_charAt_3b067 := gm 683 (by decide +kernel) rfl
abbrev m_J2_checkIndex_2214a : JM := (yJ2_checkIndex_2214a, cJ2_checkIndex_2214a, 2, none, [], { frames := 2, cells := 0, slots := 0, locals := 74 })
theorem mb_J2_checkIndex_2214a : SB m_J2_checkIndex_2214a 2 := ⟨gm 687 (by decide +kernel) rfl, gm 172 (by decide +kernel) rfl, by decide +kernel, by decide +kernel⟩
theorem ms_J2_checkIndex_2214a : SS m_J2_checkIndex_2214a := gm 686 (by decide +kernel) rfl
abbrev m_J7_fill_53178 : JM := (yJ7_fill_53178, cJ7_fill_53178, 4, none, [], { frames := 0, cells := 0, slots := 0, locals := 0 })
theorem mb_J7_fill_53178 : SB m_J7_fill_53178 2 := ⟨gm 612 (by decide +kernel) rfl, gm 167 (by decide +kernel) rfl, by decide +kernel, by decide +kernel⟩
theorem ms_J7_fill_53178 : SS m_J7_fill_53178 := gm 611 (by decide +kernel) rfl
abbrev m_J3_checkIndex_8e157 : JM := (yJ3_checkIndex_8e157, cJ3_checkIndex_8e157, 3, (some .int), [], { frames := 0, cells := 0, slots := 0, locals := 0 })
theorem mb_J3_checkIndex_8e157 : SB m_J3_checkIndex_8e157 3 := ⟨gm 681 (by decide +kernel) rfl, gm 171 (by decide +kernel) rfl, by decide +kernel, by decide +kernel⟩
theorem ms_J3_checkIndex_8e157 : SS m_J3_checkIndex_8e157 := gm 680 (by decide +kernel) rfl
-- deepest: 13
