/-! words of the tables, by their places; methods as the core has them -/
abbrev m_X8_init : JM := (yX8_init, cX8_init, 1, none, [], { frames := 4, cells := 127, slots := 5407, locals := 160 })
theorem mb_X8_init : SB m_X8_init 0 := ⟨gm 93 (by decide +kernel) rfl, gm 53 (by decide +kernel) rfl, by decide +kernel, by decide +kernel⟩
theorem mc_X8_init : SC m_X8_init := ⟨gm 92 (by decide +kernel) rfl, rfl, rfl⟩
abbrev m_X8_append : JM := (yX8_append, cX8_append, 7, (some .int), [], { frames := 2, cells := 0, slots := 0, locals := 80 })
theorem mb_X8_append : SB m_X8_append 5 := ⟨gm 1590 (by decide +kernel) rfl, gm 53 (by decide +kernel) rfl, by decide +kernel, by decide +kernel⟩
theorem mi_X8_append : SI m_X8_append := ⟨gm 1588 (by decide +kernel) rfl, gm 1589 (by decide +kernel) rfl⟩
abbrev m_X8_parseSetup : JM := (yX8_parseSetup, cX8_parseSetup, 3, (some .int), [], { frames := 9, cells := 2, slots := 12, locals := 360 })
theorem mb_X8_parseSetup : SB m_X8_parseSetup 1 := ⟨gm 394 (by decide +kernel) rfl, gm 53 (by decide +kernel) rfl, by decide +kernel, by decide +kernel⟩
theorem mi_X8_parseSetup : SI m_X8_parseSetup := ⟨gm 392 (by decide +kernel) rfl, gm 393 (by decide +kernel) rfl⟩
abbrev m_X8_harnessCount : JM := (yX8_harnessCount, cX8_harnessCount, 1, (some .int), [], { frames := 7, cells := 1, slots := 6, locals := 280 })
theorem mb_X8_harnessCount : SB m_X8_harnessCount 0 := ⟨gm 863 (by decide +kernel) rfl, gm 53 (by decide +kernel) rfl, by decide +kernel, by decide +kernel⟩
theorem mi_X8_harnessCount : SI m_X8_harnessCount := ⟨gm 861 (by decide +kernel) rfl, gm 862 (by decide +kernel) rfl⟩
abbrev m_X8_warpCount : JM := (yX8_warpCount, cX8_warpCount, 1, (some .int), [], { frames := 7, cells := 1, slots := 6, locals := 280 })
theorem mb_X8_warpCount : SB m_X8_warpCount 0 := ⟨gm 887 (by decide +kernel) rfl, gm 53 (by decide +kernel) rfl, by decide +kernel, by decide +kernel⟩
theorem mi_X8_warpCount : SI m_X8_warpCount := ⟨gm 885 (by decide +kernel) rfl, gm 886 (by decide +kernel) rfl⟩
abbrev m_X8_brokenCount : JM := (yX8_brokenCount, cX8_brokenCount, 1, (some .int), [], { frames := 7, cells := 1, slots := 6, locals := 280 })
theorem mb_X8_brokenCount : SB m_X8_brokenCount 0 := ⟨gm 1667 (by decide +kernel) rfl, gm 53 (by decide +kernel) rfl, by decide +kernel, by decide +kernel⟩
theorem mi_X8_brokenCount : SI m_X8_brokenCount := ⟨gm 1665 (by decide +kernel) rfl, gm 1666 (by decide +kernel) rfl⟩
abbrev m_X8_isLifted : JM := (yX8_isLifted, cX8_isLifted, 2, (some .boolean), [], { frames := 8, cells := 2, slots := 12, locals := 320 })
theorem mb_X8_isLifted : SB m_X8_isLifted 1 := ⟨gm 1682 (by decide +kernel) rfl, gm 53 (by decide +kernel) rfl, by decide +kernel, by decide +kernel⟩
theorem mi_X8_isLifted : SI m_X8_isLifted := ⟨gm 1680 (by decide +kernel) rfl, gm 1681 (by decide +kernel) rfl⟩
abbrev m_X8_wear : JM := (yX8_wear, cX8_wear, 2, (some .int), [], { frames := 8, cells := 2, slots := 12, locals := 320 })
theorem mb_X8_wear : SB m_X8_wear 1 := ⟨gm 891 (by decide +kernel) rfl, gm 53 (by decide +kernel) rfl, by decide +kernel, by decide +kernel⟩
theorem mi_X8_wear : SI m_X8_wear := ⟨gm 889 (by decide +kernel) rfl, gm 890 (by decide +kernel) rfl⟩
abbrev m_X8_isStuck : JM := (yX8_isStuck, cX8_isStuck, 2, (some .boolean), [], { frames := 8, cells := 2, slots := 12, locals := 320 })
theorem mb_X8_isStuck : SB m_X8_isStuck 1 := ⟨gm 904 (by decide +kernel) rfl, gm 53 (by decide +kernel) rfl, by decide +kernel, by decide +kernel⟩
theorem mi_X8_isStuck : SI m_X8_isStuck := ⟨gm 902 (by decide +kernel) rfl, gm 903 (by decide +kernel) rfl⟩
abbrev m_X8_cardCount : JM := (yX8_cardCount, cX8_cardCount, 1, (some .int), [], { frames := 7, cells := 1, slots := 6, locals := 280 })
theorem mb_X8_cardCount : SB m_X8_cardCount 0 := ⟨gm 1672 (by decide +kernel) rfl, gm 53 (by decide +kernel) rfl, by decide +kernel, by decide +kernel⟩
theorem mi_X8_cardCount : SI m_X8_cardCount := ⟨gm 1670 (by decide +kernel) rfl, gm 1671 (by decide +kernel) rfl⟩
abbrev m_X8_lifts : JM := (yX8_lifts, cX8_lifts, 3, (some .boolean), [], { frames := 8, cells := 4, slots := 24, locals := 320 })
theorem mb_X8_lifts : SB m_X8_lifts 2 := ⟨gm 909 (by decide +kernel) rfl, gm 53 (by decide +kernel) rfl, by decide +kernel, by decide +kernel⟩
theorem mi_X8_lifts : SI m_X8_lifts := ⟨gm 907 (by decide +kernel) rfl, gm 908 (by decide +kernel) rfl⟩
abbrev m_X8_cardColour : JM := (yX8_cardColour, cX8_cardColour, 2, (some .int), [], { frames := 8, cells := 2, slots := 12, locals := 320 })
theorem mb_X8_cardColour : SB m_X8_cardColour 1 := ⟨gm 917 (by decide +kernel) rfl, gm 53 (by decide +kernel) rfl, by decide +kernel, by decide +kernel⟩
theorem mi_X8_cardColour : SI m_X8_cardColour := ⟨gm 915 (by decide +kernel) rfl, gm 916 (by decide +kernel) rfl⟩
abbrev m_X8_liftedWarps : JM := (yX8_liftedWarps, cX8_liftedWarps, 2, (some .int), [], { frames := 8, cells := 2, slots := 12, locals := 320 })
theorem mb_X8_liftedWarps : SB m_X8_liftedWarps 1 := ⟨gm 1676 (by decide +kernel) rfl, gm 53 (by decide +kernel) rfl, by decide +kernel, by decide +kernel⟩
theorem mi_X8_liftedWarps : SI m_X8_liftedWarps := ⟨gm 1674 (by decide +kernel) rfl, gm 1675 (by decide +kernel) rfl⟩
abbrev m_X8_cardUses : JM := (yX8_cardUses, cX8_cardUses, 2, (some .int), [], { frames := 8, cells := 2, slots := 12, locals := 320 })
theorem mb_X8_cardUses : SB m_X8_cardUses 1 := ⟨gm 921 (by decide +kernel) rfl, gm 53 (by decide +kernel) rfl, by decide +kernel, by decide +kernel⟩
theorem mi_X8_cardUses : SI m_X8_cardUses := ⟨gm 919 (by decide +kernel) rfl, gm 920 (by decide +kernel) rfl⟩
abbrev m_X8_rowCount : JM := (yX8_rowCount, cX8_rowCount, 1, (some .int), [], { frames := 7, cells := 1, slots := 6, locals := 280 })
theorem mb_X8_rowCount : SB m_X8_rowCount 0 := ⟨gm 929 (by decide +kernel) rfl, gm 53 (by decide +kernel) rfl, by decide +kernel, by decide +kernel⟩
theorem mi_X8_rowCount : SI m_X8_rowCount := ⟨gm 927 (by decide +kernel) rfl, gm 928 (by decide +kernel) rfl⟩
abbrev m_X8_cellColour : JM := (yX8_cellColour, cX8_cellColour, 3, (some .int), [], { frames := 8, cells := 4, slots := 24, locals := 320 })
theorem mb_X8_cellColour : SB m_X8_cellColour 2 := ⟨gm 1688 (by decide +kernel) rfl, gm 53 (by decide +kernel) rfl, by decide +kernel, by decide +kernel⟩
theorem mi_X8_cellColour : SI m_X8_cellColour := ⟨gm 1686 (by decide +kernel) rfl, gm 1687 (by decide +kernel) rfl⟩
abbrev m_X8_showsWarp : JM := (yX8_showsWarp, cX8_showsWarp, 3, (some .boolean), [], { frames := 8, cells := 4, slots := 24, locals := 320 })
theorem mb_X8_showsWarp : SB m_X8_showsWarp 2 := ⟨gm 1701 (by decide +kernel) rfl, gm 53 (by decide +kernel) rfl, by decide +kernel, by decide +kernel⟩
theorem mi_X8_showsWarp : SI m_X8_showsWarp := ⟨gm 1699 (by decide +kernel) rfl, gm 1700 (by decide +kernel) rfl⟩
abbrev m_X8_cellsOfColour : JM := (yX8_cellsOfColour, cX8_cellsOfColour, 2, (some .int), [], { frames := 8, cells := 2, slots := 12, locals := 320 })
theorem mb_X8_cellsOfColour : SB m_X8_cellsOfColour 1 := ⟨gm 1608 (by decide +kernel) rfl, gm 53 (by decide +kernel) rfl, by decide +kernel, by decide +kernel⟩
theorem mi_X8_cellsOfColour : SI m_X8_cellsOfColour := ⟨gm 1606 (by decide +kernel) rfl, gm 1607 (by decide +kernel) rfl⟩
abbrev m_X8_rowPeriod : JM := (yX8_rowPeriod, cX8_rowPeriod, 1, (some .int), [], { frames := 7, cells := 1, slots := 6, locals := 280 })
theorem mb_X8_rowPeriod : SB m_X8_rowPeriod 0 := ⟨gm 1649 (by decide +kernel) rfl, gm 53 (by decide +kernel) rfl, by decide +kernel, by decide +kernel⟩
theorem mi_X8_rowPeriod : SI m_X8_rowPeriod := ⟨gm 1647 (by decide +kernel) rfl, gm 1648 (by decide +kernel) rfl⟩
abbrev m_X8_wrongCount : JM := (yX8_wrongCount, cX8_wrongCount, 1, (some .int), [], { frames := 7, cells := 1, slots := 6, locals := 280 })
theorem mb_X8_wrongCount : SB m_X8_wrongCount 0 := ⟨gm 1628 (by decide +kernel) rfl, gm 53 (by decide +kernel) rfl, by decide +kernel, by decide +kernel⟩
theorem mi_X8_wrongCount : SI m_X8_wrongCount := ⟨gm 1626 (by decide +kernel) rfl, gm 1627 (by decide +kernel) rfl⟩
abbrev m_X8_firstWrongRow : JM := (yX8_firstWrongRow, cX8_firstWrongRow, 1, (some .int), [], { frames := 7, cells := 1, slots := 6, locals := 280 })
theorem mb_X8_firstWrongRow : SB m_X8_firstWrongRow 0 := ⟨gm 1620 (by decide +kernel) rfl, gm 53 (by decide +kernel) rfl, by decide +kernel, by decide +kernel⟩
theorem mi_X8_firstWrongRow : SI m_X8_firstWrongRow := ⟨gm 1618 (by decide +kernel) rfl, gm 1619 (by decide +kernel) rfl⟩
abbrev m_X8_swapFirst : JM := (yX8_swapFirst, cX8_swapFirst, 2, (some .int), [], { frames := 7, cells := 1, slots := 6, locals := 280 })
theorem mb_X8_swapFirst : SB m_X8_swapFirst 0 := ⟨gm 1632 (by decide +kernel) rfl, gm 53 (by decide +kernel) rfl, by decide +kernel, by decide +kernel⟩
theorem mi_X8_swapFirst : SI m_X8_swapFirst := ⟨gm 1630 (by decide +kernel) rfl, gm 1631 (by decide +kernel) rfl⟩
abbrev m_X8_swapSecond : JM := (yX8_swapSecond, cX8_swapSecond, 2, (some .int), [], { frames := 7, cells := 1, slots := 6, locals := 280 })
theorem mb_X8_swapSecond : SB m_X8_swapSecond 0 := ⟨gm 1645 (by decide +kernel) rfl, gm 53 (by decide +kernel) rfl, by decide +kernel, by decide +kernel⟩
theorem mi_X8_swapSecond : SI m_X8_swapSecond := ⟨gm 1643 (by decide +kernel) rfl, gm 1644 (by decide +kernel) rfl⟩
abbrev m_X8_yarn : JM := (yX8_yarn, cX8_yarn, 2, (some .int), [], { frames := 8, cells := 2, slots := 12, locals := 320 })
theorem mb_X8_yarn : SB m_X8_yarn 1 := ⟨gm 933 (by decide +kernel) rfl, gm 53 (by decide +kernel) rfl, by decide +kernel, by decide +kernel⟩
theorem mi_X8_yarn : SI m_X8_yarn := ⟨gm 931 (by decide +kernel) rfl, gm 932 (by decide +kernel) rfl⟩
abbrev m_X8_nextCard : JM := (yX8_nextCard, cX8_nextCard, 1, (some .int), [], { frames := 7, cells := 1, slots := 6, locals := 280 })
theorem mb_X8_nextCard : SB m_X8_nextCard 0 := ⟨gm 945 (by decide +kernel) rfl, gm 53 (by decide +kernel) rfl, by decide +kernel, by decide +kernel⟩
theorem mi_X8_nextCard : SI m_X8_nextCard := ⟨gm 943 (by decide +kernel) rfl, gm 944 (by decide +kernel) rfl⟩
abbrev m_X8_weaveObstacle : JM := (yX8_weaveObstacle, cX8_weaveObstacle, 1, (some .int), [], { frames := 7, cells := 1, slots := 6, locals := 280 })
theorem mb_X8_weaveObstacle : SB m_X8_weaveObstacle 0 := ⟨gm 950 (by decide +kernel) rfl, gm 53 (by decide +kernel) rfl, by decide +kernel, by decide +kernel⟩
theorem mi_X8_weaveObstacle : SI m_X8_weaveObstacle := ⟨gm 948 (by decide +kernel) rfl, gm 949 (by decide +kernel) rfl⟩
abbrev m_X8_picksPossible : JM := (yX8_picksPossible, cX8_picksPossible, 1, (some .int), [], { frames := 7, cells := 1, slots := 6, locals := 280 })
theorem mb_X8_picksPossible : SB m_X8_picksPossible 0 := ⟨gm 955 (by decide +kernel) rfl, gm 53 (by decide +kernel) rfl, by decide +kernel, by decide +kernel⟩
theorem mi_X8_picksPossible : SI m_X8_picksPossible := ⟨gm 953 (by decide +kernel) rfl, gm 954 (by decide +kernel) rfl⟩
abbrev m_X8_picksUntilStuck : JM := (yX8_picksUntilStuck, cX8_picksUntilStuck, 2, (some .int), [], { frames := 7, cells := 1, slots := 6, locals := 280 })
theorem mb_X8_picksUntilStuck : SB m_X8_picksUntilStuck 0 := ⟨gm 971 (by decide +kernel) rfl, gm 53 (by decide +kernel) rfl, by decide +kernel, by decide +kernel⟩
theorem mi_X8_picksUntilStuck : SI m_X8_picksUntilStuck := ⟨gm 969 (by decide +kernel) rfl, gm 970 (by decide +kernel) rfl⟩
abbrev m_X8_imbalance : JM := (yX8_imbalance, cX8_imbalance, 3, (some .int), [], { frames := 7, cells := 1, slots := 6, locals := 280 })
theorem mb_X8_imbalance : SB m_X8_imbalance 0 := ⟨gm 975 (by decide +kernel) rfl, gm 53 (by decide +kernel) rfl, by decide +kernel, by decide +kernel⟩
theorem mi_X8_imbalance : SI m_X8_imbalance := ⟨gm 973 (by decide +kernel) rfl, gm 974 (by decide +kernel) rfl⟩
abbrev m_X8_weave : JM := (yX8_weave, cX8_weave, 2, (some .int), [], { frames := 7, cells := 2, slots := 12, locals := 280 })
theorem mb_X8_weave : SB m_X8_weave 1 := ⟨gm 1002 (by decide +kernel) rfl, gm 53 (by decide +kernel) rfl, by decide +kernel, by decide +kernel⟩
theorem mi_X8_weave : SI m_X8_weave := ⟨gm 1000 (by decide +kernel) rfl, gm 1001 (by decide +kernel) rfl⟩
abbrev m_X8_unweave : JM := (yX8_unweave, cX8_unweave, 2, (some .int), [], { frames := 7, cells := 2, slots := 12, locals := 280 })
theorem mb_X8_unweave : SB m_X8_unweave 1 := ⟨gm 1016 (by decide +kernel) rfl, gm 53 (by decide +kernel) rfl, by decide +kernel, by decide +kernel⟩
theorem mi_X8_unweave : SI m_X8_unweave := ⟨gm 1014 (by decide +kernel) rfl, gm 1015 (by decide +kernel) rfl⟩
abbrev m_X8_swapCards : JM := (yX8_swapCards, cX8_swapCards, 4, (some .int), [], { frames := 8, cells := 4, slots := 24, locals := 320 })
theorem mb_X8_swapCards : SB m_X8_swapCards 2 := ⟨gm 1021 (by decide +kernel) rfl, gm 53 (by decide +kernel) rfl, by decide +kernel, by decide +kernel⟩
theorem mi_X8_swapCards : SI m_X8_swapCards := ⟨gm 1019 (by decide +kernel) rfl, gm 1020 (by decide +kernel) rfl⟩
abbrev m_X8_punch : JM := (yX8_punch, cX8_punch, 3, (some .boolean), [], { frames := 8, cells := 4, slots := 24, locals := 320 })
theorem mb_X8_punch : SB m_X8_punch 2 := ⟨gm 1026 (by decide +kernel) rfl, gm 53 (by decide +kernel) rfl, by decide +kernel, by decide +kernel⟩
theorem mi_X8_punch : SI m_X8_punch := ⟨gm 1024 (by decide +kernel) rfl, gm 1025 (by decide +kernel) rfl⟩
abbrev m_X8_setCardColour : JM := (yX8_setCardColour, cX8_setCardColour, 4, (some .int), [], { frames := 8, cells := 4, slots := 24, locals := 320 })
theorem mb_X8_setCardColour : SB m_X8_setCardColour 2 := ⟨gm 1031 (by decide +kernel) rfl, gm 53 (by decide +kernel) rfl, by decide +kernel, by decide +kernel⟩
theorem mi_X8_setCardColour : SI m_X8_setCardColour := ⟨gm 1029 (by decide +kernel) rfl, gm 1030 (by decide +kernel) rfl⟩
abbrev m_X8_bringYarn : JM := (yX8_bringYarn, cX8_bringYarn, 3, (some .int), [], { frames := 8, cells := 3, slots := 18, locals := 320 })
theorem mb_X8_bringYarn : SB m_X8_bringYarn 2 := ⟨gm 1036 (by decide +kernel) rfl, gm 53 (by decide +kernel) rfl, by decide +kernel, by decide +kernel⟩
theorem mi_X8_bringYarn : SI m_X8_bringYarn := ⟨gm 1034 (by decide +kernel) rfl, gm 1035 (by decide +kernel) rfl⟩
abbrev m_X8_oil : JM := (yX8_oil, cX8_oil, 3, (some .int), [], { frames := 8, cells := 2, slots := 12, locals := 320 })
theorem mb_X8_oil : SB m_X8_oil 1 := ⟨gm 1041 (by decide +kernel) rfl, gm 53 (by decide +kernel) rfl, by decide +kernel, by decide +kernel⟩
theorem mi_X8_oil : SI m_X8_oil := ⟨gm 1039 (by decide +kernel) rfl, gm 1040 (by decide +kernel) rfl⟩
abbrev m_X8_undoCount : JM := (yX8_undoCount, cX8_undoCount, 1, (some .int), [], { frames := 0, cells := 0, slots := 0, locals := 0 })
theorem mb_X8_undoCount : SB m_X8_undoCount 0 := ⟨gm 1046 (by decide +kernel) rfl, gm 53 (by decide +kernel) rfl, by decide +kernel, by decide +kernel⟩
theorem mi_X8_undoCount : SI m_X8_undoCount := ⟨gm 1044 (by decide +kernel) rfl, gm 1045 (by decide +kernel) rfl⟩
abbrev m_X8_saveState : JM := (yX8_saveState, cX8_saveState, 3, (some .int), [], { frames := 7, cells := 2, slots := 12, locals := 280 })
theorem mb_X8_saveState : SB m_X8_saveState 1 := ⟨gm 1050 (by decide +kernel) rfl, gm 53 (by decide +kernel) rfl, by decide +kernel, by decide +kernel⟩
theorem mi_X8_saveState : SI m_X8_saveState := ⟨gm 1048 (by decide +kernel) rfl, gm 1049 (by decide +kernel) rfl⟩
abbrev m_X8_restoreState : JM := (yX8_restoreState, cX8_restoreState, 3, (some .int), [], { frames := 7, cells := 2, slots := 12, locals := 280 })
theorem mb_X8_restoreState : SB m_X8_restoreState 1 := ⟨gm 1054 (by decide +kernel) rfl, gm 53 (by decide +kernel) rfl, by decide +kernel, by decide +kernel⟩
theorem mi_X8_restoreState : SI m_X8_restoreState := ⟨gm 1052 (by decide +kernel) rfl, gm 1053 (by decide +kernel) rfl⟩
abbrev m_X8_requireLoaded : JM := (yX8_requireLoaded, cX8_requireLoaded, 1, none, [], { frames := 6, cells := 1, slots := 6, locals := 240 })
theorem mb_X8_requireLoaded : SB m_X8_requireLoaded 0 := ⟨gm 867 (by decide +kernel) rfl, gm 53 (by decide +kernel) rfl, by decide +kernel, by decide +kernel⟩
theorem mi_X8_requireLoaded : SI m_X8_requireLoaded := ⟨gm 866 (by decide +kernel) rfl, gm 38 (by decide +kernel) rfl⟩
abbrev m_X8_requireWarp : JM := (yX8_requireWarp, cX8_requireWarp, 2, none, [], { frames := 7, cells := 2, slots := 12, locals := 280 })
theorem mb_X8_requireWarp : SB m_X8_requireWarp 1 := ⟨gm 1696 (by decide +kernel) rfl, gm 53 (by decide +kernel) rfl, by decide +kernel, by decide +kernel⟩
theorem mi_X8_requireWarp : SI m_X8_requireWarp := ⟨gm 1695 (by decide +kernel) rfl, gm 51 (by decide +kernel) rfl⟩
abbrev m_X8_requireHarness : JM := (yX8_requireHarness, cX8_requireHarness, 2, none, [], { frames := 7, cells := 2, slots := 12, locals := 280 })
theorem mb_X8_requireHarness : SB m_X8_requireHarness 1 := ⟨gm 895 (by decide +kernel) rfl, gm 53 (by decide +kernel) rfl, by decide +kernel, by decide +kernel⟩
theorem mi_X8_requireHarness : SI m_X8_requireHarness := ⟨gm 894 (by decide +kernel) rfl, gm 39 (by decide +kernel) rfl⟩
abbrev m_X8_requireCard : JM := (yX8_requireCard, cX8_requireCard, 2, none, [], { frames := 7, cells := 2, slots := 12, locals := 280 })
theorem mb_X8_requireCard : SB m_X8_requireCard 1 := ⟨gm 913 (by decide +kernel) rfl, gm 53 (by decide +kernel) rfl, by decide +kernel, by decide +kernel⟩
theorem mi_X8_requireCard : SI m_X8_requireCard := ⟨gm 912 (by decide +kernel) rfl, gm 40 (by decide +kernel) rfl⟩
abbrev m_X8_requireRow : JM := (yX8_requireRow, cX8_requireRow, 2, none, [], { frames := 7, cells := 2, slots := 12, locals := 280 })
theorem mb_X8_requireRow : SB m_X8_requireRow 1 := ⟨gm 1692 (by decide +kernel) rfl, gm 53 (by decide +kernel) rfl, by decide +kernel, by decide +kernel⟩
theorem mi_X8_requireRow : SI m_X8_requireRow := ⟨gm 1691 (by decide +kernel) rfl, gm 50 (by decide +kernel) rfl⟩
abbrev m_X8_requireColour : JM := (yX8_requireColour, cX8_requireColour, 2, none, [], { frames := 7, cells := 2, slots := 12, locals := 280 })
theorem mb_X8_requireColour : SB m_X8_requireColour 1 := ⟨gm 937 (by decide +kernel) rfl, gm 53 (by decide +kernel) rfl, by decide +kernel, by decide +kernel⟩
theorem mi_X8_requireColour : SI m_X8_requireColour := ⟨gm 936 (by decide +kernel) rfl, gm 41 (by decide +kernel) rfl⟩
abbrev m_X8_requireIndex : JM := (yX8_requireIndex, cX8_requireIndex, 2, none, [], { frames := 6, cells := 1, slots := 6, locals := 240 })
theorem mb_X8_requireIndex : SB m_X8_requireIndex 2 := ⟨gm 898 (by decide +kernel) rfl, gm 53 (by decide +kernel) rfl, by decide +kernel, by decide +kernel⟩
theorem ms_X8_requireIndex : SS m_X8_requireIndex := gm 897 (by decide +kernel) rfl
abbrev m_X8_requireRange : JM := (yX8_requireRange, cX8_requireRange, 3, none, [], { frames := 6, cells := 1, slots := 6, locals := 240 })
theorem mb_X8_requireRange : SB m_X8_requireRange 3 := ⟨gm 940 (by decide +kernel) rfl, gm 53 (by decide +kernel) rfl, by decide +kernel, by decide +kernel⟩
theorem ms_X8_requireRange : SS m_X8_requireRange := gm 939 (by decide +kernel) rfl
abbrev m_X8_at : JM := (yX8_at, cX8_at, 2, (some .int), [], { frames := 0, cells := 0, slots := 0, locals := 0 })
theorem mb_X8_at : SB m_X8_at 2 := ⟨gm 495 (by decide +kernel) rfl, gm 53 (by decide +kernel) rfl, by decide +kernel, by decide +kernel⟩
theorem ms_X8_at : SS m_X8_at := gm 494 (by decide +kernel) rfl
abbrev m_X8_put : JM := (yX8_put, cX8_put, 3, none, [], { frames := 0, cells := 0, slots := 0, locals := 0 })
theorem mb_X8_put : SB m_X8_put 3 := ⟨gm 610 (by decide +kernel) rfl, gm 53 (by decide +kernel) rfl, by decide +kernel, by decide +kernel⟩
theorem ms_X8_put : SS m_X8_put := gm 609 (by decide +kernel) rfl
abbrev m_X8_copy : JM := (yX8_copy, cX8_copy, 2, none, [], { frames := 1, cells := 0, slots := 0, locals := 40 })
theorem mb_X8_copy : SB m_X8_copy 2 := ⟨gm 962 (by decide +kernel) rfl, gm 53 (by decide +kernel) rfl, by decide +kernel, by decide +kernel⟩
theorem ms_X8_copy : SS m_X8_copy := gm 961 (by decide +kernel) rfl
abbrev m_X8_has : JM := (yX8_has, cX8_has, 2, (some .boolean), [], { frames := 0, cells := 0, slots := 0, locals := 0 })
theorem mb_X8_has : SB m_X8_has 2 := ⟨gm 618 (by decide +kernel) rfl, gm 53 (by decide +kernel) rfl, by decide +kernel, by decide +kernel⟩
theorem ms_X8_has : SS m_X8_has := gm 617 (by decide +kernel) rfl
abbrev m_X0_init : JM := (yX0_init, cX0_init, 1, none, [], { frames := 1, cells := 4, slots := 906, locals := 40 })
theorem mb_X0_init : SB m_X0_init 0 := ⟨gm 147 (by decide +kernel) rfl, gm 57 (by decide +kernel) rfl, by decide +kernel, by decide +kernel⟩
theorem mc_X0_init : SC m_X0_init := ⟨gm 146 (by decide +kernel) rfl, rfl, rfl⟩
abbrev m_X0_clear : JM := (yX0_clear, cX0_clear, 1, none, [], { frames := 0, cells := 0, slots := 0, locals := 0 })
theorem mb_X0_clear : SB m_X0_clear 0 := ⟨gm 474 (by decide +kernel) rfl, gm 57 (by decide +kernel) rfl, by decide +kernel, by decide +kernel⟩
theorem mi_X0_clear : SI m_X0_clear := ⟨gm 472 (by decide +kernel) rfl, gm 473 (by decide +kernel) rfl⟩
abbrev m_X0_isNestingFull : JM := (yX0_isNestingFull, cX0_isNestingFull, 1, (some .boolean), [], { frames := 0, cells := 0, slots := 0, locals := 0 })
theorem mb_X0_isNestingFull : SB m_X0_isNestingFull 0 := ⟨gm 663 (by decide +kernel) rfl, gm 57 (by decide +kernel) rfl, by decide +kernel, by decide +kernel⟩
theorem mi_X0_isNestingFull : SI m_X0_isNestingFull := ⟨gm 661 (by decide +kernel) rfl, gm 662 (by decide +kernel) rfl⟩
abbrev m_X0_addCard : JM := (yX0_addCard, cX0_addCard, 2, (some .boolean), [], { frames := 2, cells := 0, slots := 0, locals := 80 })
theorem mb_X0_addCard : SB m_X0_addCard 1 := ⟨gm 639 (by decide +kernel) rfl, gm 57 (by decide +kernel) rfl, by decide +kernel, by decide +kernel⟩
theorem mi_X0_addCard : SI m_X0_addCard := ⟨gm 637 (by decide +kernel) rfl, gm 638 (by decide +kernel) rfl⟩
abbrev m_X0_openPart : JM := (yX0_openPart, cX0_openPart, 2, none, [], { frames := 2, cells := 0, slots := 0, locals := 80 })
theorem mb_X0_openPart : SB m_X0_openPart 1 := ⟨gm 667 (by decide +kernel) rfl, gm 57 (by decide +kernel) rfl, by decide +kernel, by decide +kernel⟩
theorem mi_X0_openPart : SI m_X0_openPart := ⟨gm 665 (by decide +kernel) rfl, gm 666 (by decide +kernel) rfl⟩
abbrev m_X0_closePart : JM := (yX0_closePart, cX0_closePart, 4, (some .boolean), [], { frames := 2, cells := 0, slots := 0, locals := 80 })
theorem mb_X0_closePart : SB m_X0_closePart 0 := ⟨gm 675 (by decide +kernel) rfl, gm 57 (by decide +kernel) rfl, by decide +kernel, by decide +kernel⟩
theorem mi_X0_closePart : SI m_X0_closePart := ⟨gm 673 (by decide +kernel) rfl, gm 674 (by decide +kernel) rfl⟩
abbrev m_X0_startOfList : JM := (yX0_startOfList, cX0_startOfList, 2, (some .int), [], { frames := 1, cells := 0, slots := 0, locals := 40 })
theorem mb_X0_startOfList : SB m_X0_startOfList 1 := ⟨gm 643 (by decide +kernel) rfl, gm 57 (by decide +kernel) rfl, by decide +kernel, by decide +kernel⟩
theorem mi_X0_startOfList : SI m_X0_startOfList := ⟨gm 642 (by decide +kernel) rfl, gm 15 (by decide +kernel) rfl⟩
abbrev m_X0_picksWhenClosed : JM := (yX0_picksWhenClosed, cX0_picksWhenClosed, 2, (some .int), [], { frames := 0, cells := 0, slots := 0, locals := 0 })
theorem mb_X0_picksWhenClosed : SB m_X0_picksWhenClosed 2 := ⟨gm 678 (by decide +kernel) rfl, gm 57 (by decide +kernel) rfl, by decide +kernel, by decide +kernel⟩
theorem ms_X0_picksWhenClosed : SS m_X0_picksWhenClosed := gm 677 (by decide +kernel) rfl
abbrev m_X0_mirrorPicks : JM := (yX0_mirrorPicks, cX0_mirrorPicks, 4, none, [], { frames := 1, cells := 0, slots := 0, locals := 40 })
theorem mb_X0_mirrorPicks : SB m_X0_mirrorPicks 2 := ⟨gm 682 (by decide +kernel) rfl, gm 57 (by decide +kernel) rfl, by decide +kernel, by decide +kernel⟩
theorem mi_X0_mirrorPicks : SI m_X0_mirrorPicks := ⟨gm 681 (by decide +kernel) rfl, gm 19 (by decide +kernel) rfl⟩
abbrev m_X0_reversePicks : JM := (yX0_reversePicks, cX0_reversePicks, 6, none, [], { frames := 1, cells := 0, slots := 0, locals := 40 })
theorem mb_X0_reversePicks : SB m_X0_reversePicks 2 := ⟨gm 686 (by decide +kernel) rfl, gm 57 (by decide +kernel) rfl, by decide +kernel, by decide +kernel⟩
theorem mi_X0_reversePicks : SI m_X0_reversePicks := ⟨gm 685 (by decide +kernel) rfl, gm 20 (by decide +kernel) rfl⟩
abbrev m_X0_repeatPicks : JM := (yX0_repeatPicks, cX0_repeatPicks, 4, none, [], { frames := 1, cells := 0, slots := 0, locals := 40 })
theorem mb_X0_repeatPicks : SB m_X0_repeatPicks 2 := ⟨gm 690 (by decide +kernel) rfl, gm 57 (by decide +kernel) rfl, by decide +kernel, by decide +kernel⟩
theorem mi_X0_repeatPicks : SI m_X0_repeatPicks := ⟨gm 689 (by decide +kernel) rfl, gm 21 (by decide +kernel) rfl⟩
abbrev m_X0_addPart : JM := (yX0_addPart, cX0_addPart, 2, none, [], { frames := 1, cells := 0, slots := 0, locals := 40 })
theorem mb_X0_addPart : SB m_X0_addPart 1 := ⟨gm 648 (by decide +kernel) rfl, gm 57 (by decide +kernel) rfl, by decide +kernel, by decide +kernel⟩
theorem mi_X0_addPart : SI m_X0_addPart := ⟨gm 647 (by decide +kernel) rfl, gm 16 (by decide +kernel) rfl⟩
abbrev m_X0_cardForRow : JM := (yX0_cardForRow, cX0_cardForRow, 2, (some .int), [], { frames := 1, cells := 0, slots := 0, locals := 40 })
theorem mb_X0_cardForRow : SB m_X0_cardForRow 1 := ⟨gm 722 (by decide +kernel) rfl, gm 57 (by decide +kernel) rfl, by decide +kernel, by decide +kernel⟩
theorem mi_X0_cardForRow : SI m_X0_cardForRow := ⟨gm 720 (by decide +kernel) rfl, gm 721 (by decide +kernel) rfl⟩
abbrev m_X0_countPicks : JM := (yX0_countPicks, cX0_countPicks, 4, (some .int), [], { frames := 1, cells := 0, slots := 0, locals := 40 })
theorem mb_X0_countPicks : SB m_X0_countPicks 1 := ⟨gm 925 (by decide +kernel) rfl, gm 57 (by decide +kernel) rfl, by decide +kernel, by decide +kernel⟩
theorem mi_X0_countPicks : SI m_X0_countPicks := ⟨gm 923 (by decide +kernel) rfl, gm 924 (by decide +kernel) rfl⟩
abbrev m_X1_init : JM := (yX1_init, cX1_init, 2, none, [], { frames := 2, cells := 57, slots := 1368, locals := 80 })
theorem mb_X1_init : SB m_X1_init 0 := ⟨gm 334 (by decide +kernel) rfl, gm 60 (by decide +kernel) rfl, by decide +kernel, by decide +kernel⟩
theorem mc_X1_init : SC m_X1_init := ⟨gm 333 (by decide +kernel) rfl, rfl, rfl⟩
abbrev m_X1_forgetAll : JM := (yX1_forgetAll, cX1_forgetAll, 1, none, [], { frames := 0, cells := 0, slots := 0, locals := 0 })
theorem mb_X1_forgetAll : SB m_X1_forgetAll 0 := ⟨gm 859 (by decide +kernel) rfl, gm 60 (by decide +kernel) rfl, by decide +kernel, by decide +kernel⟩
theorem mi_X1_forgetAll : SI m_X1_forgetAll := ⟨gm 857 (by decide +kernel) rfl, gm 858 (by decide +kernel) rfl⟩
abbrev m_X1_remember : JM := (yX1_remember, cX1_remember, 3, none, [], { frames := 3, cells := 0, slots := 0, locals := 120 })
theorem mb_X1_remember : SB m_X1_remember 1 := ⟨gm 1006 (by decide +kernel) rfl, gm 60 (by decide +kernel) rfl, by decide +kernel, by decide +kernel⟩
theorem mi_X1_remember : SI m_X1_remember := ⟨gm 1004 (by decide +kernel) rfl, gm 1005 (by decide +kernel) rfl⟩
abbrev m_X1_stateAt : JM := (yX1_stateAt, cX1_stateAt, 2, (some (.object "CardLoom$State")), [], { frames := 0, cells := 0, slots := 0, locals := 0 })
theorem mb_X1_stateAt : SB m_X1_stateAt 1 := ⟨gm 1010 (by decide +kernel) rfl, gm 60 (by decide +kernel) rfl, by decide +kernel, by decide +kernel⟩
theorem mi_X1_stateAt : SI m_X1_stateAt := ⟨gm 1009 (by decide +kernel) rfl, gm 43 (by decide +kernel) rfl⟩
abbrev m_X2_init : JM := (yX2_init, cX2_init, 1, none, [], { frames := 1, cells := 1, slots := 500, locals := 40 })
theorem mb_X2_init : SB m_X2_init 0 := ⟨gm 107 (by decide +kernel) rfl, gm 55 (by decide +kernel) rfl, by decide +kernel, by decide +kernel⟩
theorem mc_X2_init : SC m_X2_init := ⟨gm 106 (by decide +kernel) rfl, rfl, rfl⟩
abbrev m_X2_addFourBytes : JM := (yX2_addFourBytes, cX2_addFourBytes, 3, none, [], { frames := 1, cells := 0, slots := 0, locals := 40 })
theorem mb_X2_addFourBytes : SB m_X2_addFourBytes 1 := ⟨gm 1594 (by decide +kernel) rfl, gm 55 (by decide +kernel) rfl, by decide +kernel, by decide +kernel⟩
theorem mi_X2_addFourBytes : SI m_X2_addFourBytes := ⟨gm 1592 (by decide +kernel) rfl, gm 1593 (by decide +kernel) rfl⟩
abbrev m_X2_startReading : JM := (yX2_startReading, cX2_startReading, 2, none, [], { frames := 3, cells := 0, slots := 0, locals := 120 })
theorem mb_X2_startReading : SB m_X2_startReading 1 := ⟨gm 485 (by decide +kernel) rfl, gm 55 (by decide +kernel) rfl, by decide +kernel, by decide +kernel⟩
theorem mi_X2_startReading : SI m_X2_startReading := ⟨gm 483 (by decide +kernel) rfl, gm 484 (by decide +kernel) rfl⟩
abbrev m_X2_advance : JM := (yX2_advance, cX2_advance, 1, none, [], { frames := 2, cells := 0, slots := 0, locals := 80 })
theorem mb_X2_advance : SB m_X2_advance 0 := ⟨gm 492 (by decide +kernel) rfl, gm 55 (by decide +kernel) rfl, by decide +kernel, by decide +kernel⟩
theorem mi_X2_advance : SI m_X2_advance := ⟨gm 490 (by decide +kernel) rfl, gm 491 (by decide +kernel) rfl⟩
abbrev m_X2_readWord : JM := (yX2_readWord, cX2_readWord, 1, none, [], { frames := 1, cells := 0, slots := 0, locals := 40 })
theorem mb_X2_readWord : SB m_X2_readWord 0 := ⟨gm 502 (by decide +kernel) rfl, gm 55 (by decide +kernel) rfl, by decide +kernel, by decide +kernel⟩
theorem mi_X2_readWord : SI m_X2_readWord := ⟨gm 501 (by decide +kernel) rfl, gm 1 (by decide +kernel) rfl⟩
abbrev m_X2_readNumber : JM := (yX2_readNumber, cX2_readNumber, 1, none, [], { frames := 1, cells := 0, slots := 0, locals := 40 })
theorem mb_X2_readNumber : SB m_X2_readNumber 0 := ⟨gm 509 (by decide +kernel) rfl, gm 55 (by decide +kernel) rfl, by decide +kernel, by decide +kernel⟩
theorem mi_X2_readNumber : SI m_X2_readNumber := ⟨gm 508 (by decide +kernel) rfl, gm 2 (by decide +kernel) rfl⟩
abbrev m_X2_isLetter : JM := (yX2_isLetter, cX2_isLetter, 1, (some .boolean), [], { frames := 0, cells := 0, slots := 0, locals := 0 })
theorem mb_X2_isLetter : SB m_X2_isLetter 1 := ⟨gm 498 (by decide +kernel) rfl, gm 55 (by decide +kernel) rfl, by decide +kernel, by decide +kernel⟩
theorem ms_X2_isLetter : SS m_X2_isLetter := gm 497 (by decide +kernel) rfl
abbrev m_X2_isDigit : JM := (yX2_isDigit, cX2_isDigit, 1, (some .boolean), [], { frames := 0, cells := 0, slots := 0, locals := 0 })
theorem mb_X2_isDigit : SB m_X2_isDigit 1 := ⟨gm 505 (by decide +kernel) rfl, gm 55 (by decide +kernel) rfl, by decide +kernel, by decide +kernel⟩
theorem ms_X2_isDigit : SS m_X2_isDigit := gm 504 (by decide +kernel) rfl
abbrev m_X2_kindOfSign : JM := (yX2_kindOfSign, cX2_kindOfSign, 1, (some .int), [], { frames := 0, cells := 0, slots := 0, locals := 0 })
theorem mb_X2_kindOfSign : SB m_X2_kindOfSign 1 := ⟨gm 512 (by decide +kernel) rfl, gm 55 (by decide +kernel) rfl, by decide +kernel, by decide +kernel⟩
theorem ms_X2_kindOfSign : SS m_X2_kindOfSign := gm 511 (by decide +kernel) rfl
abbrev m_X2_isWord : JM := (yX2_isWord, cX2_isWord, 3, (some .boolean), [], { frames := 4, cells := 0, slots := 0, locals := 160 })
theorem mb_X2_isWord : SB m_X2_isWord 1 := ⟨gm 521 (by decide +kernel) rfl, gm 55 (by decide +kernel) rfl, by decide +kernel, by decide +kernel⟩
theorem mi_X2_isWord : SI m_X2_isWord := ⟨gm 519 (by decide +kernel) rfl, gm 520 (by decide +kernel) rfl⟩
abbrev m_X2_colour : JM := (yX2_colour, cX2_colour, 2, (some .int), [], { frames := 1, cells := 0, slots := 0, locals := 40 })
theorem mb_X2_colour : SB m_X2_colour 0 := ⟨gm 599 (by decide +kernel) rfl, gm 55 (by decide +kernel) rfl, by decide +kernel, by decide +kernel⟩
theorem mi_X2_colour : SI m_X2_colour := ⟨gm 597 (by decide +kernel) rfl, gm 598 (by decide +kernel) rfl⟩
abbrev m_X3_init : JM := (yX3_init, cX3_init, 1, none, [], { frames := 2, cells := 23, slots := 1326, locals := 80 })
theorem mb_X3_init : SB m_X3_init 0 := ⟨gm 141 (by decide +kernel) rfl, gm 56 (by decide +kernel) rfl, by decide +kernel, by decide +kernel⟩
theorem mc_X3_init : SC m_X3_init := ⟨gm 140 (by decide +kernel) rfl, rfl, rfl⟩
abbrev m_X3_clear : JM := (yX3_clear, cX3_clear, 1, none, [], { frames := 2, cells := 0, slots := 0, locals := 80 })
theorem mb_X3_clear : SB m_X3_clear 0 := ⟨gm 470 (by decide +kernel) rfl, gm 56 (by decide +kernel) rfl, by decide +kernel, by decide +kernel⟩
theorem mi_X3_clear : SI m_X3_clear := ⟨gm 468 (by decide +kernel) rfl, gm 469 (by decide +kernel) rfl⟩
abbrev m_X3_addWarp : JM := (yX3_addWarp, cX3_addWarp, 3, (some .boolean), [], { frames := 1, cells := 0, slots := 0, locals := 40 })
theorem mb_X3_addWarp : SB m_X3_addWarp 2 := ⟨gm 607 (by decide +kernel) rfl, gm 56 (by decide +kernel) rfl, by decide +kernel, by decide +kernel⟩
theorem mi_X3_addWarp : SI m_X3_addWarp := ⟨gm 605 (by decide +kernel) rfl, gm 606 (by decide +kernel) rfl⟩
abbrev m_X3_addCard : JM := (yX3_addCard, cX3_addCard, 3, none, [], { frames := 1, cells := 0, slots := 0, locals := 40 })
theorem mb_X3_addCard : SB m_X3_addCard 2 := ⟨gm 622 (by decide +kernel) rfl, gm 56 (by decide +kernel) rfl, by decide +kernel, by decide +kernel⟩
theorem mi_X3_addCard : SI m_X3_addCard := ⟨gm 620 (by decide +kernel) rfl, gm 621 (by decide +kernel) rfl⟩
abbrev m_X3_otherHarnesses : JM := (yX3_otherHarnesses, cX3_otherHarnesses, 2, (some .int), [], { frames := 0, cells := 0, slots := 0, locals := 0 })
theorem mb_X3_otherHarnesses : SB m_X3_otherHarnesses 1 := ⟨gm 819 (by decide +kernel) rfl, gm 56 (by decide +kernel) rfl, by decide +kernel, by decide +kernel⟩
theorem mi_X3_otherHarnesses : SI m_X3_otherHarnesses := ⟨gm 817 (by decide +kernel) rfl, gm 818 (by decide +kernel) rfl⟩
abbrev m_X3_warpsOfHarnesses : JM := (yX3_warpsOfHarnesses, cX3_warpsOfHarnesses, 4, (some .int), [], { frames := 1, cells := 0, slots := 0, locals := 40 })
theorem mb_X3_warpsOfHarnesses : SB m_X3_warpsOfHarnesses 1 := ⟨gm 727 (by decide +kernel) rfl, gm 56 (by decide +kernel) rfl, by decide +kernel, by decide +kernel⟩
theorem mi_X3_warpsOfHarnesses : SI m_X3_warpsOfHarnesses := ⟨gm 725 (by decide +kernel) rfl, gm 726 (by decide +kernel) rfl⟩
abbrev m_X3_obstacle : JM := (yX3_obstacle, cX3_obstacle, 4, (some .int), [], { frames := 2, cells := 0, slots := 0, locals := 80 })
theorem mb_X3_obstacle : SB m_X3_obstacle 1 := ⟨gm 718 (by decide +kernel) rfl, gm 56 (by decide +kernel) rfl, by decide +kernel, by decide +kernel⟩
theorem mi_X3_obstacle : SI m_X3_obstacle := ⟨gm 716 (by decide +kernel) rfl, gm 717 (by decide +kernel) rfl⟩
abbrev m_X3_weaveUpTo : JM := (yX3_weaveUpTo, cX3_weaveUpTo, 4, (some .int), [], { frames := 3, cells := 0, slots := 0, locals := 120 })
theorem mb_X3_weaveUpTo : SB m_X3_weaveUpTo 2 := ⟨gm 714 (by decide +kernel) rfl, gm 56 (by decide +kernel) rfl, by decide +kernel, by decide +kernel⟩
theorem mi_X3_weaveUpTo : SI m_X3_weaveUpTo := ⟨gm 712 (by decide +kernel) rfl, gm 713 (by decide +kernel) rfl⟩
abbrev m_X3_weaveNext : JM := (yX3_weaveNext, cX3_weaveNext, 4, none, [], { frames := 2, cells := 0, slots := 0, locals := 80 })
theorem mb_X3_weaveNext : SB m_X3_weaveNext 1 := ⟨gm 738 (by decide +kernel) rfl, gm 56 (by decide +kernel) rfl, by decide +kernel, by decide +kernel⟩
theorem mi_X3_weaveNext : SI m_X3_weaveNext := ⟨gm 737 (by decide +kernel) rfl, gm 24 (by decide +kernel) rfl⟩
abbrev m_X3_moveHarnesses : JM := (yX3_moveHarnesses, cX3_moveHarnesses, 6, none, [], { frames := 1, cells := 0, slots := 0, locals := 40 })
theorem mb_X3_moveHarnesses : SB m_X3_moveHarnesses 2 := ⟨gm 743 (by decide +kernel) rfl, gm 56 (by decide +kernel) rfl, by decide +kernel, by decide +kernel⟩
theorem mi_X3_moveHarnesses : SI m_X3_moveHarnesses := ⟨gm 742 (by decide +kernel) rfl, gm 25 (by decide +kernel) rfl⟩
abbrev m_X3_breakWarps : JM := (yX3_breakWarps, cX3_breakWarps, 4, none, [], { frames := 1, cells := 0, slots := 0, locals := 40 })
theorem mb_X3_breakWarps : SB m_X3_breakWarps 1 := ⟨gm 751 (by decide +kernel) rfl, gm 56 (by decide +kernel) rfl, by decide +kernel, by decide +kernel⟩
theorem mi_X3_breakWarps : SI m_X3_breakWarps := ⟨gm 750 (by decide +kernel) rfl, gm 26 (by decide +kernel) rfl⟩
abbrev m_X3_removeRows : JM := (yX3_removeRows, cX3_removeRows, 3, none, [], { frames := 2, cells := 0, slots := 0, locals := 80 })
theorem mb_X3_removeRows : SB m_X3_removeRows 1 := ⟨gm 760 (by decide +kernel) rfl, gm 56 (by decide +kernel) rfl, by decide +kernel, by decide +kernel⟩
theorem mi_X3_removeRows : SI m_X3_removeRows := ⟨gm 758 (by decide +kernel) rfl, gm 759 (by decide +kernel) rfl⟩
abbrev m_X3_cellCount : JM := (yX3_cellCount, cX3_cellCount, 1, (some .int), [], { frames := 0, cells := 0, slots := 0, locals := 0 })
theorem mb_X3_cellCount : SB m_X3_cellCount 0 := ⟨gm 983 (by decide +kernel) rfl, gm 56 (by decide +kernel) rfl, by decide +kernel, by decide +kernel⟩
theorem mi_X3_cellCount : SI m_X3_cellCount := ⟨gm 981 (by decide +kernel) rfl, gm 982 (by decide +kernel) rfl⟩
abbrev m_X3_colourOfCell : JM := (yX3_colourOfCell, cX3_colourOfCell, 3, (some .int), [], { frames := 1, cells := 0, slots := 0, locals := 40 })
theorem mb_X3_colourOfCell : SB m_X3_colourOfCell 2 := ⟨gm 1616 (by decide +kernel) rfl, gm 56 (by decide +kernel) rfl, by decide +kernel, by decide +kernel⟩
theorem mi_X3_colourOfCell : SI m_X3_colourOfCell := ⟨gm 1614 (by decide +kernel) rfl, gm 1615 (by decide +kernel) rfl⟩
abbrev m_X3_countCells : JM := (yX3_countCells, cX3_countCells, 5, (some .int), [], { frames := 2, cells := 0, slots := 0, locals := 80 })
theorem mb_X3_countCells : SB m_X3_countCells 1 := ⟨gm 1612 (by decide +kernel) rfl, gm 56 (by decide +kernel) rfl, by decide +kernel, by decide +kernel⟩
theorem mi_X3_countCells : SI m_X3_countCells := ⟨gm 1610 (by decide +kernel) rfl, gm 1611 (by decide +kernel) rfl⟩
abbrev m_X3_leastRowDistance : JM := (yX3_leastRowDistance, cX3_leastRowDistance, 2, (some .int), [], { frames := 3, cells := 0, slots := 0, locals := 120 })
theorem mb_X3_leastRowDistance : SB m_X3_leastRowDistance 0 := ⟨gm 1653 (by decide +kernel) rfl, gm 56 (by decide +kernel) rfl, by decide +kernel, by decide +kernel⟩
theorem mi_X3_leastRowDistance : SI m_X3_leastRowDistance := ⟨gm 1651 (by decide +kernel) rfl, gm 1652 (by decide +kernel) rfl⟩
abbrev m_X3_coloursRepeatAfter : JM := (yX3_coloursRepeatAfter, cX3_coloursRepeatAfter, 4, (some .boolean), [], { frames := 2, cells := 0, slots := 0, locals := 80 })
theorem mb_X3_coloursRepeatAfter : SB m_X3_coloursRepeatAfter 1 := ⟨gm 1657 (by decide +kernel) rfl, gm 56 (by decide +kernel) rfl, by decide +kernel, by decide +kernel⟩
theorem mi_X3_coloursRepeatAfter : SI m_X3_coloursRepeatAfter := ⟨gm 1656 (by decide +kernel) rfl, gm 49 (by decide +kernel) rfl⟩
abbrev m_X3_differsFromDesign : JM := (yX3_differsFromDesign, cX3_differsFromDesign, 2, (some .boolean), [], { frames := 3, cells := 0, slots := 0, locals := 120 })
theorem mb_X3_differsFromDesign : SB m_X3_differsFromDesign 1 := ⟨gm 991 (by decide +kernel) rfl, gm 56 (by decide +kernel) rfl, by decide +kernel, by decide +kernel⟩
theorem mi_X3_differsFromDesign : SI m_X3_differsFromDesign := ⟨gm 989 (by decide +kernel) rfl, gm 990 (by decide +kernel) rfl⟩
abbrev m_X3_equalsDesign : JM := (yX3_equalsDesign, cX3_equalsDesign, 5, (some .boolean), [], { frames := 2, cells := 0, slots := 0, locals := 80 })
theorem mb_X3_equalsDesign : SB m_X3_equalsDesign 2 := ⟨gm 995 (by decide +kernel) rfl, gm 56 (by decide +kernel) rfl, by decide +kernel, by decide +kernel⟩
theorem mi_X3_equalsDesign : SI m_X3_equalsDesign := ⟨gm 994 (by decide +kernel) rfl, gm 42 (by decide +kernel) rfl⟩
abbrev m_X3_countWrong : JM := (yX3_countWrong, cX3_countWrong, 3, (some .int), [], { frames := 4, cells := 0, slots := 0, locals := 160 })
theorem mb_X3_countWrong : SB m_X3_countWrong 0 := ⟨gm 987 (by decide +kernel) rfl, gm 56 (by decide +kernel) rfl, by decide +kernel, by decide +kernel⟩
theorem mi_X3_countWrong : SI m_X3_countWrong := ⟨gm 985 (by decide +kernel) rfl, gm 986 (by decide +kernel) rfl⟩
abbrev m_X3_firstWrong : JM := (yX3_firstWrong, cX3_firstWrong, 2, (some .int), [], { frames := 4, cells := 0, slots := 0, locals := 160 })
theorem mb_X3_firstWrong : SB m_X3_firstWrong 0 := ⟨gm 1624 (by decide +kernel) rfl, gm 56 (by decide +kernel) rfl, by decide +kernel, by decide +kernel⟩
theorem mi_X3_firstWrong : SI m_X3_firstWrong := ⟨gm 1622 (by decide +kernel) rfl, gm 1623 (by decide +kernel) rfl⟩
abbrev m_X3_suspectedPair : JM := (yX3_suspectedPair, cX3_suspectedPair, 3, (some .int), [], { frames := 5, cells := 0, slots := 0, locals := 200 })
theorem mb_X3_suspectedPair : SB m_X3_suspectedPair 0 := ⟨gm 1636 (by decide +kernel) rfl, gm 56 (by decide +kernel) rfl, by decide +kernel, by decide +kernel⟩
theorem mi_X3_suspectedPair : SI m_X3_suspectedPair := ⟨gm 1634 (by decide +kernel) rfl, gm 1635 (by decide +kernel) rfl⟩
abbrev m_X3_exchangeExplainsCloth : JM := (yX3_exchangeExplainsCloth, cX3_exchangeExplainsCloth, 5, (some .boolean), [], { frames := 3, cells := 0, slots := 0, locals := 120 })
theorem mb_X3_exchangeExplainsCloth : SB m_X3_exchangeExplainsCloth 2 := ⟨gm 1641 (by decide +kernel) rfl, gm 56 (by decide +kernel) rfl, by decide +kernel, by decide +kernel⟩
theorem mi_X3_exchangeExplainsCloth : SI m_X3_exchangeExplainsCloth := ⟨gm 1640 (by decide +kernel) rfl, gm 48 (by decide +kernel) rfl⟩
abbrev m_X4_init : JM := (yX4_init, cX4_init, 1, none, [], { frames := 1, cells := 1, slots := 500, locals := 40 })
theorem mb_X4_init : SB m_X4_init 0 := ⟨gm 321 (by decide +kernel) rfl, gm 59 (by decide +kernel) rfl, by decide +kernel, by decide +kernel⟩
theorem mc_X4_init : SC m_X4_init := ⟨gm 320 (by decide +kernel) rfl, rfl, rfl⟩
abbrev m_X5_init : JM := (yX5_init, cX5_init, 1, none, [], { frames := 3, cells := 26, slots := 1846, locals := 120 })
theorem mb_X5_init : SB m_X5_init 0 := ⟨gm 101 (by decide +kernel) rfl, gm 54 (by decide +kernel) rfl, by decide +kernel, by decide +kernel⟩
theorem mc_X5_init : SC m_X5_init := ⟨gm 100 (by decide +kernel) rfl, rfl, rfl⟩
abbrev m_X5_parse : JM := (yX5_parse, cX5_parse, 3, (some .boolean), [], { frames := 8, cells := 0, slots := 0, locals := 320 })
theorem mb_X5_parse : SB m_X5_parse 1 := ⟨gm 466 (by decide +kernel) rfl, gm 54 (by decide +kernel) rfl, by decide +kernel, by decide +kernel⟩
theorem mi_X5_parse : SI m_X5_parse := ⟨gm 464 (by decide +kernel) rfl, gm 465 (by decide +kernel) rfl⟩
abbrev m_X5_fail : JM := (yX5_fail, cX5_fail, 2, (some .boolean), [], { frames := 0, cells := 0, slots := 0, locals := 0 })
theorem mb_X5_fail : SB m_X5_fail 1 := ⟨gm 573 (by decide +kernel) rfl, gm 54 (by decide +kernel) rfl, by decide +kernel, by decide +kernel⟩
theorem mi_X5_fail : SI m_X5_fail := ⟨gm 572 (by decide +kernel) rfl, gm 4 (by decide +kernel) rfl⟩
abbrev m_X5_seeNumber : JM := (yX5_seeNumber, cX5_seeNumber, 3, (some .boolean), [], { frames := 1, cells := 0, slots := 0, locals := 40 })
theorem mb_X5_seeNumber : SB m_X5_seeNumber 2 := ⟨gm 582 (by decide +kernel) rfl, gm 54 (by decide +kernel) rfl, by decide +kernel, by decide +kernel⟩
theorem mi_X5_seeNumber : SI m_X5_seeNumber := ⟨gm 581 (by decide +kernel) rfl, gm 6 (by decide +kernel) rfl⟩
abbrev m_X5_takeNumber : JM := (yX5_takeNumber, cX5_takeNumber, 3, (some .boolean), [], { frames := 3, cells := 0, slots := 0, locals := 120 })
theorem mb_X5_takeNumber : SB m_X5_takeNumber 2 := ⟨gm 578 (by decide +kernel) rfl, gm 54 (by decide +kernel) rfl, by decide +kernel, by decide +kernel⟩
theorem mi_X5_takeNumber : SI m_X5_takeNumber := ⟨gm 577 (by decide +kernel) rfl, gm 5 (by decide +kernel) rfl⟩
abbrev m_X5_seeCard : JM := (yX5_seeCard, cX5_seeCard, 1, (some .boolean), [], { frames := 2, cells := 0, slots := 0, locals := 80 })
theorem mb_X5_seeCard : SB m_X5_seeCard 0 := ⟨gm 635 (by decide +kernel) rfl, gm 54 (by decide +kernel) rfl, by decide +kernel, by decide +kernel⟩
theorem mi_X5_seeCard : SI m_X5_seeCard := ⟨gm 634 (by decide +kernel) rfl, gm 14 (by decide +kernel) rfl⟩
abbrev m_X5_takeCard : JM := (yX5_takeCard, cX5_takeCard, 1, (some .boolean), [], { frames := 3, cells := 0, slots := 0, locals := 120 })
theorem mb_X5_takeCard : SB m_X5_takeCard 0 := ⟨gm 769 (by decide +kernel) rfl, gm 54 (by decide +kernel) rfl, by decide +kernel, by decide +kernel⟩
theorem mi_X5_takeCard : SI m_X5_takeCard := ⟨gm 768 (by decide +kernel) rfl, gm 29 (by decide +kernel) rfl⟩
abbrev m_X5_seeHarness : JM := (yX5_seeHarness, cX5_seeHarness, 1, (some .boolean), [], { frames := 2, cells := 0, slots := 0, locals := 80 })
theorem mb_X5_seeHarness : SB m_X5_seeHarness 0 := ⟨gm 603 (by decide +kernel) rfl, gm 54 (by decide +kernel) rfl, by decide +kernel, by decide +kernel⟩
theorem mi_X5_seeHarness : SI m_X5_seeHarness := ⟨gm 602 (by decide +kernel) rfl, gm 10 (by decide +kernel) rfl⟩
abbrev m_X5_takeHarness : JM := (yX5_takeHarness, cX5_takeHarness, 1, (some .boolean), [], { frames := 3, cells := 0, slots := 0, locals := 120 })
theorem mb_X5_takeHarness : SB m_X5_takeHarness 0 := ⟨gm 790 (by decide +kernel) rfl, gm 54 (by decide +kernel) rfl, by decide +kernel, by decide +kernel⟩
theorem mi_X5_takeHarness : SI m_X5_takeHarness := ⟨gm 789 (by decide +kernel) rfl, gm 31 (by decide +kernel) rfl⟩
abbrev m_X5_takeColour : JM := (yX5_takeColour, cX5_takeColour, 1, (some .boolean), [], { frames := 3, cells := 0, slots := 0, locals := 120 })
theorem mb_X5_takeColour : SB m_X5_takeColour 0 := ⟨gm 595 (by decide +kernel) rfl, gm 54 (by decide +kernel) rfl, by decide +kernel, by decide +kernel⟩
theorem mi_X5_takeColour : SI m_X5_takeColour := ⟨gm 594 (by decide +kernel) rfl, gm 9 (by decide +kernel) rfl⟩
abbrev m_X5_readHeader : JM := (yX5_readHeader, cX5_readHeader, 1, (some .boolean), [], { frames := 5, cells := 0, slots := 0, locals := 200 })
theorem mb_X5_readHeader : SB m_X5_readHeader 0 := ⟨gm 516 (by decide +kernel) rfl, gm 54 (by decide +kernel) rfl, by decide +kernel, by decide +kernel⟩
theorem mi_X5_readHeader : SI m_X5_readHeader := ⟨gm 515 (by decide +kernel) rfl, gm 3 (by decide +kernel) rfl⟩
abbrev m_X5_readItem : JM := (yX5_readItem, cX5_readItem, 1, (some .boolean), [], { frames := 7, cells := 0, slots := 0, locals := 280 })
theorem mb_X5_readItem : SB m_X5_readItem 0 := ⟨gm 586 (by decide +kernel) rfl, gm 54 (by decide +kernel) rfl, by decide +kernel, by decide +kernel⟩
theorem mi_X5_readItem : SI m_X5_readItem := ⟨gm 585 (by decide +kernel) rfl, gm 7 (by decide +kernel) rfl⟩
abbrev m_X5_readWarps : JM := (yX5_readWarps, cX5_readWarps, 3, (some .boolean), [], { frames := 4, cells := 0, slots := 0, locals := 160 })
theorem mb_X5_readWarps : SB m_X5_readWarps 0 := ⟨gm 591 (by decide +kernel) rfl, gm 54 (by decide +kernel) rfl, by decide +kernel, by decide +kernel⟩
theorem mi_X5_readWarps : SI m_X5_readWarps := ⟨gm 590 (by decide +kernel) rfl, gm 8 (by decide +kernel) rfl⟩
abbrev m_X5_readCard : JM := (yX5_readCard, cX5_readCard, 4, (some .boolean), [], { frames := 4, cells := 0, slots := 0, locals := 160 })
theorem mb_X5_readCard : SB m_X5_readCard 0 := ⟨gm 615 (by decide +kernel) rfl, gm 54 (by decide +kernel) rfl, by decide +kernel, by decide +kernel⟩
theorem mi_X5_readCard : SI m_X5_readCard := ⟨gm 614 (by decide +kernel) rfl, gm 11 (by decide +kernel) rfl⟩
abbrev m_X5_readDeck : JM := (yX5_readDeck, cX5_readDeck, 4, (some .boolean), [], { frames := 6, cells := 0, slots := 0, locals := 240 })
theorem mb_X5_readDeck : SB m_X5_readDeck 0 := ⟨gm 627 (by decide +kernel) rfl, gm 54 (by decide +kernel) rfl, by decide +kernel, by decide +kernel⟩
theorem mi_X5_readDeck : SI m_X5_readDeck := ⟨gm 626 (by decide +kernel) rfl, gm 12 (by decide +kernel) rfl⟩
abbrev m_X5_readCardOfDeck : JM := (yX5_readCardOfDeck, cX5_readCardOfDeck, 1, (some .boolean), [], { frames := 3, cells := 0, slots := 0, locals := 120 })
theorem mb_X5_readCardOfDeck : SB m_X5_readCardOfDeck 0 := ⟨gm 631 (by decide +kernel) rfl, gm 54 (by decide +kernel) rfl, by decide +kernel, by decide +kernel⟩
theorem mi_X5_readCardOfDeck : SI m_X5_readCardOfDeck := ⟨gm 630 (by decide +kernel) rfl, gm 13 (by decide +kernel) rfl⟩
abbrev m_X5_readOpening : JM := (yX5_readOpening, cX5_readOpening, 3, (some .boolean), [], { frames := 5, cells := 0, slots := 0, locals := 200 })
theorem mb_X5_readOpening : SB m_X5_readOpening 0 := ⟨gm 659 (by decide +kernel) rfl, gm 54 (by decide +kernel) rfl, by decide +kernel, by decide +kernel⟩
theorem mi_X5_readOpening : SI m_X5_readOpening := ⟨gm 658 (by decide +kernel) rfl, gm 17 (by decide +kernel) rfl⟩
abbrev m_X5_readClosing : JM := (yX5_readClosing, cX5_readClosing, 1, (some .boolean), [], { frames := 3, cells := 0, slots := 0, locals := 120 })
theorem mb_X5_readClosing : SB m_X5_readClosing 0 := ⟨gm 671 (by decide +kernel) rfl, gm 54 (by decide +kernel) rfl, by decide +kernel, by decide +kernel⟩
theorem mi_X5_readClosing : SI m_X5_readClosing := ⟨gm 670 (by decide +kernel) rfl, gm 18 (by decide +kernel) rfl⟩
abbrev m_X5_readYarn : JM := (yX5_readYarn, cX5_readYarn, 2, (some .boolean), [], { frames := 4, cells := 0, slots := 0, locals := 160 })
theorem mb_X5_readYarn : SB m_X5_readYarn 0 := ⟨gm 695 (by decide +kernel) rfl, gm 54 (by decide +kernel) rfl, by decide +kernel, by decide +kernel⟩
theorem mi_X5_readYarn : SI m_X5_readYarn := ⟨gm 694 (by decide +kernel) rfl, gm 22 (by decide +kernel) rfl⟩
abbrev m_X5_readWeave : JM := (yX5_readWeave, cX5_readWeave, 1, (some .boolean), [], { frames := 4, cells := 0, slots := 0, locals := 160 })
theorem mb_X5_readWeave : SB m_X5_readWeave 0 := ⟨gm 710 (by decide +kernel) rfl, gm 54 (by decide +kernel) rfl, by decide +kernel, by decide +kernel⟩
theorem mi_X5_readWeave : SI m_X5_readWeave := ⟨gm 709 (by decide +kernel) rfl, gm 23 (by decide +kernel) rfl⟩
abbrev m_X5_readUnweave : JM := (yX5_readUnweave, cX5_readUnweave, 1, (some .boolean), [], { frames := 3, cells := 0, slots := 0, locals := 120 })
theorem mb_X5_readUnweave : SB m_X5_readUnweave 0 := ⟨gm 756 (by decide +kernel) rfl, gm 54 (by decide +kernel) rfl, by decide +kernel, by decide +kernel⟩
theorem mi_X5_readUnweave : SI m_X5_readUnweave := ⟨gm 755 (by decide +kernel) rfl, gm 27 (by decide +kernel) rfl⟩
abbrev m_X5_readSwap : JM := (yX5_readSwap, cX5_readSwap, 2, (some .boolean), [], { frames := 4, cells := 0, slots := 0, locals := 160 })
theorem mb_X5_readSwap : SB m_X5_readSwap 0 := ⟨gm 765 (by decide +kernel) rfl, gm 54 (by decide +kernel) rfl, by decide +kernel, by decide +kernel⟩
theorem mi_X5_readSwap : SI m_X5_readSwap := ⟨gm 764 (by decide +kernel) rfl, gm 28 (by decide +kernel) rfl⟩
abbrev m_X5_readPunch : JM := (yX5_readPunch, cX5_readPunch, 2, (some .boolean), [], { frames := 4, cells := 0, slots := 0, locals := 160 })
theorem mb_X5_readPunch : SB m_X5_readPunch 0 := ⟨gm 786 (by decide +kernel) rfl, gm 54 (by decide +kernel) rfl, by decide +kernel, by decide +kernel⟩
theorem mi_X5_readPunch : SI m_X5_readPunch := ⟨gm 785 (by decide +kernel) rfl, gm 30 (by decide +kernel) rfl⟩
abbrev m_X5_readDye : JM := (yX5_readDye, cX5_readDye, 2, (some .boolean), [], { frames := 4, cells := 0, slots := 0, locals := 160 })
theorem mb_X5_readDye : SB m_X5_readDye 0 := ⟨gm 799 (by decide +kernel) rfl, gm 54 (by decide +kernel) rfl, by decide +kernel, by decide +kernel⟩
theorem mi_X5_readDye : SI m_X5_readDye := ⟨gm 798 (by decide +kernel) rfl, gm 32 (by decide +kernel) rfl⟩
abbrev m_X5_readOil : JM := (yX5_readOil, cX5_readOil, 1, (some .boolean), [], { frames := 4, cells := 0, slots := 0, locals := 160 })
theorem mb_X5_readOil : SB m_X5_readOil 0 := ⟨gm 805 (by decide +kernel) rfl, gm 54 (by decide +kernel) rfl, by decide +kernel, by decide +kernel⟩
theorem mi_X5_readOil : SI m_X5_readOil := ⟨gm 804 (by decide +kernel) rfl, gm 33 (by decide +kernel) rfl⟩
abbrev m_X5_readInvert : JM := (yX5_readInvert, cX5_readInvert, 1, (some .boolean), [], { frames := 4, cells := 0, slots := 0, locals := 160 })
theorem mb_X5_readInvert : SB m_X5_readInvert 0 := ⟨gm 814 (by decide +kernel) rfl, gm 54 (by decide +kernel) rfl, by decide +kernel, by decide +kernel⟩
theorem mi_X5_readInvert : SI m_X5_readInvert := ⟨gm 813 (by decide +kernel) rfl, gm 34 (by decide +kernel) rfl⟩
abbrev m_X5_readStrain : JM := (yX5_readStrain, cX5_readStrain, 1, (some .boolean), [], { frames := 4, cells := 0, slots := 0, locals := 160 })
theorem mb_X5_readStrain : SB m_X5_readStrain 0 := ⟨gm 825 (by decide +kernel) rfl, gm 54 (by decide +kernel) rfl, by decide +kernel, by decide +kernel⟩
theorem mi_X5_readStrain : SI m_X5_readStrain := ⟨gm 824 (by decide +kernel) rfl, gm 35 (by decide +kernel) rfl⟩
abbrev m_X5_readMotor : JM := (yX5_readMotor, cX5_readMotor, 1, (some .boolean), [], { frames := 4, cells := 0, slots := 0, locals := 160 })
theorem mb_X5_readMotor : SB m_X5_readMotor 0 := ⟨gm 830 (by decide +kernel) rfl, gm 54 (by decide +kernel) rfl, by decide +kernel, by decide +kernel⟩
theorem mi_X5_readMotor : SI m_X5_readMotor := ⟨gm 829 (by decide +kernel) rfl, gm 36 (by decide +kernel) rfl⟩
abbrev m_X5_readMend : JM := (yX5_readMend, cX5_readMend, 1, (some .boolean), [], { frames := 3, cells := 0, slots := 0, locals := 120 })
theorem mb_X5_readMend : SB m_X5_readMend 0 := ⟨gm 835 (by decide +kernel) rfl, gm 54 (by decide +kernel) rfl, by decide +kernel, by decide +kernel⟩
theorem mi_X5_readMend : SI m_X5_readMend := ⟨gm 834 (by decide +kernel) rfl, gm 37 (by decide +kernel) rfl⟩
abbrev m_X6_init : JM := (yX6_init, cX6_init, 1, none, [], { frames := 2, cells := 7, slots := 170, locals := 80 })
theorem mb_X6_init : SB m_X6_init 0 := ⟨gm 354 (by decide +kernel) rfl, gm 61 (by decide +kernel) rfl, by decide +kernel, by decide +kernel⟩
theorem mc_X6_init : SC m_X6_init := ⟨gm 353 (by decide +kernel) rfl, rfl, rfl⟩
abbrev m_X7_init : JM := (yX7_init, cX7_init, 1, none, [], { frames := 1, cells := 6, slots := 158, locals := 40 })
theorem mb_X7_init : SB m_X7_init 0 := ⟨gm 181 (by decide +kernel) rfl, gm 58 (by decide +kernel) rfl, by decide +kernel, by decide +kernel⟩
theorem mc_X7_init : SC m_X7_init := ⟨gm 180 (by decide +kernel) rfl, rfl, rfl⟩
abbrev m_X7_clear : JM := (yX7_clear, cX7_clear, 1, none, [], { frames := 1, cells := 0, slots := 0, locals := 40 })
theorem mb_X7_clear : SB m_X7_clear 0 := ⟨gm 478 (by decide +kernel) rfl, gm 58 (by decide +kernel) rfl, by decide +kernel, by decide +kernel⟩
theorem mi_X7_clear : SI m_X7_clear := ⟨gm 476 (by decide +kernel) rfl, gm 477 (by decide +kernel) rfl⟩
abbrev m_X7_copyFrom : JM := (yX7_copyFrom, cX7_copyFrom, 2, none, [], { frames := 2, cells := 0, slots := 0, locals := 80 })
theorem mb_X7_copyFrom : SB m_X7_copyFrom 1 := ⟨gm 959 (by decide +kernel) rfl, gm 58 (by decide +kernel) rfl, by decide +kernel, by decide +kernel⟩
theorem mi_X7_copyFrom : SI m_X7_copyFrom := ⟨gm 957 (by decide +kernel) rfl, gm 958 (by decide +kernel) rfl⟩
abbrev m_X7_changeLifts : JM := (yX7_changeLifts, cX7_changeLifts, 3, none, [], { frames := 1, cells := 0, slots := 0, locals := 40 })
theorem mb_X7_changeLifts : SB m_X7_changeLifts 2 := ⟨gm 777 (by decide +kernel) rfl, gm 58 (by decide +kernel) rfl, by decide +kernel, by decide +kernel⟩
theorem mi_X7_changeLifts : SI m_X7_changeLifts := ⟨gm 775 (by decide +kernel) rfl, gm 776 (by decide +kernel) rfl⟩
abbrev m_X7_punchCard : JM := (yX7_punchCard, cX7_punchCard, 3, none, [], { frames := 2, cells := 0, slots := 0, locals := 80 })
theorem mb_X7_punchCard : SB m_X7_punchCard 2 := ⟨gm 794 (by decide +kernel) rfl, gm 58 (by decide +kernel) rfl, by decide +kernel, by decide +kernel⟩
theorem mi_X7_punchCard : SI m_X7_punchCard := ⟨gm 792 (by decide +kernel) rfl, gm 793 (by decide +kernel) rfl⟩
abbrev m_X7_changeColour : JM := (yX7_changeColour, cX7_changeColour, 3, none, [], { frames := 1, cells := 0, slots := 0, locals := 40 })
theorem mb_X7_changeColour : SB m_X7_changeColour 2 := ⟨gm 781 (by decide +kernel) rfl, gm 58 (by decide +kernel) rfl, by decide +kernel, by decide +kernel⟩
theorem mi_X7_changeColour : SI m_X7_changeColour := ⟨gm 779 (by decide +kernel) rfl, gm 780 (by decide +kernel) rfl⟩
abbrev m_X7_exchangeCards : JM := (yX7_exchangeCards, cX7_exchangeCards, 5, none, [], { frames := 2, cells := 0, slots := 0, locals := 80 })
theorem mb_X7_exchangeCards : SB m_X7_exchangeCards 2 := ⟨gm 773 (by decide +kernel) rfl, gm 58 (by decide +kernel) rfl, by decide +kernel, by decide +kernel⟩
theorem mi_X7_exchangeCards : SI m_X7_exchangeCards := ⟨gm 771 (by decide +kernel) rfl, gm 772 (by decide +kernel) rfl⟩
abbrev m_X7_addYarn : JM := (yX7_addYarn, cX7_addYarn, 3, none, [], { frames := 1, cells := 0, slots := 0, locals := 40 })
theorem mb_X7_addYarn : SB m_X7_addYarn 2 := ⟨gm 703 (by decide +kernel) rfl, gm 58 (by decide +kernel) rfl, by decide +kernel, by decide +kernel⟩
theorem mi_X7_addYarn : SI m_X7_addYarn := ⟨gm 701 (by decide +kernel) rfl, gm 702 (by decide +kernel) rfl⟩
abbrev m_X7_bring : JM := (yX7_bring, cX7_bring, 3, none, [], { frames := 2, cells := 0, slots := 0, locals := 80 })
theorem mb_X7_bring : SB m_X7_bring 2 := ⟨gm 699 (by decide +kernel) rfl, gm 58 (by decide +kernel) rfl, by decide +kernel, by decide +kernel⟩
theorem mi_X7_bring : SI m_X7_bring := ⟨gm 697 (by decide +kernel) rfl, gm 698 (by decide +kernel) rfl⟩
abbrev m_X7_yarnOfAllColours : JM := (yX7_yarnOfAllColours, cX7_yarnOfAllColours, 3, (some .int), [], { frames := 1, cells := 0, slots := 0, locals := 40 })
theorem mb_X7_yarnOfAllColours : SB m_X7_yarnOfAllColours 0 := ⟨gm 979 (by decide +kernel) rfl, gm 58 (by decide +kernel) rfl, by decide +kernel, by decide +kernel⟩
theorem mi_X7_yarnOfAllColours : SI m_X7_yarnOfAllColours := ⟨gm 977 (by decide +kernel) rfl, gm 978 (by decide +kernel) rfl⟩
abbrev m_X7_oilHarness : JM := (yX7_oilHarness, cX7_oilHarness, 2, none, [], { frames := 1, cells := 0, slots := 0, locals := 40 })
theorem mb_X7_oilHarness : SB m_X7_oilHarness 1 := ⟨gm 809 (by decide +kernel) rfl, gm 58 (by decide +kernel) rfl, by decide +kernel, by decide +kernel⟩
theorem mi_X7_oilHarness : SI m_X7_oilHarness := ⟨gm 807 (by decide +kernel) rfl, gm 808 (by decide +kernel) rfl⟩
abbrev m_X7_mendWarp : JM := (yX7_mendWarp, cX7_mendWarp, 2, none, [], { frames := 0, cells := 0, slots := 0, locals := 0 })
theorem mb_X7_mendWarp : SB m_X7_mendWarp 1 := ⟨gm 839 (by decide +kernel) rfl, gm 58 (by decide +kernel) rfl, by decide +kernel, by decide +kernel⟩
theorem mi_X7_mendWarp : SI m_X7_mendWarp := ⟨gm 837 (by decide +kernel) rfl, gm 838 (by decide +kernel) rfl⟩
abbrev m_X7_addRow : JM := (yX7_addRow, cX7_addRow, 3, none, [], { frames := 1, cells := 0, slots := 0, locals := 40 })
theorem mb_X7_addRow : SB m_X7_addRow 2 := ⟨gm 747 (by decide +kernel) rfl, gm 58 (by decide +kernel) rfl, by decide +kernel, by decide +kernel⟩
theorem mi_X7_addRow : SI m_X7_addRow := ⟨gm 745 (by decide +kernel) rfl, gm 746 (by decide +kernel) rfl⟩
abbrev m_L_put : JM := (yL_put, cL_put, 4, none, [], { frames := 4, cells := 0, slots := 0, locals := 160 })
theorem mb_L_put : SB m_L_put 3 := ⟨gm 1583 (by decide +kernel) rfl, gm 52 (by decide +kernel) rfl, by decide +kernel, by decide +kernel⟩
theorem ms_L_put : SS m_L_put := gm 1582 (by decide +kernel) rfl
abbrev m_L_flush : JM := (yL_flush, cL_flush, 3, none, [], { frames := 3, cells := 0, slots := 0, locals := 120 })
theorem mb_L_flush : SB m_L_flush 2 := ⟨gm 1586 (by decide +kernel) rfl, gm 52 (by decide +kernel) rfl, by decide +kernel, by decide +kernel⟩
theorem ms_L_flush : SS m_L_flush := gm 1585 (by decide +kernel) rfl
abbrev m_L_said : JM := (yL_said, cL_said, 3, (some .int), [], { frames := 5, cells := 0, slots := 0, locals := 200 })
theorem mb_L_said : SB m_L_said 2 := ⟨gm 1598 (by decide +kernel) rfl, gm 52 (by decide +kernel) rfl, by decide +kernel, by decide +kernel⟩
theorem ms_L_said : SS m_L_said := gm 1597 (by decide +kernel) rfl
abbrev m_L_cell : JM := (yL_cell, cL_cell, 2, (some .int), [], { frames := 0, cells := 0, slots := 0, locals := 0 })
theorem mb_L_cell : SB m_L_cell 2 := ⟨gm 1058 (by decide +kernel) rfl, gm 52 (by decide +kernel) rfl, by decide +kernel, by decide +kernel⟩
theorem ms_L_cell : SS m_L_cell := gm 1057 (by decide +kernel) rfl
abbrev m_L_loom : JM := (yL_loom, cL_loom, 8, (some (.object "CardLoomLaw$Loom")), [], { frames := 5, cells := 40, slots := 1000, locals := 200 })
theorem mb_L_loom : SB m_L_loom 1 := ⟨gm 1061 (by decide +kernel) rfl, gm 52 (by decide +kernel) rfl, by decide +kernel, by decide +kernel⟩
theorem ms_L_loom : SS m_L_loom := gm 1060 (by decide +kernel) rfl
abbrev m_L_list : JM := (yL_list, cL_list, 3, (some (.object "java/lang/StringBuilder")), [], { frames := 6, cells := 10, slots := 20000, locals := 240 })
theorem mb_L_list : SB m_L_list 2 := ⟨gm 1336 (by decide +kernel) rfl, gm 52 (by decide +kernel) rfl, by decide +kernel, by decide +kernel⟩
theorem ms_L_list : SS m_L_list := gm 1335 (by decide +kernel) rfl
abbrev m_L_text : JM := (yL_text, cL_text, 13, (some (.object "java/lang/String")), [], { frames := 9, cells := 5000, slots := 1000000, locals := 360 })
theorem mb_L_text : SB m_L_text 2 := ⟨gm 1158 (by decide +kernel) rfl, gm 52 (by decide +kernel) rfl, by decide +kernel, by decide +kernel⟩
theorem ms_L_text : SS m_L_text := gm 1157 (by decide +kernel) rfl
abbrev m_L_told : JM := (yL_told, cL_told, 4, (some .int), [], { frames := 6, cells := 0, slots := 0, locals := 240 })
theorem mb_L_told : SB m_L_told 3 := ⟨gm 1550 (by decide +kernel) rfl, gm 52 (by decide +kernel) rfl, by decide +kernel, by decide +kernel⟩
theorem ms_L_told : SS m_L_told := gm 1549 (by decide +kernel) rfl
abbrev m_L_isAnyStuck : JM := (yL_isAnyStuck, cL_isAnyStuck, 2, (some .boolean), [], { frames := 9, cells := 50, slots := 300, locals := 360 })
theorem mb_L_isAnyStuck : SB m_L_isAnyStuck 1 := ⟨gm 1601 (by decide +kernel) rfl, gm 52 (by decide +kernel) rfl, by decide +kernel, by decide +kernel⟩
theorem ms_L_isAnyStuck : SS m_L_isAnyStuck := gm 1600 (by decide +kernel) rfl
abbrev m_L_isWhole : JM := (yL_isWhole, cL_isWhole, 3, (some .boolean), [], { frames := 9, cells := 200, slots := 1200, locals := 360 })
theorem mb_L_isWhole : SB m_L_isWhole 1 := ⟨gm 1604 (by decide +kernel) rfl, gm 52 (by decide +kernel) rfl, by decide +kernel, by decide +kernel⟩
theorem ms_L_isWhole : SS m_L_isWhole := gm 1603 (by decide +kernel) rfl
abbrev m_L_sees : JM := (yL_sees, cL_sees, 4, none, [], { frames := 9, cells := 6000, slots := 40000, locals := 360 })
theorem mb_L_sees : SB m_L_sees 2 := ⟨gm 1660 (by decide +kernel) rfl, gm 52 (by decide +kernel) rfl, by decide +kernel, by decide +kernel⟩
theorem ms_L_sees : SS m_L_sees := gm 1659 (by decide +kernel) rfl
abbrev m_X9_init : JM := (yX9_init, cX9_init, 1, none, [], { frames := 4, cells := 4, slots := 40, locals := 160 })
theorem mb_X9_init : SB m_X9_init 0 := ⟨gm 1066 (by decide +kernel) rfl, gm 62 (by decide +kernel) rfl, by decide +kernel, by decide +kernel⟩
theorem mc_X9_init : SC m_X9_init := ⟨gm 1065 (by decide +kernel) rfl, rfl, rfl⟩
abbrev m_X9_copy : JM := (yX9_copy, cX9_copy, 3, (some (.object "CardLoomLaw$Loom")), [], { frames := 6, cells := 20, slots := 300, locals := 240 })
theorem mb_X9_copy : SB m_X9_copy 0 := ⟨gm 1348 (by decide +kernel) rfl, gm 62 (by decide +kernel) rfl, by decide +kernel, by decide +kernel⟩
theorem mi_X9_copy : SI m_X9_copy := ⟨gm 1346 (by decide +kernel) rfl, gm 1347 (by decide +kernel) rfl⟩
abbrev m_X9_next : JM := (yX9_next, cX9_next, 1, (some .int), [], { frames := 1, cells := 0, slots := 0, locals := 40 })
theorem mb_X9_next : SB m_X9_next 0 := ⟨gm 1439 (by decide +kernel) rfl, gm 62 (by decide +kernel) rfl, by decide +kernel, by decide +kernel⟩
theorem mi_X9_next : SI m_X9_next := ⟨gm 1437 (by decide +kernel) rfl, gm 1438 (by decide +kernel) rfl⟩
abbrev m_X9_up : JM := (yX9_up, cX9_up, 4, (some .int), [], { frames := 0, cells := 0, slots := 0, locals := 0 })
theorem mb_X9_up : SB m_X9_up 1 := ⟨gm 1443 (by decide +kernel) rfl, gm 62 (by decide +kernel) rfl, by decide +kernel, by decide +kernel⟩
theorem mi_X9_up : SI m_X9_up := ⟨gm 1441 (by decide +kernel) rfl, gm 1442 (by decide +kernel) rfl⟩
abbrev m_X9_why : JM := (yX9_why, cX9_why, 1, (some .int), [], { frames := 2, cells := 0, slots := 0, locals := 80 })
theorem mb_X9_why : SB m_X9_why 0 := ⟨gm 1435 (by decide +kernel) rfl, gm 62 (by decide +kernel) rfl, by decide +kernel, by decide +kernel⟩
theorem mi_X9_why : SI m_X9_why := ⟨gm 1433 (by decide +kernel) rfl, gm 1434 (by decide +kernel) rfl⟩
abbrev m_X9_tight : JM := (yX9_tight, cX9_tight, 3, (some .boolean), [], { frames := 3, cells := 0, slots := 0, locals := 120 })
theorem mb_X9_tight : SB m_X9_tight 1 := ⟨gm 1471 (by decide +kernel) rfl, gm 62 (by decide +kernel) rfl, by decide +kernel, by decide +kernel⟩
theorem mi_X9_tight : SI m_X9_tight := ⟨gm 1469 (by decide +kernel) rfl, gm 1470 (by decide +kernel) rfl⟩
abbrev m_X9_weave : JM := (yX9_weave, cX9_weave, 6, none, [], { frames := 6, cells := 20, slots := 300, locals := 240 })
theorem mb_X9_weave : SB m_X9_weave 0 := ⟨gm 1447 (by decide +kernel) rfl, gm 62 (by decide +kernel) rfl, by decide +kernel, by decide +kernel⟩
theorem mi_X9_weave : SI m_X9_weave := ⟨gm 1445 (by decide +kernel) rfl, gm 1446 (by decide +kernel) rfl⟩
abbrev m_X9_weaves : JM := (yX9_weaves, cX9_weaves, 3, (some .int), [], { frames := 7, cells := 1000, slots := 20000, locals := 280 })
theorem mb_X9_weaves : SB m_X9_weaves 1 := ⟨gm 1431 (by decide +kernel) rfl, gm 62 (by decide +kernel) rfl, by decide +kernel, by decide +kernel⟩
theorem mi_X9_weaves : SI m_X9_weaves := ⟨gm 1429 (by decide +kernel) rfl, gm 1430 (by decide +kernel) rfl⟩
abbrev m_X9_unweave : JM := (yX9_unweave, cX9_unweave, 4, none, [], { frames := 3, cells := 10, slots := 100, locals := 120 })
theorem mb_X9_unweave : SB m_X9_unweave 1 := ⟨gm 1534 (by decide +kernel) rfl, gm 62 (by decide +kernel) rfl, by decide +kernel, by decide +kernel⟩
theorem mi_X9_unweave : SI m_X9_unweave := ⟨gm 1532 (by decide +kernel) rfl, gm 1533 (by decide +kernel) rfl⟩
abbrev m_J4_init_a7421 : JM := (yJ4_init_a7421, cJ4_init_a7421, 2, none, [], { frames := 8, cells := 2, slots := 3000, locals := 320 })
theorem mb_J4_init_a7421 : SB m_J4_init_a7421 1 := ⟨gm 1164 (by decide +kernel) rfl, gm 67 (by decide +kernel) rfl, by decide +kernel, by decide +kernel⟩
theorem mc_J4_init_a7421 : SC m_J4_init_a7421 := ⟨gm 1163 (by decide +kernel) rfl, rfl, rfl⟩
abbrev m_J5_init_a7421 : JM := (yJ5_init_a7421, cJ5_init_a7421, 5, none, [], { frames := 7, cells := 2, slots := 3000, locals := 280 })
theorem mb_J5_init_a7421 : SB m_J5_init_a7421 1 := ⟨gm 1167 (by decide +kernel) rfl, gm 66 (by decide +kernel) rfl, by decide +kernel, by decide +kernel⟩
theorem mc_J5_init_a7421 : SC m_J5_init_a7421 := ⟨gm 1166 (by decide +kernel) rfl, rfl, rfl⟩
abbrev m_J5_append_3fe6f : JM := (yJ5_append_3fe6f, cJ5_append_3fe6f, 2, (some (.object "java/lang/AbstractStringBuilder")), [], { frames := 4, cells := 1, slots := 2000, locals := 160 })
theorem mb_J5_append_3fe6f : SB m_J5_append_3fe6f 1 := ⟨gm 1322 (by decide +kernel) rfl, gm 66 (by decide +kernel) rfl, by decide +kernel, by decide +kernel⟩
-- J5_append_3fe6f: instance 1321 static None selects None
abbrev m_J5_append_c97b9 : JM := (yJ5_append_c97b9, cJ5_append_c97b9, 4, (some (.object "java/lang/AbstractStringBuilder")), [], { frames := 4, cells := 1, slots := 2000, locals := 160 })
theorem mb_J5_append_c97b9 : SB m_J5_append_c97b9 1 := ⟨gm 1297 (by decide +kernel) rfl, gm 66 (by decide +kernel) rfl, by decide +kernel, by decide +kernel⟩
-- J5_append_c97b9: instance 1296 static None selects None
abbrev m_J5_append_cf1ce : JM := (yJ5_append_cf1ce, cJ5_append_cf1ce, 3, (some (.object "java/lang/AbstractStringBuilder")), [], { frames := 4, cells := 1, slots := 2000, locals := 160 })
theorem mb_J5_append_cf1ce : SB m_J5_append_cf1ce 1 := ⟨gm 1192 (by decide +kernel) rfl, gm 66 (by decide +kernel) rfl, by decide +kernel, by decide +kernel⟩
-- J5_append_cf1ce: instance 1181 static None selects None
abbrev m_J5_ensureCapacityInternal_d00df : JM := (yJ5_ensureCapacityInternal_d00df, cJ5_ensureCapacityInternal_d00df, 3, none, [], { frames := 3, cells := 1, slots := 2000, locals := 120 })
theorem mb_J5_ensureCapacityInternal_d00df : SB m_J5_ensureCapacityInternal_d00df 1 := ⟨gm 1200 (by decide +kernel) rfl, gm 66 (by decide +kernel) rfl, by decide +kernel, by decide +kernel⟩
-- J5_ensureCapacityInternal_d00df: instance 1199 static None selects None
abbrev m_J5_newCapacity_0f7a4 : JM := (yJ5_newCapacity_0f7a4, cJ5_newCapacity_0f7a4, 6, (some .int), [], { frames := 2, cells := 0, slots := 0, locals := 80 })
theorem mb_J5_newCapacity_0f7a4 : SB m_J5_newCapacity_0f7a4 1 := ⟨gm 1204 (by decide +kernel) rfl, gm 66 (by decide +kernel) rfl, by decide +kernel, by decide +kernel⟩
-- J5_newCapacity_0f7a4: instance 1203 static None selects None
abbrev m_J8_newLength_cabcc : JM := (yJ8_newLength_cabcc, cJ8_newLength_cabcc, 4, (some .int), [], { frames := 1, cells := 0, slots := 0, locals := 40 })
theorem mb_J8_newLength_cabcc : SB m_J8_newLength_cabcc 3 := ⟨gm 1207 (by decide +kernel) rfl, gm 70 (by decide +kernel) rfl, by decide +kernel, by decide +kernel⟩
theorem ms_J8_newLength_cabcc : SS m_J8_newLength_cabcc := gm 1206 (by decide +kernel) rfl
abbrev m_J7_copyOf_9075b : JM := (yJ7_copyOf_9075b, cJ7_copyOf_9075b, 3, (some (.array .byte)), [], { frames := 1, cells := 1, slots := 2000, locals := 40 })
theorem mb_J7_copyOf_9075b : SB m_J7_copyOf_9075b 2 := ⟨gm 1215 (by decide +kernel) rfl, gm 72 (by decide +kernel) rfl, by decide +kernel, by decide +kernel⟩
theorem ms_J7_copyOf_9075b : SS m_J7_copyOf_9075b := gm 1214 (by decide +kernel) rfl
abbrev m_J5_putStringAt_47b60 : JM := (yJ5_putStringAt_47b60, cJ5_putStringAt_47b60, 3, none, [], { frames := 2, cells := 0, slots := 0, locals := 80 })
theorem mb_J5_putStringAt_47b60 : SB m_J5_putStringAt_47b60 2 := ⟨gm 1249 (by decide +kernel) rfl, gm 66 (by decide +kernel) rfl, by decide +kernel, by decide +kernel⟩
-- J5_putStringAt_47b60: instance 1248 static None selects None
abbrev m_J5_inflateIfNeededFor_a7421 : JM := (yJ5_inflateIfNeededFor_a7421, cJ5_inflateIfNeededFor_a7421, 2, none, [], { frames := 1, cells := 0, slots := 0, locals := 40 })
theorem mb_J5_inflateIfNeededFor_a7421 : SB m_J5_inflateIfNeededFor_a7421 1 := ⟨gm 1253 (by decide +kernel) rfl, gm 66 (by decide +kernel) rfl, by decide +kernel, by decide +kernel⟩
-- J5_inflateIfNeededFor_a7421: instance 1252 static None selects None
abbrev m_J0_coder_7d493 : JM := (yJ0_coder_7d493, cJ0_coder_7d493, 1, (some .byte), [], { frames := 0, cells := 0, slots := 0, locals := 0 })
theorem mb_J0_coder_7d493 : SB m_J0_coder_7d493 0 := ⟨gm 529 (by decide +kernel) rfl, gm 68 (by decide +kernel) rfl, by decide +kernel, by decide +kernel⟩
theorem mi_J0_coder_7d493 : SI m_J0_coder_7d493 := ⟨gm 527 (by decide +kernel) rfl, gm 528 (by decide +kernel) rfl⟩
abbrev m_J0_getBytes_840e7 : JM := (yJ0_getBytes_840e7, cJ0_getBytes_840e7, 4, none, [], { frames := 1, cells := 0, slots := 0, locals := 40 })
theorem mb_J0_getBytes_840e7 : SB m_J0_getBytes_840e7 3 := ⟨gm 1276 (by decide +kernel) rfl, gm 68 (by decide +kernel) rfl, by decide +kernel, by decide +kernel⟩
theorem mi_J0_getBytes_840e7 : SI m_J0_getBytes_840e7 := ⟨gm 1274 (by decide +kernel) rfl, gm 1275 (by decide +kernel) rfl⟩
abbrev m_J0_length_8abf5 : JM := (yJ0_length_8abf5, cJ0_length_8abf5, 1, (some .int), [], { frames := 1, cells := 0, slots := 0, locals := 40 })
theorem mb_J0_length_8abf5 : SB m_J0_length_8abf5 0 := ⟨gm 525 (by decide +kernel) rfl, gm 68 (by decide +kernel) rfl, by decide +kernel, by decide +kernel⟩
theorem mi_J0_length_8abf5 : SI m_J0_length_8abf5 := ⟨gm 523 (by decide +kernel) rfl, gm 524 (by decide +kernel) rfl⟩
abbrev m_J6_stringSize_0f7a4 : JM := (yJ6_stringSize_0f7a4, cJ6_stringSize_0f7a4, 4, (some .int), [], { frames := 0, cells := 0, slots := 0, locals := 0 })
theorem mb_J6_stringSize_0f7a4 : SB m_J6_stringSize_0f7a4 1 := ⟨gm 1300 (by decide +kernel) rfl, gm 77 (by decide +kernel) rfl, by decide +kernel, by decide +kernel⟩
theorem ms_J6_stringSize_0f7a4 : SS m_J6_stringSize_0f7a4 := gm 1299 (by decide +kernel) rfl
abbrev m_J6_getChars_ba4f3 : JM := (yJ6_getChars_ba4f3, cJ6_getChars_ba4f3, 7, (some .int), [], { frames := 0, cells := 0, slots := 0, locals := 0 })
theorem mb_J6_getChars_ba4f3 : SB m_J6_getChars_ba4f3 3 := ⟨gm 1303 (by decide +kernel) rfl, gm 77 (by decide +kernel) rfl, by decide +kernel, by decide +kernel⟩
theorem ms_J6_getChars_ba4f3 : SS m_J6_getChars_ba4f3 := gm 1302 (by decide +kernel) rfl
abbrev m_J5_isLatin1_aae02 : JM := (yJ5_isLatin1_aae02, cJ5_isLatin1_aae02, 1, (some .boolean), [], { frames := 0, cells := 0, slots := 0, locals := 0 })
theorem mb_J5_isLatin1_aae02 : SB m_J5_isLatin1_aae02 0 := ⟨gm 1229 (by decide +kernel) rfl, gm 66 (by decide +kernel) rfl, by decide +kernel, by decide +kernel⟩
-- J5_isLatin1_aae02: instance 1226 static None selects None
abbrev m_J1_canEncode_fc78d : JM := (yJ1_canEncode_fc78d, cJ1_canEncode_fc78d, 1, (some .boolean), [], { frames := 0, cells := 0, slots := 0, locals := 0 })
theorem mb_J1_canEncode_fc78d : SB m_J1_canEncode_fc78d 1 := ⟨gm 1325 (by decide +kernel) rfl, gm 75 (by decide +kernel) rfl, by decide +kernel, by decide +kernel⟩
theorem ms_J1_canEncode_fc78d : SS m_J1_canEncode_fc78d := gm 1324 (by decide +kernel) rfl
abbrev m_J4_append_cf468 : JM := (yJ4_append_cf468, cJ4_append_cf468, 2, (some (.object "java/lang/StringBuilder")), [], { frames := 5, cells := 1, slots := 2000, locals := 200 })
theorem mb_J4_append_cf468 : SB m_J4_append_cf468 1 := ⟨gm 1319 (by decide +kernel) rfl, gm 67 (by decide +kernel) rfl, by decide +kernel, by decide +kernel⟩
theorem mi_J4_append_cf468 : SI m_J4_append_cf468 := ⟨gm 1317 (by decide +kernel) rfl, gm 1318 (by decide +kernel) rfl⟩
abbrev m_J4_append_bf812 : JM := (yJ4_append_bf812, cJ4_append_bf812, 2, (some (.object "java/lang/StringBuilder")), [], { frames := 5, cells := 1, slots := 2000, locals := 200 })
theorem mb_J4_append_bf812 : SB m_J4_append_bf812 1 := ⟨gm 1294 (by decide +kernel) rfl, gm 67 (by decide +kernel) rfl, by decide +kernel, by decide +kernel⟩
theorem mi_J4_append_bf812 : SI m_J4_append_bf812 := ⟨gm 1292 (by decide +kernel) rfl, gm 1293 (by decide +kernel) rfl⟩
abbrev m_J4_append_15ec4 : JM := (yJ4_append_15ec4, cJ4_append_15ec4, 2, (some (.object "java/lang/StringBuilder")), [], { frames := 5, cells := 1, slots := 2000, locals := 200 })
theorem mb_J4_append_15ec4 : SB m_J4_append_15ec4 1 := ⟨gm 1189 (by decide +kernel) rfl, gm 67 (by decide +kernel) rfl, by decide +kernel, by decide +kernel⟩
theorem mi_J4_append_15ec4 : SI m_J4_append_15ec4 := ⟨gm 1187 (by decide +kernel) rfl, gm 1188 (by decide +kernel) rfl⟩
abbrev m_J4_toString_0e30d : JM := (yJ4_toString_0e30d, cJ4_toString_0e30d, 1, (some (.object "java/lang/String")), [], { frames := 5, cells := 3, slots := 3000, locals := 200 })
theorem mb_J4_toString_0e30d : SB m_J4_toString_0e30d 0 := ⟨gm 1475 (by decide +kernel) rfl, gm 67 (by decide +kernel) rfl, by decide +kernel, by decide +kernel⟩
theorem mi_J4_toString_0e30d : SI m_J4_toString_0e30d := ⟨gm 1473 (by decide +kernel) rfl, gm 1474 (by decide +kernel) rfl⟩
abbrev m_J0_init_81219 : JM := (yJ0_init_81219, cJ0_init_81219, 2, none, [], { frames := 4, cells := 2, slots := 2500, locals := 160 })
theorem mb_J0_init_81219 : SB m_J0_init_81219 1 := ⟨gm 1480 (by decide +kernel) rfl, gm 68 (by decide +kernel) rfl, by decide +kernel, by decide +kernel⟩
theorem mc_J0_init_81219 : SC m_J0_init_81219 := ⟨gm 1479 (by decide +kernel) rfl, rfl, rfl⟩
abbrev m_J0_init_db425 : JM := (yJ0_init_db425, cJ0_init_db425, 5, none, [], { frames := 3, cells := 2, slots := 2500, locals := 120 })
theorem mb_J0_init_db425 : SB m_J0_init_db425 2 := ⟨gm 1483 (by decide +kernel) rfl, gm 68 (by decide +kernel) rfl, by decide +kernel, by decide +kernel⟩
theorem mc_J0_init_db425 : SC m_J0_init_db425 := ⟨gm 1482 (by decide +kernel) rfl, rfl, rfl⟩
abbrev m_J5_getValue_6d5f1 : JM := (yJ5_getValue_6d5f1, cJ5_getValue_6d5f1, 1, (some (.array .byte)), [], { frames := 0, cells := 0, slots := 0, locals := 0 })
theorem mb_J5_getValue_6d5f1 : SB m_J5_getValue_6d5f1 0 := ⟨gm 1489 (by decide +kernel) rfl, gm 66 (by decide +kernel) rfl, by decide +kernel, by decide +kernel⟩
-- J5_getValue_6d5f1: instance 1486 static None selects None
abbrev m_J5_length_8abf5 : JM := (yJ5_length_8abf5, cJ5_length_8abf5, 1, (some .int), [], { frames := 0, cells := 0, slots := 0, locals := 0 })
theorem mb_J5_length_8abf5 : SB m_J5_length_8abf5 0 := ⟨gm 1497 (by decide +kernel) rfl, gm 66 (by decide +kernel) rfl, by decide +kernel, by decide +kernel⟩
-- J5_length_8abf5: instance 1491 static None selects None
abbrev m_J7_copyOfRange_39247 : JM := (yJ7_copyOfRange_39247, cJ7_copyOfRange_39247, 3, (some (.array .byte)), [], { frames := 2, cells := 1, slots := 2000, locals := 80 })
theorem mb_J7_copyOfRange_39247 : SB m_J7_copyOfRange_39247 3 := ⟨gm 1501 (by decide +kernel) rfl, gm 72 (by decide +kernel) rfl, by decide +kernel, by decide +kernel⟩
theorem ms_J7_copyOfRange_39247 : SS m_J7_copyOfRange_39247 := gm 1500 (by decide +kernel) rfl
abbrev m_J7_copyOfRangeByte_39247 : JM := (yJ7_copyOfRangeByte_39247, cJ7_copyOfRangeByte_39247, 5, (some (.array .byte)), [], { frames := 1, cells := 1, slots := 2000, locals := 40 })
theorem mb_J7_copyOfRangeByte_39247 : SB m_J7_copyOfRangeByte_39247 3 := ⟨gm 1504 (by decide +kernel) rfl, gm 72 (by decide +kernel) rfl, by decide +kernel, by decide +kernel⟩
theorem ms_J7_copyOfRangeByte_39247 : SS m_J7_copyOfRangeByte_39247 := gm 1503 (by decide +kernel) rfl
abbrev m_J7_checkLength_df160 : JM := (yJ7_checkLength_df160, cJ7_checkLength_df160, 2, none, [], { frames := 0, cells := 0, slots := 0, locals := 0 })
theorem mb_J7_checkLength_df160 : SB m_J7_checkLength_df160 2 := ⟨gm 1507 (by decide +kernel) rfl, gm 72 (by decide +kernel) rfl, by decide +kernel, by decide +kernel⟩
theorem ms_J7_checkLength_df160 : SS m_J7_checkLength_df160 := gm 1506 (by decide +kernel) rfl
abbrev m_J0_charAt_5068e : JM := (yJ0_charAt_5068e, cJ0_charAt_5068e, 2, (some .char), [], { frames := 3, cells := 0, slots := 0, locals := 120 })
theorem mb_J0_charAt_5068e : SB m_J0_charAt_5068e 1 := ⟨gm 535 (by decide +kernel) rfl, gm 68 (by decide +kernel) rfl, by decide +kernel, by decide +kernel⟩
theorem mi_J0_charAt_5068e : SI m_J0_charAt_5068e := ⟨gm 533 (by decide +kernel) rfl, gm 534 (by decide +kernel) rfl⟩
abbrev m_J0_isLatin1_aae02 : JM := (yJ0_isLatin1_aae02, cJ0_isLatin1_aae02, 1, (some .boolean), [], { frames := 0, cells := 0, slots := 0, locals := 0 })
theorem mb_J0_isLatin1_aae02 : SB m_J0_isLatin1_aae02 0 := ⟨gm 539 (by decide +kernel) rfl, gm 68 (by decide +kernel) rfl, by decide +kernel, by decide +kernel⟩
theorem mi_J0_isLatin1_aae02 : SI m_J0_isLatin1_aae02 := ⟨gm 537 (by decide +kernel) rfl, gm 538 (by decide +kernel) rfl⟩
abbrev m_J1_charAt_3b067 : JM := (yJ1_charAt_3b067, cJ1_charAt_3b067, 2, (some .char), [], { frames := 2, cells := 0, slots := 0, locals := 80 })
theorem mb_J1_charAt_3b067 : SB m_J1_charAt_3b067 2 := ⟨gm 542 (by decide +kernel) rfl, gm 75 (by decide +kernel) rfl, by decide +kernel, by decide +kernel⟩
theorem ms_J1_charAt_3b067 : SS m_J1_charAt_3b067 := gm 541 (by decide +kernel) rfl
abbrev m_J0_checkIndex_df160 : JM := (yJ0_checkIndex_df160, cJ0_checkIndex_df160, 2, none, [], { frames := 1, cells := 0, slots := 0, locals := 40 })
theorem mb_J0_checkIndex_df160 : SB m_J0_checkIndex_df160 2 := ⟨gm 545 (by decide +kernel) rfl, gm 68 (by decide +kernel) rfl, by decide +kernel, by decide +kernel⟩
theorem ms_J0_checkIndex_df160 : SS m_J0_checkIndex_df160 := gm 544 (by decide +kernel) rfl
abbrev m_J3_checkIndex_8e157 : JM := (yJ3_checkIndex_8e157, cJ3_checkIndex_8e157, 3, (some .int), [], { frames := 0, cells := 0, slots := 0, locals := 0 })
theorem mb_J3_checkIndex_8e157 : SB m_J3_checkIndex_8e157 3 := ⟨gm 550 (by decide +kernel) rfl, gm 74 (by decide +kernel) rfl, by decide +kernel, by decide +kernel⟩
theorem ms_J3_checkIndex_8e157 : SS m_J3_checkIndex_8e157 := gm 549 (by decide +kernel) rfl
abbrev m_Jx4a65c_init_da8c8 : JM := (yJx4a65c_init_da8c8, cJx4a65c_init_da8c8, 1, none, [], { frames := 3, cells := 0, slots := 0, locals := 120 })
theorem mb_Jx4a65c_init_da8c8 : SB m_Jx4a65c_init_da8c8 0 := ⟨gm 1072 (by decide +kernel) rfl, gm 65 (by decide +kernel) rfl, by decide +kernel, by decide +kernel⟩
theorem mc_Jx4a65c_init_da8c8 : SC m_Jx4a65c_init_da8c8 := ⟨gm 1071 (by decide +kernel) rfl, rfl, rfl⟩
abbrev m_Jxc12de_init_da8c8 : JM := (yJxc12de_init_da8c8, cJxc12de_init_da8c8, 1, none, [], { frames := 2, cells := 0, slots := 0, locals := 80 })
theorem mb_Jxc12de_init_da8c8 : SB m_Jxc12de_init_da8c8 0 := ⟨gm 1075 (by decide +kernel) rfl, gm 64 (by decide +kernel) rfl, by decide +kernel, by decide +kernel⟩
theorem mc_Jxc12de_init_da8c8 : SC m_Jxc12de_init_da8c8 := ⟨gm 1074 (by decide +kernel) rfl, rfl, rfl⟩
abbrev m_Jxa1e45_init_da8c8 : JM := (yJxa1e45_init_da8c8, cJxa1e45_init_da8c8, 1, none, [], { frames := 1, cells := 0, slots := 0, locals := 40 })
theorem mb_Jxa1e45_init_da8c8 : SB m_Jxa1e45_init_da8c8 0 := ⟨gm 1078 (by decide +kernel) rfl, gm 63 (by decide +kernel) rfl, by decide +kernel, by decide +kernel⟩
theorem mc_Jxa1e45_init_da8c8 : SC m_Jxa1e45_init_da8c8 := ⟨gm 1077 (by decide +kernel) rfl, rfl, rfl⟩
abbrev m_Jx4a65c_add_9ea2d : JM := (yJx4a65c_add_9ea2d, cJx4a65c_add_9ea2d, 2, (some .boolean), [], { frames := 5, cells := 1, slots := 100, locals := 200 })
theorem mb_Jx4a65c_add_9ea2d : SB m_Jx4a65c_add_9ea2d 1 := ⟨gm 1380 (by decide +kernel) rfl, gm 65 (by decide +kernel) rfl, by decide +kernel, by decide +kernel⟩
theorem mi_Jx4a65c_add_9ea2d : SI m_Jx4a65c_add_9ea2d := ⟨gm 1378 (by decide +kernel) rfl, gm 1379 (by decide +kernel) rfl⟩
abbrev m_Jx4a65c_add_72be8 : JM := (yJx4a65c_add_72be8, cJx4a65c_add_72be8, 4, none, [], { frames := 4, cells := 1, slots := 100, locals := 160 })
theorem mb_Jx4a65c_add_72be8 : SB m_Jx4a65c_add_72be8 3 := ⟨gm 1384 (by decide +kernel) rfl, gm 65 (by decide +kernel) rfl, by decide +kernel, by decide +kernel⟩
theorem mi_Jx4a65c_add_72be8 : SI m_Jx4a65c_add_72be8 := ⟨gm 1383 (by decide +kernel) rfl, gm 44 (by decide +kernel) rfl⟩
abbrev m_Jx4a65c_grow_d5877 : JM := (yJx4a65c_grow_d5877, cJx4a65c_grow_d5877, 1, (some (.array (.object "java/lang/Object"))), [], { frames := 3, cells := 1, slots := 100, locals := 120 })
theorem mb_Jx4a65c_grow_d5877 : SB m_Jx4a65c_grow_d5877 0 := ⟨gm 1388 (by decide +kernel) rfl, gm 65 (by decide +kernel) rfl, by decide +kernel, by decide +kernel⟩
theorem mi_Jx4a65c_grow_d5877 : SI m_Jx4a65c_grow_d5877 := ⟨gm 1387 (by decide +kernel) rfl, gm 45 (by decide +kernel) rfl⟩
abbrev m_Jx4a65c_grow_92f84 : JM := (yJx4a65c_grow_92f84, cJx4a65c_grow_92f84, 4, (some (.array (.object "java/lang/Object"))), [], { frames := 2, cells := 1, slots := 100, locals := 80 })
theorem mb_Jx4a65c_grow_92f84 : SB m_Jx4a65c_grow_92f84 1 := ⟨gm 1392 (by decide +kernel) rfl, gm 65 (by decide +kernel) rfl, by decide +kernel, by decide +kernel⟩
theorem mi_Jx4a65c_grow_92f84 : SI m_Jx4a65c_grow_92f84 := ⟨gm 1391 (by decide +kernel) rfl, gm 46 (by decide +kernel) rfl⟩
abbrev m_Jx4a65c_get_915e3 : JM := (yJx4a65c_get_915e3, cJx4a65c_get_915e3, 2, (some (.object "java/lang/Object")), [], { frames := 2, cells := 0, slots := 0, locals := 80 })
theorem mb_Jx4a65c_get_915e3 : SB m_Jx4a65c_get_915e3 1 := ⟨gm 1368 (by decide +kernel) rfl, gm 65 (by decide +kernel) rfl, by decide +kernel, by decide +kernel⟩
theorem mi_Jx4a65c_get_915e3 : SI m_Jx4a65c_get_915e3 := ⟨gm 1366 (by decide +kernel) rfl, gm 1367 (by decide +kernel) rfl⟩
abbrev m_Jx4a65c_elementData_915e3 : JM := (yJx4a65c_elementData_915e3, cJx4a65c_elementData_915e3, 2, (some (.object "java/lang/Object")), [], { frames := 0, cells := 0, slots := 0, locals := 0 })
theorem mb_Jx4a65c_elementData_915e3 : SB m_Jx4a65c_elementData_915e3 1 := ⟨gm 1376 (by decide +kernel) rfl, gm 65 (by decide +kernel) rfl, by decide +kernel, by decide +kernel⟩
theorem mi_Jx4a65c_elementData_915e3 : SI m_Jx4a65c_elementData_915e3 := ⟨gm 1374 (by decide +kernel) rfl, gm 1375 (by decide +kernel) rfl⟩
abbrev m_Jx4a65c_remove_915e3 : JM := (yJx4a65c_remove_915e3, cJx4a65c_remove_915e3, 4, (some (.object "java/lang/Object")), [], { frames := 2, cells := 0, slots := 0, locals := 80 })
theorem mb_Jx4a65c_remove_915e3 : SB m_Jx4a65c_remove_915e3 1 := ⟨gm 1538 (by decide +kernel) rfl, gm 65 (by decide +kernel) rfl, by decide +kernel, by decide +kernel⟩
theorem mi_Jx4a65c_remove_915e3 : SI m_Jx4a65c_remove_915e3 := ⟨gm 1536 (by decide +kernel) rfl, gm 1537 (by decide +kernel) rfl⟩
abbrev m_Jx4a65c_fastRemove_b59b0 : JM := (yJx4a65c_fastRemove_b59b0, cJx4a65c_fastRemove_b59b0, 4, none, [], { frames := 1, cells := 0, slots := 0, locals := 40 })
theorem mb_Jx4a65c_fastRemove_b59b0 : SB m_Jx4a65c_fastRemove_b59b0 2 := ⟨gm 1542 (by decide +kernel) rfl, gm 65 (by decide +kernel) rfl, by decide +kernel, by decide +kernel⟩
theorem mi_Jx4a65c_fastRemove_b59b0 : SI m_Jx4a65c_fastRemove_b59b0 := ⟨gm 1541 (by decide +kernel) rfl, gm 47 (by decide +kernel) rfl⟩
abbrev m_Jx4a65c_size_8abf5 : JM := (yJx4a65c_size_8abf5, cJx4a65c_size_8abf5, 1, (some .int), [], { frames := 0, cells := 0, slots := 0, locals := 0 })
theorem mb_Jx4a65c_size_8abf5 : SB m_Jx4a65c_size_8abf5 0 := ⟨gm 1364 (by decide +kernel) rfl, gm 65 (by decide +kernel) rfl, by decide +kernel, by decide +kernel⟩
theorem mi_Jx4a65c_size_8abf5 : SI m_Jx4a65c_size_8abf5 := ⟨gm 1362 (by decide +kernel) rfl, gm 1363 (by decide +kernel) rfl⟩
abbrev m_J6_valueOf_2dffe : JM := (yJ6_valueOf_2dffe, cJ6_valueOf_2dffe, 1, (some (.object "java/lang/Integer")), [], { frames := 0, cells := 0, slots := 0, locals := 0 })
theorem mb_J6_valueOf_2dffe : SB m_J6_valueOf_2dffe 1 := ⟨gm 1450 (by decide +kernel) rfl, gm 77 (by decide +kernel) rfl, by decide +kernel, by decide +kernel⟩
theorem ms_J6_valueOf_2dffe : SS m_J6_valueOf_2dffe := gm 1449 (by decide +kernel) rfl
abbrev m_J6_intValue_8abf5 : JM := (yJ6_intValue_8abf5, cJ6_intValue_8abf5, 1, (some .int), [], { frames := 0, cells := 0, slots := 0, locals := 0 })
theorem mb_J6_intValue_8abf5 : SB m_J6_intValue_8abf5 0 := ⟨gm 1547 (by decide +kernel) rfl, gm 77 (by decide +kernel) rfl, by decide +kernel, by decide +kernel⟩
theorem mi_J6_intValue_8abf5 : SI m_J6_intValue_8abf5 := ⟨gm 1545 (by decide +kernel) rfl, gm 1546 (by decide +kernel) rfl⟩
abbrev m_J15_checkIndex_7cf53 : JM := (yJ15_checkIndex_7cf53, cJ15_checkIndex_7cf53, 2, (some .int), [], { frames := 1, cells := 0, slots := 0, locals := 40 })
theorem mb_J15_checkIndex_7cf53 : SB m_J15_checkIndex_7cf53 2 := ⟨gm 1371 (by decide +kernel) rfl, gm 78 (by decide +kernel) rfl, by decide +kernel, by decide +kernel⟩
theorem ms_J15_checkIndex_7cf53 : SS m_J15_checkIndex_7cf53 := gm 1370 (by decide +kernel) rfl
abbrev m_J7_equals_331f6 : JM := (yJ7_equals_331f6, cJ7_equals_331f6, 3, (some .boolean), [], { frames := 4, cells := 0, slots := 0, locals := 160 })
theorem mb_J7_equals_331f6 : SB m_J7_equals_331f6 2 := ⟨gm 1705 (by decide +kernel) rfl, gm 72 (by decide +kernel) rfl, by decide +kernel, by decide +kernel⟩
theorem ms_J7_equals_331f6 : SS m_J7_equals_331f6 := gm 1704 (by decide +kernel) rfl
abbrev m_J8_mismatch_974f6 : JM := (yJ8_mismatch_974f6, cJ8_mismatch_974f6, 4, (some .int), [], { frames := 3, cells := 0, slots := 0, locals := 120 })
theorem mb_J8_mismatch_974f6 : SB m_J8_mismatch_974f6 3 := ⟨gm 1708 (by decide +kernel) rfl, gm 70 (by decide +kernel) rfl, by decide +kernel, by decide +kernel⟩
theorem ms_J8_mismatch_974f6 : SS m_J8_mismatch_974f6 := gm 1707 (by decide +kernel) rfl
abbrev m_J8_vectorizedMismatch_456ae : JM := (yJ8_vectorizedMismatch_456ae, cJ8_vectorizedMismatch_456ae, 19, (some .int), [], { frames := 2, cells := 0, slots := 0, locals := 80 })
theorem mb_J8_vectorizedMismatch_456ae : SB m_J8_vectorizedMismatch_456ae 6 := ⟨gm 1715 (by decide +kernel) rfl, gm 70 (by decide +kernel) rfl, by decide +kernel, by decide +kernel⟩
theorem ms_J8_vectorizedMismatch_456ae : SS m_J8_vectorizedMismatch_456ae := gm 1714 (by decide +kernel) rfl
abbrev m_Jx9a822_getLongUnaligned_f02c6 : JM := (yJx9a822_getLongUnaligned_f02c6, cJx9a822_getLongUnaligned_f02c6, 4, (some .long), [], { frames := 1, cells := 0, slots := 0, locals := 40 })
theorem mb_Jx9a822_getLongUnaligned_f02c6 : SB m_Jx9a822_getLongUnaligned_f02c6 2 := ⟨gm 1721 (by decide +kernel) rfl, gm 86 (by decide +kernel) rfl, by decide +kernel, by decide +kernel⟩
theorem mi_Jx9a822_getLongUnaligned_f02c6 : SI m_Jx9a822_getLongUnaligned_f02c6 := ⟨gm 1719 (by decide +kernel) rfl, gm 1720 (by decide +kernel) rfl⟩
abbrev m_J7_fill_d0a16 : JM := (yJ7_fill_d0a16, cJ7_fill_d0a16, 5, none, [], { frames := 0, cells := 0, slots := 0, locals := 0 })
theorem mb_J7_fill_d0a16 : SB m_J7_fill_d0a16 2 := ⟨gm 1663 (by decide +kernel) rfl, gm 72 (by decide +kernel) rfl, by decide +kernel, by decide +kernel⟩
theorem ms_J7_fill_d0a16 : SS m_J7_fill_d0a16 := gm 1662 (by decide +kernel) rfl
abbrev m_J7_fill_53178 : JM := (yJ7_fill_53178, cJ7_fill_53178, 4, none, [], { frames := 0, cells := 0, slots := 0, locals := 0 })
theorem mb_J7_fill_53178 : SB m_J7_fill_53178 2 := ⟨gm 481 (by decide +kernel) rfl, gm 72 (by decide +kernel) rfl, by decide +kernel, by decide +kernel⟩
theorem ms_J7_fill_53178 : SS m_J7_fill_53178 := gm 480 (by decide +kernel) rfl
abbrev m_J6_bitCount_0f7a4 : JM := (yJ6_bitCount_0f7a4, cJ6_bitCount_0f7a4, 1, (some .int), [], { frames := 0, cells := 0, slots := 0, locals := 0 })
theorem mb_J6_bitCount_0f7a4 : SB m_J6_bitCount_0f7a4 1 := ⟨gm 731 (by decide +kernel) rfl, gm 77 (by decide +kernel) rfl, by decide +kernel, by decide +kernel⟩
theorem ms_J6_bitCount_0f7a4 : SS m_J6_bitCount_0f7a4 := gm 730 (by decide +kernel) rfl
abbrev m_J4_append_cf1ce : JM := (yJ4_append_cf1ce, cJ4_append_cf1ce, 2, (some (.object "java/lang/AbstractStringBuilder")), [], { frames := 6, cells := 1, slots := 2000, locals := 240 })
theorem mb_J4_append_cf1ce : SB m_J4_append_cf1ce 1 := ⟨gm 1185 (by decide +kernel) rfl, gm 67 (by decide +kernel) rfl, by decide +kernel, by decide +kernel⟩
-- J4_append_cf1ce: instance 1184 static None selects None
abbrev m_J4_length_8abf5 : JM := (yJ4_length_8abf5, cJ4_length_8abf5, 1, (some .int), [], { frames := 1, cells := 0, slots := 0, locals := 40 })
theorem mb_J4_length_8abf5 : SB m_J4_length_8abf5 0 := ⟨gm 1495 (by decide +kernel) rfl, gm 67 (by decide +kernel) rfl, by decide +kernel, by decide +kernel⟩
-- J4_length_8abf5: instance 1494 static None selects None
-- deepest: 9
