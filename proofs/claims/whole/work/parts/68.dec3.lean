theorem dL_parseSetup_0 : decode cL_parseSetup 0 = .ok (.aload_n 2, 1) := by decide +kernel
theorem dL_parseSetup_1 : decode cL_parseSetup 1 = .ok (.iconst 0, 1) := by decide +kernel
theorem dL_parseSetup_2 : decode cL_parseSetup 2 = .ok (.aload_n 0, 1) := by decide +kernel
theorem dL_parseSetup_3 : decode cL_parseSetup 3 = .ok (.iload_n 1, 1) := by decide +kernel
theorem dL_parseSetup_4 : decode cL_parseSetup 4 = .ok (.invokevirtual 7, 3) := by decide +kernel
theorem dL_parseSetup_7 : decode cL_parseSetup 7 = .ok (.i2l, 1) := by decide +kernel
theorem dL_parseSetup_8 : decode cL_parseSetup 8 = .ok (.lastore, 1) := by decide +kernel
theorem dL_parseSetup_9 : decode cL_parseSetup 9 = .ok (.goto 9, 3) := by decide +kernel
theorem dL_parseSetup_12 : decode cL_parseSetup 12 = .ok (.astore_n 3, 1) := by decide +kernel
theorem dL_parseSetup_13 : decode cL_parseSetup 13 = .ok (.iconst 1, 1) := by decide +kernel
theorem dL_parseSetup_14 : decode cL_parseSetup 14 = .ok (.ireturn, 1) := by decide +kernel
theorem dL_parseSetup_15 : decode cL_parseSetup 15 = .ok (.astore_n 3, 1) := by decide +kernel
theorem dL_parseSetup_16 : decode cL_parseSetup 16 = .ok (.iconst 2, 1) := by decide +kernel
theorem dL_parseSetup_17 : decode cL_parseSetup 17 = .ok (.ireturn, 1) := by decide +kernel
theorem dL_parseSetup_18 : decode cL_parseSetup 18 = .ok (.iconst 0, 1) := by decide +kernel
theorem dL_parseSetup_19 : decode cL_parseSetup 19 = .ok (.ireturn, 1) := by decide +kernel
theorem dL_harnessCount_0 : decode cL_harnessCount 0 = .ok (.aload_n 1, 1) := by decide +kernel
theorem dL_harnessCount_1 : decode cL_harnessCount 1 = .ok (.iconst 0, 1) := by decide +kernel
theorem dL_harnessCount_2 : decode cL_harnessCount 2 = .ok (.aload_n 0, 1) := by decide +kernel
theorem dL_harnessCount_3 : decode cL_harnessCount 3 = .ok (.invokevirtual 17, 3) := by decide +kernel
theorem dL_harnessCount_6 : decode cL_harnessCount 6 = .ok (.i2l, 1) := by decide +kernel
theorem dL_harnessCount_7 : decode cL_harnessCount 7 = .ok (.lastore, 1) := by decide +kernel
theorem dL_harnessCount_8 : decode cL_harnessCount 8 = .ok (.goto 6, 3) := by decide +kernel
theorem dL_harnessCount_11 : decode cL_harnessCount 11 = .ok (.astore_n 2, 1) := by decide +kernel
theorem dL_harnessCount_12 : decode cL_harnessCount 12 = .ok (.iconst 1, 1) := by decide +kernel
theorem dL_harnessCount_13 : decode cL_harnessCount 13 = .ok (.ireturn, 1) := by decide +kernel
theorem dL_harnessCount_14 : decode cL_harnessCount 14 = .ok (.iconst 0, 1) := by decide +kernel
theorem dL_harnessCount_15 : decode cL_harnessCount 15 = .ok (.ireturn, 1) := by decide +kernel
theorem dL_warpCount_0 : decode cL_warpCount 0 = .ok (.aload_n 1, 1) := by decide +kernel
theorem dL_warpCount_1 : decode cL_warpCount 1 = .ok (.iconst 0, 1) := by decide +kernel
theorem dL_warpCount_2 : decode cL_warpCount 2 = .ok (.aload_n 0, 1) := by decide +kernel
theorem dL_warpCount_3 : decode cL_warpCount 3 = .ok (.invokevirtual 23, 3) := by decide +kernel
theorem dL_warpCount_6 : decode cL_warpCount 6 = .ok (.i2l, 1) := by decide +kernel
theorem dL_warpCount_7 : decode cL_warpCount 7 = .ok (.lastore, 1) := by decide +kernel
theorem dL_warpCount_8 : decode cL_warpCount 8 = .ok (.goto 6, 3) := by decide +kernel
theorem dL_warpCount_11 : decode cL_warpCount 11 = .ok (.astore_n 2, 1) := by decide +kernel
theorem dL_warpCount_12 : decode cL_warpCount 12 = .ok (.iconst 1, 1) := by decide +kernel
theorem dL_warpCount_13 : decode cL_warpCount 13 = .ok (.ireturn, 1) := by decide +kernel
theorem dL_warpCount_14 : decode cL_warpCount 14 = .ok (.iconst 0, 1) := by decide +kernel
theorem dL_warpCount_15 : decode cL_warpCount 15 = .ok (.ireturn, 1) := by decide +kernel
theorem dL_warpHarness_0 : decode cL_warpHarness 0 = .ok (.aload_n 2, 1) := by decide +kernel
theorem dL_warpHarness_1 : decode cL_warpHarness 1 = .ok (.iconst 0, 1) := by decide +kernel
theorem dL_warpHarness_2 : decode cL_warpHarness 2 = .ok (.aload_n 0, 1) := by decide +kernel
theorem dL_warpHarness_3 : decode cL_warpHarness 3 = .ok (.iload_n 1, 1) := by decide +kernel
theorem dL_warpHarness_4 : decode cL_warpHarness 4 = .ok (.invokevirtual 26, 3) := by decide +kernel
theorem dL_warpHarness_7 : decode cL_warpHarness 7 = .ok (.i2l, 1) := by decide +kernel
theorem dL_warpHarness_8 : decode cL_warpHarness 8 = .ok (.lastore, 1) := by decide +kernel
theorem dL_warpHarness_9 : decode cL_warpHarness 9 = .ok (.goto 9, 3) := by decide +kernel
theorem dL_warpHarness_12 : decode cL_warpHarness 12 = .ok (.astore_n 3, 1) := by decide +kernel
theorem dL_warpHarness_13 : decode cL_warpHarness 13 = .ok (.iconst 1, 1) := by decide +kernel
theorem dL_warpHarness_14 : decode cL_warpHarness 14 = .ok (.ireturn, 1) := by decide +kernel
theorem dL_warpHarness_15 : decode cL_warpHarness 15 = .ok (.astore_n 3, 1) := by decide +kernel
theorem dL_warpHarness_16 : decode cL_warpHarness 16 = .ok (.iconst 2, 1) := by decide +kernel
theorem dL_warpHarness_17 : decode cL_warpHarness 17 = .ok (.ireturn, 1) := by decide +kernel
theorem dL_warpHarness_18 : decode cL_warpHarness 18 = .ok (.iconst 0, 1) := by decide +kernel
theorem dL_warpHarness_19 : decode cL_warpHarness 19 = .ok (.ireturn, 1) := by decide +kernel
theorem dL_warpColour_0 : decode cL_warpColour 0 = .ok (.aload_n 2, 1) := by decide +kernel
theorem dL_warpColour_1 : decode cL_warpColour 1 = .ok (.iconst 0, 1) := by decide +kernel
theorem dL_warpColour_2 : decode cL_warpColour 2 = .ok (.aload_n 0, 1) := by decide +kernel
theorem dL_warpColour_3 : decode cL_warpColour 3 = .ok (.iload_n 1, 1) := by decide +kernel
theorem dL_warpColour_4 : decode cL_warpColour 4 = .ok (.invokevirtual 29, 3) := by decide +kernel
theorem dL_warpColour_7 : decode cL_warpColour 7 = .ok (.i2l, 1) := by decide +kernel
theorem dL_warpColour_8 : decode cL_warpColour 8 = .ok (.lastore, 1) := by decide +kernel
theorem dL_warpColour_9 : decode cL_warpColour 9 = .ok (.goto 9, 3) := by decide +kernel
theorem dL_warpColour_12 : decode cL_warpColour 12 = .ok (.astore_n 3, 1) := by decide +kernel
theorem dL_warpColour_13 : decode cL_warpColour 13 = .ok (.iconst 1, 1) := by decide +kernel
theorem dL_warpColour_14 : decode cL_warpColour 14 = .ok (.ireturn, 1) := by decide +kernel
theorem dL_warpColour_15 : decode cL_warpColour 15 = .ok (.astore_n 3, 1) := by decide +kernel
theorem dL_warpColour_16 : decode cL_warpColour 16 = .ok (.iconst 2, 1) := by decide +kernel
theorem dL_warpColour_17 : decode cL_warpColour 17 = .ok (.ireturn, 1) := by decide +kernel
theorem dL_warpColour_18 : decode cL_warpColour 18 = .ok (.iconst 0, 1) := by decide +kernel
theorem dL_warpColour_19 : decode cL_warpColour 19 = .ok (.ireturn, 1) := by decide +kernel
theorem dL_warpsOn_0 : decode cL_warpsOn 0 = .ok (.aload_n 2, 1) := by decide +kernel
theorem dL_warpsOn_1 : decode cL_warpsOn 1 = .ok (.iconst 0, 1) := by decide +kernel
theorem dL_warpsOn_2 : decode cL_warpsOn 2 = .ok (.aload_n 0, 1) := by decide +kernel
theorem dL_warpsOn_3 : decode cL_warpsOn 3 = .ok (.iload_n 1, 1) := by decide +kernel
theorem dL_warpsOn_4 : decode cL_warpsOn 4 = .ok (.invokevirtual 32, 3) := by decide +kernel
theorem dL_warpsOn_7 : decode cL_warpsOn 7 = .ok (.i2l, 1) := by decide +kernel
theorem dL_warpsOn_8 : decode cL_warpsOn 8 = .ok (.lastore, 1) := by decide +kernel
theorem dL_warpsOn_9 : decode cL_warpsOn 9 = .ok (.goto 9, 3) := by decide +kernel
theorem dL_warpsOn_12 : decode cL_warpsOn 12 = .ok (.astore_n 3, 1) := by decide +kernel
theorem dL_warpsOn_13 : decode cL_warpsOn 13 = .ok (.iconst 1, 1) := by decide +kernel
theorem dL_warpsOn_14 : decode cL_warpsOn 14 = .ok (.ireturn, 1) := by decide +kernel
theorem dL_warpsOn_15 : decode cL_warpsOn 15 = .ok (.astore_n 3, 1) := by decide +kernel
theorem dL_warpsOn_16 : decode cL_warpsOn 16 = .ok (.iconst 2, 1) := by decide +kernel
theorem dL_warpsOn_17 : decode cL_warpsOn 17 = .ok (.ireturn, 1) := by decide +kernel
theorem dL_warpsOn_18 : decode cL_warpsOn 18 = .ok (.iconst 0, 1) := by decide +kernel
theorem dL_warpsOn_19 : decode cL_warpsOn 19 = .ok (.ireturn, 1) := by decide +kernel
theorem dL_isBroken_0 : decode cL_isBroken 0 = .ok (.aload_n 2, 1) := by decide +kernel
theorem dL_isBroken_1 : decode cL_isBroken 1 = .ok (.iconst 0, 1) := by decide +kernel
theorem dL_isBroken_2 : decode cL_isBroken 2 = .ok (.aload_n 0, 1) := by decide +kernel
theorem dL_isBroken_3 : decode cL_isBroken 3 = .ok (.iload_n 1, 1) := by decide +kernel
theorem dL_isBroken_4 : decode cL_isBroken 4 = .ok (.invokevirtual 35, 3) := by decide +kernel
theorem dL_isBroken_7 : decode cL_isBroken 7 = .ok (.ifCond .eq 7, 3) := by decide +kernel
theorem dL_isBroken_10 : decode cL_isBroken 10 = .ok (.lconst 1, 1) := by decide +kernel
theorem dL_isBroken_11 : decode cL_isBroken 11 = .ok (.goto 4, 3) := by decide +kernel
theorem dL_isBroken_14 : decode cL_isBroken 14 = .ok (.lconst 0, 1) := by decide +kernel
theorem dL_isBroken_15 : decode cL_isBroken 15 = .ok (.lastore, 1) := by decide +kernel
theorem dL_isBroken_16 : decode cL_isBroken 16 = .ok (.goto 9, 3) := by decide +kernel
theorem dL_isBroken_19 : decode cL_isBroken 19 = .ok (.astore_n 3, 1) := by decide +kernel
theorem dL_isBroken_20 : decode cL_isBroken 20 = .ok (.iconst 1, 1) := by decide +kernel
theorem dL_isBroken_21 : decode cL_isBroken 21 = .ok (.ireturn, 1) := by decide +kernel
theorem dL_isBroken_22 : decode cL_isBroken 22 = .ok (.astore_n 3, 1) := by decide +kernel
theorem dL_isBroken_23 : decode cL_isBroken 23 = .ok (.iconst 2, 1) := by decide +kernel
theorem dL_isBroken_24 : decode cL_isBroken 24 = .ok (.ireturn, 1) := by decide +kernel
theorem dL_isBroken_25 : decode cL_isBroken 25 = .ok (.iconst 0, 1) := by decide +kernel
theorem dL_isBroken_26 : decode cL_isBroken 26 = .ok (.ireturn, 1) := by decide +kernel
theorem dL_brokenCount_0 : decode cL_brokenCount 0 = .ok (.aload_n 1, 1) := by decide +kernel
theorem dL_brokenCount_1 : decode cL_brokenCount 1 = .ok (.iconst 0, 1) := by decide +kernel
theorem dL_brokenCount_2 : decode cL_brokenCount 2 = .ok (.aload_n 0, 1) := by decide +kernel
theorem dL_brokenCount_3 : decode cL_brokenCount 3 = .ok (.invokevirtual 39, 3) := by decide +kernel
theorem dL_brokenCount_6 : decode cL_brokenCount 6 = .ok (.i2l, 1) := by decide +kernel
theorem dL_brokenCount_7 : decode cL_brokenCount 7 = .ok (.lastore, 1) := by decide +kernel
theorem dL_brokenCount_8 : decode cL_brokenCount 8 = .ok (.goto 6, 3) := by decide +kernel
theorem dL_brokenCount_11 : decode cL_brokenCount 11 = .ok (.astore_n 2, 1) := by decide +kernel
theorem dL_brokenCount_12 : decode cL_brokenCount 12 = .ok (.iconst 1, 1) := by decide +kernel
theorem dL_brokenCount_13 : decode cL_brokenCount 13 = .ok (.ireturn, 1) := by decide +kernel
theorem dL_brokenCount_14 : decode cL_brokenCount 14 = .ok (.iconst 0, 1) := by decide +kernel
theorem dL_brokenCount_15 : decode cL_brokenCount 15 = .ok (.ireturn, 1) := by decide +kernel
theorem dL_isLifted_0 : decode cL_isLifted 0 = .ok (.aload_n 2, 1) := by decide +kernel
theorem dL_isLifted_1 : decode cL_isLifted 1 = .ok (.iconst 0, 1) := by decide +kernel
theorem dL_isLifted_2 : decode cL_isLifted 2 = .ok (.aload_n 0, 1) := by decide +kernel
theorem dL_isLifted_3 : decode cL_isLifted 3 = .ok (.iload_n 1, 1) := by decide +kernel
theorem dL_isLifted_4 : decode cL_isLifted 4 = .ok (.invokevirtual 42, 3) := by decide +kernel
theorem dL_isLifted_7 : decode cL_isLifted 7 = .ok (.ifCond .eq 7, 3) := by decide +kernel
theorem dL_isLifted_10 : decode cL_isLifted 10 = .ok (.lconst 1, 1) := by decide +kernel
theorem dL_isLifted_11 : decode cL_isLifted 11 = .ok (.goto 4, 3) := by decide +kernel
theorem dL_isLifted_14 : decode cL_isLifted 14 = .ok (.lconst 0, 1) := by decide +kernel
theorem dL_isLifted_15 : decode cL_isLifted 15 = .ok (.lastore, 1) := by decide +kernel
theorem dL_isLifted_16 : decode cL_isLifted 16 = .ok (.goto 9, 3) := by decide +kernel
theorem dL_isLifted_19 : decode cL_isLifted 19 = .ok (.astore_n 3, 1) := by decide +kernel
theorem dL_isLifted_20 : decode cL_isLifted 20 = .ok (.iconst 1, 1) := by decide +kernel
theorem dL_isLifted_21 : decode cL_isLifted 21 = .ok (.ireturn, 1) := by decide +kernel
theorem dL_isLifted_22 : decode cL_isLifted 22 = .ok (.astore_n 3, 1) := by decide +kernel
theorem dL_isLifted_23 : decode cL_isLifted 23 = .ok (.iconst 2, 1) := by decide +kernel
theorem dL_isLifted_24 : decode cL_isLifted 24 = .ok (.ireturn, 1) := by decide +kernel
theorem dL_isLifted_25 : decode cL_isLifted 25 = .ok (.iconst 0, 1) := by decide +kernel
theorem dL_isLifted_26 : decode cL_isLifted 26 = .ok (.ireturn, 1) := by decide +kernel
theorem dL_wear_0 : decode cL_wear 0 = .ok (.aload_n 2, 1) := by decide +kernel
theorem dL_wear_1 : decode cL_wear 1 = .ok (.iconst 0, 1) := by decide +kernel
theorem dL_wear_2 : decode cL_wear 2 = .ok (.aload_n 0, 1) := by decide +kernel
theorem dL_wear_3 : decode cL_wear 3 = .ok (.iload_n 1, 1) := by decide +kernel
theorem dL_wear_4 : decode cL_wear 4 = .ok (.invokevirtual 45, 3) := by decide +kernel
theorem dL_wear_7 : decode cL_wear 7 = .ok (.i2l, 1) := by decide +kernel
theorem dL_wear_8 : decode cL_wear 8 = .ok (.lastore, 1) := by decide +kernel
theorem dL_wear_9 : decode cL_wear 9 = .ok (.goto 9, 3) := by decide +kernel
theorem dL_wear_12 : decode cL_wear 12 = .ok (.astore_n 3, 1) := by decide +kernel
theorem dL_wear_13 : decode cL_wear 13 = .ok (.iconst 1, 1) := by decide +kernel
theorem dL_wear_14 : decode cL_wear 14 = .ok (.ireturn, 1) := by decide +kernel
theorem dL_wear_15 : decode cL_wear 15 = .ok (.astore_n 3, 1) := by decide +kernel
theorem dL_wear_16 : decode cL_wear 16 = .ok (.iconst 2, 1) := by decide +kernel
theorem dL_wear_17 : decode cL_wear 17 = .ok (.ireturn, 1) := by decide +kernel
theorem dL_wear_18 : decode cL_wear 18 = .ok (.iconst 0, 1) := by decide +kernel
theorem dL_wear_19 : decode cL_wear 19 = .ok (.ireturn, 1) := by decide +kernel
theorem dL_isStuck_0 : decode cL_isStuck 0 = .ok (.aload_n 2, 1) := by decide +kernel
theorem dL_isStuck_1 : decode cL_isStuck 1 = .ok (.iconst 0, 1) := by decide +kernel
theorem dL_isStuck_2 : decode cL_isStuck 2 = .ok (.aload_n 0, 1) := by decide +kernel
theorem dL_isStuck_3 : decode cL_isStuck 3 = .ok (.iload_n 1, 1) := by decide +kernel
theorem dL_isStuck_4 : decode cL_isStuck 4 = .ok (.invokevirtual 48, 3) := by decide +kernel
theorem dL_isStuck_7 : decode cL_isStuck 7 = .ok (.ifCond .eq 7, 3) := by decide +kernel
theorem dL_isStuck_10 : decode cL_isStuck 10 = .ok (.lconst 1, 1) := by decide +kernel
theorem dL_isStuck_11 : decode cL_isStuck 11 = .ok (.goto 4, 3) := by decide +kernel
theorem dL_isStuck_14 : decode cL_isStuck 14 = .ok (.lconst 0, 1) := by decide +kernel
theorem dL_isStuck_15 : decode cL_isStuck 15 = .ok (.lastore, 1) := by decide +kernel
theorem dL_isStuck_16 : decode cL_isStuck 16 = .ok (.goto 9, 3) := by decide +kernel
theorem dL_isStuck_19 : decode cL_isStuck 19 = .ok (.astore_n 3, 1) := by decide +kernel
theorem dL_isStuck_20 : decode cL_isStuck 20 = .ok (.iconst 1, 1) := by decide +kernel
theorem dL_isStuck_21 : decode cL_isStuck 21 = .ok (.ireturn, 1) := by decide +kernel
theorem dL_isStuck_22 : decode cL_isStuck 22 = .ok (.astore_n 3, 1) := by decide +kernel
theorem dL_isStuck_23 : decode cL_isStuck 23 = .ok (.iconst 2, 1) := by decide +kernel
theorem dL_isStuck_24 : decode cL_isStuck 24 = .ok (.ireturn, 1) := by decide +kernel
theorem dL_isStuck_25 : decode cL_isStuck 25 = .ok (.iconst 0, 1) := by decide +kernel
theorem dL_isStuck_26 : decode cL_isStuck 26 = .ok (.ireturn, 1) := by decide +kernel
theorem dL_cardCount_0 : decode cL_cardCount 0 = .ok (.aload_n 1, 1) := by decide +kernel
theorem dL_cardCount_1 : decode cL_cardCount 1 = .ok (.iconst 0, 1) := by decide +kernel
theorem dL_cardCount_2 : decode cL_cardCount 2 = .ok (.aload_n 0, 1) := by decide +kernel
theorem dL_cardCount_3 : decode cL_cardCount 3 = .ok (.invokevirtual 51, 3) := by decide +kernel
theorem dL_cardCount_6 : decode cL_cardCount 6 = .ok (.i2l, 1) := by decide +kernel
theorem dL_cardCount_7 : decode cL_cardCount 7 = .ok (.lastore, 1) := by decide +kernel
theorem dL_cardCount_8 : decode cL_cardCount 8 = .ok (.goto 6, 3) := by decide +kernel
theorem dL_cardCount_11 : decode cL_cardCount 11 = .ok (.astore_n 2, 1) := by decide +kernel
theorem dL_cardCount_12 : decode cL_cardCount 12 = .ok (.iconst 1, 1) := by decide +kernel
theorem dL_cardCount_13 : decode cL_cardCount 13 = .ok (.ireturn, 1) := by decide +kernel
theorem dL_cardCount_14 : decode cL_cardCount 14 = .ok (.iconst 0, 1) := by decide +kernel
theorem dL_cardCount_15 : decode cL_cardCount 15 = .ok (.ireturn, 1) := by decide +kernel
theorem dL_lifts_0 : decode cL_lifts 0 = .ok (.aload_n 3, 1) := by decide +kernel
theorem dL_lifts_1 : decode cL_lifts 1 = .ok (.iconst 0, 1) := by decide +kernel
theorem dL_lifts_2 : decode cL_lifts 2 = .ok (.aload_n 0, 1) := by decide +kernel
theorem dL_lifts_3 : decode cL_lifts 3 = .ok (.iload_n 1, 1) := by decide +kernel
theorem dL_lifts_4 : decode cL_lifts 4 = .ok (.iload_n 2, 1) := by decide +kernel
theorem dL_lifts_5 : decode cL_lifts 5 = .ok (.invokevirtual 54, 3) := by decide +kernel
theorem dL_lifts_8 : decode cL_lifts 8 = .ok (.ifCond .eq 7, 3) := by decide +kernel
theorem dL_lifts_11 : decode cL_lifts 11 = .ok (.lconst 1, 1) := by decide +kernel
theorem dL_lifts_12 : decode cL_lifts 12 = .ok (.goto 4, 3) := by decide +kernel
theorem dL_lifts_15 : decode cL_lifts 15 = .ok (.lconst 0, 1) := by decide +kernel
theorem dL_lifts_16 : decode cL_lifts 16 = .ok (.lastore, 1) := by decide +kernel
theorem dL_lifts_17 : decode cL_lifts 17 = .ok (.goto 11, 3) := by decide +kernel
theorem dL_lifts_20 : decode cL_lifts 20 = .ok (.astore 4, 2) := by decide +kernel
theorem dL_lifts_22 : decode cL_lifts 22 = .ok (.iconst 1, 1) := by decide +kernel
theorem dL_lifts_23 : decode cL_lifts 23 = .ok (.ireturn, 1) := by decide +kernel
theorem dL_lifts_24 : decode cL_lifts 24 = .ok (.astore 4, 2) := by decide +kernel
theorem dL_lifts_26 : decode cL_lifts 26 = .ok (.iconst 2, 1) := by decide +kernel
theorem dL_lifts_27 : decode cL_lifts 27 = .ok (.ireturn, 1) := by decide +kernel
theorem dL_lifts_28 : decode cL_lifts 28 = .ok (.iconst 0, 1) := by decide +kernel
theorem dL_lifts_29 : decode cL_lifts 29 = .ok (.ireturn, 1) := by decide +kernel
theorem dL_cardColour_0 : decode cL_cardColour 0 = .ok (.aload_n 2, 1) := by decide +kernel
theorem dL_cardColour_1 : decode cL_cardColour 1 = .ok (.iconst 0, 1) := by decide +kernel
theorem dL_cardColour_2 : decode cL_cardColour 2 = .ok (.aload_n 0, 1) := by decide +kernel
theorem dL_cardColour_3 : decode cL_cardColour 3 = .ok (.iload_n 1, 1) := by decide +kernel
theorem dL_cardColour_4 : decode cL_cardColour 4 = .ok (.invokevirtual 58, 3) := by decide +kernel
theorem dL_cardColour_7 : decode cL_cardColour 7 = .ok (.i2l, 1) := by decide +kernel
theorem dL_cardColour_8 : decode cL_cardColour 8 = .ok (.lastore, 1) := by decide +kernel
theorem dL_cardColour_9 : decode cL_cardColour 9 = .ok (.goto 9, 3) := by decide +kernel
theorem dL_cardColour_12 : decode cL_cardColour 12 = .ok (.astore_n 3, 1) := by decide +kernel
theorem dL_cardColour_13 : decode cL_cardColour 13 = .ok (.iconst 1, 1) := by decide +kernel
theorem dL_cardColour_14 : decode cL_cardColour 14 = .ok (.ireturn, 1) := by decide +kernel
theorem dL_cardColour_15 : decode cL_cardColour 15 = .ok (.astore_n 3, 1) := by decide +kernel
theorem dL_cardColour_16 : decode cL_cardColour 16 = .ok (.iconst 2, 1) := by decide +kernel
theorem dL_cardColour_17 : decode cL_cardColour 17 = .ok (.ireturn, 1) := by decide +kernel
theorem dL_cardColour_18 : decode cL_cardColour 18 = .ok (.iconst 0, 1) := by decide +kernel
theorem dL_cardColour_19 : decode cL_cardColour 19 = .ok (.ireturn, 1) := by decide +kernel
theorem dL_liftedWarps_0 : decode cL_liftedWarps 0 = .ok (.aload_n 2, 1) := by decide +kernel
theorem dL_liftedWarps_1 : decode cL_liftedWarps 1 = .ok (.iconst 0, 1) := by decide +kernel
theorem dL_liftedWarps_2 : decode cL_liftedWarps 2 = .ok (.aload_n 0, 1) := by decide +kernel
theorem dL_liftedWarps_3 : decode cL_liftedWarps 3 = .ok (.iload_n 1, 1) := by decide +kernel
theorem dL_liftedWarps_4 : decode cL_liftedWarps 4 = .ok (.invokevirtual 61, 3) := by decide +kernel
theorem dL_liftedWarps_7 : decode cL_liftedWarps 7 = .ok (.i2l, 1) := by decide +kernel
theorem dL_liftedWarps_8 : decode cL_liftedWarps 8 = .ok (.lastore, 1) := by decide +kernel
theorem dL_liftedWarps_9 : decode cL_liftedWarps 9 = .ok (.goto 9, 3) := by decide +kernel
theorem dL_liftedWarps_12 : decode cL_liftedWarps 12 = .ok (.astore_n 3, 1) := by decide +kernel
theorem dL_liftedWarps_13 : decode cL_liftedWarps 13 = .ok (.iconst 1, 1) := by decide +kernel
theorem dL_liftedWarps_14 : decode cL_liftedWarps 14 = .ok (.ireturn, 1) := by decide +kernel
theorem dL_liftedWarps_15 : decode cL_liftedWarps 15 = .ok (.astore_n 3, 1) := by decide +kernel
theorem dL_liftedWarps_16 : decode cL_liftedWarps 16 = .ok (.iconst 2, 1) := by decide +kernel
theorem dL_liftedWarps_17 : decode cL_liftedWarps 17 = .ok (.ireturn, 1) := by decide +kernel
theorem dL_liftedWarps_18 : decode cL_liftedWarps 18 = .ok (.iconst 0, 1) := by decide +kernel
theorem dL_liftedWarps_19 : decode cL_liftedWarps 19 = .ok (.ireturn, 1) := by decide +kernel
theorem dL_liftDistance_0 : decode cL_liftDistance 0 = .ok (.aload_n 3, 1) := by decide +kernel
theorem dL_liftDistance_1 : decode cL_liftDistance 1 = .ok (.iconst 0, 1) := by decide +kernel
theorem dL_liftDistance_2 : decode cL_liftDistance 2 = .ok (.aload_n 0, 1) := by decide +kernel
theorem dL_liftDistance_3 : decode cL_liftDistance 3 = .ok (.iload_n 1, 1) := by decide +kernel
theorem dL_liftDistance_4 : decode cL_liftDistance 4 = .ok (.iload_n 2, 1) := by decide +kernel
theorem dL_liftDistance_5 : decode cL_liftDistance 5 = .ok (.invokevirtual 64, 3) := by decide +kernel
theorem dL_liftDistance_8 : decode cL_liftDistance 8 = .ok (.i2l, 1) := by decide +kernel
theorem dL_liftDistance_9 : decode cL_liftDistance 9 = .ok (.lastore, 1) := by decide +kernel
theorem dL_liftDistance_10 : decode cL_liftDistance 10 = .ok (.goto 11, 3) := by decide +kernel
theorem dL_liftDistance_13 : decode cL_liftDistance 13 = .ok (.astore 4, 2) := by decide +kernel
theorem dL_liftDistance_15 : decode cL_liftDistance 15 = .ok (.iconst 1, 1) := by decide +kernel
theorem dL_liftDistance_16 : decode cL_liftDistance 16 = .ok (.ireturn, 1) := by decide +kernel
theorem dL_liftDistance_17 : decode cL_liftDistance 17 = .ok (.astore 4, 2) := by decide +kernel
theorem dL_liftDistance_19 : decode cL_liftDistance 19 = .ok (.iconst 2, 1) := by decide +kernel
theorem dL_liftDistance_20 : decode cL_liftDistance 20 = .ok (.ireturn, 1) := by decide +kernel
theorem dL_liftDistance_21 : decode cL_liftDistance 21 = .ok (.iconst 0, 1) := by decide +kernel
theorem dL_liftDistance_22 : decode cL_liftDistance 22 = .ok (.ireturn, 1) := by decide +kernel
theorem dL_oppositeCard_0 : decode cL_oppositeCard 0 = .ok (.aload_n 2, 1) := by decide +kernel
theorem dL_oppositeCard_1 : decode cL_oppositeCard 1 = .ok (.iconst 0, 1) := by decide +kernel
theorem dL_oppositeCard_2 : decode cL_oppositeCard 2 = .ok (.aload_n 0, 1) := by decide +kernel
theorem dL_oppositeCard_3 : decode cL_oppositeCard 3 = .ok (.iload_n 1, 1) := by decide +kernel
theorem dL_oppositeCard_4 : decode cL_oppositeCard 4 = .ok (.invokevirtual 68, 3) := by decide +kernel
theorem dL_oppositeCard_7 : decode cL_oppositeCard 7 = .ok (.i2l, 1) := by decide +kernel
theorem dL_oppositeCard_8 : decode cL_oppositeCard 8 = .ok (.lastore, 1) := by decide +kernel
theorem dL_oppositeCard_9 : decode cL_oppositeCard 9 = .ok (.goto 9, 3) := by decide +kernel
theorem dL_oppositeCard_12 : decode cL_oppositeCard 12 = .ok (.astore_n 3, 1) := by decide +kernel
theorem dL_oppositeCard_13 : decode cL_oppositeCard 13 = .ok (.iconst 1, 1) := by decide +kernel
theorem dL_oppositeCard_14 : decode cL_oppositeCard 14 = .ok (.ireturn, 1) := by decide +kernel
theorem dL_oppositeCard_15 : decode cL_oppositeCard 15 = .ok (.astore_n 3, 1) := by decide +kernel
theorem dL_oppositeCard_16 : decode cL_oppositeCard 16 = .ok (.iconst 2, 1) := by decide +kernel
theorem dL_oppositeCard_17 : decode cL_oppositeCard 17 = .ok (.ireturn, 1) := by decide +kernel
theorem dL_oppositeCard_18 : decode cL_oppositeCard 18 = .ok (.iconst 0, 1) := by decide +kernel
theorem dL_oppositeCard_19 : decode cL_oppositeCard 19 = .ok (.ireturn, 1) := by decide +kernel
theorem dL_deckLength_0 : decode cL_deckLength 0 = .ok (.aload_n 1, 1) := by decide +kernel
theorem dL_deckLength_1 : decode cL_deckLength 1 = .ok (.iconst 0, 1) := by decide +kernel
theorem dL_deckLength_2 : decode cL_deckLength 2 = .ok (.aload_n 0, 1) := by decide +kernel
theorem dL_deckLength_3 : decode cL_deckLength 3 = .ok (.invokevirtual 71, 3) := by decide +kernel
theorem dL_deckLength_6 : decode cL_deckLength 6 = .ok (.i2l, 1) := by decide +kernel
theorem dL_deckLength_7 : decode cL_deckLength 7 = .ok (.lastore, 1) := by decide +kernel
theorem dL_deckLength_8 : decode cL_deckLength 8 = .ok (.goto 6, 3) := by decide +kernel
theorem dL_deckLength_11 : decode cL_deckLength 11 = .ok (.astore_n 2, 1) := by decide +kernel
theorem dL_deckLength_12 : decode cL_deckLength 12 = .ok (.iconst 1, 1) := by decide +kernel
theorem dL_deckLength_13 : decode cL_deckLength 13 = .ok (.ireturn, 1) := by decide +kernel
theorem dL_deckLength_14 : decode cL_deckLength 14 = .ok (.iconst 0, 1) := by decide +kernel
theorem dL_deckLength_15 : decode cL_deckLength 15 = .ok (.ireturn, 1) := by decide +kernel
theorem dL_deckCard_0 : decode cL_deckCard 0 = .ok (.aload_n 2, 1) := by decide +kernel
theorem dL_deckCard_1 : decode cL_deckCard 1 = .ok (.iconst 0, 1) := by decide +kernel
theorem dL_deckCard_2 : decode cL_deckCard 2 = .ok (.aload_n 0, 1) := by decide +kernel
theorem dL_deckCard_3 : decode cL_deckCard 3 = .ok (.iload_n 1, 1) := by decide +kernel
theorem dL_deckCard_4 : decode cL_deckCard 4 = .ok (.invokevirtual 74, 3) := by decide +kernel
theorem dL_deckCard_7 : decode cL_deckCard 7 = .ok (.i2l, 1) := by decide +kernel
theorem dL_deckCard_8 : decode cL_deckCard 8 = .ok (.lastore, 1) := by decide +kernel
theorem dL_deckCard_9 : decode cL_deckCard 9 = .ok (.goto 9, 3) := by decide +kernel
theorem dL_deckCard_12 : decode cL_deckCard 12 = .ok (.astore_n 3, 1) := by decide +kernel
theorem dL_deckCard_13 : decode cL_deckCard 13 = .ok (.iconst 1, 1) := by decide +kernel
theorem dL_deckCard_14 : decode cL_deckCard 14 = .ok (.ireturn, 1) := by decide +kernel
theorem dL_deckCard_15 : decode cL_deckCard 15 = .ok (.astore_n 3, 1) := by decide +kernel
theorem dL_deckCard_16 : decode cL_deckCard 16 = .ok (.iconst 2, 1) := by decide +kernel
theorem dL_deckCard_17 : decode cL_deckCard 17 = .ok (.ireturn, 1) := by decide +kernel
theorem dL_deckCard_18 : decode cL_deckCard 18 = .ok (.iconst 0, 1) := by decide +kernel
theorem dL_deckCard_19 : decode cL_deckCard 19 = .ok (.ireturn, 1) := by decide +kernel
theorem dL_cardUses_0 : decode cL_cardUses 0 = .ok (.aload_n 2, 1) := by decide +kernel
theorem dL_cardUses_1 : decode cL_cardUses 1 = .ok (.iconst 0, 1) := by decide +kernel
theorem dL_cardUses_2 : decode cL_cardUses 2 = .ok (.aload_n 0, 1) := by decide +kernel
theorem dL_cardUses_3 : decode cL_cardUses 3 = .ok (.iload_n 1, 1) := by decide +kernel
theorem dL_cardUses_4 : decode cL_cardUses 4 = .ok (.invokevirtual 77, 3) := by decide +kernel
theorem dL_cardUses_7 : decode cL_cardUses 7 = .ok (.i2l, 1) := by decide +kernel
theorem dL_cardUses_8 : decode cL_cardUses 8 = .ok (.lastore, 1) := by decide +kernel
theorem dL_cardUses_9 : decode cL_cardUses 9 = .ok (.goto 9, 3) := by decide +kernel
theorem dL_cardUses_12 : decode cL_cardUses 12 = .ok (.astore_n 3, 1) := by decide +kernel
theorem dL_cardUses_13 : decode cL_cardUses 13 = .ok (.iconst 1, 1) := by decide +kernel
theorem dL_cardUses_14 : decode cL_cardUses 14 = .ok (.ireturn, 1) := by decide +kernel
theorem dL_cardUses_15 : decode cL_cardUses 15 = .ok (.astore_n 3, 1) := by decide +kernel
theorem dL_cardUses_16 : decode cL_cardUses 16 = .ok (.iconst 2, 1) := by decide +kernel
theorem dL_cardUses_17 : decode cL_cardUses 17 = .ok (.ireturn, 1) := by decide +kernel
theorem dL_cardUses_18 : decode cL_cardUses 18 = .ok (.iconst 0, 1) := by decide +kernel
theorem dL_cardUses_19 : decode cL_cardUses 19 = .ok (.ireturn, 1) := by decide +kernel
theorem dL_deckDepth_0 : decode cL_deckDepth 0 = .ok (.aload_n 1, 1) := by decide +kernel
theorem dL_deckDepth_1 : decode cL_deckDepth 1 = .ok (.iconst 0, 1) := by decide +kernel
theorem dL_deckDepth_2 : decode cL_deckDepth 2 = .ok (.aload_n 0, 1) := by decide +kernel
theorem dL_deckDepth_3 : decode cL_deckDepth 3 = .ok (.invokevirtual 80, 3) := by decide +kernel
theorem dL_deckDepth_6 : decode cL_deckDepth 6 = .ok (.i2l, 1) := by decide +kernel
theorem dL_deckDepth_7 : decode cL_deckDepth 7 = .ok (.lastore, 1) := by decide +kernel
theorem dL_deckDepth_8 : decode cL_deckDepth 8 = .ok (.goto 6, 3) := by decide +kernel
theorem dL_deckDepth_11 : decode cL_deckDepth 11 = .ok (.astore_n 2, 1) := by decide +kernel
theorem dL_deckDepth_12 : decode cL_deckDepth 12 = .ok (.iconst 1, 1) := by decide +kernel
theorem dL_deckDepth_13 : decode cL_deckDepth 13 = .ok (.ireturn, 1) := by decide +kernel
theorem dL_deckDepth_14 : decode cL_deckDepth 14 = .ok (.iconst 0, 1) := by decide +kernel
theorem dL_deckDepth_15 : decode cL_deckDepth 15 = .ok (.ireturn, 1) := by decide +kernel
theorem dL_deckPeriod_0 : decode cL_deckPeriod 0 = .ok (.aload_n 1, 1) := by decide +kernel
theorem dL_deckPeriod_1 : decode cL_deckPeriod 1 = .ok (.iconst 0, 1) := by decide +kernel
theorem dL_deckPeriod_2 : decode cL_deckPeriod 2 = .ok (.aload_n 0, 1) := by decide +kernel
theorem dL_deckPeriod_3 : decode cL_deckPeriod 3 = .ok (.invokevirtual 83, 3) := by decide +kernel
theorem dL_deckPeriod_6 : decode cL_deckPeriod 6 = .ok (.i2l, 1) := by decide +kernel
theorem dL_deckPeriod_7 : decode cL_deckPeriod 7 = .ok (.lastore, 1) := by decide +kernel
theorem dL_deckPeriod_8 : decode cL_deckPeriod 8 = .ok (.goto 6, 3) := by decide +kernel
theorem dL_deckPeriod_11 : decode cL_deckPeriod 11 = .ok (.astore_n 2, 1) := by decide +kernel
theorem dL_deckPeriod_12 : decode cL_deckPeriod 12 = .ok (.iconst 1, 1) := by decide +kernel
theorem dL_deckPeriod_13 : decode cL_deckPeriod 13 = .ok (.ireturn, 1) := by decide +kernel
theorem dL_deckPeriod_14 : decode cL_deckPeriod 14 = .ok (.iconst 0, 1) := by decide +kernel
theorem dL_deckPeriod_15 : decode cL_deckPeriod 15 = .ok (.ireturn, 1) := by decide +kernel
theorem dL_isPalindrome_0 : decode cL_isPalindrome 0 = .ok (.aload_n 1, 1) := by decide +kernel
theorem dL_isPalindrome_1 : decode cL_isPalindrome 1 = .ok (.iconst 0, 1) := by decide +kernel
theorem dL_isPalindrome_2 : decode cL_isPalindrome 2 = .ok (.aload_n 0, 1) := by decide +kernel
theorem dL_isPalindrome_3 : decode cL_isPalindrome 3 = .ok (.invokevirtual 86, 3) := by decide +kernel
theorem dL_isPalindrome_6 : decode cL_isPalindrome 6 = .ok (.ifCond .eq 7, 3) := by decide +kernel
theorem dL_isPalindrome_9 : decode cL_isPalindrome 9 = .ok (.lconst 1, 1) := by decide +kernel
theorem dL_isPalindrome_10 : decode cL_isPalindrome 10 = .ok (.goto 4, 3) := by decide +kernel
theorem dL_isPalindrome_13 : decode cL_isPalindrome 13 = .ok (.lconst 0, 1) := by decide +kernel
theorem dL_isPalindrome_14 : decode cL_isPalindrome 14 = .ok (.lastore, 1) := by decide +kernel
theorem dL_isPalindrome_15 : decode cL_isPalindrome 15 = .ok (.goto 6, 3) := by decide +kernel
theorem dL_isPalindrome_18 : decode cL_isPalindrome 18 = .ok (.astore_n 2, 1) := by decide +kernel
theorem dL_isPalindrome_19 : decode cL_isPalindrome 19 = .ok (.iconst 1, 1) := by decide +kernel
theorem dL_isPalindrome_20 : decode cL_isPalindrome 20 = .ok (.ireturn, 1) := by decide +kernel
theorem dL_isPalindrome_21 : decode cL_isPalindrome 21 = .ok (.iconst 0, 1) := by decide +kernel
theorem dL_isPalindrome_22 : decode cL_isPalindrome 22 = .ok (.ireturn, 1) := by decide +kernel
theorem dL_rowCount_0 : decode cL_rowCount 0 = .ok (.aload_n 1, 1) := by decide +kernel
theorem dL_rowCount_1 : decode cL_rowCount 1 = .ok (.iconst 0, 1) := by decide +kernel
theorem dL_rowCount_2 : decode cL_rowCount 2 = .ok (.aload_n 0, 1) := by decide +kernel
theorem dL_rowCount_3 : decode cL_rowCount 3 = .ok (.invokevirtual 90, 3) := by decide +kernel
theorem dL_rowCount_6 : decode cL_rowCount 6 = .ok (.i2l, 1) := by decide +kernel
theorem dL_rowCount_7 : decode cL_rowCount 7 = .ok (.lastore, 1) := by decide +kernel
theorem dL_rowCount_8 : decode cL_rowCount 8 = .ok (.goto 6, 3) := by decide +kernel
theorem dL_rowCount_11 : decode cL_rowCount 11 = .ok (.astore_n 2, 1) := by decide +kernel
theorem dL_rowCount_12 : decode cL_rowCount 12 = .ok (.iconst 1, 1) := by decide +kernel
theorem dL_rowCount_13 : decode cL_rowCount 13 = .ok (.ireturn, 1) := by decide +kernel
theorem dL_rowCount_14 : decode cL_rowCount 14 = .ok (.iconst 0, 1) := by decide +kernel
theorem dL_rowCount_15 : decode cL_rowCount 15 = .ok (.ireturn, 1) := by decide +kernel
theorem dL_cellColour_0 : decode cL_cellColour 0 = .ok (.aload_n 3, 1) := by decide +kernel
theorem dL_cellColour_1 : decode cL_cellColour 1 = .ok (.iconst 0, 1) := by decide +kernel
theorem dL_cellColour_2 : decode cL_cellColour 2 = .ok (.aload_n 0, 1) := by decide +kernel
theorem dL_cellColour_3 : decode cL_cellColour 3 = .ok (.iload_n 1, 1) := by decide +kernel
theorem dL_cellColour_4 : decode cL_cellColour 4 = .ok (.iload_n 2, 1) := by decide +kernel
theorem dL_cellColour_5 : decode cL_cellColour 5 = .ok (.invokevirtual 93, 3) := by decide +kernel
theorem dL_cellColour_8 : decode cL_cellColour 8 = .ok (.i2l, 1) := by decide +kernel
theorem dL_cellColour_9 : decode cL_cellColour 9 = .ok (.lastore, 1) := by decide +kernel
theorem dL_cellColour_10 : decode cL_cellColour 10 = .ok (.goto 11, 3) := by decide +kernel
theorem dL_cellColour_13 : decode cL_cellColour 13 = .ok (.astore 4, 2) := by decide +kernel
theorem dL_cellColour_15 : decode cL_cellColour 15 = .ok (.iconst 1, 1) := by decide +kernel
theorem dL_cellColour_16 : decode cL_cellColour 16 = .ok (.ireturn, 1) := by decide +kernel
theorem dL_cellColour_17 : decode cL_cellColour 17 = .ok (.astore 4, 2) := by decide +kernel
theorem dL_cellColour_19 : decode cL_cellColour 19 = .ok (.iconst 2, 1) := by decide +kernel
theorem dL_cellColour_20 : decode cL_cellColour 20 = .ok (.ireturn, 1) := by decide +kernel
theorem dL_cellColour_21 : decode cL_cellColour 21 = .ok (.iconst 0, 1) := by decide +kernel
theorem dL_cellColour_22 : decode cL_cellColour 22 = .ok (.ireturn, 1) := by decide +kernel
theorem dL_showsWarp_0 : decode cL_showsWarp 0 = .ok (.aload_n 3, 1) := by decide +kernel
theorem dL_showsWarp_1 : decode cL_showsWarp 1 = .ok (.iconst 0, 1) := by decide +kernel
theorem dL_showsWarp_2 : decode cL_showsWarp 2 = .ok (.aload_n 0, 1) := by decide +kernel
theorem dL_showsWarp_3 : decode cL_showsWarp 3 = .ok (.iload_n 1, 1) := by decide +kernel
theorem dL_showsWarp_4 : decode cL_showsWarp 4 = .ok (.iload_n 2, 1) := by decide +kernel
theorem dL_showsWarp_5 : decode cL_showsWarp 5 = .ok (.invokevirtual 96, 3) := by decide +kernel
theorem dL_showsWarp_8 : decode cL_showsWarp 8 = .ok (.ifCond .eq 7, 3) := by decide +kernel
theorem dL_showsWarp_11 : decode cL_showsWarp 11 = .ok (.lconst 1, 1) := by decide +kernel
theorem dL_showsWarp_12 : decode cL_showsWarp 12 = .ok (.goto 4, 3) := by decide +kernel
theorem dL_showsWarp_15 : decode cL_showsWarp 15 = .ok (.lconst 0, 1) := by decide +kernel
theorem dL_showsWarp_16 : decode cL_showsWarp 16 = .ok (.lastore, 1) := by decide +kernel
theorem dL_showsWarp_17 : decode cL_showsWarp 17 = .ok (.goto 11, 3) := by decide +kernel
theorem dL_showsWarp_20 : decode cL_showsWarp 20 = .ok (.astore 4, 2) := by decide +kernel
theorem dL_showsWarp_22 : decode cL_showsWarp 22 = .ok (.iconst 1, 1) := by decide +kernel
theorem dL_showsWarp_23 : decode cL_showsWarp 23 = .ok (.ireturn, 1) := by decide +kernel
theorem dL_showsWarp_24 : decode cL_showsWarp 24 = .ok (.astore 4, 2) := by decide +kernel
theorem dL_showsWarp_26 : decode cL_showsWarp 26 = .ok (.iconst 2, 1) := by decide +kernel
theorem dL_showsWarp_27 : decode cL_showsWarp 27 = .ok (.ireturn, 1) := by decide +kernel
theorem dL_showsWarp_28 : decode cL_showsWarp 28 = .ok (.iconst 0, 1) := by decide +kernel
theorem dL_showsWarp_29 : decode cL_showsWarp 29 = .ok (.ireturn, 1) := by decide +kernel
theorem dL_longestWarpFloat_0 : decode cL_longestWarpFloat 0 = .ok (.aload_n 2, 1) := by decide +kernel
theorem dL_longestWarpFloat_1 : decode cL_longestWarpFloat 1 = .ok (.iconst 0, 1) := by decide +kernel
theorem dL_longestWarpFloat_2 : decode cL_longestWarpFloat 2 = .ok (.aload_n 0, 1) := by decide +kernel
theorem dL_longestWarpFloat_3 : decode cL_longestWarpFloat 3 = .ok (.iload_n 1, 1) := by decide +kernel
theorem dL_longestWarpFloat_4 : decode cL_longestWarpFloat 4 = .ok (.invokevirtual 99, 3) := by decide +kernel
theorem dL_longestWarpFloat_7 : decode cL_longestWarpFloat 7 = .ok (.i2l, 1) := by decide +kernel
theorem dL_longestWarpFloat_8 : decode cL_longestWarpFloat 8 = .ok (.lastore, 1) := by decide +kernel
theorem dL_longestWarpFloat_9 : decode cL_longestWarpFloat 9 = .ok (.goto 9, 3) := by decide +kernel
theorem dL_longestWarpFloat_12 : decode cL_longestWarpFloat 12 = .ok (.astore_n 3, 1) := by decide +kernel
theorem dL_longestWarpFloat_13 : decode cL_longestWarpFloat 13 = .ok (.iconst 1, 1) := by decide +kernel
theorem dL_longestWarpFloat_14 : decode cL_longestWarpFloat 14 = .ok (.ireturn, 1) := by decide +kernel
theorem dL_longestWarpFloat_15 : decode cL_longestWarpFloat 15 = .ok (.astore_n 3, 1) := by decide +kernel
theorem dL_longestWarpFloat_16 : decode cL_longestWarpFloat 16 = .ok (.iconst 2, 1) := by decide +kernel
theorem dL_longestWarpFloat_17 : decode cL_longestWarpFloat 17 = .ok (.ireturn, 1) := by decide +kernel
theorem dL_longestWarpFloat_18 : decode cL_longestWarpFloat 18 = .ok (.iconst 0, 1) := by decide +kernel
theorem dL_longestWarpFloat_19 : decode cL_longestWarpFloat 19 = .ok (.ireturn, 1) := by decide +kernel
theorem dL_longestWeftFloat_0 : decode cL_longestWeftFloat 0 = .ok (.aload_n 2, 1) := by decide +kernel
theorem dL_longestWeftFloat_1 : decode cL_longestWeftFloat 1 = .ok (.iconst 0, 1) := by decide +kernel
theorem dL_longestWeftFloat_2 : decode cL_longestWeftFloat 2 = .ok (.aload_n 0, 1) := by decide +kernel
theorem dL_longestWeftFloat_3 : decode cL_longestWeftFloat 3 = .ok (.iload_n 1, 1) := by decide +kernel
theorem dL_longestWeftFloat_4 : decode cL_longestWeftFloat 4 = .ok (.invokevirtual 102, 3) := by decide +kernel
theorem dL_longestWeftFloat_7 : decode cL_longestWeftFloat 7 = .ok (.i2l, 1) := by decide +kernel
theorem dL_longestWeftFloat_8 : decode cL_longestWeftFloat 8 = .ok (.lastore, 1) := by decide +kernel
theorem dL_longestWeftFloat_9 : decode cL_longestWeftFloat 9 = .ok (.goto 9, 3) := by decide +kernel
theorem dL_longestWeftFloat_12 : decode cL_longestWeftFloat 12 = .ok (.astore_n 3, 1) := by decide +kernel
theorem dL_longestWeftFloat_13 : decode cL_longestWeftFloat 13 = .ok (.iconst 1, 1) := by decide +kernel
theorem dL_longestWeftFloat_14 : decode cL_longestWeftFloat 14 = .ok (.ireturn, 1) := by decide +kernel
theorem dL_longestWeftFloat_15 : decode cL_longestWeftFloat 15 = .ok (.astore_n 3, 1) := by decide +kernel
theorem dL_longestWeftFloat_16 : decode cL_longestWeftFloat 16 = .ok (.iconst 2, 1) := by decide +kernel
theorem dL_longestWeftFloat_17 : decode cL_longestWeftFloat 17 = .ok (.ireturn, 1) := by decide +kernel
theorem dL_longestWeftFloat_18 : decode cL_longestWeftFloat 18 = .ok (.iconst 0, 1) := by decide +kernel
theorem dL_longestWeftFloat_19 : decode cL_longestWeftFloat 19 = .ok (.ireturn, 1) := by decide +kernel
theorem dL_cellsOfColour_0 : decode cL_cellsOfColour 0 = .ok (.aload_n 2, 1) := by decide +kernel
theorem dL_cellsOfColour_1 : decode cL_cellsOfColour 1 = .ok (.iconst 0, 1) := by decide +kernel
theorem dL_cellsOfColour_2 : decode cL_cellsOfColour 2 = .ok (.aload_n 0, 1) := by decide +kernel
theorem dL_cellsOfColour_3 : decode cL_cellsOfColour 3 = .ok (.iload_n 1, 1) := by decide +kernel
theorem dL_cellsOfColour_4 : decode cL_cellsOfColour 4 = .ok (.invokevirtual 105, 3) := by decide +kernel
theorem dL_cellsOfColour_7 : decode cL_cellsOfColour 7 = .ok (.i2l, 1) := by decide +kernel
theorem dL_cellsOfColour_8 : decode cL_cellsOfColour 8 = .ok (.lastore, 1) := by decide +kernel
theorem dL_cellsOfColour_9 : decode cL_cellsOfColour 9 = .ok (.goto 9, 3) := by decide +kernel
theorem dL_cellsOfColour_12 : decode cL_cellsOfColour 12 = .ok (.astore_n 3, 1) := by decide +kernel
theorem dL_cellsOfColour_13 : decode cL_cellsOfColour 13 = .ok (.iconst 1, 1) := by decide +kernel
theorem dL_cellsOfColour_14 : decode cL_cellsOfColour 14 = .ok (.ireturn, 1) := by decide +kernel
theorem dL_cellsOfColour_15 : decode cL_cellsOfColour 15 = .ok (.astore_n 3, 1) := by decide +kernel
theorem dL_cellsOfColour_16 : decode cL_cellsOfColour 16 = .ok (.iconst 2, 1) := by decide +kernel
theorem dL_cellsOfColour_17 : decode cL_cellsOfColour 17 = .ok (.ireturn, 1) := by decide +kernel
theorem dL_cellsOfColour_18 : decode cL_cellsOfColour 18 = .ok (.iconst 0, 1) := by decide +kernel
theorem dL_cellsOfColour_19 : decode cL_cellsOfColour 19 = .ok (.ireturn, 1) := by decide +kernel
theorem dL_rowPeriod_0 : decode cL_rowPeriod 0 = .ok (.aload_n 1, 1) := by decide +kernel
theorem dL_rowPeriod_1 : decode cL_rowPeriod 1 = .ok (.iconst 0, 1) := by decide +kernel
theorem dL_rowPeriod_2 : decode cL_rowPeriod 2 = .ok (.aload_n 0, 1) := by decide +kernel
theorem dL_rowPeriod_3 : decode cL_rowPeriod 3 = .ok (.invokevirtual 108, 3) := by decide +kernel
theorem dL_rowPeriod_6 : decode cL_rowPeriod 6 = .ok (.i2l, 1) := by decide +kernel
theorem dL_rowPeriod_7 : decode cL_rowPeriod 7 = .ok (.lastore, 1) := by decide +kernel
theorem dL_rowPeriod_8 : decode cL_rowPeriod 8 = .ok (.goto 6, 3) := by decide +kernel
theorem dL_rowPeriod_11 : decode cL_rowPeriod 11 = .ok (.astore_n 2, 1) := by decide +kernel
theorem dL_rowPeriod_12 : decode cL_rowPeriod 12 = .ok (.iconst 1, 1) := by decide +kernel
theorem dL_rowPeriod_13 : decode cL_rowPeriod 13 = .ok (.ireturn, 1) := by decide +kernel
theorem dL_rowPeriod_14 : decode cL_rowPeriod 14 = .ok (.iconst 0, 1) := by decide +kernel
theorem dL_rowPeriod_15 : decode cL_rowPeriod 15 = .ok (.ireturn, 1) := by decide +kernel
theorem dL_warpShare_0 : decode cL_warpShare 0 = .ok (.aload_n 1, 1) := by decide +kernel
theorem dL_warpShare_1 : decode cL_warpShare 1 = .ok (.iconst 0, 1) := by decide +kernel
theorem dL_warpShare_2 : decode cL_warpShare 2 = .ok (.aload_n 0, 1) := by decide +kernel
theorem dL_warpShare_3 : decode cL_warpShare 3 = .ok (.invokevirtual 111, 3) := by decide +kernel
theorem dL_warpShare_6 : decode cL_warpShare 6 = .ok (.f2d, 1) := by decide +kernel
theorem dL_warpShare_7 : decode cL_warpShare 7 = .ok (.dastore, 1) := by decide +kernel
theorem dL_warpShare_8 : decode cL_warpShare 8 = .ok (.goto 6, 3) := by decide +kernel
theorem dL_warpShare_11 : decode cL_warpShare 11 = .ok (.astore_n 2, 1) := by decide +kernel
theorem dL_warpShare_12 : decode cL_warpShare 12 = .ok (.iconst 1, 1) := by decide +kernel
theorem dL_warpShare_13 : decode cL_warpShare 13 = .ok (.ireturn, 1) := by decide +kernel
theorem dL_warpShare_14 : decode cL_warpShare 14 = .ok (.iconst 0, 1) := by decide +kernel
theorem dL_warpShare_15 : decode cL_warpShare 15 = .ok (.ireturn, 1) := by decide +kernel
theorem dL_averageLifts_0 : decode cL_averageLifts 0 = .ok (.aload_n 1, 1) := by decide +kernel
theorem dL_averageLifts_1 : decode cL_averageLifts 1 = .ok (.iconst 0, 1) := by decide +kernel
theorem dL_averageLifts_2 : decode cL_averageLifts 2 = .ok (.aload_n 0, 1) := by decide +kernel
theorem dL_averageLifts_3 : decode cL_averageLifts 3 = .ok (.invokevirtual 115, 3) := by decide +kernel
theorem dL_averageLifts_6 : decode cL_averageLifts 6 = .ok (.dastore, 1) := by decide +kernel
theorem dL_averageLifts_7 : decode cL_averageLifts 7 = .ok (.goto 6, 3) := by decide +kernel
theorem dL_averageLifts_10 : decode cL_averageLifts 10 = .ok (.astore_n 2, 1) := by decide +kernel
theorem dL_averageLifts_11 : decode cL_averageLifts 11 = .ok (.iconst 1, 1) := by decide +kernel
theorem dL_averageLifts_12 : decode cL_averageLifts 12 = .ok (.ireturn, 1) := by decide +kernel
theorem dL_averageLifts_13 : decode cL_averageLifts 13 = .ok (.iconst 0, 1) := by decide +kernel
theorem dL_averageLifts_14 : decode cL_averageLifts 14 = .ok (.ireturn, 1) := by decide +kernel
theorem dL_isWrong_0 : decode cL_isWrong 0 = .ok (.aload_n 2, 1) := by decide +kernel
theorem dL_isWrong_1 : decode cL_isWrong 1 = .ok (.iconst 0, 1) := by decide +kernel
theorem dL_isWrong_2 : decode cL_isWrong 2 = .ok (.aload_n 0, 1) := by decide +kernel
theorem dL_isWrong_3 : decode cL_isWrong 3 = .ok (.iload_n 1, 1) := by decide +kernel
theorem dL_isWrong_4 : decode cL_isWrong 4 = .ok (.invokevirtual 119, 3) := by decide +kernel
theorem dL_isWrong_7 : decode cL_isWrong 7 = .ok (.ifCond .eq 7, 3) := by decide +kernel
theorem dL_isWrong_10 : decode cL_isWrong 10 = .ok (.lconst 1, 1) := by decide +kernel
theorem dL_isWrong_11 : decode cL_isWrong 11 = .ok (.goto 4, 3) := by decide +kernel
theorem dL_isWrong_14 : decode cL_isWrong 14 = .ok (.lconst 0, 1) := by decide +kernel
theorem dL_isWrong_15 : decode cL_isWrong 15 = .ok (.lastore, 1) := by decide +kernel
theorem dL_isWrong_16 : decode cL_isWrong 16 = .ok (.goto 9, 3) := by decide +kernel
theorem dL_isWrong_19 : decode cL_isWrong 19 = .ok (.astore_n 3, 1) := by decide +kernel
theorem dL_isWrong_20 : decode cL_isWrong 20 = .ok (.iconst 1, 1) := by decide +kernel
theorem dL_isWrong_21 : decode cL_isWrong 21 = .ok (.ireturn, 1) := by decide +kernel
theorem dL_isWrong_22 : decode cL_isWrong 22 = .ok (.astore_n 3, 1) := by decide +kernel
theorem dL_isWrong_23 : decode cL_isWrong 23 = .ok (.iconst 2, 1) := by decide +kernel
theorem dL_isWrong_24 : decode cL_isWrong 24 = .ok (.ireturn, 1) := by decide +kernel
theorem dL_isWrong_25 : decode cL_isWrong 25 = .ok (.iconst 0, 1) := by decide +kernel
theorem dL_isWrong_26 : decode cL_isWrong 26 = .ok (.ireturn, 1) := by decide +kernel
theorem dL_wrongCount_0 : decode cL_wrongCount 0 = .ok (.aload_n 1, 1) := by decide +kernel
theorem dL_wrongCount_1 : decode cL_wrongCount 1 = .ok (.iconst 0, 1) := by decide +kernel
theorem dL_wrongCount_2 : decode cL_wrongCount 2 = .ok (.aload_n 0, 1) := by decide +kernel
theorem dL_wrongCount_3 : decode cL_wrongCount 3 = .ok (.invokevirtual 122, 3) := by decide +kernel
theorem dL_wrongCount_6 : decode cL_wrongCount 6 = .ok (.i2l, 1) := by decide +kernel
theorem dL_wrongCount_7 : decode cL_wrongCount 7 = .ok (.lastore, 1) := by decide +kernel
theorem dL_wrongCount_8 : decode cL_wrongCount 8 = .ok (.goto 6, 3) := by decide +kernel
theorem dL_wrongCount_11 : decode cL_wrongCount 11 = .ok (.astore_n 2, 1) := by decide +kernel
theorem dL_wrongCount_12 : decode cL_wrongCount 12 = .ok (.iconst 1, 1) := by decide +kernel
theorem dL_wrongCount_13 : decode cL_wrongCount 13 = .ok (.ireturn, 1) := by decide +kernel
theorem dL_wrongCount_14 : decode cL_wrongCount 14 = .ok (.iconst 0, 1) := by decide +kernel
theorem dL_wrongCount_15 : decode cL_wrongCount 15 = .ok (.ireturn, 1) := by decide +kernel
theorem dL_firstWrongRow_0 : decode cL_firstWrongRow 0 = .ok (.aload_n 1, 1) := by decide +kernel
theorem dL_firstWrongRow_1 : decode cL_firstWrongRow 1 = .ok (.iconst 0, 1) := by decide +kernel
theorem dL_firstWrongRow_2 : decode cL_firstWrongRow 2 = .ok (.aload_n 0, 1) := by decide +kernel
theorem dL_firstWrongRow_3 : decode cL_firstWrongRow 3 = .ok (.invokevirtual 125, 3) := by decide +kernel
theorem dL_firstWrongRow_6 : decode cL_firstWrongRow 6 = .ok (.i2l, 1) := by decide +kernel
theorem dL_firstWrongRow_7 : decode cL_firstWrongRow 7 = .ok (.lastore, 1) := by decide +kernel
theorem dL_firstWrongRow_8 : decode cL_firstWrongRow 8 = .ok (.goto 6, 3) := by decide +kernel
theorem dL_firstWrongRow_11 : decode cL_firstWrongRow 11 = .ok (.astore_n 2, 1) := by decide +kernel
theorem dL_firstWrongRow_12 : decode cL_firstWrongRow 12 = .ok (.iconst 1, 1) := by decide +kernel
theorem dL_firstWrongRow_13 : decode cL_firstWrongRow 13 = .ok (.ireturn, 1) := by decide +kernel
theorem dL_firstWrongRow_14 : decode cL_firstWrongRow 14 = .ok (.iconst 0, 1) := by decide +kernel
theorem dL_firstWrongRow_15 : decode cL_firstWrongRow 15 = .ok (.ireturn, 1) := by decide +kernel
theorem dL_swapFirst_0 : decode cL_swapFirst 0 = .ok (.aload_n 1, 1) := by decide +kernel
theorem dL_swapFirst_1 : decode cL_swapFirst 1 = .ok (.iconst 0, 1) := by decide +kernel
theorem dL_swapFirst_2 : decode cL_swapFirst 2 = .ok (.aload_n 0, 1) := by decide +kernel
theorem dL_swapFirst_3 : decode cL_swapFirst 3 = .ok (.invokevirtual 128, 3) := by decide +kernel
theorem dL_swapFirst_6 : decode cL_swapFirst 6 = .ok (.i2l, 1) := by decide +kernel
theorem dL_swapFirst_7 : decode cL_swapFirst 7 = .ok (.lastore, 1) := by decide +kernel
theorem dL_swapFirst_8 : decode cL_swapFirst 8 = .ok (.goto 6, 3) := by decide +kernel
theorem dL_swapFirst_11 : decode cL_swapFirst 11 = .ok (.astore_n 2, 1) := by decide +kernel
theorem dL_swapFirst_12 : decode cL_swapFirst 12 = .ok (.iconst 1, 1) := by decide +kernel
theorem dL_swapFirst_13 : decode cL_swapFirst 13 = .ok (.ireturn, 1) := by decide +kernel
theorem dL_swapFirst_14 : decode cL_swapFirst 14 = .ok (.iconst 0, 1) := by decide +kernel
theorem dL_swapFirst_15 : decode cL_swapFirst 15 = .ok (.ireturn, 1) := by decide +kernel
theorem dL_swapSecond_0 : decode cL_swapSecond 0 = .ok (.aload_n 1, 1) := by decide +kernel
theorem dL_swapSecond_1 : decode cL_swapSecond 1 = .ok (.iconst 0, 1) := by decide +kernel
theorem dL_swapSecond_2 : decode cL_swapSecond 2 = .ok (.aload_n 0, 1) := by decide +kernel
theorem dL_swapSecond_3 : decode cL_swapSecond 3 = .ok (.invokevirtual 131, 3) := by decide +kernel
theorem dL_swapSecond_6 : decode cL_swapSecond 6 = .ok (.i2l, 1) := by decide +kernel
theorem dL_swapSecond_7 : decode cL_swapSecond 7 = .ok (.lastore, 1) := by decide +kernel
theorem dL_swapSecond_8 : decode cL_swapSecond 8 = .ok (.goto 6, 3) := by decide +kernel
theorem dL_swapSecond_11 : decode cL_swapSecond 11 = .ok (.astore_n 2, 1) := by decide +kernel
theorem dL_swapSecond_12 : decode cL_swapSecond 12 = .ok (.iconst 1, 1) := by decide +kernel
theorem dL_swapSecond_13 : decode cL_swapSecond 13 = .ok (.ireturn, 1) := by decide +kernel
theorem dL_swapSecond_14 : decode cL_swapSecond 14 = .ok (.iconst 0, 1) := by decide +kernel
theorem dL_swapSecond_15 : decode cL_swapSecond 15 = .ok (.ireturn, 1) := by decide +kernel
theorem dL_yarn_0 : decode cL_yarn 0 = .ok (.aload_n 2, 1) := by decide +kernel
theorem dL_yarn_1 : decode cL_yarn 1 = .ok (.iconst 0, 1) := by decide +kernel
theorem dL_yarn_2 : decode cL_yarn 2 = .ok (.aload_n 0, 1) := by decide +kernel
theorem dL_yarn_3 : decode cL_yarn 3 = .ok (.iload_n 1, 1) := by decide +kernel
theorem dL_yarn_4 : decode cL_yarn 4 = .ok (.invokevirtual 134, 3) := by decide +kernel
theorem dL_yarn_7 : decode cL_yarn 7 = .ok (.i2l, 1) := by decide +kernel
theorem dL_yarn_8 : decode cL_yarn 8 = .ok (.lastore, 1) := by decide +kernel
theorem dL_yarn_9 : decode cL_yarn 9 = .ok (.goto 9, 3) := by decide +kernel
theorem dL_yarn_12 : decode cL_yarn 12 = .ok (.astore_n 3, 1) := by decide +kernel
theorem dL_yarn_13 : decode cL_yarn 13 = .ok (.iconst 1, 1) := by decide +kernel
theorem dL_yarn_14 : decode cL_yarn 14 = .ok (.ireturn, 1) := by decide +kernel
theorem dL_yarn_15 : decode cL_yarn 15 = .ok (.astore_n 3, 1) := by decide +kernel
theorem dL_yarn_16 : decode cL_yarn 16 = .ok (.iconst 2, 1) := by decide +kernel
theorem dL_yarn_17 : decode cL_yarn 17 = .ok (.ireturn, 1) := by decide +kernel
theorem dL_yarn_18 : decode cL_yarn 18 = .ok (.iconst 0, 1) := by decide +kernel
theorem dL_yarn_19 : decode cL_yarn 19 = .ok (.ireturn, 1) := by decide +kernel
theorem dL_yarnNeeded_0 : decode cL_yarnNeeded 0 = .ok (.aload_n 2, 1) := by decide +kernel
theorem dL_yarnNeeded_1 : decode cL_yarnNeeded 1 = .ok (.iconst 0, 1) := by decide +kernel
theorem dL_yarnNeeded_2 : decode cL_yarnNeeded 2 = .ok (.aload_n 0, 1) := by decide +kernel
theorem dL_yarnNeeded_3 : decode cL_yarnNeeded 3 = .ok (.iload_n 1, 1) := by decide +kernel
theorem dL_yarnNeeded_4 : decode cL_yarnNeeded 4 = .ok (.invokevirtual 137, 3) := by decide +kernel
theorem dL_yarnNeeded_7 : decode cL_yarnNeeded 7 = .ok (.i2l, 1) := by decide +kernel
theorem dL_yarnNeeded_8 : decode cL_yarnNeeded 8 = .ok (.lastore, 1) := by decide +kernel
theorem dL_yarnNeeded_9 : decode cL_yarnNeeded 9 = .ok (.goto 9, 3) := by decide +kernel
theorem dL_yarnNeeded_12 : decode cL_yarnNeeded 12 = .ok (.astore_n 3, 1) := by decide +kernel
theorem dL_yarnNeeded_13 : decode cL_yarnNeeded 13 = .ok (.iconst 1, 1) := by decide +kernel
theorem dL_yarnNeeded_14 : decode cL_yarnNeeded 14 = .ok (.ireturn, 1) := by decide +kernel
theorem dL_yarnNeeded_15 : decode cL_yarnNeeded 15 = .ok (.astore_n 3, 1) := by decide +kernel
theorem dL_yarnNeeded_16 : decode cL_yarnNeeded 16 = .ok (.iconst 2, 1) := by decide +kernel
theorem dL_yarnNeeded_17 : decode cL_yarnNeeded 17 = .ok (.ireturn, 1) := by decide +kernel
theorem dL_yarnNeeded_18 : decode cL_yarnNeeded 18 = .ok (.iconst 0, 1) := by decide +kernel
theorem dL_yarnNeeded_19 : decode cL_yarnNeeded 19 = .ok (.ireturn, 1) := by decide +kernel
theorem dL_nextCard_0 : decode cL_nextCard 0 = .ok (.aload_n 1, 1) := by decide +kernel
theorem dL_nextCard_1 : decode cL_nextCard 1 = .ok (.iconst 0, 1) := by decide +kernel
theorem dL_nextCard_2 : decode cL_nextCard 2 = .ok (.aload_n 0, 1) := by decide +kernel
theorem dL_nextCard_3 : decode cL_nextCard 3 = .ok (.invokevirtual 140, 3) := by decide +kernel
theorem dL_nextCard_6 : decode cL_nextCard 6 = .ok (.i2l, 1) := by decide +kernel
theorem dL_nextCard_7 : decode cL_nextCard 7 = .ok (.lastore, 1) := by decide +kernel
theorem dL_nextCard_8 : decode cL_nextCard 8 = .ok (.goto 6, 3) := by decide +kernel
theorem dL_nextCard_11 : decode cL_nextCard 11 = .ok (.astore_n 2, 1) := by decide +kernel
theorem dL_nextCard_12 : decode cL_nextCard 12 = .ok (.iconst 1, 1) := by decide +kernel
theorem dL_nextCard_13 : decode cL_nextCard 13 = .ok (.ireturn, 1) := by decide +kernel
theorem dL_nextCard_14 : decode cL_nextCard 14 = .ok (.iconst 0, 1) := by decide +kernel
theorem dL_nextCard_15 : decode cL_nextCard 15 = .ok (.ireturn, 1) := by decide +kernel
theorem dL_weaveObstacle_0 : decode cL_weaveObstacle 0 = .ok (.aload_n 1, 1) := by decide +kernel
theorem dL_weaveObstacle_1 : decode cL_weaveObstacle 1 = .ok (.iconst 0, 1) := by decide +kernel
theorem dL_weaveObstacle_2 : decode cL_weaveObstacle 2 = .ok (.aload_n 0, 1) := by decide +kernel
theorem dL_weaveObstacle_3 : decode cL_weaveObstacle 3 = .ok (.invokevirtual 143, 3) := by decide +kernel
theorem dL_weaveObstacle_6 : decode cL_weaveObstacle 6 = .ok (.i2l, 1) := by decide +kernel
theorem dL_weaveObstacle_7 : decode cL_weaveObstacle 7 = .ok (.lastore, 1) := by decide +kernel
theorem dL_weaveObstacle_8 : decode cL_weaveObstacle 8 = .ok (.goto 6, 3) := by decide +kernel
theorem dL_weaveObstacle_11 : decode cL_weaveObstacle 11 = .ok (.astore_n 2, 1) := by decide +kernel
theorem dL_weaveObstacle_12 : decode cL_weaveObstacle 12 = .ok (.iconst 1, 1) := by decide +kernel
theorem dL_weaveObstacle_13 : decode cL_weaveObstacle 13 = .ok (.ireturn, 1) := by decide +kernel
theorem dL_weaveObstacle_14 : decode cL_weaveObstacle 14 = .ok (.iconst 0, 1) := by decide +kernel
theorem dL_weaveObstacle_15 : decode cL_weaveObstacle 15 = .ok (.ireturn, 1) := by decide +kernel
theorem dL_picksPossible_0 : decode cL_picksPossible 0 = .ok (.aload_n 1, 1) := by decide +kernel
theorem dL_picksPossible_1 : decode cL_picksPossible 1 = .ok (.iconst 0, 1) := by decide +kernel
theorem dL_picksPossible_2 : decode cL_picksPossible 2 = .ok (.aload_n 0, 1) := by decide +kernel
theorem dL_picksPossible_3 : decode cL_picksPossible 3 = .ok (.invokevirtual 146, 3) := by decide +kernel
theorem dL_picksPossible_6 : decode cL_picksPossible 6 = .ok (.i2l, 1) := by decide +kernel
theorem dL_picksPossible_7 : decode cL_picksPossible 7 = .ok (.lastore, 1) := by decide +kernel
theorem dL_picksPossible_8 : decode cL_picksPossible 8 = .ok (.goto 6, 3) := by decide +kernel
theorem dL_picksPossible_11 : decode cL_picksPossible 11 = .ok (.astore_n 2, 1) := by decide +kernel
theorem dL_picksPossible_12 : decode cL_picksPossible 12 = .ok (.iconst 1, 1) := by decide +kernel
theorem dL_picksPossible_13 : decode cL_picksPossible 13 = .ok (.ireturn, 1) := by decide +kernel
theorem dL_picksPossible_14 : decode cL_picksPossible 14 = .ok (.iconst 0, 1) := by decide +kernel
theorem dL_picksPossible_15 : decode cL_picksPossible 15 = .ok (.ireturn, 1) := by decide +kernel
theorem dL_picksUntilStuck_0 : decode cL_picksUntilStuck 0 = .ok (.aload_n 1, 1) := by decide +kernel
theorem dL_picksUntilStuck_1 : decode cL_picksUntilStuck 1 = .ok (.iconst 0, 1) := by decide +kernel
theorem dL_picksUntilStuck_2 : decode cL_picksUntilStuck 2 = .ok (.aload_n 0, 1) := by decide +kernel
theorem dL_picksUntilStuck_3 : decode cL_picksUntilStuck 3 = .ok (.invokevirtual 149, 3) := by decide +kernel
theorem dL_picksUntilStuck_6 : decode cL_picksUntilStuck 6 = .ok (.i2l, 1) := by decide +kernel
theorem dL_picksUntilStuck_7 : decode cL_picksUntilStuck 7 = .ok (.lastore, 1) := by decide +kernel
theorem dL_picksUntilStuck_8 : decode cL_picksUntilStuck 8 = .ok (.goto 6, 3) := by decide +kernel
theorem dL_picksUntilStuck_11 : decode cL_picksUntilStuck 11 = .ok (.astore_n 2, 1) := by decide +kernel
theorem dL_picksUntilStuck_12 : decode cL_picksUntilStuck 12 = .ok (.iconst 1, 1) := by decide +kernel
theorem dL_picksUntilStuck_13 : decode cL_picksUntilStuck 13 = .ok (.ireturn, 1) := by decide +kernel
theorem dL_picksUntilStuck_14 : decode cL_picksUntilStuck 14 = .ok (.iconst 0, 1) := by decide +kernel
theorem dL_picksUntilStuck_15 : decode cL_picksUntilStuck 15 = .ok (.ireturn, 1) := by decide +kernel
theorem dL_imbalance_0 : decode cL_imbalance 0 = .ok (.aload_n 1, 1) := by decide +kernel
theorem dL_imbalance_1 : decode cL_imbalance 1 = .ok (.iconst 0, 1) := by decide +kernel
theorem dL_imbalance_2 : decode cL_imbalance 2 = .ok (.aload_n 0, 1) := by decide +kernel
theorem dL_imbalance_3 : decode cL_imbalance 3 = .ok (.invokevirtual 152, 3) := by decide +kernel
theorem dL_imbalance_6 : decode cL_imbalance 6 = .ok (.i2l, 1) := by decide +kernel
theorem dL_imbalance_7 : decode cL_imbalance 7 = .ok (.lastore, 1) := by decide +kernel
theorem dL_imbalance_8 : decode cL_imbalance 8 = .ok (.goto 6, 3) := by decide +kernel
theorem dL_imbalance_11 : decode cL_imbalance 11 = .ok (.astore_n 2, 1) := by decide +kernel
theorem dL_imbalance_12 : decode cL_imbalance 12 = .ok (.iconst 1, 1) := by decide +kernel
theorem dL_imbalance_13 : decode cL_imbalance 13 = .ok (.ireturn, 1) := by decide +kernel
theorem dL_imbalance_14 : decode cL_imbalance 14 = .ok (.iconst 0, 1) := by decide +kernel
theorem dL_imbalance_15 : decode cL_imbalance 15 = .ok (.ireturn, 1) := by decide +kernel
theorem dL_writeRow_0 : decode cL_writeRow 0 = .ok (.aload_n 2, 1) := by decide +kernel
theorem dL_writeRow_1 : decode cL_writeRow 1 = .ok (.iconst 0, 1) := by decide +kernel
theorem dL_writeRow_2 : decode cL_writeRow 2 = .ok (.aload_n 0, 1) := by decide +kernel
theorem dL_writeRow_3 : decode cL_writeRow 3 = .ok (.iload_n 1, 1) := by decide +kernel
theorem dL_writeRow_4 : decode cL_writeRow 4 = .ok (.invokevirtual 155, 3) := by decide +kernel
theorem dL_writeRow_7 : decode cL_writeRow 7 = .ok (.i2l, 1) := by decide +kernel
theorem dL_writeRow_8 : decode cL_writeRow 8 = .ok (.lastore, 1) := by decide +kernel
theorem dL_writeRow_9 : decode cL_writeRow 9 = .ok (.goto 9, 3) := by decide +kernel
theorem dL_writeRow_12 : decode cL_writeRow 12 = .ok (.astore_n 3, 1) := by decide +kernel
theorem dL_writeRow_13 : decode cL_writeRow 13 = .ok (.iconst 1, 1) := by decide +kernel
theorem dL_writeRow_14 : decode cL_writeRow 14 = .ok (.ireturn, 1) := by decide +kernel
theorem dL_writeRow_15 : decode cL_writeRow 15 = .ok (.astore_n 3, 1) := by decide +kernel
theorem dL_writeRow_16 : decode cL_writeRow 16 = .ok (.iconst 2, 1) := by decide +kernel
theorem dL_writeRow_17 : decode cL_writeRow 17 = .ok (.ireturn, 1) := by decide +kernel
theorem dL_writeRow_18 : decode cL_writeRow 18 = .ok (.iconst 0, 1) := by decide +kernel
theorem dL_writeRow_19 : decode cL_writeRow 19 = .ok (.ireturn, 1) := by decide +kernel
theorem dL_writeCard_0 : decode cL_writeCard 0 = .ok (.aload_n 2, 1) := by decide +kernel
theorem dL_writeCard_1 : decode cL_writeCard 1 = .ok (.iconst 0, 1) := by decide +kernel
theorem dL_writeCard_2 : decode cL_writeCard 2 = .ok (.aload_n 0, 1) := by decide +kernel
theorem dL_writeCard_3 : decode cL_writeCard 3 = .ok (.iload_n 1, 1) := by decide +kernel
theorem dL_writeCard_4 : decode cL_writeCard 4 = .ok (.invokevirtual 158, 3) := by decide +kernel
theorem dL_writeCard_7 : decode cL_writeCard 7 = .ok (.i2l, 1) := by decide +kernel
theorem dL_writeCard_8 : decode cL_writeCard 8 = .ok (.lastore, 1) := by decide +kernel
theorem dL_writeCard_9 : decode cL_writeCard 9 = .ok (.goto 9, 3) := by decide +kernel
theorem dL_writeCard_12 : decode cL_writeCard 12 = .ok (.astore_n 3, 1) := by decide +kernel
theorem dL_writeCard_13 : decode cL_writeCard 13 = .ok (.iconst 1, 1) := by decide +kernel
theorem dL_writeCard_14 : decode cL_writeCard 14 = .ok (.ireturn, 1) := by decide +kernel
theorem dL_writeCard_15 : decode cL_writeCard 15 = .ok (.astore_n 3, 1) := by decide +kernel
theorem dL_writeCard_16 : decode cL_writeCard 16 = .ok (.iconst 2, 1) := by decide +kernel
theorem dL_writeCard_17 : decode cL_writeCard 17 = .ok (.ireturn, 1) := by decide +kernel
theorem dL_writeCard_18 : decode cL_writeCard 18 = .ok (.iconst 0, 1) := by decide +kernel
theorem dL_writeCard_19 : decode cL_writeCard 19 = .ok (.ireturn, 1) := by decide +kernel
theorem dL_writeDeck_0 : decode cL_writeDeck 0 = .ok (.aload_n 1, 1) := by decide +kernel
theorem dL_writeDeck_1 : decode cL_writeDeck 1 = .ok (.iconst 0, 1) := by decide +kernel
theorem dL_writeDeck_2 : decode cL_writeDeck 2 = .ok (.aload_n 0, 1) := by decide +kernel
theorem dL_writeDeck_3 : decode cL_writeDeck 3 = .ok (.invokevirtual 161, 3) := by decide +kernel
theorem dL_writeDeck_6 : decode cL_writeDeck 6 = .ok (.i2l, 1) := by decide +kernel
theorem dL_writeDeck_7 : decode cL_writeDeck 7 = .ok (.lastore, 1) := by decide +kernel
theorem dL_writeDeck_8 : decode cL_writeDeck 8 = .ok (.goto 6, 3) := by decide +kernel
theorem dL_writeDeck_11 : decode cL_writeDeck 11 = .ok (.astore_n 2, 1) := by decide +kernel
theorem dL_writeDeck_12 : decode cL_writeDeck 12 = .ok (.iconst 1, 1) := by decide +kernel
theorem dL_writeDeck_13 : decode cL_writeDeck 13 = .ok (.ireturn, 1) := by decide +kernel
theorem dL_writeDeck_14 : decode cL_writeDeck 14 = .ok (.iconst 0, 1) := by decide +kernel
theorem dL_writeDeck_15 : decode cL_writeDeck 15 = .ok (.ireturn, 1) := by decide +kernel
theorem dL_outputByte_0 : decode cL_outputByte 0 = .ok (.aload_n 2, 1) := by decide +kernel
theorem dL_outputByte_1 : decode cL_outputByte 1 = .ok (.iconst 0, 1) := by decide +kernel
theorem dL_outputByte_2 : decode cL_outputByte 2 = .ok (.aload_n 0, 1) := by decide +kernel
theorem dL_outputByte_3 : decode cL_outputByte 3 = .ok (.iload_n 1, 1) := by decide +kernel
theorem dL_outputByte_4 : decode cL_outputByte 4 = .ok (.invokevirtual 164, 3) := by decide +kernel
theorem dL_outputByte_7 : decode cL_outputByte 7 = .ok (.i2l, 1) := by decide +kernel
theorem dL_outputByte_8 : decode cL_outputByte 8 = .ok (.lastore, 1) := by decide +kernel
theorem dL_outputByte_9 : decode cL_outputByte 9 = .ok (.goto 6, 3) := by decide +kernel
theorem dL_outputByte_12 : decode cL_outputByte 12 = .ok (.astore_n 3, 1) := by decide +kernel
theorem dL_outputByte_13 : decode cL_outputByte 13 = .ok (.iconst 1, 1) := by decide +kernel
theorem dL_outputByte_14 : decode cL_outputByte 14 = .ok (.ireturn, 1) := by decide +kernel
theorem dL_outputByte_15 : decode cL_outputByte 15 = .ok (.iconst 0, 1) := by decide +kernel
theorem dL_outputByte_16 : decode cL_outputByte 16 = .ok (.ireturn, 1) := by decide +kernel
theorem dL_weave_0 : decode cL_weave 0 = .ok (.aload_n 2, 1) := by decide +kernel
theorem dL_weave_1 : decode cL_weave 1 = .ok (.iconst 0, 1) := by decide +kernel
theorem dL_weave_2 : decode cL_weave 2 = .ok (.aload_n 0, 1) := by decide +kernel
theorem dL_weave_3 : decode cL_weave 3 = .ok (.iload_n 1, 1) := by decide +kernel
theorem dL_weave_4 : decode cL_weave 4 = .ok (.invokevirtual 167, 3) := by decide +kernel
theorem dL_weave_7 : decode cL_weave 7 = .ok (.i2l, 1) := by decide +kernel
theorem dL_weave_8 : decode cL_weave 8 = .ok (.lastore, 1) := by decide +kernel
theorem dL_weave_9 : decode cL_weave 9 = .ok (.goto 9, 3) := by decide +kernel
theorem dL_weave_12 : decode cL_weave 12 = .ok (.astore_n 3, 1) := by decide +kernel
theorem dL_weave_13 : decode cL_weave 13 = .ok (.iconst 1, 1) := by decide +kernel
theorem dL_weave_14 : decode cL_weave 14 = .ok (.ireturn, 1) := by decide +kernel
theorem dL_weave_15 : decode cL_weave 15 = .ok (.astore_n 3, 1) := by decide +kernel
theorem dL_weave_16 : decode cL_weave 16 = .ok (.iconst 2, 1) := by decide +kernel
theorem dL_weave_17 : decode cL_weave 17 = .ok (.ireturn, 1) := by decide +kernel
theorem dL_weave_18 : decode cL_weave 18 = .ok (.iconst 0, 1) := by decide +kernel
theorem dL_weave_19 : decode cL_weave 19 = .ok (.ireturn, 1) := by decide +kernel
theorem dL_unweave_0 : decode cL_unweave 0 = .ok (.aload_n 2, 1) := by decide +kernel
theorem dL_unweave_1 : decode cL_unweave 1 = .ok (.iconst 0, 1) := by decide +kernel
theorem dL_unweave_2 : decode cL_unweave 2 = .ok (.aload_n 0, 1) := by decide +kernel
theorem dL_unweave_3 : decode cL_unweave 3 = .ok (.iload_n 1, 1) := by decide +kernel
theorem dL_unweave_4 : decode cL_unweave 4 = .ok (.invokevirtual 170, 3) := by decide +kernel
theorem dL_unweave_7 : decode cL_unweave 7 = .ok (.i2l, 1) := by decide +kernel
theorem dL_unweave_8 : decode cL_unweave 8 = .ok (.lastore, 1) := by decide +kernel
theorem dL_unweave_9 : decode cL_unweave 9 = .ok (.goto 9, 3) := by decide +kernel
theorem dL_unweave_12 : decode cL_unweave 12 = .ok (.astore_n 3, 1) := by decide +kernel
theorem dL_unweave_13 : decode cL_unweave 13 = .ok (.iconst 1, 1) := by decide +kernel
theorem dL_unweave_14 : decode cL_unweave 14 = .ok (.ireturn, 1) := by decide +kernel
theorem dL_unweave_15 : decode cL_unweave 15 = .ok (.astore_n 3, 1) := by decide +kernel
theorem dL_unweave_16 : decode cL_unweave 16 = .ok (.iconst 2, 1) := by decide +kernel
theorem dL_unweave_17 : decode cL_unweave 17 = .ok (.ireturn, 1) := by decide +kernel
theorem dL_unweave_18 : decode cL_unweave 18 = .ok (.iconst 0, 1) := by decide +kernel
theorem dL_unweave_19 : decode cL_unweave 19 = .ok (.ireturn, 1) := by decide +kernel
theorem dL_swapCards_0 : decode cL_swapCards 0 = .ok (.aload_n 3, 1) := by decide +kernel
theorem dL_swapCards_1 : decode cL_swapCards 1 = .ok (.iconst 0, 1) := by decide +kernel
theorem dL_swapCards_2 : decode cL_swapCards 2 = .ok (.aload_n 0, 1) := by decide +kernel
theorem dL_swapCards_3 : decode cL_swapCards 3 = .ok (.iload_n 1, 1) := by decide +kernel
theorem dL_swapCards_4 : decode cL_swapCards 4 = .ok (.iload_n 2, 1) := by decide +kernel
theorem dL_swapCards_5 : decode cL_swapCards 5 = .ok (.invokevirtual 173, 3) := by decide +kernel
theorem dL_swapCards_8 : decode cL_swapCards 8 = .ok (.i2l, 1) := by decide +kernel
theorem dL_swapCards_9 : decode cL_swapCards 9 = .ok (.lastore, 1) := by decide +kernel
theorem dL_swapCards_10 : decode cL_swapCards 10 = .ok (.goto 11, 3) := by decide +kernel
theorem dL_swapCards_13 : decode cL_swapCards 13 = .ok (.astore 4, 2) := by decide +kernel
theorem dL_swapCards_15 : decode cL_swapCards 15 = .ok (.iconst 1, 1) := by decide +kernel
theorem dL_swapCards_16 : decode cL_swapCards 16 = .ok (.ireturn, 1) := by decide +kernel
theorem dL_swapCards_17 : decode cL_swapCards 17 = .ok (.astore 4, 2) := by decide +kernel
theorem dL_swapCards_19 : decode cL_swapCards 19 = .ok (.iconst 2, 1) := by decide +kernel
theorem dL_swapCards_20 : decode cL_swapCards 20 = .ok (.ireturn, 1) := by decide +kernel
theorem dL_swapCards_21 : decode cL_swapCards 21 = .ok (.iconst 0, 1) := by decide +kernel
theorem dL_swapCards_22 : decode cL_swapCards 22 = .ok (.ireturn, 1) := by decide +kernel
theorem dL_punch_0 : decode cL_punch 0 = .ok (.aload_n 3, 1) := by decide +kernel
theorem dL_punch_1 : decode cL_punch 1 = .ok (.iconst 0, 1) := by decide +kernel
theorem dL_punch_2 : decode cL_punch 2 = .ok (.aload_n 0, 1) := by decide +kernel
theorem dL_punch_3 : decode cL_punch 3 = .ok (.iload_n 1, 1) := by decide +kernel
theorem dL_punch_4 : decode cL_punch 4 = .ok (.iload_n 2, 1) := by decide +kernel
theorem dL_punch_5 : decode cL_punch 5 = .ok (.invokevirtual 176, 3) := by decide +kernel
theorem dL_punch_8 : decode cL_punch 8 = .ok (.ifCond .eq 7, 3) := by decide +kernel
theorem dL_punch_11 : decode cL_punch 11 = .ok (.lconst 1, 1) := by decide +kernel
theorem dL_punch_12 : decode cL_punch 12 = .ok (.goto 4, 3) := by decide +kernel
theorem dL_punch_15 : decode cL_punch 15 = .ok (.lconst 0, 1) := by decide +kernel
theorem dL_punch_16 : decode cL_punch 16 = .ok (.lastore, 1) := by decide +kernel
theorem dL_punch_17 : decode cL_punch 17 = .ok (.goto 11, 3) := by decide +kernel
theorem dL_punch_20 : decode cL_punch 20 = .ok (.astore 4, 2) := by decide +kernel
theorem dL_punch_22 : decode cL_punch 22 = .ok (.iconst 1, 1) := by decide +kernel
theorem dL_punch_23 : decode cL_punch 23 = .ok (.ireturn, 1) := by decide +kernel
theorem dL_punch_24 : decode cL_punch 24 = .ok (.astore 4, 2) := by decide +kernel
theorem dL_punch_26 : decode cL_punch 26 = .ok (.iconst 2, 1) := by decide +kernel
theorem dL_punch_27 : decode cL_punch 27 = .ok (.ireturn, 1) := by decide +kernel
theorem dL_punch_28 : decode cL_punch 28 = .ok (.iconst 0, 1) := by decide +kernel
theorem dL_punch_29 : decode cL_punch 29 = .ok (.ireturn, 1) := by decide +kernel
theorem dL_setCardColour_0 : decode cL_setCardColour 0 = .ok (.aload_n 3, 1) := by decide +kernel
theorem dL_setCardColour_1 : decode cL_setCardColour 1 = .ok (.iconst 0, 1) := by decide +kernel
theorem dL_setCardColour_2 : decode cL_setCardColour 2 = .ok (.aload_n 0, 1) := by decide +kernel
theorem dL_setCardColour_3 : decode cL_setCardColour 3 = .ok (.iload_n 1, 1) := by decide +kernel
theorem dL_setCardColour_4 : decode cL_setCardColour 4 = .ok (.iload_n 2, 1) := by decide +kernel
theorem dL_setCardColour_5 : decode cL_setCardColour 5 = .ok (.invokevirtual 179, 3) := by decide +kernel
theorem dL_setCardColour_8 : decode cL_setCardColour 8 = .ok (.i2l, 1) := by decide +kernel
theorem dL_setCardColour_9 : decode cL_setCardColour 9 = .ok (.lastore, 1) := by decide +kernel
theorem dL_setCardColour_10 : decode cL_setCardColour 10 = .ok (.goto 15, 3) := by decide +kernel
theorem dL_setCardColour_13 : decode cL_setCardColour 13 = .ok (.astore 4, 2) := by decide +kernel
theorem dL_setCardColour_15 : decode cL_setCardColour 15 = .ok (.iconst 1, 1) := by decide +kernel
theorem dL_setCardColour_16 : decode cL_setCardColour 16 = .ok (.ireturn, 1) := by decide +kernel
theorem dL_setCardColour_17 : decode cL_setCardColour 17 = .ok (.astore 4, 2) := by decide +kernel
theorem dL_setCardColour_19 : decode cL_setCardColour 19 = .ok (.iconst 2, 1) := by decide +kernel
theorem dL_setCardColour_20 : decode cL_setCardColour 20 = .ok (.ireturn, 1) := by decide +kernel
theorem dL_setCardColour_21 : decode cL_setCardColour 21 = .ok (.astore 4, 2) := by decide +kernel
theorem dL_setCardColour_23 : decode cL_setCardColour 23 = .ok (.iconst 3, 1) := by decide +kernel
theorem dL_setCardColour_24 : decode cL_setCardColour 24 = .ok (.ireturn, 1) := by decide +kernel
theorem dL_setCardColour_25 : decode cL_setCardColour 25 = .ok (.iconst 0, 1) := by decide +kernel
theorem dL_setCardColour_26 : decode cL_setCardColour 26 = .ok (.ireturn, 1) := by decide +kernel
theorem dL_bringYarn_0 : decode cL_bringYarn 0 = .ok (.aload_n 3, 1) := by decide +kernel
theorem dL_bringYarn_1 : decode cL_bringYarn 1 = .ok (.iconst 0, 1) := by decide +kernel
theorem dL_bringYarn_2 : decode cL_bringYarn 2 = .ok (.aload_n 0, 1) := by decide +kernel
theorem dL_bringYarn_3 : decode cL_bringYarn 3 = .ok (.iload_n 1, 1) := by decide +kernel
theorem dL_bringYarn_4 : decode cL_bringYarn 4 = .ok (.iload_n 2, 1) := by decide +kernel
theorem dL_bringYarn_5 : decode cL_bringYarn 5 = .ok (.invokevirtual 182, 3) := by decide +kernel
theorem dL_bringYarn_8 : decode cL_bringYarn 8 = .ok (.i2l, 1) := by decide +kernel
theorem dL_bringYarn_9 : decode cL_bringYarn 9 = .ok (.lastore, 1) := by decide +kernel
theorem dL_bringYarn_10 : decode cL_bringYarn 10 = .ok (.goto 11, 3) := by decide +kernel
theorem dL_bringYarn_13 : decode cL_bringYarn 13 = .ok (.astore 4, 2) := by decide +kernel
theorem dL_bringYarn_15 : decode cL_bringYarn 15 = .ok (.iconst 1, 1) := by decide +kernel
theorem dL_bringYarn_16 : decode cL_bringYarn 16 = .ok (.ireturn, 1) := by decide +kernel
theorem dL_bringYarn_17 : decode cL_bringYarn 17 = .ok (.astore 4, 2) := by decide +kernel
theorem dL_bringYarn_19 : decode cL_bringYarn 19 = .ok (.iconst 2, 1) := by decide +kernel
theorem dL_bringYarn_20 : decode cL_bringYarn 20 = .ok (.ireturn, 1) := by decide +kernel
theorem dL_bringYarn_21 : decode cL_bringYarn 21 = .ok (.iconst 0, 1) := by decide +kernel
theorem dL_bringYarn_22 : decode cL_bringYarn 22 = .ok (.ireturn, 1) := by decide +kernel
theorem dL_oil_0 : decode cL_oil 0 = .ok (.aload_n 2, 1) := by decide +kernel
theorem dL_oil_1 : decode cL_oil 1 = .ok (.iconst 0, 1) := by decide +kernel
theorem dL_oil_2 : decode cL_oil 2 = .ok (.aload_n 0, 1) := by decide +kernel
theorem dL_oil_3 : decode cL_oil 3 = .ok (.iload_n 1, 1) := by decide +kernel
theorem dL_oil_4 : decode cL_oil 4 = .ok (.invokevirtual 185, 3) := by decide +kernel
theorem dL_oil_7 : decode cL_oil 7 = .ok (.i2l, 1) := by decide +kernel
theorem dL_oil_8 : decode cL_oil 8 = .ok (.lastore, 1) := by decide +kernel
theorem dL_oil_9 : decode cL_oil 9 = .ok (.goto 9, 3) := by decide +kernel
theorem dL_oil_12 : decode cL_oil 12 = .ok (.astore_n 3, 1) := by decide +kernel
theorem dL_oil_13 : decode cL_oil 13 = .ok (.iconst 1, 1) := by decide +kernel
theorem dL_oil_14 : decode cL_oil 14 = .ok (.ireturn, 1) := by decide +kernel
theorem dL_oil_15 : decode cL_oil 15 = .ok (.astore_n 3, 1) := by decide +kernel
theorem dL_oil_16 : decode cL_oil 16 = .ok (.iconst 2, 1) := by decide +kernel
theorem dL_oil_17 : decode cL_oil 17 = .ok (.ireturn, 1) := by decide +kernel
theorem dL_oil_18 : decode cL_oil 18 = .ok (.iconst 0, 1) := by decide +kernel
theorem dL_oil_19 : decode cL_oil 19 = .ok (.ireturn, 1) := by decide +kernel
theorem dL_mend_0 : decode cL_mend 0 = .ok (.aload_n 2, 1) := by decide +kernel
theorem dL_mend_1 : decode cL_mend 1 = .ok (.iconst 0, 1) := by decide +kernel
theorem dL_mend_2 : decode cL_mend 2 = .ok (.aload_n 0, 1) := by decide +kernel
theorem dL_mend_3 : decode cL_mend 3 = .ok (.iload_n 1, 1) := by decide +kernel
theorem dL_mend_4 : decode cL_mend 4 = .ok (.invokevirtual 188, 3) := by decide +kernel
theorem dL_mend_7 : decode cL_mend 7 = .ok (.i2l, 1) := by decide +kernel
theorem dL_mend_8 : decode cL_mend 8 = .ok (.lastore, 1) := by decide +kernel
theorem dL_mend_9 : decode cL_mend 9 = .ok (.goto 12, 3) := by decide +kernel
theorem dL_mend_12 : decode cL_mend 12 = .ok (.astore_n 3, 1) := by decide +kernel
theorem dL_mend_13 : decode cL_mend 13 = .ok (.iconst 1, 1) := by decide +kernel
theorem dL_mend_14 : decode cL_mend 14 = .ok (.ireturn, 1) := by decide +kernel
theorem dL_mend_15 : decode cL_mend 15 = .ok (.astore_n 3, 1) := by decide +kernel
theorem dL_mend_16 : decode cL_mend 16 = .ok (.iconst 2, 1) := by decide +kernel
theorem dL_mend_17 : decode cL_mend 17 = .ok (.ireturn, 1) := by decide +kernel
theorem dL_mend_18 : decode cL_mend 18 = .ok (.astore_n 3, 1) := by decide +kernel
theorem dL_mend_19 : decode cL_mend 19 = .ok (.iconst 3, 1) := by decide +kernel
theorem dL_mend_20 : decode cL_mend 20 = .ok (.ireturn, 1) := by decide +kernel
theorem dL_mend_21 : decode cL_mend 21 = .ok (.iconst 0, 1) := by decide +kernel
theorem dL_mend_22 : decode cL_mend 22 = .ok (.ireturn, 1) := by decide +kernel
theorem dL_undo_0 : decode cL_undo 0 = .ok (.aload_n 1, 1) := by decide +kernel
theorem dL_undo_1 : decode cL_undo 1 = .ok (.iconst 0, 1) := by decide +kernel
theorem dL_undo_2 : decode cL_undo 2 = .ok (.aload_n 0, 1) := by decide +kernel
theorem dL_undo_3 : decode cL_undo 3 = .ok (.invokevirtual 191, 3) := by decide +kernel
theorem dL_undo_6 : decode cL_undo 6 = .ok (.i2l, 1) := by decide +kernel
theorem dL_undo_7 : decode cL_undo 7 = .ok (.lastore, 1) := by decide +kernel
theorem dL_undo_8 : decode cL_undo 8 = .ok (.goto 6, 3) := by decide +kernel
theorem dL_undo_11 : decode cL_undo 11 = .ok (.astore_n 2, 1) := by decide +kernel
theorem dL_undo_12 : decode cL_undo 12 = .ok (.iconst 1, 1) := by decide +kernel
theorem dL_undo_13 : decode cL_undo 13 = .ok (.ireturn, 1) := by decide +kernel
theorem dL_undo_14 : decode cL_undo 14 = .ok (.iconst 0, 1) := by decide +kernel
theorem dL_undo_15 : decode cL_undo 15 = .ok (.ireturn, 1) := by decide +kernel
theorem dL_saveState_0 : decode cL_saveState 0 = .ok (.aload_n 2, 1) := by decide +kernel
theorem dL_saveState_1 : decode cL_saveState 1 = .ok (.iconst 0, 1) := by decide +kernel
theorem dL_saveState_2 : decode cL_saveState 2 = .ok (.aload_n 0, 1) := by decide +kernel
theorem dL_saveState_3 : decode cL_saveState 3 = .ok (.iload_n 1, 1) := by decide +kernel
theorem dL_saveState_4 : decode cL_saveState 4 = .ok (.invokevirtual 194, 3) := by decide +kernel
theorem dL_saveState_7 : decode cL_saveState 7 = .ok (.i2l, 1) := by decide +kernel
theorem dL_saveState_8 : decode cL_saveState 8 = .ok (.lastore, 1) := by decide +kernel
theorem dL_saveState_9 : decode cL_saveState 9 = .ok (.goto 9, 3) := by decide +kernel
theorem dL_saveState_12 : decode cL_saveState 12 = .ok (.astore_n 3, 1) := by decide +kernel
theorem dL_saveState_13 : decode cL_saveState 13 = .ok (.iconst 1, 1) := by decide +kernel
theorem dL_saveState_14 : decode cL_saveState 14 = .ok (.ireturn, 1) := by decide +kernel
theorem dL_saveState_15 : decode cL_saveState 15 = .ok (.astore_n 3, 1) := by decide +kernel
theorem dL_saveState_16 : decode cL_saveState 16 = .ok (.iconst 2, 1) := by decide +kernel
theorem dL_saveState_17 : decode cL_saveState 17 = .ok (.ireturn, 1) := by decide +kernel
theorem dL_saveState_18 : decode cL_saveState 18 = .ok (.iconst 0, 1) := by decide +kernel
theorem dL_saveState_19 : decode cL_saveState 19 = .ok (.ireturn, 1) := by decide +kernel
theorem dL_restoreState_0 : decode cL_restoreState 0 = .ok (.aload_n 2, 1) := by decide +kernel
theorem dL_restoreState_1 : decode cL_restoreState 1 = .ok (.iconst 0, 1) := by decide +kernel
theorem dL_restoreState_2 : decode cL_restoreState 2 = .ok (.aload_n 0, 1) := by decide +kernel
theorem dL_restoreState_3 : decode cL_restoreState 3 = .ok (.iload_n 1, 1) := by decide +kernel
theorem dL_restoreState_4 : decode cL_restoreState 4 = .ok (.invokevirtual 197, 3) := by decide +kernel
theorem dL_restoreState_7 : decode cL_restoreState 7 = .ok (.i2l, 1) := by decide +kernel
theorem dL_restoreState_8 : decode cL_restoreState 8 = .ok (.lastore, 1) := by decide +kernel
theorem dL_restoreState_9 : decode cL_restoreState 9 = .ok (.goto 9, 3) := by decide +kernel
theorem dL_restoreState_12 : decode cL_restoreState 12 = .ok (.astore_n 3, 1) := by decide +kernel
theorem dL_restoreState_13 : decode cL_restoreState 13 = .ok (.iconst 1, 1) := by decide +kernel
theorem dL_restoreState_14 : decode cL_restoreState 14 = .ok (.ireturn, 1) := by decide +kernel
theorem dL_restoreState_15 : decode cL_restoreState 15 = .ok (.astore_n 3, 1) := by decide +kernel
theorem dL_restoreState_16 : decode cL_restoreState 16 = .ok (.iconst 2, 1) := by decide +kernel
theorem dL_restoreState_17 : decode cL_restoreState 17 = .ok (.ireturn, 1) := by decide +kernel
theorem dL_restoreState_18 : decode cL_restoreState 18 = .ok (.iconst 0, 1) := by decide +kernel
theorem dL_restoreState_19 : decode cL_restoreState 19 = .ok (.ireturn, 1) := by decide +kernel
