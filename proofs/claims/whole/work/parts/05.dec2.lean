theorem dX9_init_0 : decode cX9_init 0 = .ok (.aload_n 0, 1) := by decide +kernel
theorem dX9_init_1 : decode cX9_init 1 = .ok (.invokespecial 1, 3) := by decide +kernel
theorem dX9_init_4 : decode cX9_init 4 = .ok (.aload_n 0, 1) := by decide +kernel
theorem dX9_init_5 : decode cX9_init 5 = .ok (.sipush 2030, 3) := by decide +kernel
theorem dX9_init_8 : decode cX9_init 8 = .ok (.newarray .int, 2) := by decide +kernel
theorem dX9_init_10 : decode cX9_init 10 = .ok (.putfield 9, 3) := by decide +kernel
theorem dX9_init_13 : decode cX9_init 13 = .ok (.aload_n 0, 1) := by decide +kernel
theorem dX9_init_14 : decode cX9_init 14 = .ok (.sipush 2030, 3) := by decide +kernel
theorem dX9_init_17 : decode cX9_init 17 = .ok (.newarray .int, 2) := by decide +kernel
theorem dX9_init_19 : decode cX9_init 19 = .ok (.putfield 13, 3) := by decide +kernel
theorem dX9_init_22 : decode cX9_init 22 = .ok (.aload_n 0, 1) := by decide +kernel
theorem dX9_init_23 : decode cX9_init 23 = .ok (.sipush 16240, 3) := by decide +kernel
theorem dX9_init_26 : decode cX9_init 26 = .ok (.newarray .int, 2) := by decide +kernel
theorem dX9_init_28 : decode cX9_init 28 = .ok (.putfield 16, 3) := by decide +kernel
theorem dX9_init_31 : decode cX9_init 31 = .ok (.aload_n 0, 1) := by decide +kernel
theorem dX9_init_32 : decode cX9_init 32 = .ok (.sipush 4060, 3) := by decide +kernel
theorem dX9_init_35 : decode cX9_init 35 = .ok (.newarray .int, 2) := by decide +kernel
theorem dX9_init_37 : decode cX9_init 37 = .ok (.putfield 19, 3) := by decide +kernel
theorem dX9_init_40 : decode cX9_init 40 = .ok (.aload_n 0, 1) := by decide +kernel
theorem dX9_init_41 : decode cX9_init 41 = .ok (.iconst 2, 1) := by decide +kernel
theorem dX9_init_42 : decode cX9_init 42 = .ok (.newarray .boolean, 2) := by decide +kernel
theorem dX9_init_44 : decode cX9_init 44 = .ok (.putfield 22, 3) := by decide +kernel
theorem dX9_init_47 : decode cX9_init 47 = .ok (.aload_n 0, 1) := by decide +kernel
theorem dX9_init_48 : decode cX9_init 48 = .ok (.sipush 500, 3) := by decide +kernel
theorem dX9_init_51 : decode cX9_init 51 = .ok (.newarray .byte, 2) := by decide +kernel
theorem dX9_init_53 : decode cX9_init 53 = .ok (.putfield 26, 3) := by decide +kernel
theorem dX9_init_56 : decode cX9_init 56 = .ok (.aload_n 0, 1) := by decide +kernel
theorem dX9_init_57 : decode cX9_init 57 = .ok (.iconst (-1), 1) := by decide +kernel
theorem dX9_init_58 : decode cX9_init 58 = .ok (.putfield 30, 3) := by decide +kernel
theorem dX9_init_61 : decode cX9_init 61 = .ok (.aload_n 0, 1) := by decide +kernel
theorem dX9_init_62 : decode cX9_init 62 = .ok (.sipush 400, 3) := by decide +kernel
theorem dX9_init_65 : decode cX9_init 65 = .ok (.newarray .int, 2) := by decide +kernel
theorem dX9_init_67 : decode cX9_init 67 = .ok (.putfield 34, 3) := by decide +kernel
theorem dX9_init_70 : decode cX9_init 70 = .ok (.aload_n 0, 1) := by decide +kernel
theorem dX9_init_71 : decode cX9_init 71 = .ok (.iconst 4, 1) := by decide +kernel
theorem dX9_init_72 : decode cX9_init 72 = .ok (.newarray .int, 2) := by decide +kernel
theorem dX9_init_74 : decode cX9_init 74 = .ok (.putfield 37, 3) := by decide +kernel
theorem dX9_init_77 : decode cX9_init 77 = .ok (.aload_n 0, 1) := by decide +kernel
theorem dX9_init_78 : decode cX9_init 78 = .ok (.iconst 4, 1) := by decide +kernel
theorem dX9_init_79 : decode cX9_init 79 = .ok (.newarray .int, 2) := by decide +kernel
theorem dX9_init_81 : decode cX9_init 81 = .ok (.putfield 40, 3) := by decide +kernel
theorem dX9_init_84 : decode cX9_init 84 = .ok (.aload_n 0, 1) := by decide +kernel
theorem dX9_init_85 : decode cX9_init 85 = .ok (.sipush 1000, 3) := by decide +kernel
theorem dX9_init_88 : decode cX9_init 88 = .ok (.newarray .byte, 2) := by decide +kernel
theorem dX9_init_90 : decode cX9_init 90 = .ok (.putfield 43, 3) := by decide +kernel
theorem dX9_init_93 : decode cX9_init 93 = .ok (.return_, 1) := by decide +kernel
theorem dX9_thrown_0 : decode cX9_thrown 0 = .ok (.aload_n 0, 1) := by decide +kernel
theorem dX9_thrown_1 : decode cX9_thrown 1 = .ok (.getfield 46, 3) := by decide +kernel
theorem dX9_thrown_4 : decode cX9_thrown 4 = .ok (.ireturn, 1) := by decide +kernel
theorem dX9_in_0 : decode cX9_in 0 = .ok (.iload_n 1, 1) := by decide +kernel
theorem dX9_in_1 : decode cX9_in 1 = .ok (.iload_n 0, 1) := by decide +kernel
theorem dX9_in_2 : decode cX9_in 2 = .ok (.if_icmp .gt 12, 3) := by decide +kernel
theorem dX9_in_5 : decode cX9_in 5 = .ok (.iload_n 0, 1) := by decide +kernel
theorem dX9_in_6 : decode cX9_in 6 = .ok (.iload_n 2, 1) := by decide +kernel
theorem dX9_in_7 : decode cX9_in 7 = .ok (.if_icmp .gt 7, 3) := by decide +kernel
theorem dX9_in_10 : decode cX9_in 10 = .ok (.iconst 1, 1) := by decide +kernel
theorem dX9_in_11 : decode cX9_in 11 = .ok (.goto 4, 3) := by decide +kernel
theorem dX9_in_14 : decode cX9_in 14 = .ok (.iconst 0, 1) := by decide +kernel
theorem dX9_in_15 : decode cX9_in 15 = .ok (.ireturn, 1) := by decide +kernel
theorem dX9_one_0 : decode cX9_one 0 = .ok (.iload_n 0, 1) := by decide +kernel
theorem dX9_one_1 : decode cX9_one 1 = .ok (.ifCond .eq 7, 3) := by decide +kernel
theorem dX9_one_4 : decode cX9_one 4 = .ok (.iconst 1, 1) := by decide +kernel
theorem dX9_one_5 : decode cX9_one 5 = .ok (.goto 4, 3) := by decide +kernel
theorem dX9_one_8 : decode cX9_one 8 = .ok (.iconst 0, 1) := by decide +kernel
theorem dX9_one_9 : decode cX9_one 9 = .ok (.ireturn, 1) := by decide +kernel
theorem dX9_has_0 : decode cX9_has 0 = .ok (.iload_n 0, 1) := by decide +kernel
theorem dX9_has_1 : decode cX9_has 1 = .ok (.iload_n 1, 1) := by decide +kernel
theorem dX9_has_2 : decode cX9_has 2 = .ok (.ishr, 1) := by decide +kernel
theorem dX9_has_3 : decode cX9_has 3 = .ok (.iconst 1, 1) := by decide +kernel
theorem dX9_has_4 : decode cX9_has 4 = .ok (.iand, 1) := by decide +kernel
theorem dX9_has_5 : decode cX9_has 5 = .ok (.iconst 1, 1) := by decide +kernel
theorem dX9_has_6 : decode cX9_has 6 = .ok (.if_icmp .ne 7, 3) := by decide +kernel
theorem dX9_has_9 : decode cX9_has 9 = .ok (.iconst 1, 1) := by decide +kernel
theorem dX9_has_10 : decode cX9_has 10 = .ok (.goto 4, 3) := by decide +kernel
theorem dX9_has_13 : decode cX9_has 13 = .ok (.iconst 0, 1) := by decide +kernel
theorem dX9_has_14 : decode cX9_has 14 = .ok (.ireturn, 1) := by decide +kernel
theorem dX9_may_0 : decode cX9_may 0 = .ok (.aload_n 0, 1) := by decide +kernel
theorem dX9_may_1 : decode cX9_may 1 = .ok (.iload_n 1, 1) := by decide +kernel
theorem dX9_may_2 : decode cX9_may 2 = .ok (.ifCond .ne 7, 3) := by decide +kernel
theorem dX9_may_5 : decode cX9_may 5 = .ok (.iconst 1, 1) := by decide +kernel
theorem dX9_may_6 : decode cX9_may 6 = .ok (.goto 20, 3) := by decide +kernel
theorem dX9_may_9 : decode cX9_may 9 = .ok (.iload_n 2, 1) := by decide +kernel
theorem dX9_may_10 : decode cX9_may 10 = .ok (.ifCond .ne 7, 3) := by decide +kernel
theorem dX9_may_13 : decode cX9_may 13 = .ok (.iconst 2, 1) := by decide +kernel
theorem dX9_may_14 : decode cX9_may 14 = .ok (.goto 12, 3) := by decide +kernel
theorem dX9_may_17 : decode cX9_may 17 = .ok (.iload_n 3, 1) := by decide +kernel
theorem dX9_may_18 : decode cX9_may 18 = .ok (.ifCond .eq 7, 3) := by decide +kernel
theorem dX9_may_21 : decode cX9_may 21 = .ok (.iconst 0, 1) := by decide +kernel
theorem dX9_may_22 : decode cX9_may 22 = .ok (.goto 4, 3) := by decide +kernel
theorem dX9_may_25 : decode cX9_may 25 = .ok (.iconst 3, 1) := by decide +kernel
theorem dX9_may_26 : decode cX9_may 26 = .ok (.putfield 46, 3) := by decide +kernel
theorem dX9_may_29 : decode cX9_may 29 = .ok (.aload_n 0, 1) := by decide +kernel
theorem dX9_may_30 : decode cX9_may 30 = .ok (.getfield 46, 3) := by decide +kernel
theorem dX9_may_33 : decode cX9_may 33 = .ok (.ifCond .ne 7, 3) := by decide +kernel
theorem dX9_may_36 : decode cX9_may 36 = .ok (.iconst 1, 1) := by decide +kernel
theorem dX9_may_37 : decode cX9_may 37 = .ok (.goto 4, 3) := by decide +kernel
theorem dX9_may_40 : decode cX9_may 40 = .ok (.iconst 0, 1) := by decide +kernel
theorem dX9_may_41 : decode cX9_may 41 = .ok (.ireturn, 1) := by decide +kernel
theorem dX9_mayTwo_0 : decode cX9_mayTwo 0 = .ok (.aload_n 0, 1) := by decide +kernel
theorem dX9_mayTwo_1 : decode cX9_mayTwo 1 = .ok (.iload_n 1, 1) := by decide +kernel
theorem dX9_mayTwo_2 : decode cX9_mayTwo 2 = .ok (.iload_n 2, 1) := by decide +kernel
theorem dX9_mayTwo_3 : decode cX9_mayTwo 3 = .ok (.iconst 1, 1) := by decide +kernel
theorem dX9_mayTwo_4 : decode cX9_mayTwo 4 = .ok (.invokevirtual 49, 3) := by decide +kernel
theorem dX9_mayTwo_7 : decode cX9_mayTwo 7 = .ok (.ireturn, 1) := by decide +kernel
theorem dX9_mayLook_0 : decode cX9_mayLook 0 = .ok (.aload_n 0, 1) := by decide +kernel
theorem dX9_mayLook_1 : decode cX9_mayLook 1 = .ok (.aload_n 0, 1) := by decide +kernel
theorem dX9_mayLook_2 : decode cX9_mayLook 2 = .ok (.getfield 53, 3) := by decide +kernel
theorem dX9_mayLook_5 : decode cX9_mayLook 5 = .ok (.iconst 1, 1) := by decide +kernel
theorem dX9_mayLook_6 : decode cX9_mayLook 6 = .ok (.iconst 1, 1) := by decide +kernel
theorem dX9_mayLook_7 : decode cX9_mayLook 7 = .ok (.invokevirtual 49, 3) := by decide +kernel
theorem dX9_mayLook_10 : decode cX9_mayLook 10 = .ok (.ireturn, 1) := by decide +kernel
theorem dX9_lays_0 : decode cX9_lays 0 = .ok (.iconst 0, 1) := by decide +kernel
theorem dX9_lays_1 : decode cX9_lays 1 = .ok (.istore 4, 2) := by decide +kernel
theorem dX9_lays_3 : decode cX9_lays 3 = .ok (.iload 4, 2) := by decide +kernel
theorem dX9_lays_5 : decode cX9_lays 5 = .ok (.sipush 2030, 3) := by decide +kernel
theorem dX9_lays_8 : decode cX9_lays 8 = .ok (.if_icmp .ge 21, 3) := by decide +kernel
theorem dX9_lays_11 : decode cX9_lays 11 = .ok (.aload_n 2, 1) := by decide +kernel
theorem dX9_lays_12 : decode cX9_lays 12 = .ok (.iload_n 3, 1) := by decide +kernel
theorem dX9_lays_13 : decode cX9_lays 13 = .ok (.iload 4, 2) := by decide +kernel
theorem dX9_lays_15 : decode cX9_lays 15 = .ok (.iadd, 1) := by decide +kernel
theorem dX9_lays_16 : decode cX9_lays 16 = .ok (.aload_n 0, 1) := by decide +kernel
theorem dX9_lays_17 : decode cX9_lays 17 = .ok (.iload_n 1, 1) := by decide +kernel
theorem dX9_lays_18 : decode cX9_lays 18 = .ok (.iload 4, 2) := by decide +kernel
theorem dX9_lays_20 : decode cX9_lays 20 = .ok (.iadd, 1) := by decide +kernel
theorem dX9_lays_21 : decode cX9_lays 21 = .ok (.iaload, 1) := by decide +kernel
theorem dX9_lays_22 : decode cX9_lays 22 = .ok (.iastore, 1) := by decide +kernel
theorem dX9_lays_23 : decode cX9_lays 23 = .ok (.iinc 4 1, 3) := by decide +kernel
theorem dX9_lays_26 : decode cX9_lays 26 = .ok (.goto (-23), 3) := by decide +kernel
theorem dX9_lays_29 : decode cX9_lays 29 = .ok (.return_, 1) := by decide +kernel
theorem dX9_thinks_0 : decode cX9_thinks 0 = .ok (.aload_n 0, 1) := by decide +kernel
theorem dX9_thinks_1 : decode cX9_thinks 1 = .ok (.getfield 9, 3) := by decide +kernel
theorem dX9_thinks_4 : decode cX9_thinks 4 = .ok (.iconst 0, 1) := by decide +kernel
theorem dX9_thinks_5 : decode cX9_thinks 5 = .ok (.aload_n 0, 1) := by decide +kernel
theorem dX9_thinks_6 : decode cX9_thinks 6 = .ok (.getfield 13, 3) := by decide +kernel
theorem dX9_thinks_9 : decode cX9_thinks 9 = .ok (.iconst 0, 1) := by decide +kernel
theorem dX9_thinks_10 : decode cX9_thinks 10 = .ok (.invokestatic 57, 3) := by decide +kernel
theorem dX9_thinks_13 : decode cX9_thinks 13 = .ok (.return_, 1) := by decide +kernel
theorem dX9_back_0 : decode cX9_back 0 = .ok (.aload_n 0, 1) := by decide +kernel
theorem dX9_back_1 : decode cX9_back 1 = .ok (.getfield 13, 3) := by decide +kernel
theorem dX9_back_4 : decode cX9_back 4 = .ok (.iconst 0, 1) := by decide +kernel
theorem dX9_back_5 : decode cX9_back 5 = .ok (.aload_n 0, 1) := by decide +kernel
theorem dX9_back_6 : decode cX9_back 6 = .ok (.getfield 9, 3) := by decide +kernel
theorem dX9_back_9 : decode cX9_back 9 = .ok (.iconst 0, 1) := by decide +kernel
theorem dX9_back_10 : decode cX9_back 10 = .ok (.invokestatic 57, 3) := by decide +kernel
theorem dX9_back_13 : decode cX9_back 13 = .ok (.iload_n 1, 1) := by decide +kernel
theorem dX9_back_14 : decode cX9_back 14 = .ok (.ireturn, 1) := by decide +kernel
theorem dX9_append_0 : decode cX9_append 0 = .ok (.aload_n 0, 1) := by decide +kernel
theorem dX9_append_1 : decode cX9_append 1 = .ok (.iconst 0, 1) := by decide +kernel
theorem dX9_append_2 : decode cX9_append 2 = .ok (.putfield 46, 3) := by decide +kernel
theorem dX9_append_5 : decode cX9_append 5 = .ok (.aload_n 0, 1) := by decide +kernel
theorem dX9_append_6 : decode cX9_append 6 = .ok (.getfield 61, 3) := by decide +kernel
theorem dX9_append_9 : decode cX9_append 9 = .ok (.sipush 480, 3) := by decide +kernel
theorem dX9_append_12 : decode cX9_append 12 = .ok (.if_icmp .le 5, 3) := by decide +kernel
theorem dX9_append_15 : decode cX9_append 15 = .ok (.iconst (-1), 1) := by decide +kernel
theorem dX9_append_16 : decode cX9_append 16 = .ok (.ireturn, 1) := by decide +kernel
theorem dX9_append_17 : decode cX9_append 17 = .ok (.aload_n 0, 1) := by decide +kernel
theorem dX9_append_18 : decode cX9_append 18 = .ok (.iload_n 1, 1) := by decide +kernel
theorem dX9_append_19 : decode cX9_append 19 = .ok (.invokevirtual 64, 3) := by decide +kernel
theorem dX9_append_22 : decode cX9_append 22 = .ok (.aload_n 0, 1) := by decide +kernel
theorem dX9_append_23 : decode cX9_append 23 = .ok (.iload_n 2, 1) := by decide +kernel
theorem dX9_append_24 : decode cX9_append 24 = .ok (.invokevirtual 64, 3) := by decide +kernel
theorem dX9_append_27 : decode cX9_append 27 = .ok (.aload_n 0, 1) := by decide +kernel
theorem dX9_append_28 : decode cX9_append 28 = .ok (.iload_n 3, 1) := by decide +kernel
theorem dX9_append_29 : decode cX9_append 29 = .ok (.invokevirtual 64, 3) := by decide +kernel
theorem dX9_append_32 : decode cX9_append 32 = .ok (.aload_n 0, 1) := by decide +kernel
theorem dX9_append_33 : decode cX9_append 33 = .ok (.iload 4, 2) := by decide +kernel
theorem dX9_append_35 : decode cX9_append 35 = .ok (.invokevirtual 64, 3) := by decide +kernel
theorem dX9_append_38 : decode cX9_append 38 = .ok (.aload_n 0, 1) := by decide +kernel
theorem dX9_append_39 : decode cX9_append 39 = .ok (.iload 5, 2) := by decide +kernel
theorem dX9_append_41 : decode cX9_append 41 = .ok (.invokevirtual 64, 3) := by decide +kernel
theorem dX9_append_44 : decode cX9_append 44 = .ok (.aload_n 0, 1) := by decide +kernel
theorem dX9_append_45 : decode cX9_append 45 = .ok (.getfield 61, 3) := by decide +kernel
theorem dX9_append_48 : decode cX9_append 48 = .ok (.ireturn, 1) := by decide +kernel
theorem dX9_four_0 : decode cX9_four 0 = .ok (.iconst 3, 1) := by decide +kernel
theorem dX9_four_1 : decode cX9_four 1 = .ok (.istore_n 2, 1) := by decide +kernel
theorem dX9_four_2 : decode cX9_four 2 = .ok (.iload_n 2, 1) := by decide +kernel
theorem dX9_four_3 : decode cX9_four 3 = .ok (.ifCond .lt 35, 3) := by decide +kernel
theorem dX9_four_6 : decode cX9_four 6 = .ok (.aload_n 0, 1) := by decide +kernel
theorem dX9_four_7 : decode cX9_four 7 = .ok (.getfield 26, 3) := by decide +kernel
theorem dX9_four_10 : decode cX9_four 10 = .ok (.aload_n 0, 1) := by decide +kernel
theorem dX9_four_11 : decode cX9_four 11 = .ok (.getfield 61, 3) := by decide +kernel
theorem dX9_four_14 : decode cX9_four 14 = .ok (.iload_n 1, 1) := by decide +kernel
theorem dX9_four_15 : decode cX9_four 15 = .ok (.bipush 8, 2) := by decide +kernel
theorem dX9_four_17 : decode cX9_four 17 = .ok (.iload_n 2, 1) := by decide +kernel
theorem dX9_four_18 : decode cX9_four 18 = .ok (.imul, 1) := by decide +kernel
theorem dX9_four_19 : decode cX9_four 19 = .ok (.ishr, 1) := by decide +kernel
theorem dX9_four_20 : decode cX9_four 20 = .ok (.i2b, 1) := by decide +kernel
theorem dX9_four_21 : decode cX9_four 21 = .ok (.bastore, 1) := by decide +kernel
theorem dX9_four_22 : decode cX9_four 22 = .ok (.aload_n 0, 1) := by decide +kernel
theorem dX9_four_23 : decode cX9_four 23 = .ok (.dup, 1) := by decide +kernel
theorem dX9_four_24 : decode cX9_four 24 = .ok (.getfield 61, 3) := by decide +kernel
theorem dX9_four_27 : decode cX9_four 27 = .ok (.iconst 1, 1) := by decide +kernel
theorem dX9_four_28 : decode cX9_four 28 = .ok (.iadd, 1) := by decide +kernel
theorem dX9_four_29 : decode cX9_four 29 = .ok (.putfield 61, 3) := by decide +kernel
theorem dX9_four_32 : decode cX9_four 32 = .ok (.iinc 2 (-1), 3) := by decide +kernel
theorem dX9_four_35 : decode cX9_four 35 = .ok (.goto (-33), 3) := by decide +kernel
theorem dX9_four_38 : decode cX9_four 38 = .ok (.return_, 1) := by decide +kernel
theorem dX9_told_0 : decode cX9_told 0 = .ok (.aload_n 0, 1) := by decide +kernel
theorem dX9_told_1 : decode cX9_told 1 = .ok (.iconst 0, 1) := by decide +kernel
theorem dX9_told_2 : decode cX9_told 2 = .ok (.putfield 46, 3) := by decide +kernel
theorem dX9_told_5 : decode cX9_told 5 = .ok (.iload_n 1, 1) := by decide +kernel
theorem dX9_told_6 : decode cX9_told 6 = .ok (.ireturn, 1) := by decide +kernel
theorem dX9_parseErrorCode_0 : decode cX9_parseErrorCode 0 = .ok (.aload_n 0, 1) := by decide +kernel
theorem dX9_parseErrorCode_1 : decode cX9_parseErrorCode 1 = .ok (.aload_n 0, 1) := by decide +kernel
theorem dX9_parseErrorCode_2 : decode cX9_parseErrorCode 2 = .ok (.getfield 68, 3) := by decide +kernel
theorem dX9_parseErrorCode_5 : decode cX9_parseErrorCode 5 = .ok (.invokevirtual 71, 3) := by decide +kernel
theorem dX9_parseErrorCode_8 : decode cX9_parseErrorCode 8 = .ok (.ireturn, 1) := by decide +kernel
theorem dX9_parseErrorPosition_0 : decode cX9_parseErrorPosition 0 = .ok (.aload_n 0, 1) := by decide +kernel
theorem dX9_parseErrorPosition_1 : decode cX9_parseErrorPosition 1 = .ok (.aload_n 0, 1) := by decide +kernel
theorem dX9_parseErrorPosition_2 : decode cX9_parseErrorPosition 2 = .ok (.getfield 30, 3) := by decide +kernel
theorem dX9_parseErrorPosition_5 : decode cX9_parseErrorPosition 5 = .ok (.invokevirtual 71, 3) := by decide +kernel
theorem dX9_parseErrorPosition_8 : decode cX9_parseErrorPosition 8 = .ok (.ireturn, 1) := by decide +kernel
theorem dX9_bufferLength_0 : decode cX9_bufferLength 0 = .ok (.aload_n 0, 1) := by decide +kernel
theorem dX9_bufferLength_1 : decode cX9_bufferLength 1 = .ok (.aload_n 0, 1) := by decide +kernel
theorem dX9_bufferLength_2 : decode cX9_bufferLength 2 = .ok (.getfield 61, 3) := by decide +kernel
theorem dX9_bufferLength_5 : decode cX9_bufferLength 5 = .ok (.invokevirtual 71, 3) := by decide +kernel
theorem dX9_bufferLength_8 : decode cX9_bufferLength 8 = .ok (.ireturn, 1) := by decide +kernel
theorem dX9_isSmall_0 : decode cX9_isSmall 0 = .ok (.iload_n 1, 1) := by decide +kernel
theorem dX9_isSmall_1 : decode cX9_isSmall 1 = .ok (.aload_n 0, 1) := by decide +kernel
theorem dX9_isSmall_2 : decode cX9_isSmall 2 = .ok (.getfield 75, 3) := by decide +kernel
theorem dX9_isSmall_5 : decode cX9_isSmall 5 = .ok (.if_icmp .ge 23, 3) := by decide +kernel
theorem dX9_isSmall_8 : decode cX9_isSmall 8 = .ok (.aload_n 0, 1) := by decide +kernel
theorem dX9_isSmall_9 : decode cX9_isSmall 9 = .ok (.getfield 26, 3) := by decide +kernel
theorem dX9_isSmall_12 : decode cX9_isSmall 12 = .ok (.iload_n 1, 1) := by decide +kernel
theorem dX9_isSmall_13 : decode cX9_isSmall 13 = .ok (.baload, 1) := by decide +kernel
theorem dX9_isSmall_14 : decode cX9_isSmall 14 = .ok (.bipush 97, 2) := by decide +kernel
theorem dX9_isSmall_16 : decode cX9_isSmall 16 = .ok (.bipush 122, 2) := by decide +kernel
theorem dX9_isSmall_18 : decode cX9_isSmall 18 = .ok (.invokestatic 78, 3) := by decide +kernel
theorem dX9_isSmall_21 : decode cX9_isSmall 21 = .ok (.ifCond .eq 7, 3) := by decide +kernel
theorem dX9_isSmall_24 : decode cX9_isSmall 24 = .ok (.iconst 1, 1) := by decide +kernel
theorem dX9_isSmall_25 : decode cX9_isSmall 25 = .ok (.goto 4, 3) := by decide +kernel
theorem dX9_isSmall_28 : decode cX9_isSmall 28 = .ok (.iconst 0, 1) := by decide +kernel
theorem dX9_isSmall_29 : decode cX9_isSmall 29 = .ok (.ireturn, 1) := by decide +kernel
theorem dX9_isDigit_0 : decode cX9_isDigit 0 = .ok (.iload_n 1, 1) := by decide +kernel
theorem dX9_isDigit_1 : decode cX9_isDigit 1 = .ok (.aload_n 0, 1) := by decide +kernel
theorem dX9_isDigit_2 : decode cX9_isDigit 2 = .ok (.getfield 75, 3) := by decide +kernel
theorem dX9_isDigit_5 : decode cX9_isDigit 5 = .ok (.if_icmp .ge 23, 3) := by decide +kernel
theorem dX9_isDigit_8 : decode cX9_isDigit 8 = .ok (.aload_n 0, 1) := by decide +kernel
theorem dX9_isDigit_9 : decode cX9_isDigit 9 = .ok (.getfield 26, 3) := by decide +kernel
theorem dX9_isDigit_12 : decode cX9_isDigit 12 = .ok (.iload_n 1, 1) := by decide +kernel
theorem dX9_isDigit_13 : decode cX9_isDigit 13 = .ok (.baload, 1) := by decide +kernel
theorem dX9_isDigit_14 : decode cX9_isDigit 14 = .ok (.bipush 48, 2) := by decide +kernel
theorem dX9_isDigit_16 : decode cX9_isDigit 16 = .ok (.bipush 57, 2) := by decide +kernel
theorem dX9_isDigit_18 : decode cX9_isDigit 18 = .ok (.invokestatic 78, 3) := by decide +kernel
theorem dX9_isDigit_21 : decode cX9_isDigit 21 = .ok (.ifCond .eq 7, 3) := by decide +kernel
theorem dX9_isDigit_24 : decode cX9_isDigit 24 = .ok (.iconst 1, 1) := by decide +kernel
theorem dX9_isDigit_25 : decode cX9_isDigit 25 = .ok (.goto 4, 3) := by decide +kernel
theorem dX9_isDigit_28 : decode cX9_isDigit 28 = .ok (.iconst 0, 1) := by decide +kernel
theorem dX9_isDigit_29 : decode cX9_isDigit 29 = .ok (.ireturn, 1) := by decide +kernel
theorem dX9_goes_0 : decode cX9_goes 0 = .ok (.aload_n 0, 1) := by decide +kernel
theorem dX9_goes_1 : decode cX9_goes 1 = .ok (.getfield 68, 3) := by decide +kernel
theorem dX9_goes_4 : decode cX9_goes 4 = .ok (.ifCond .le 4, 3) := by decide +kernel
theorem dX9_goes_7 : decode cX9_goes 7 = .ok (.return_, 1) := by decide +kernel
theorem dX9_goes_8 : decode cX9_goes 8 = .ok (.aload_n 0, 1) := by decide +kernel
theorem dX9_goes_9 : decode cX9_goes 9 = .ok (.getfield 82, 3) := by decide +kernel
theorem dX9_goes_12 : decode cX9_goes 12 = .ok (.aload_n 0, 1) := by decide +kernel
theorem dX9_goes_13 : decode cX9_goes 13 = .ok (.getfield 75, 3) := by decide +kernel
theorem dX9_goes_16 : decode cX9_goes 16 = .ok (.if_icmp .ge 30, 3) := by decide +kernel
theorem dX9_goes_19 : decode cX9_goes 19 = .ok (.aload_n 0, 1) := by decide +kernel
theorem dX9_goes_20 : decode cX9_goes 20 = .ok (.getfield 26, 3) := by decide +kernel
theorem dX9_goes_23 : decode cX9_goes 23 = .ok (.aload_n 0, 1) := by decide +kernel
theorem dX9_goes_24 : decode cX9_goes 24 = .ok (.getfield 82, 3) := by decide +kernel
theorem dX9_goes_27 : decode cX9_goes 27 = .ok (.baload, 1) := by decide +kernel
theorem dX9_goes_28 : decode cX9_goes 28 = .ok (.bipush 32, 2) := by decide +kernel
theorem dX9_goes_30 : decode cX9_goes 30 = .ok (.if_icmp .ne 16, 3) := by decide +kernel
theorem dX9_goes_33 : decode cX9_goes 33 = .ok (.aload_n 0, 1) := by decide +kernel
theorem dX9_goes_34 : decode cX9_goes 34 = .ok (.dup, 1) := by decide +kernel
theorem dX9_goes_35 : decode cX9_goes 35 = .ok (.getfield 82, 3) := by decide +kernel
theorem dX9_goes_38 : decode cX9_goes 38 = .ok (.iconst 1, 1) := by decide +kernel
theorem dX9_goes_39 : decode cX9_goes 39 = .ok (.iadd, 1) := by decide +kernel
theorem dX9_goes_40 : decode cX9_goes 40 = .ok (.putfield 82, 3) := by decide +kernel
theorem dX9_goes_43 : decode cX9_goes 43 = .ok (.goto (-35), 3) := by decide +kernel
theorem dX9_goes_46 : decode cX9_goes 46 = .ok (.aload_n 0, 1) := by decide +kernel
theorem dX9_goes_47 : decode cX9_goes 47 = .ok (.aload_n 0, 1) := by decide +kernel
theorem dX9_goes_48 : decode cX9_goes 48 = .ok (.getfield 82, 3) := by decide +kernel
theorem dX9_goes_51 : decode cX9_goes 51 = .ok (.putfield 85, 3) := by decide +kernel
theorem dX9_goes_54 : decode cX9_goes 54 = .ok (.aload_n 0, 1) := by decide +kernel
theorem dX9_goes_55 : decode cX9_goes 55 = .ok (.aload_n 0, 1) := by decide +kernel
theorem dX9_goes_56 : decode cX9_goes 56 = .ok (.getfield 82, 3) := by decide +kernel
theorem dX9_goes_59 : decode cX9_goes 59 = .ok (.aload_n 0, 1) := by decide +kernel
theorem dX9_goes_60 : decode cX9_goes 60 = .ok (.getfield 75, 3) := by decide +kernel
theorem dX9_goes_63 : decode cX9_goes 63 = .ok (.if_icmp .ne 7, 3) := by decide +kernel
theorem dX9_goes_66 : decode cX9_goes 66 = .ok (.iconst 1, 1) := by decide +kernel
theorem dX9_goes_67 : decode cX9_goes 67 = .ok (.goto 4, 3) := by decide +kernel
theorem dX9_goes_70 : decode cX9_goes 70 = .ok (.iconst 0, 1) := by decide +kernel
theorem dX9_goes_71 : decode cX9_goes 71 = .ok (.putfield 88, 3) := by decide +kernel
theorem dX9_goes_74 : decode cX9_goes 74 = .ok (.aload_n 0, 1) := by decide +kernel
theorem dX9_goes_75 : decode cX9_goes 75 = .ok (.getfield 88, 3) := by decide +kernel
theorem dX9_goes_78 : decode cX9_goes 78 = .ok (.iconst 1, 1) := by decide +kernel
theorem dX9_goes_79 : decode cX9_goes 79 = .ok (.if_icmp .ne 4, 3) := by decide +kernel
theorem dX9_goes_82 : decode cX9_goes 82 = .ok (.return_, 1) := by decide +kernel
theorem dX9_goes_83 : decode cX9_goes 83 = .ok (.aload_n 0, 1) := by decide +kernel
theorem dX9_goes_84 : decode cX9_goes 84 = .ok (.aload_n 0, 1) := by decide +kernel
theorem dX9_goes_85 : decode cX9_goes 85 = .ok (.getfield 82, 3) := by decide +kernel
theorem dX9_goes_88 : decode cX9_goes 88 = .ok (.invokevirtual 91, 3) := by decide +kernel
theorem dX9_goes_91 : decode cX9_goes 91 = .ok (.ifCond .eq 51, 3) := by decide +kernel
theorem dX9_goes_94 : decode cX9_goes 94 = .ok (.aload_n 0, 1) := by decide +kernel
theorem dX9_goes_95 : decode cX9_goes 95 = .ok (.aload_n 0, 1) := by decide +kernel
theorem dX9_goes_96 : decode cX9_goes 96 = .ok (.getfield 82, 3) := by decide +kernel
theorem dX9_goes_99 : decode cX9_goes 99 = .ok (.invokevirtual 91, 3) := by decide +kernel
theorem dX9_goes_102 : decode cX9_goes 102 = .ok (.ifCond .eq 16, 3) := by decide +kernel
theorem dX9_goes_105 : decode cX9_goes 105 = .ok (.aload_n 0, 1) := by decide +kernel
theorem dX9_goes_106 : decode cX9_goes 106 = .ok (.dup, 1) := by decide +kernel
theorem dX9_goes_107 : decode cX9_goes 107 = .ok (.getfield 82, 3) := by decide +kernel
theorem dX9_goes_110 : decode cX9_goes 110 = .ok (.iconst 1, 1) := by decide +kernel
theorem dX9_goes_111 : decode cX9_goes 111 = .ok (.iadd, 1) := by decide +kernel
theorem dX9_goes_112 : decode cX9_goes 112 = .ok (.putfield 82, 3) := by decide +kernel
theorem dX9_goes_115 : decode cX9_goes 115 = .ok (.goto (-21), 3) := by decide +kernel
theorem dX9_goes_118 : decode cX9_goes 118 = .ok (.aload_n 0, 1) := by decide +kernel
theorem dX9_goes_119 : decode cX9_goes 119 = .ok (.aload_n 0, 1) := by decide +kernel
theorem dX9_goes_120 : decode cX9_goes 120 = .ok (.getfield 82, 3) := by decide +kernel
theorem dX9_goes_123 : decode cX9_goes 123 = .ok (.aload_n 0, 1) := by decide +kernel
theorem dX9_goes_124 : decode cX9_goes 124 = .ok (.getfield 85, 3) := by decide +kernel
theorem dX9_goes_127 : decode cX9_goes 127 = .ok (.isub, 1) := by decide +kernel
theorem dX9_goes_128 : decode cX9_goes 128 = .ok (.bipush 7, 2) := by decide +kernel
theorem dX9_goes_130 : decode cX9_goes 130 = .ok (.if_icmp .gt 7, 3) := by decide +kernel
theorem dX9_goes_133 : decode cX9_goes 133 = .ok (.iconst 2, 1) := by decide +kernel
theorem dX9_goes_134 : decode cX9_goes 134 = .ok (.goto 4, 3) := by decide +kernel
theorem dX9_goes_137 : decode cX9_goes 137 = .ok (.iconst 0, 1) := by decide +kernel
theorem dX9_goes_138 : decode cX9_goes 138 = .ok (.putfield 88, 3) := by decide +kernel
theorem dX9_goes_141 : decode cX9_goes 141 = .ok (.return_, 1) := by decide +kernel
theorem dX9_goes_142 : decode cX9_goes 142 = .ok (.aload_n 0, 1) := by decide +kernel
theorem dX9_goes_143 : decode cX9_goes 143 = .ok (.aload_n 0, 1) := by decide +kernel
theorem dX9_goes_144 : decode cX9_goes 144 = .ok (.getfield 82, 3) := by decide +kernel
theorem dX9_goes_147 : decode cX9_goes 147 = .ok (.invokevirtual 95, 3) := by decide +kernel
theorem dX9_goes_150 : decode cX9_goes 150 = .ok (.ifCond .eq 92, 3) := by decide +kernel
theorem dX9_goes_153 : decode cX9_goes 153 = .ok (.aload_n 0, 1) := by decide +kernel
theorem dX9_goes_154 : decode cX9_goes 154 = .ok (.iconst 0, 1) := by decide +kernel
theorem dX9_goes_155 : decode cX9_goes 155 = .ok (.putfield 98, 3) := by decide +kernel
theorem dX9_goes_158 : decode cX9_goes 158 = .ok (.aload_n 0, 1) := by decide +kernel
theorem dX9_goes_159 : decode cX9_goes 159 = .ok (.aload_n 0, 1) := by decide +kernel
theorem dX9_goes_160 : decode cX9_goes 160 = .ok (.getfield 82, 3) := by decide +kernel
theorem dX9_goes_163 : decode cX9_goes 163 = .ok (.invokevirtual 95, 3) := by decide +kernel
theorem dX9_goes_166 : decode cX9_goes 166 = .ok (.ifCond .eq 53, 3) := by decide +kernel
theorem dX9_goes_169 : decode cX9_goes 169 = .ok (.aload_n 0, 1) := by decide +kernel
theorem dX9_goes_170 : decode cX9_goes 170 = .ok (.getfield 82, 3) := by decide +kernel
theorem dX9_goes_173 : decode cX9_goes 173 = .ok (.aload_n 0, 1) := by decide +kernel
theorem dX9_goes_174 : decode cX9_goes 174 = .ok (.getfield 85, 3) := by decide +kernel
theorem dX9_goes_177 : decode cX9_goes 177 = .ok (.isub, 1) := by decide +kernel
theorem dX9_goes_178 : decode cX9_goes 178 = .ok (.iconst 3, 1) := by decide +kernel
theorem dX9_goes_179 : decode cX9_goes 179 = .ok (.if_icmp .ge 27, 3) := by decide +kernel
theorem dX9_goes_182 : decode cX9_goes 182 = .ok (.aload_n 0, 1) := by decide +kernel
theorem dX9_goes_183 : decode cX9_goes 183 = .ok (.bipush 10, 2) := by decide +kernel
theorem dX9_goes_185 : decode cX9_goes 185 = .ok (.aload_n 0, 1) := by decide +kernel
theorem dX9_goes_186 : decode cX9_goes 186 = .ok (.getfield 98, 3) := by decide +kernel
theorem dX9_goes_189 : decode cX9_goes 189 = .ok (.imul, 1) := by decide +kernel
theorem dX9_goes_190 : decode cX9_goes 190 = .ok (.aload_n 0, 1) := by decide +kernel
theorem dX9_goes_191 : decode cX9_goes 191 = .ok (.getfield 26, 3) := by decide +kernel
theorem dX9_goes_194 : decode cX9_goes 194 = .ok (.aload_n 0, 1) := by decide +kernel
theorem dX9_goes_195 : decode cX9_goes 195 = .ok (.getfield 82, 3) := by decide +kernel
theorem dX9_goes_198 : decode cX9_goes 198 = .ok (.baload, 1) := by decide +kernel
theorem dX9_goes_199 : decode cX9_goes 199 = .ok (.iadd, 1) := by decide +kernel
theorem dX9_goes_200 : decode cX9_goes 200 = .ok (.bipush 48, 2) := by decide +kernel
theorem dX9_goes_202 : decode cX9_goes 202 = .ok (.isub, 1) := by decide +kernel
theorem dX9_goes_203 : decode cX9_goes 203 = .ok (.putfield 98, 3) := by decide +kernel
theorem dX9_goes_206 : decode cX9_goes 206 = .ok (.aload_n 0, 1) := by decide +kernel
theorem dX9_goes_207 : decode cX9_goes 207 = .ok (.dup, 1) := by decide +kernel
theorem dX9_goes_208 : decode cX9_goes 208 = .ok (.getfield 82, 3) := by decide +kernel
theorem dX9_goes_211 : decode cX9_goes 211 = .ok (.iconst 1, 1) := by decide +kernel
theorem dX9_goes_212 : decode cX9_goes 212 = .ok (.iadd, 1) := by decide +kernel
theorem dX9_goes_213 : decode cX9_goes 213 = .ok (.putfield 82, 3) := by decide +kernel
theorem dX9_goes_216 : decode cX9_goes 216 = .ok (.goto (-58), 3) := by decide +kernel
theorem dX9_goes_219 : decode cX9_goes 219 = .ok (.aload_n 0, 1) := by decide +kernel
theorem dX9_goes_220 : decode cX9_goes 220 = .ok (.aload_n 0, 1) := by decide +kernel
theorem dX9_goes_221 : decode cX9_goes 221 = .ok (.getfield 82, 3) := by decide +kernel
theorem dX9_goes_224 : decode cX9_goes 224 = .ok (.aload_n 0, 1) := by decide +kernel
theorem dX9_goes_225 : decode cX9_goes 225 = .ok (.getfield 85, 3) := by decide +kernel
theorem dX9_goes_228 : decode cX9_goes 228 = .ok (.isub, 1) := by decide +kernel
theorem dX9_goes_229 : decode cX9_goes 229 = .ok (.iconst 3, 1) := by decide +kernel
theorem dX9_goes_230 : decode cX9_goes 230 = .ok (.if_icmp .gt 7, 3) := by decide +kernel
theorem dX9_goes_233 : decode cX9_goes 233 = .ok (.iconst 3, 1) := by decide +kernel
theorem dX9_goes_234 : decode cX9_goes 234 = .ok (.goto 4, 3) := by decide +kernel
theorem dX9_goes_237 : decode cX9_goes 237 = .ok (.iconst 0, 1) := by decide +kernel
theorem dX9_goes_238 : decode cX9_goes 238 = .ok (.putfield 88, 3) := by decide +kernel
theorem dX9_goes_241 : decode cX9_goes 241 = .ok (.return_, 1) := by decide +kernel
theorem dX9_goes_242 : decode cX9_goes 242 = .ok (.aload_n 0, 1) := by decide +kernel
theorem dX9_goes_243 : decode cX9_goes 243 = .ok (.aload_n 0, 1) := by decide +kernel
theorem dX9_goes_244 : decode cX9_goes 244 = .ok (.getfield 26, 3) := by decide +kernel
theorem dX9_goes_247 : decode cX9_goes 247 = .ok (.aload_n 0, 1) := by decide +kernel
theorem dX9_goes_248 : decode cX9_goes 248 = .ok (.getfield 82, 3) := by decide +kernel
theorem dX9_goes_251 : decode cX9_goes 251 = .ok (.baload, 1) := by decide +kernel
theorem dX9_goes_252 : decode cX9_goes 252 = .ok (.invokestatic 101, 3) := by decide +kernel
theorem dX9_goes_255 : decode cX9_goes 255 = .ok (.putfield 88, 3) := by decide +kernel
theorem dX9_goes_258 : decode cX9_goes 258 = .ok (.aload_n 0, 1) := by decide +kernel
theorem dX9_goes_259 : decode cX9_goes 259 = .ok (.dup, 1) := by decide +kernel
theorem dX9_goes_260 : decode cX9_goes 260 = .ok (.getfield 82, 3) := by decide +kernel
theorem dX9_goes_263 : decode cX9_goes 263 = .ok (.iconst 1, 1) := by decide +kernel
theorem dX9_goes_264 : decode cX9_goes 264 = .ok (.iadd, 1) := by decide +kernel
theorem dX9_goes_265 : decode cX9_goes 265 = .ok (.putfield 82, 3) := by decide +kernel
theorem dX9_goes_268 : decode cX9_goes 268 = .ok (.return_, 1) := by decide +kernel
theorem dX9_signOf_0 : decode cX9_signOf 0 = .ok (.iload_n 0, 1) := by decide +kernel
theorem dX9_signOf_1 : decode cX9_signOf 1 = .ok (.bipush 59, 2) := by decide +kernel
theorem dX9_signOf_3 : decode cX9_signOf 3 = .ok (.if_icmp .ne 7, 3) := by decide +kernel
theorem dX9_signOf_6 : decode cX9_signOf 6 = .ok (.iconst 4, 1) := by decide +kernel
theorem dX9_signOf_7 : decode cX9_signOf 7 = .ok (.goto 25, 3) := by decide +kernel
theorem dX9_signOf_10 : decode cX9_signOf 10 = .ok (.iload_n 0, 1) := by decide +kernel
theorem dX9_signOf_11 : decode cX9_signOf 11 = .ok (.bipush 40, 2) := by decide +kernel
theorem dX9_signOf_13 : decode cX9_signOf 13 = .ok (.if_icmp .ne 7, 3) := by decide +kernel
theorem dX9_signOf_16 : decode cX9_signOf 16 = .ok (.iconst 5, 1) := by decide +kernel
theorem dX9_signOf_17 : decode cX9_signOf 17 = .ok (.goto 15, 3) := by decide +kernel
theorem dX9_signOf_20 : decode cX9_signOf 20 = .ok (.iload_n 0, 1) := by decide +kernel
theorem dX9_signOf_21 : decode cX9_signOf 21 = .ok (.bipush 41, 2) := by decide +kernel
theorem dX9_signOf_23 : decode cX9_signOf 23 = .ok (.if_icmp .ne 8, 3) := by decide +kernel
theorem dX9_signOf_26 : decode cX9_signOf 26 = .ok (.bipush 6, 2) := by decide +kernel
theorem dX9_signOf_28 : decode cX9_signOf 28 = .ok (.goto 4, 3) := by decide +kernel
theorem dX9_signOf_31 : decode cX9_signOf 31 = .ok (.iconst 0, 1) := by decide +kernel
theorem dX9_signOf_32 : decode cX9_signOf 32 = .ok (.ireturn, 1) := by decide +kernel
theorem dX9_faults_0 : decode cX9_faults 0 = .ok (.aload_n 0, 1) := by decide +kernel
theorem dX9_faults_1 : decode cX9_faults 1 = .ok (.getfield 68, 3) := by decide +kernel
theorem dX9_faults_4 : decode cX9_faults 4 = .ok (.ifCond .le 4, 3) := by decide +kernel
theorem dX9_faults_7 : decode cX9_faults 7 = .ok (.return_, 1) := by decide +kernel
theorem dX9_faults_8 : decode cX9_faults 8 = .ok (.aload_n 0, 1) := by decide +kernel
theorem dX9_faults_9 : decode cX9_faults 9 = .ok (.iload_n 1, 1) := by decide +kernel
theorem dX9_faults_10 : decode cX9_faults 10 = .ok (.putfield 68, 3) := by decide +kernel
theorem dX9_faults_13 : decode cX9_faults 13 = .ok (.aload_n 0, 1) := by decide +kernel
theorem dX9_faults_14 : decode cX9_faults 14 = .ok (.aload_n 0, 1) := by decide +kernel
theorem dX9_faults_15 : decode cX9_faults 15 = .ok (.getfield 85, 3) := by decide +kernel
theorem dX9_faults_18 : decode cX9_faults 18 = .ok (.putfield 30, 3) := by decide +kernel
theorem dX9_faults_21 : decode cX9_faults 21 = .ok (.return_, 1) := by decide +kernel
theorem dX9_refuses_0 : decode cX9_refuses 0 = .ok (.aload_n 0, 1) := by decide +kernel
theorem dX9_refuses_1 : decode cX9_refuses 1 = .ok (.getfield 68, 3) := by decide +kernel
theorem dX9_refuses_4 : decode cX9_refuses 4 = .ok (.ifCond .ne 12, 3) := by decide +kernel
theorem dX9_refuses_7 : decode cX9_refuses 7 = .ok (.iload_n 1, 1) := by decide +kernel
theorem dX9_refuses_8 : decode cX9_refuses 8 = .ok (.ifCond .eq 8, 3) := by decide +kernel
theorem dX9_refuses_11 : decode cX9_refuses 11 = .ok (.aload_n 0, 1) := by decide +kernel
theorem dX9_refuses_12 : decode cX9_refuses 12 = .ok (.iconst 3, 1) := by decide +kernel
theorem dX9_refuses_13 : decode cX9_refuses 13 = .ok (.invokevirtual 104, 3) := by decide +kernel
theorem dX9_refuses_16 : decode cX9_refuses 16 = .ok (.return_, 1) := by decide +kernel
theorem dX9_limits_0 : decode cX9_limits 0 = .ok (.aload_n 0, 1) := by decide +kernel
theorem dX9_limits_1 : decode cX9_limits 1 = .ok (.getfield 68, 3) := by decide +kernel
theorem dX9_limits_4 : decode cX9_limits 4 = .ok (.ifCond .ne 12, 3) := by decide +kernel
theorem dX9_limits_7 : decode cX9_limits 7 = .ok (.iload_n 1, 1) := by decide +kernel
theorem dX9_limits_8 : decode cX9_limits 8 = .ok (.ifCond .eq 8, 3) := by decide +kernel
theorem dX9_limits_11 : decode cX9_limits 11 = .ok (.aload_n 0, 1) := by decide +kernel
theorem dX9_limits_12 : decode cX9_limits 12 = .ok (.iconst 4, 1) := by decide +kernel
theorem dX9_limits_13 : decode cX9_limits 13 = .ok (.invokevirtual 104, 3) := by decide +kernel
theorem dX9_limits_16 : decode cX9_limits 16 = .ok (.return_, 1) := by decide +kernel
theorem dX9_is_0 : decode cX9_is 0 = .ok (.aload_n 0, 1) := by decide +kernel
theorem dX9_is_1 : decode cX9_is 1 = .ok (.getfield 68, 3) := by decide +kernel
theorem dX9_is_4 : decode cX9_is 4 = .ok (.ifCond .ne 15, 3) := by decide +kernel
theorem dX9_is_7 : decode cX9_is 7 = .ok (.aload_n 0, 1) := by decide +kernel
theorem dX9_is_8 : decode cX9_is 8 = .ok (.getfield 88, 3) := by decide +kernel
theorem dX9_is_11 : decode cX9_is 11 = .ok (.iload_n 1, 1) := by decide +kernel
theorem dX9_is_12 : decode cX9_is 12 = .ok (.if_icmp .ne 7, 3) := by decide +kernel
theorem dX9_is_15 : decode cX9_is 15 = .ok (.iconst 1, 1) := by decide +kernel
theorem dX9_is_16 : decode cX9_is 16 = .ok (.goto 4, 3) := by decide +kernel
theorem dX9_is_19 : decode cX9_is 19 = .ok (.iconst 0, 1) := by decide +kernel
theorem dX9_is_20 : decode cX9_is 20 = .ok (.ireturn, 1) := by decide +kernel
theorem dX9_isWord_0 : decode cX9_isWord 0 = .ok (.aload_n 0, 1) := by decide +kernel
theorem dX9_isWord_1 : decode cX9_isWord 1 = .ok (.iconst 2, 1) := by decide +kernel
theorem dX9_isWord_2 : decode cX9_isWord 2 = .ok (.invokevirtual 107, 3) := by decide +kernel
theorem dX9_isWord_5 : decode cX9_isWord 5 = .ok (.ifCond .eq 19, 3) := by decide +kernel
theorem dX9_isWord_8 : decode cX9_isWord 8 = .ok (.aload_n 0, 1) := by decide +kernel
theorem dX9_isWord_9 : decode cX9_isWord 9 = .ok (.getfield 82, 3) := by decide +kernel
theorem dX9_isWord_12 : decode cX9_isWord 12 = .ok (.aload_n 0, 1) := by decide +kernel
theorem dX9_isWord_13 : decode cX9_isWord 13 = .ok (.getfield 85, 3) := by decide +kernel
theorem dX9_isWord_16 : decode cX9_isWord 16 = .ok (.isub, 1) := by decide +kernel
theorem dX9_isWord_17 : decode cX9_isWord 17 = .ok (.aload_n 1, 1) := by decide +kernel
theorem dX9_isWord_18 : decode cX9_isWord 18 = .ok (.invokevirtual 110, 3) := by decide +kernel
theorem dX9_isWord_21 : decode cX9_isWord 21 = .ok (.if_icmp .eq 5, 3) := by decide +kernel
theorem dX9_isWord_24 : decode cX9_isWord 24 = .ok (.iconst 0, 1) := by decide +kernel
theorem dX9_isWord_25 : decode cX9_isWord 25 = .ok (.ireturn, 1) := by decide +kernel
theorem dX9_isWord_26 : decode cX9_isWord 26 = .ok (.iconst 0, 1) := by decide +kernel
theorem dX9_isWord_27 : decode cX9_isWord 27 = .ok (.istore_n 2, 1) := by decide +kernel
theorem dX9_isWord_28 : decode cX9_isWord 28 = .ok (.iload_n 2, 1) := by decide +kernel
theorem dX9_isWord_29 : decode cX9_isWord 29 = .ok (.aload_n 1, 1) := by decide +kernel
theorem dX9_isWord_30 : decode cX9_isWord 30 = .ok (.invokevirtual 110, 3) := by decide +kernel
theorem dX9_isWord_33 : decode cX9_isWord 33 = .ok (.if_icmp .ge 30, 3) := by decide +kernel
theorem dX9_isWord_36 : decode cX9_isWord 36 = .ok (.aload_n 0, 1) := by decide +kernel
theorem dX9_isWord_37 : decode cX9_isWord 37 = .ok (.getfield 26, 3) := by decide +kernel
theorem dX9_isWord_40 : decode cX9_isWord 40 = .ok (.aload_n 0, 1) := by decide +kernel
theorem dX9_isWord_41 : decode cX9_isWord 41 = .ok (.getfield 85, 3) := by decide +kernel
theorem dX9_isWord_44 : decode cX9_isWord 44 = .ok (.iload_n 2, 1) := by decide +kernel
theorem dX9_isWord_45 : decode cX9_isWord 45 = .ok (.iadd, 1) := by decide +kernel
theorem dX9_isWord_46 : decode cX9_isWord 46 = .ok (.baload, 1) := by decide +kernel
theorem dX9_isWord_47 : decode cX9_isWord 47 = .ok (.aload_n 1, 1) := by decide +kernel
theorem dX9_isWord_48 : decode cX9_isWord 48 = .ok (.iload_n 2, 1) := by decide +kernel
theorem dX9_isWord_49 : decode cX9_isWord 49 = .ok (.invokevirtual 116, 3) := by decide +kernel
theorem dX9_isWord_52 : decode cX9_isWord 52 = .ok (.if_icmp .eq 5, 3) := by decide +kernel
theorem dX9_isWord_55 : decode cX9_isWord 55 = .ok (.iconst 0, 1) := by decide +kernel
theorem dX9_isWord_56 : decode cX9_isWord 56 = .ok (.ireturn, 1) := by decide +kernel
theorem dX9_isWord_57 : decode cX9_isWord 57 = .ok (.iinc 2 1, 3) := by decide +kernel
theorem dX9_isWord_60 : decode cX9_isWord 60 = .ok (.goto (-32), 3) := by decide +kernel
theorem dX9_isWord_63 : decode cX9_isWord 63 = .ok (.iconst 1, 1) := by decide +kernel
theorem dX9_isWord_64 : decode cX9_isWord 64 = .ok (.ireturn, 1) := by decide +kernel
theorem dX9_numberHere_0 : decode cX9_numberHere 0 = .ok (.aload_n 0, 1) := by decide +kernel
theorem dX9_numberHere_1 : decode cX9_numberHere 1 = .ok (.iconst 3, 1) := by decide +kernel
theorem dX9_numberHere_2 : decode cX9_numberHere 2 = .ok (.invokevirtual 107, 3) := by decide +kernel
theorem dX9_numberHere_5 : decode cX9_numberHere 5 = .ok (.ifCond .ne 11, 3) := by decide +kernel
theorem dX9_numberHere_8 : decode cX9_numberHere 8 = .ok (.aload_n 0, 1) := by decide +kernel
theorem dX9_numberHere_9 : decode cX9_numberHere 9 = .ok (.iconst 1, 1) := by decide +kernel
theorem dX9_numberHere_10 : decode cX9_numberHere 10 = .ok (.invokevirtual 104, 3) := by decide +kernel
theorem dX9_numberHere_13 : decode cX9_numberHere 13 = .ok (.goto 20, 3) := by decide +kernel
theorem dX9_numberHere_16 : decode cX9_numberHere 16 = .ok (.aload_n 0, 1) := by decide +kernel
theorem dX9_numberHere_17 : decode cX9_numberHere 17 = .ok (.getfield 98, 3) := by decide +kernel
theorem dX9_numberHere_20 : decode cX9_numberHere 20 = .ok (.iload_n 1, 1) := by decide +kernel
theorem dX9_numberHere_21 : decode cX9_numberHere 21 = .ok (.iload_n 2, 1) := by decide +kernel
theorem dX9_numberHere_22 : decode cX9_numberHere 22 = .ok (.invokestatic 78, 3) := by decide +kernel
theorem dX9_numberHere_25 : decode cX9_numberHere 25 = .ok (.ifCond .ne 8, 3) := by decide +kernel
theorem dX9_numberHere_28 : decode cX9_numberHere 28 = .ok (.aload_n 0, 1) := by decide +kernel
theorem dX9_numberHere_29 : decode cX9_numberHere 29 = .ok (.iconst 2, 1) := by decide +kernel
theorem dX9_numberHere_30 : decode cX9_numberHere 30 = .ok (.invokevirtual 104, 3) := by decide +kernel
theorem dX9_numberHere_33 : decode cX9_numberHere 33 = .ok (.aload_n 0, 1) := by decide +kernel
theorem dX9_numberHere_34 : decode cX9_numberHere 34 = .ok (.getfield 68, 3) := by decide +kernel
theorem dX9_numberHere_37 : decode cX9_numberHere 37 = .ok (.ifCond .le 7, 3) := by decide +kernel
theorem dX9_numberHere_40 : decode cX9_numberHere 40 = .ok (.iload_n 1, 1) := by decide +kernel
theorem dX9_numberHere_41 : decode cX9_numberHere 41 = .ok (.goto 7, 3) := by decide +kernel
theorem dX9_numberHere_44 : decode cX9_numberHere 44 = .ok (.aload_n 0, 1) := by decide +kernel
theorem dX9_numberHere_45 : decode cX9_numberHere 45 = .ok (.getfield 98, 3) := by decide +kernel
theorem dX9_numberHere_48 : decode cX9_numberHere 48 = .ok (.ireturn, 1) := by decide +kernel
theorem dX9_readNumber_0 : decode cX9_readNumber 0 = .ok (.aload_n 0, 1) := by decide +kernel
theorem dX9_readNumber_1 : decode cX9_readNumber 1 = .ok (.iload_n 1, 1) := by decide +kernel
theorem dX9_readNumber_2 : decode cX9_readNumber 2 = .ok (.iload_n 2, 1) := by decide +kernel
theorem dX9_readNumber_3 : decode cX9_readNumber 3 = .ok (.invokevirtual 120, 3) := by decide +kernel
theorem dX9_readNumber_6 : decode cX9_readNumber 6 = .ok (.istore_n 3, 1) := by decide +kernel
theorem dX9_readNumber_7 : decode cX9_readNumber 7 = .ok (.aload_n 0, 1) := by decide +kernel
theorem dX9_readNumber_8 : decode cX9_readNumber 8 = .ok (.invokevirtual 124, 3) := by decide +kernel
theorem dX9_readNumber_11 : decode cX9_readNumber 11 = .ok (.iload_n 3, 1) := by decide +kernel
theorem dX9_readNumber_12 : decode cX9_readNumber 12 = .ok (.ireturn, 1) := by decide +kernel
theorem dX9_indexHere_0 : decode cX9_indexHere 0 = .ok (.aload_n 0, 1) := by decide +kernel
theorem dX9_indexHere_1 : decode cX9_indexHere 1 = .ok (.iconst 0, 1) := by decide +kernel
theorem dX9_indexHere_2 : decode cX9_indexHere 2 = .ok (.aload_n 0, 1) := by decide +kernel
theorem dX9_indexHere_3 : decode cX9_indexHere 3 = .ok (.getfield 9, 3) := by decide +kernel
theorem dX9_indexHere_6 : decode cX9_indexHere 6 = .ok (.iload_n 1, 1) := by decide +kernel
theorem dX9_indexHere_7 : decode cX9_indexHere 7 = .ok (.iaload, 1) := by decide +kernel
theorem dX9_indexHere_8 : decode cX9_indexHere 8 = .ok (.iconst 1, 1) := by decide +kernel
theorem dX9_indexHere_9 : decode cX9_indexHere 9 = .ok (.isub, 1) := by decide +kernel
theorem dX9_indexHere_10 : decode cX9_indexHere 10 = .ok (.invokevirtual 120, 3) := by decide +kernel
theorem dX9_indexHere_13 : decode cX9_indexHere 13 = .ok (.ireturn, 1) := by decide +kernel
theorem dX9_readIndex_0 : decode cX9_readIndex 0 = .ok (.aload_n 0, 1) := by decide +kernel
theorem dX9_readIndex_1 : decode cX9_readIndex 1 = .ok (.iload_n 1, 1) := by decide +kernel
theorem dX9_readIndex_2 : decode cX9_readIndex 2 = .ok (.invokevirtual 127, 3) := by decide +kernel
theorem dX9_readIndex_5 : decode cX9_readIndex 5 = .ok (.istore_n 2, 1) := by decide +kernel
theorem dX9_readIndex_6 : decode cX9_readIndex 6 = .ok (.aload_n 0, 1) := by decide +kernel
theorem dX9_readIndex_7 : decode cX9_readIndex 7 = .ok (.invokevirtual 124, 3) := by decide +kernel
theorem dX9_readIndex_10 : decode cX9_readIndex 10 = .ok (.iload_n 2, 1) := by decide +kernel
theorem dX9_readIndex_11 : decode cX9_readIndex 11 = .ok (.ireturn, 1) := by decide +kernel
theorem dX9_readColour_0 : decode cX9_readColour 0 = .ok (.aload_n 0, 1) := by decide +kernel
theorem dX9_readColour_1 : decode cX9_readColour 1 = .ok (.iconst 2, 1) := by decide +kernel
theorem dX9_readColour_2 : decode cX9_readColour 2 = .ok (.invokevirtual 107, 3) := by decide +kernel
theorem dX9_readColour_5 : decode cX9_readColour 5 = .ok (.ifCond .eq 39, 3) := by decide +kernel
theorem dX9_readColour_8 : decode cX9_readColour 8 = .ok (.aload_n 0, 1) := by decide +kernel
theorem dX9_readColour_9 : decode cX9_readColour 9 = .ok (.getfield 82, 3) := by decide +kernel
theorem dX9_readColour_12 : decode cX9_readColour 12 = .ok (.aload_n 0, 1) := by decide +kernel
theorem dX9_readColour_13 : decode cX9_readColour 13 = .ok (.getfield 85, 3) := by decide +kernel
theorem dX9_readColour_16 : decode cX9_readColour 16 = .ok (.isub, 1) := by decide +kernel
theorem dX9_readColour_17 : decode cX9_readColour 17 = .ok (.iconst 1, 1) := by decide +kernel
theorem dX9_readColour_18 : decode cX9_readColour 18 = .ok (.if_icmp .ne 26, 3) := by decide +kernel
theorem dX9_readColour_21 : decode cX9_readColour 21 = .ok (.aload_n 0, 1) := by decide +kernel
theorem dX9_readColour_22 : decode cX9_readColour 22 = .ok (.getfield 26, 3) := by decide +kernel
theorem dX9_readColour_25 : decode cX9_readColour 25 = .ok (.aload_n 0, 1) := by decide +kernel
theorem dX9_readColour_26 : decode cX9_readColour 26 = .ok (.getfield 85, 3) := by decide +kernel
theorem dX9_readColour_29 : decode cX9_readColour 29 = .ok (.baload, 1) := by decide +kernel
theorem dX9_readColour_30 : decode cX9_readColour 30 = .ok (.bipush 97, 2) := by decide +kernel
theorem dX9_readColour_32 : decode cX9_readColour 32 = .ok (.bipush 102, 2) := by decide +kernel
theorem dX9_readColour_34 : decode cX9_readColour 34 = .ok (.invokestatic 78, 3) := by decide +kernel
theorem dX9_readColour_37 : decode cX9_readColour 37 = .ok (.ifCond .eq 7, 3) := by decide +kernel
theorem dX9_readColour_40 : decode cX9_readColour 40 = .ok (.iconst 1, 1) := by decide +kernel
theorem dX9_readColour_41 : decode cX9_readColour 41 = .ok (.goto 4, 3) := by decide +kernel
theorem dX9_readColour_44 : decode cX9_readColour 44 = .ok (.iconst 0, 1) := by decide +kernel
theorem dX9_readColour_45 : decode cX9_readColour 45 = .ok (.istore_n 1, 1) := by decide +kernel
theorem dX9_readColour_46 : decode cX9_readColour 46 = .ok (.iload_n 1, 1) := by decide +kernel
theorem dX9_readColour_47 : decode cX9_readColour 47 = .ok (.ifCond .ne 8, 3) := by decide +kernel
theorem dX9_readColour_50 : decode cX9_readColour 50 = .ok (.aload_n 0, 1) := by decide +kernel
theorem dX9_readColour_51 : decode cX9_readColour 51 = .ok (.iconst 1, 1) := by decide +kernel
theorem dX9_readColour_52 : decode cX9_readColour 52 = .ok (.invokevirtual 104, 3) := by decide +kernel
theorem dX9_readColour_55 : decode cX9_readColour 55 = .ok (.iload_n 1, 1) := by decide +kernel
theorem dX9_readColour_56 : decode cX9_readColour 56 = .ok (.ifCond .eq 18, 3) := by decide +kernel
theorem dX9_readColour_59 : decode cX9_readColour 59 = .ok (.aload_n 0, 1) := by decide +kernel
theorem dX9_readColour_60 : decode cX9_readColour 60 = .ok (.getfield 26, 3) := by decide +kernel
theorem dX9_readColour_63 : decode cX9_readColour 63 = .ok (.aload_n 0, 1) := by decide +kernel
theorem dX9_readColour_64 : decode cX9_readColour 64 = .ok (.getfield 85, 3) := by decide +kernel
theorem dX9_readColour_67 : decode cX9_readColour 67 = .ok (.baload, 1) := by decide +kernel
theorem dX9_readColour_68 : decode cX9_readColour 68 = .ok (.bipush 97, 2) := by decide +kernel
theorem dX9_readColour_70 : decode cX9_readColour 70 = .ok (.isub, 1) := by decide +kernel
theorem dX9_readColour_71 : decode cX9_readColour 71 = .ok (.goto 4, 3) := by decide +kernel
theorem dX9_readColour_74 : decode cX9_readColour 74 = .ok (.iconst 0, 1) := by decide +kernel
theorem dX9_readColour_75 : decode cX9_readColour 75 = .ok (.istore_n 2, 1) := by decide +kernel
theorem dX9_readColour_76 : decode cX9_readColour 76 = .ok (.aload_n 0, 1) := by decide +kernel
theorem dX9_readColour_77 : decode cX9_readColour 77 = .ok (.invokevirtual 124, 3) := by decide +kernel
theorem dX9_readColour_80 : decode cX9_readColour 80 = .ok (.iload_n 2, 1) := by decide +kernel
theorem dX9_readColour_81 : decode cX9_readColour 81 = .ok (.ireturn, 1) := by decide +kernel
theorem dX9_addsWarp_0 : decode cX9_addsWarp 0 = .ok (.aload_n 0, 1) := by decide +kernel
theorem dX9_addsWarp_1 : decode cX9_addsWarp 1 = .ok (.iconst 0, 1) := by decide +kernel
theorem dX9_addsWarp_2 : decode cX9_addsWarp 2 = .ok (.invokevirtual 127, 3) := by decide +kernel
theorem dX9_addsWarp_5 : decode cX9_addsWarp 5 = .ok (.istore_n 2, 1) := by decide +kernel
theorem dX9_addsWarp_6 : decode cX9_addsWarp 6 = .ok (.aload_n 0, 1) := by decide +kernel
theorem dX9_addsWarp_7 : decode cX9_addsWarp 7 = .ok (.aload_n 0, 1) := by decide +kernel
theorem dX9_addsWarp_8 : decode cX9_addsWarp 8 = .ok (.getfield 9, 3) := by decide +kernel
theorem dX9_addsWarp_11 : decode cX9_addsWarp 11 = .ok (.iconst 2, 1) := by decide +kernel
theorem dX9_addsWarp_12 : decode cX9_addsWarp 12 = .ok (.iaload, 1) := by decide +kernel
theorem dX9_addsWarp_13 : decode cX9_addsWarp 13 = .ok (.bipush 24, 2) := by decide +kernel
theorem dX9_addsWarp_15 : decode cX9_addsWarp 15 = .ok (.if_icmp .ne 7, 3) := by decide +kernel
theorem dX9_addsWarp_18 : decode cX9_addsWarp 18 = .ok (.iconst 1, 1) := by decide +kernel
theorem dX9_addsWarp_19 : decode cX9_addsWarp 19 = .ok (.goto 4, 3) := by decide +kernel
theorem dX9_addsWarp_22 : decode cX9_addsWarp 22 = .ok (.iconst 0, 1) := by decide +kernel
theorem dX9_addsWarp_23 : decode cX9_addsWarp 23 = .ok (.invokevirtual 130, 3) := by decide +kernel
theorem dX9_addsWarp_26 : decode cX9_addsWarp 26 = .ok (.aload_n 0, 1) := by decide +kernel
theorem dX9_addsWarp_27 : decode cX9_addsWarp 27 = .ok (.getfield 68, 3) := by decide +kernel
theorem dX9_addsWarp_30 : decode cX9_addsWarp 30 = .ok (.ifCond .le 4, 3) := by decide +kernel
theorem dX9_addsWarp_33 : decode cX9_addsWarp 33 = .ok (.return_, 1) := by decide +kernel
theorem dX9_addsWarp_34 : decode cX9_addsWarp 34 = .ok (.aload_n 0, 1) := by decide +kernel
theorem dX9_addsWarp_35 : decode cX9_addsWarp 35 = .ok (.aload_n 0, 1) := by decide +kernel
theorem dX9_addsWarp_36 : decode cX9_addsWarp 36 = .ok (.getfield 9, 3) := by decide +kernel
theorem dX9_addsWarp_39 : decode cX9_addsWarp 39 = .ok (.iconst 2, 1) := by decide +kernel
theorem dX9_addsWarp_40 : decode cX9_addsWarp 40 = .ok (.iaload, 1) := by decide +kernel
theorem dX9_addsWarp_41 : decode cX9_addsWarp 41 = .ok (.iconst 0, 1) := by decide +kernel
theorem dX9_addsWarp_42 : decode cX9_addsWarp 42 = .ok (.iload_n 2, 1) := by decide +kernel
theorem dX9_addsWarp_43 : decode cX9_addsWarp 43 = .ok (.invokevirtual 134, 3) := by decide +kernel
theorem dX9_addsWarp_46 : decode cX9_addsWarp 46 = .ok (.aload_n 0, 1) := by decide +kernel
theorem dX9_addsWarp_47 : decode cX9_addsWarp 47 = .ok (.aload_n 0, 1) := by decide +kernel
theorem dX9_addsWarp_48 : decode cX9_addsWarp 48 = .ok (.getfield 9, 3) := by decide +kernel
theorem dX9_addsWarp_51 : decode cX9_addsWarp 51 = .ok (.iconst 2, 1) := by decide +kernel
theorem dX9_addsWarp_52 : decode cX9_addsWarp 52 = .ok (.iaload, 1) := by decide +kernel
theorem dX9_addsWarp_53 : decode cX9_addsWarp 53 = .ok (.iconst 1, 1) := by decide +kernel
theorem dX9_addsWarp_54 : decode cX9_addsWarp 54 = .ok (.iload_n 1, 1) := by decide +kernel
theorem dX9_addsWarp_55 : decode cX9_addsWarp 55 = .ok (.invokevirtual 134, 3) := by decide +kernel
theorem dX9_addsWarp_58 : decode cX9_addsWarp 58 = .ok (.aload_n 0, 1) := by decide +kernel
theorem dX9_addsWarp_59 : decode cX9_addsWarp 59 = .ok (.aload_n 0, 1) := by decide +kernel
theorem dX9_addsWarp_60 : decode cX9_addsWarp 60 = .ok (.getfield 9, 3) := by decide +kernel
theorem dX9_addsWarp_63 : decode cX9_addsWarp 63 = .ok (.iconst 2, 1) := by decide +kernel
theorem dX9_addsWarp_64 : decode cX9_addsWarp 64 = .ok (.iaload, 1) := by decide +kernel
theorem dX9_addsWarp_65 : decode cX9_addsWarp 65 = .ok (.iconst 2, 1) := by decide +kernel
theorem dX9_addsWarp_66 : decode cX9_addsWarp 66 = .ok (.iconst 0, 1) := by decide +kernel
theorem dX9_addsWarp_67 : decode cX9_addsWarp 67 = .ok (.invokevirtual 134, 3) := by decide +kernel
theorem dX9_addsWarp_70 : decode cX9_addsWarp 70 = .ok (.aload_n 0, 1) := by decide +kernel
theorem dX9_addsWarp_71 : decode cX9_addsWarp 71 = .ok (.getfield 9, 3) := by decide +kernel
theorem dX9_addsWarp_74 : decode cX9_addsWarp 74 = .ok (.iconst 2, 1) := by decide +kernel
theorem dX9_addsWarp_75 : decode cX9_addsWarp 75 = .ok (.dup2, 1) := by decide +kernel
theorem dX9_addsWarp_76 : decode cX9_addsWarp 76 = .ok (.iaload, 1) := by decide +kernel
theorem dX9_addsWarp_77 : decode cX9_addsWarp 77 = .ok (.iconst 1, 1) := by decide +kernel
theorem dX9_addsWarp_78 : decode cX9_addsWarp 78 = .ok (.iadd, 1) := by decide +kernel
theorem dX9_addsWarp_79 : decode cX9_addsWarp 79 = .ok (.iastore, 1) := by decide +kernel
theorem dX9_addsWarp_80 : decode cX9_addsWarp 80 = .ok (.aload_n 0, 1) := by decide +kernel
theorem dX9_addsWarp_81 : decode cX9_addsWarp 81 = .ok (.invokevirtual 124, 3) := by decide +kernel
theorem dX9_addsWarp_84 : decode cX9_addsWarp 84 = .ok (.return_, 1) := by decide +kernel
theorem dX9_readsWarp_0 : decode cX9_readsWarp 0 = .ok (.aload_n 0, 1) := by decide +kernel
theorem dX9_readsWarp_1 : decode cX9_readsWarp 1 = .ok (.aload_n 0, 1) := by decide +kernel
theorem dX9_readsWarp_2 : decode cX9_readsWarp 2 = .ok (.getfield 9, 3) := by decide +kernel
theorem dX9_readsWarp_5 : decode cX9_readsWarp 5 = .ok (.iconst 5, 1) := by decide +kernel
theorem dX9_readsWarp_6 : decode cX9_readsWarp 6 = .ok (.iaload, 1) := by decide +kernel
theorem dX9_readsWarp_7 : decode cX9_readsWarp 7 = .ok (.ifCond .le 7, 3) := by decide +kernel
theorem dX9_readsWarp_10 : decode cX9_readsWarp 10 = .ok (.iconst 1, 1) := by decide +kernel
theorem dX9_readsWarp_11 : decode cX9_readsWarp 11 = .ok (.goto 4, 3) := by decide +kernel
theorem dX9_readsWarp_14 : decode cX9_readsWarp 14 = .ok (.iconst 0, 1) := by decide +kernel
theorem dX9_readsWarp_15 : decode cX9_readsWarp 15 = .ok (.invokevirtual 138, 3) := by decide +kernel
theorem dX9_readsWarp_18 : decode cX9_readsWarp 18 = .ok (.aload_n 0, 1) := by decide +kernel
theorem dX9_readsWarp_19 : decode cX9_readsWarp 19 = .ok (.invokevirtual 124, 3) := by decide +kernel
theorem dX9_readsWarp_22 : decode cX9_readsWarp 22 = .ok (.aload_n 0, 1) := by decide +kernel
theorem dX9_readsWarp_23 : decode cX9_readsWarp 23 = .ok (.invokevirtual 141, 3) := by decide +kernel
theorem dX9_readsWarp_26 : decode cX9_readsWarp 26 = .ok (.istore_n 1, 1) := by decide +kernel
theorem dX9_readsWarp_27 : decode cX9_readsWarp 27 = .ok (.aload_n 0, 1) := by decide +kernel
theorem dX9_readsWarp_28 : decode cX9_readsWarp 28 = .ok (.iload_n 1, 1) := by decide +kernel
theorem dX9_readsWarp_29 : decode cX9_readsWarp 29 = .ok (.invokevirtual 144, 3) := by decide +kernel
theorem dX9_readsWarp_32 : decode cX9_readsWarp 32 = .ok (.aload_n 0, 1) := by decide +kernel
theorem dX9_readsWarp_33 : decode cX9_readsWarp 33 = .ok (.iconst 3, 1) := by decide +kernel
theorem dX9_readsWarp_34 : decode cX9_readsWarp 34 = .ok (.invokevirtual 107, 3) := by decide +kernel
theorem dX9_readsWarp_37 : decode cX9_readsWarp 37 = .ok (.ifCond .ne (-10), 3) := by decide +kernel
theorem dX9_readsWarp_40 : decode cX9_readsWarp 40 = .ok (.return_, 1) := by decide +kernel
theorem dX9_readsCard_0 : decode cX9_readsCard 0 = .ok (.aload_n 0, 1) := by decide +kernel
theorem dX9_readsCard_1 : decode cX9_readsCard 1 = .ok (.aload_n 0, 1) := by decide +kernel
theorem dX9_readsCard_2 : decode cX9_readsCard 2 = .ok (.getfield 9, 3) := by decide +kernel
theorem dX9_readsCard_5 : decode cX9_readsCard 5 = .ok (.iconst 3, 1) := by decide +kernel
theorem dX9_readsCard_6 : decode cX9_readsCard 6 = .ok (.iaload, 1) := by decide +kernel
theorem dX9_readsCard_7 : decode cX9_readsCard 7 = .ok (.bipush 12, 2) := by decide +kernel
theorem dX9_readsCard_9 : decode cX9_readsCard 9 = .ok (.if_icmp .ne 7, 3) := by decide +kernel
theorem dX9_readsCard_12 : decode cX9_readsCard 12 = .ok (.iconst 1, 1) := by decide +kernel
theorem dX9_readsCard_13 : decode cX9_readsCard 13 = .ok (.goto 4, 3) := by decide +kernel
theorem dX9_readsCard_16 : decode cX9_readsCard 16 = .ok (.iconst 0, 1) := by decide +kernel
theorem dX9_readsCard_17 : decode cX9_readsCard 17 = .ok (.invokevirtual 130, 3) := by decide +kernel
theorem dX9_readsCard_20 : decode cX9_readsCard 20 = .ok (.aload_n 0, 1) := by decide +kernel
theorem dX9_readsCard_21 : decode cX9_readsCard 21 = .ok (.invokevirtual 124, 3) := by decide +kernel
theorem dX9_readsCard_24 : decode cX9_readsCard 24 = .ok (.aload_n 0, 1) := by decide +kernel
theorem dX9_readsCard_25 : decode cX9_readsCard 25 = .ok (.invokevirtual 141, 3) := by decide +kernel
theorem dX9_readsCard_28 : decode cX9_readsCard 28 = .ok (.istore_n 1, 1) := by decide +kernel
theorem dX9_readsCard_29 : decode cX9_readsCard 29 = .ok (.iconst 0, 1) := by decide +kernel
theorem dX9_readsCard_30 : decode cX9_readsCard 30 = .ok (.istore_n 2, 1) := by decide +kernel
theorem dX9_readsCard_31 : decode cX9_readsCard 31 = .ok (.aload_n 0, 1) := by decide +kernel
theorem dX9_readsCard_32 : decode cX9_readsCard 32 = .ok (.iconst 3, 1) := by decide +kernel
theorem dX9_readsCard_33 : decode cX9_readsCard 33 = .ok (.invokevirtual 107, 3) := by decide +kernel
theorem dX9_readsCard_36 : decode cX9_readsCard 36 = .ok (.ifCond .eq 31, 3) := by decide +kernel
theorem dX9_readsCard_39 : decode cX9_readsCard 39 = .ok (.aload_n 0, 1) := by decide +kernel
theorem dX9_readsCard_40 : decode cX9_readsCard 40 = .ok (.iconst 0, 1) := by decide +kernel
theorem dX9_readsCard_41 : decode cX9_readsCard 41 = .ok (.invokevirtual 127, 3) := by decide +kernel
theorem dX9_readsCard_44 : decode cX9_readsCard 44 = .ok (.istore_n 3, 1) := by decide +kernel
theorem dX9_readsCard_45 : decode cX9_readsCard 45 = .ok (.aload_n 0, 1) := by decide +kernel
theorem dX9_readsCard_46 : decode cX9_readsCard 46 = .ok (.iload_n 2, 1) := by decide +kernel
theorem dX9_readsCard_47 : decode cX9_readsCard 47 = .ok (.iload_n 3, 1) := by decide +kernel
theorem dX9_readsCard_48 : decode cX9_readsCard 48 = .ok (.invokestatic 147, 3) := by decide +kernel
theorem dX9_readsCard_51 : decode cX9_readsCard 51 = .ok (.invokevirtual 138, 3) := by decide +kernel
theorem dX9_readsCard_54 : decode cX9_readsCard 54 = .ok (.iload_n 2, 1) := by decide +kernel
theorem dX9_readsCard_55 : decode cX9_readsCard 55 = .ok (.iconst 1, 1) := by decide +kernel
theorem dX9_readsCard_56 : decode cX9_readsCard 56 = .ok (.iload_n 3, 1) := by decide +kernel
theorem dX9_readsCard_57 : decode cX9_readsCard 57 = .ok (.ishl, 1) := by decide +kernel
theorem dX9_readsCard_58 : decode cX9_readsCard 58 = .ok (.ior, 1) := by decide +kernel
theorem dX9_readsCard_59 : decode cX9_readsCard 59 = .ok (.istore_n 2, 1) := by decide +kernel
theorem dX9_readsCard_60 : decode cX9_readsCard 60 = .ok (.aload_n 0, 1) := by decide +kernel
theorem dX9_readsCard_61 : decode cX9_readsCard 61 = .ok (.invokevirtual 124, 3) := by decide +kernel
theorem dX9_readsCard_64 : decode cX9_readsCard 64 = .ok (.goto (-33), 3) := by decide +kernel
theorem dX9_readsCard_67 : decode cX9_readsCard 67 = .ok (.aload_n 0, 1) := by decide +kernel
theorem dX9_readsCard_68 : decode cX9_readsCard 68 = .ok (.getfield 68, 3) := by decide +kernel
theorem dX9_readsCard_71 : decode cX9_readsCard 71 = .ok (.ifCond .le 4, 3) := by decide +kernel
theorem dX9_readsCard_74 : decode cX9_readsCard 74 = .ok (.return_, 1) := by decide +kernel
theorem dX9_readsCard_75 : decode cX9_readsCard 75 = .ok (.aload_n 0, 1) := by decide +kernel
theorem dX9_readsCard_76 : decode cX9_readsCard 76 = .ok (.getfield 9, 3) := by decide +kernel
theorem dX9_readsCard_79 : decode cX9_readsCard 79 = .ok (.iconst 3, 1) := by decide +kernel
theorem dX9_readsCard_80 : decode cX9_readsCard 80 = .ok (.iaload, 1) := by decide +kernel
theorem dX9_readsCard_81 : decode cX9_readsCard 81 = .ok (.istore_n 3, 1) := by decide +kernel
theorem dX9_readsCard_82 : decode cX9_readsCard 82 = .ok (.aload_n 0, 1) := by decide +kernel
theorem dX9_readsCard_83 : decode cX9_readsCard 83 = .ok (.iload_n 3, 1) := by decide +kernel
theorem dX9_readsCard_84 : decode cX9_readsCard 84 = .ok (.iconst 0, 1) := by decide +kernel
theorem dX9_readsCard_85 : decode cX9_readsCard 85 = .ok (.iload_n 2, 1) := by decide +kernel
theorem dX9_readsCard_86 : decode cX9_readsCard 86 = .ok (.invokevirtual 151, 3) := by decide +kernel
theorem dX9_readsCard_89 : decode cX9_readsCard 89 = .ok (.aload_n 0, 1) := by decide +kernel
theorem dX9_readsCard_90 : decode cX9_readsCard 90 = .ok (.iload_n 3, 1) := by decide +kernel
theorem dX9_readsCard_91 : decode cX9_readsCard 91 = .ok (.iconst 1, 1) := by decide +kernel
theorem dX9_readsCard_92 : decode cX9_readsCard 92 = .ok (.iload_n 1, 1) := by decide +kernel
theorem dX9_readsCard_93 : decode cX9_readsCard 93 = .ok (.invokevirtual 151, 3) := by decide +kernel
theorem dX9_readsCard_96 : decode cX9_readsCard 96 = .ok (.aload_n 0, 1) := by decide +kernel
theorem dX9_readsCard_97 : decode cX9_readsCard 97 = .ok (.iload_n 3, 1) := by decide +kernel
theorem dX9_readsCard_98 : decode cX9_readsCard 98 = .ok (.iconst 2, 1) := by decide +kernel
theorem dX9_readsCard_99 : decode cX9_readsCard 99 = .ok (.iload_n 2, 1) := by decide +kernel
theorem dX9_readsCard_100 : decode cX9_readsCard 100 = .ok (.invokevirtual 151, 3) := by decide +kernel
theorem dX9_readsCard_103 : decode cX9_readsCard 103 = .ok (.aload_n 0, 1) := by decide +kernel
theorem dX9_readsCard_104 : decode cX9_readsCard 104 = .ok (.iload_n 3, 1) := by decide +kernel
theorem dX9_readsCard_105 : decode cX9_readsCard 105 = .ok (.iconst 3, 1) := by decide +kernel
theorem dX9_readsCard_106 : decode cX9_readsCard 106 = .ok (.iload_n 1, 1) := by decide +kernel
theorem dX9_readsCard_107 : decode cX9_readsCard 107 = .ok (.invokevirtual 151, 3) := by decide +kernel
theorem dX9_readsCard_110 : decode cX9_readsCard 110 = .ok (.aload_n 0, 1) := by decide +kernel
theorem dX9_readsCard_111 : decode cX9_readsCard 111 = .ok (.getfield 9, 3) := by decide +kernel
theorem dX9_readsCard_114 : decode cX9_readsCard 114 = .ok (.iconst 3, 1) := by decide +kernel
theorem dX9_readsCard_115 : decode cX9_readsCard 115 = .ok (.dup2, 1) := by decide +kernel
theorem dX9_readsCard_116 : decode cX9_readsCard 116 = .ok (.iaload, 1) := by decide +kernel
theorem dX9_readsCard_117 : decode cX9_readsCard 117 = .ok (.iconst 1, 1) := by decide +kernel
theorem dX9_readsCard_118 : decode cX9_readsCard 118 = .ok (.iadd, 1) := by decide +kernel
theorem dX9_readsCard_119 : decode cX9_readsCard 119 = .ok (.iastore, 1) := by decide +kernel
theorem dX9_readsCard_120 : decode cX9_readsCard 120 = .ok (.return_, 1) := by decide +kernel
theorem dX9_addsPart_0 : decode cX9_addsPart 0 = .ok (.aload_n 0, 1) := by decide +kernel
theorem dX9_addsPart_1 : decode cX9_addsPart 1 = .ok (.getfield 9, 3) := by decide +kernel
theorem dX9_addsPart_4 : decode cX9_addsPart 4 = .ok (.sipush 1764, 3) := by decide +kernel
theorem dX9_addsPart_7 : decode cX9_addsPart 7 = .ok (.aload_n 0, 1) := by decide +kernel
theorem dX9_addsPart_8 : decode cX9_addsPart 8 = .ok (.getfield 9, 3) := by decide +kernel
theorem dX9_addsPart_11 : decode cX9_addsPart 11 = .ok (.bipush 6, 2) := by decide +kernel
theorem dX9_addsPart_13 : decode cX9_addsPart 13 = .ok (.iaload, 1) := by decide +kernel
theorem dX9_addsPart_14 : decode cX9_addsPart 14 = .ok (.iadd, 1) := by decide +kernel
theorem dX9_addsPart_15 : decode cX9_addsPart 15 = .ok (.iload_n 1, 1) := by decide +kernel
theorem dX9_addsPart_16 : decode cX9_addsPart 16 = .ok (.iastore, 1) := by decide +kernel
theorem dX9_addsPart_17 : decode cX9_addsPart 17 = .ok (.aload_n 0, 1) := by decide +kernel
theorem dX9_addsPart_18 : decode cX9_addsPart 18 = .ok (.getfield 9, 3) := by decide +kernel
theorem dX9_addsPart_21 : decode cX9_addsPart 21 = .ok (.bipush 6, 2) := by decide +kernel
theorem dX9_addsPart_23 : decode cX9_addsPart 23 = .ok (.dup2, 1) := by decide +kernel
theorem dX9_addsPart_24 : decode cX9_addsPart 24 = .ok (.iaload, 1) := by decide +kernel
theorem dX9_addsPart_25 : decode cX9_addsPart 25 = .ok (.iconst 1, 1) := by decide +kernel
theorem dX9_addsPart_26 : decode cX9_addsPart 26 = .ok (.iadd, 1) := by decide +kernel
theorem dX9_addsPart_27 : decode cX9_addsPart 27 = .ok (.iastore, 1) := by decide +kernel
theorem dX9_addsPart_28 : decode cX9_addsPart 28 = .ok (.return_, 1) := by decide +kernel
theorem dX9_addsPick_0 : decode cX9_addsPick 0 = .ok (.aload_n 0, 1) := by decide +kernel
theorem dX9_addsPick_1 : decode cX9_addsPick 1 = .ok (.getfield 34, 3) := by decide +kernel
theorem dX9_addsPick_4 : decode cX9_addsPick 4 = .ok (.bipush 100, 2) := by decide +kernel
theorem dX9_addsPick_6 : decode cX9_addsPick 6 = .ok (.iload_n 1, 1) := by decide +kernel
theorem dX9_addsPick_7 : decode cX9_addsPick 7 = .ok (.imul, 1) := by decide +kernel
theorem dX9_addsPick_8 : decode cX9_addsPick 8 = .ok (.aload_n 0, 1) := by decide +kernel
theorem dX9_addsPick_9 : decode cX9_addsPick 9 = .ok (.getfield 37, 3) := by decide +kernel
theorem dX9_addsPick_12 : decode cX9_addsPick 12 = .ok (.iload_n 1, 1) := by decide +kernel
theorem dX9_addsPick_13 : decode cX9_addsPick 13 = .ok (.iaload, 1) := by decide +kernel
theorem dX9_addsPick_14 : decode cX9_addsPick 14 = .ok (.iadd, 1) := by decide +kernel
theorem dX9_addsPick_15 : decode cX9_addsPick 15 = .ok (.iload_n 2, 1) := by decide +kernel
theorem dX9_addsPick_16 : decode cX9_addsPick 16 = .ok (.iastore, 1) := by decide +kernel
theorem dX9_addsPick_17 : decode cX9_addsPick 17 = .ok (.aload_n 0, 1) := by decide +kernel
theorem dX9_addsPick_18 : decode cX9_addsPick 18 = .ok (.getfield 37, 3) := by decide +kernel
theorem dX9_addsPick_21 : decode cX9_addsPick 21 = .ok (.iload_n 1, 1) := by decide +kernel
theorem dX9_addsPick_22 : decode cX9_addsPick 22 = .ok (.dup2, 1) := by decide +kernel
theorem dX9_addsPick_23 : decode cX9_addsPick 23 = .ok (.iaload, 1) := by decide +kernel
theorem dX9_addsPick_24 : decode cX9_addsPick 24 = .ok (.iconst 1, 1) := by decide +kernel
theorem dX9_addsPick_25 : decode cX9_addsPick 25 = .ok (.iadd, 1) := by decide +kernel
theorem dX9_addsPick_26 : decode cX9_addsPick 26 = .ok (.iastore, 1) := by decide +kernel
theorem dX9_addsPick_27 : decode cX9_addsPick 27 = .ok (.return_, 1) := by decide +kernel
theorem dX9_pickOf_0 : decode cX9_pickOf 0 = .ok (.aload_n 0, 1) := by decide +kernel
theorem dX9_pickOf_1 : decode cX9_pickOf 1 = .ok (.getfield 34, 3) := by decide +kernel
theorem dX9_pickOf_4 : decode cX9_pickOf 4 = .ok (.bipush 100, 2) := by decide +kernel
theorem dX9_pickOf_6 : decode cX9_pickOf 6 = .ok (.iload_n 1, 1) := by decide +kernel
theorem dX9_pickOf_7 : decode cX9_pickOf 7 = .ok (.imul, 1) := by decide +kernel
theorem dX9_pickOf_8 : decode cX9_pickOf 8 = .ok (.iload_n 2, 1) := by decide +kernel
theorem dX9_pickOf_9 : decode cX9_pickOf 9 = .ok (.iadd, 1) := by decide +kernel
theorem dX9_pickOf_10 : decode cX9_pickOf 10 = .ok (.iaload, 1) := by decide +kernel
theorem dX9_pickOf_11 : decode cX9_pickOf 11 = .ok (.ireturn, 1) := by decide +kernel
theorem dX9_readsDeckCard_0 : decode cX9_readsDeckCard 0 = .ok (.aload_n 0, 1) := by decide +kernel
theorem dX9_readsDeckCard_1 : decode cX9_readsDeckCard 1 = .ok (.iconst 3, 1) := by decide +kernel
theorem dX9_readsDeckCard_2 : decode cX9_readsDeckCard 2 = .ok (.invokevirtual 127, 3) := by decide +kernel
theorem dX9_readsDeckCard_5 : decode cX9_readsDeckCard 5 = .ok (.istore_n 1, 1) := by decide +kernel
theorem dX9_readsDeckCard_6 : decode cX9_readsDeckCard 6 = .ok (.aload_n 0, 1) := by decide +kernel
theorem dX9_readsDeckCard_7 : decode cX9_readsDeckCard 7 = .ok (.aload_n 0, 1) := by decide +kernel
theorem dX9_readsDeckCard_8 : decode cX9_readsDeckCard 8 = .ok (.getfield 37, 3) := by decide +kernel
theorem dX9_readsDeckCard_11 : decode cX9_readsDeckCard 11 = .ok (.aload_n 0, 1) := by decide +kernel
theorem dX9_readsDeckCard_12 : decode cX9_readsDeckCard 12 = .ok (.getfield 154, 3) := by decide +kernel
theorem dX9_readsDeckCard_15 : decode cX9_readsDeckCard 15 = .ok (.iaload, 1) := by decide +kernel
theorem dX9_readsDeckCard_16 : decode cX9_readsDeckCard 16 = .ok (.bipush 100, 2) := by decide +kernel
theorem dX9_readsDeckCard_18 : decode cX9_readsDeckCard 18 = .ok (.if_icmp .ne 7, 3) := by decide +kernel
theorem dX9_readsDeckCard_21 : decode cX9_readsDeckCard 21 = .ok (.iconst 1, 1) := by decide +kernel
theorem dX9_readsDeckCard_22 : decode cX9_readsDeckCard 22 = .ok (.goto 4, 3) := by decide +kernel
theorem dX9_readsDeckCard_25 : decode cX9_readsDeckCard 25 = .ok (.iconst 0, 1) := by decide +kernel
theorem dX9_readsDeckCard_26 : decode cX9_readsDeckCard 26 = .ok (.invokevirtual 130, 3) := by decide +kernel
theorem dX9_readsDeckCard_29 : decode cX9_readsDeckCard 29 = .ok (.aload_n 0, 1) := by decide +kernel
theorem dX9_readsDeckCard_30 : decode cX9_readsDeckCard 30 = .ok (.getfield 68, 3) := by decide +kernel
theorem dX9_readsDeckCard_33 : decode cX9_readsDeckCard 33 = .ok (.ifCond .le 4, 3) := by decide +kernel
theorem dX9_readsDeckCard_36 : decode cX9_readsDeckCard 36 = .ok (.return_, 1) := by decide +kernel
theorem dX9_readsDeckCard_37 : decode cX9_readsDeckCard 37 = .ok (.aload_n 0, 1) := by decide +kernel
theorem dX9_readsDeckCard_38 : decode cX9_readsDeckCard 38 = .ok (.iload_n 1, 1) := by decide +kernel
theorem dX9_readsDeckCard_39 : decode cX9_readsDeckCard 39 = .ok (.invokevirtual 157, 3) := by decide +kernel
theorem dX9_readsDeckCard_42 : decode cX9_readsDeckCard 42 = .ok (.aload_n 0, 1) := by decide +kernel
theorem dX9_readsDeckCard_43 : decode cX9_readsDeckCard 43 = .ok (.aload_n 0, 1) := by decide +kernel
theorem dX9_readsDeckCard_44 : decode cX9_readsDeckCard 44 = .ok (.getfield 154, 3) := by decide +kernel
theorem dX9_readsDeckCard_47 : decode cX9_readsDeckCard 47 = .ok (.iload_n 1, 1) := by decide +kernel
theorem dX9_readsDeckCard_48 : decode cX9_readsDeckCard 48 = .ok (.invokevirtual 160, 3) := by decide +kernel
theorem dX9_readsDeckCard_51 : decode cX9_readsDeckCard 51 = .ok (.aload_n 0, 1) := by decide +kernel
theorem dX9_readsDeckCard_52 : decode cX9_readsDeckCard 52 = .ok (.invokevirtual 124, 3) := by decide +kernel
theorem dX9_readsDeckCard_55 : decode cX9_readsDeckCard 55 = .ok (.return_, 1) := by decide +kernel
theorem dX9_isBracketWord_0 : decode cX9_isBracketWord 0 = .ok (.aload_n 0, 1) := by decide +kernel
theorem dX9_isBracketWord_1 : decode cX9_isBracketWord 1 = .ok (.ldc 164, 2) := by decide +kernel
theorem dX9_isBracketWord_3 : decode cX9_isBracketWord 3 = .ok (.invokevirtual 166, 3) := by decide +kernel
theorem dX9_isBracketWord_6 : decode cX9_isBracketWord 6 = .ok (.ifCond .ne 21, 3) := by decide +kernel
theorem dX9_isBracketWord_9 : decode cX9_isBracketWord 9 = .ok (.aload_n 0, 1) := by decide +kernel
theorem dX9_isBracketWord_10 : decode cX9_isBracketWord 10 = .ok (.ldc 170, 2) := by decide +kernel
theorem dX9_isBracketWord_12 : decode cX9_isBracketWord 12 = .ok (.invokevirtual 166, 3) := by decide +kernel
theorem dX9_isBracketWord_15 : decode cX9_isBracketWord 15 = .ok (.ifCond .ne 12, 3) := by decide +kernel
theorem dX9_isBracketWord_18 : decode cX9_isBracketWord 18 = .ok (.aload_n 0, 1) := by decide +kernel
theorem dX9_isBracketWord_19 : decode cX9_isBracketWord 19 = .ok (.ldc 172, 2) := by decide +kernel
theorem dX9_isBracketWord_21 : decode cX9_isBracketWord 21 = .ok (.invokevirtual 166, 3) := by decide +kernel
theorem dX9_isBracketWord_24 : decode cX9_isBracketWord 24 = .ok (.ifCond .eq 7, 3) := by decide +kernel
theorem dX9_isBracketWord_27 : decode cX9_isBracketWord 27 = .ok (.iconst 1, 1) := by decide +kernel
theorem dX9_isBracketWord_28 : decode cX9_isBracketWord 28 = .ok (.goto 4, 3) := by decide +kernel
theorem dX9_isBracketWord_31 : decode cX9_isBracketWord 31 = .ok (.iconst 0, 1) := by decide +kernel
theorem dX9_isBracketWord_32 : decode cX9_isBracketWord 32 = .ok (.ireturn, 1) := by decide +kernel
theorem dX9_opensPart_0 : decode cX9_opensPart 0 = .ok (.aload_n 0, 1) := by decide +kernel
theorem dX9_opensPart_1 : decode cX9_opensPart 1 = .ok (.ldc 164, 2) := by decide +kernel
theorem dX9_opensPart_3 : decode cX9_opensPart 3 = .ok (.invokevirtual 166, 3) := by decide +kernel
theorem dX9_opensPart_6 : decode cX9_opensPart 6 = .ok (.istore_n 1, 1) := by decide +kernel
theorem dX9_opensPart_7 : decode cX9_opensPart 7 = .ok (.aload_n 0, 1) := by decide +kernel
theorem dX9_opensPart_8 : decode cX9_opensPart 8 = .ok (.ldc 170, 2) := by decide +kernel
theorem dX9_opensPart_10 : decode cX9_opensPart 10 = .ok (.invokevirtual 166, 3) := by decide +kernel
theorem dX9_opensPart_13 : decode cX9_opensPart 13 = .ok (.ifCond .eq 9, 3) := by decide +kernel
theorem dX9_opensPart_16 : decode cX9_opensPart 16 = .ok (.sipush 200, 3) := by decide +kernel
theorem dX9_opensPart_19 : decode cX9_opensPart 19 = .ok (.goto 6, 3) := by decide +kernel
theorem dX9_opensPart_22 : decode cX9_opensPart 22 = .ok (.sipush 201, 3) := by decide +kernel
theorem dX9_opensPart_25 : decode cX9_opensPart 25 = .ok (.istore_n 2, 1) := by decide +kernel
theorem dX9_opensPart_26 : decode cX9_opensPart 26 = .ok (.aload_n 0, 1) := by decide +kernel
theorem dX9_opensPart_27 : decode cX9_opensPart 27 = .ok (.aload_n 0, 1) := by decide +kernel
theorem dX9_opensPart_28 : decode cX9_opensPart 28 = .ok (.getfield 154, 3) := by decide +kernel
theorem dX9_opensPart_31 : decode cX9_opensPart 31 = .ok (.iconst 3, 1) := by decide +kernel
theorem dX9_opensPart_32 : decode cX9_opensPart 32 = .ok (.if_icmp .ne 7, 3) := by decide +kernel
theorem dX9_opensPart_35 : decode cX9_opensPart 35 = .ok (.iconst 1, 1) := by decide +kernel
theorem dX9_opensPart_36 : decode cX9_opensPart 36 = .ok (.goto 4, 3) := by decide +kernel
theorem dX9_opensPart_39 : decode cX9_opensPart 39 = .ok (.iconst 0, 1) := by decide +kernel
theorem dX9_opensPart_40 : decode cX9_opensPart 40 = .ok (.invokevirtual 130, 3) := by decide +kernel
theorem dX9_opensPart_43 : decode cX9_opensPart 43 = .ok (.aload_n 0, 1) := by decide +kernel
theorem dX9_opensPart_44 : decode cX9_opensPart 44 = .ok (.invokevirtual 124, 3) := by decide +kernel
theorem dX9_opensPart_47 : decode cX9_opensPart 47 = .ok (.iload_n 1, 1) := by decide +kernel
theorem dX9_opensPart_48 : decode cX9_opensPart 48 = .ok (.ifCond .eq 14, 3) := by decide +kernel
theorem dX9_opensPart_51 : decode cX9_opensPart 51 = .ok (.bipush 100, 2) := by decide +kernel
theorem dX9_opensPart_53 : decode cX9_opensPart 53 = .ok (.aload_n 0, 1) := by decide +kernel
theorem dX9_opensPart_54 : decode cX9_opensPart 54 = .ok (.iconst 1, 1) := by decide +kernel
theorem dX9_opensPart_55 : decode cX9_opensPart 55 = .ok (.bipush 20, 2) := by decide +kernel
theorem dX9_opensPart_57 : decode cX9_opensPart 57 = .ok (.invokevirtual 174, 3) := by decide +kernel
theorem dX9_opensPart_60 : decode cX9_opensPart 60 = .ok (.iadd, 1) := by decide +kernel
theorem dX9_opensPart_61 : decode cX9_opensPart 61 = .ok (.istore_n 2, 1) := by decide +kernel
theorem dX9_opensPart_62 : decode cX9_opensPart 62 = .ok (.aload_n 0, 1) := by decide +kernel
theorem dX9_opensPart_63 : decode cX9_opensPart 63 = .ok (.iconst 5, 1) := by decide +kernel
theorem dX9_opensPart_64 : decode cX9_opensPart 64 = .ok (.invokevirtual 107, 3) := by decide +kernel
theorem dX9_opensPart_67 : decode cX9_opensPart 67 = .ok (.ifCond .ne 8, 3) := by decide +kernel
theorem dX9_opensPart_70 : decode cX9_opensPart 70 = .ok (.aload_n 0, 1) := by decide +kernel
theorem dX9_opensPart_71 : decode cX9_opensPart 71 = .ok (.iconst 1, 1) := by decide +kernel
theorem dX9_opensPart_72 : decode cX9_opensPart 72 = .ok (.invokevirtual 104, 3) := by decide +kernel
theorem dX9_opensPart_75 : decode cX9_opensPart 75 = .ok (.aload_n 0, 1) := by decide +kernel
theorem dX9_opensPart_76 : decode cX9_opensPart 76 = .ok (.invokevirtual 124, 3) := by decide +kernel
theorem dX9_opensPart_79 : decode cX9_opensPart 79 = .ok (.aload_n 0, 1) := by decide +kernel
theorem dX9_opensPart_80 : decode cX9_opensPart 80 = .ok (.getfield 68, 3) := by decide +kernel
theorem dX9_opensPart_83 : decode cX9_opensPart 83 = .ok (.ifCond .le 4, 3) := by decide +kernel
theorem dX9_opensPart_86 : decode cX9_opensPart 86 = .ok (.return_, 1) := by decide +kernel
theorem dX9_opensPart_87 : decode cX9_opensPart 87 = .ok (.aload_n 0, 1) := by decide +kernel
theorem dX9_opensPart_88 : decode cX9_opensPart 88 = .ok (.iload_n 2, 1) := by decide +kernel
theorem dX9_opensPart_89 : decode cX9_opensPart 89 = .ok (.invokevirtual 157, 3) := by decide +kernel
theorem dX9_opensPart_92 : decode cX9_opensPart 92 = .ok (.aload_n 0, 1) := by decide +kernel
theorem dX9_opensPart_93 : decode cX9_opensPart 93 = .ok (.dup, 1) := by decide +kernel
theorem dX9_opensPart_94 : decode cX9_opensPart 94 = .ok (.getfield 154, 3) := by decide +kernel
theorem dX9_opensPart_97 : decode cX9_opensPart 97 = .ok (.iconst 1, 1) := by decide +kernel
theorem dX9_opensPart_98 : decode cX9_opensPart 98 = .ok (.iadd, 1) := by decide +kernel
theorem dX9_opensPart_99 : decode cX9_opensPart 99 = .ok (.putfield 154, 3) := by decide +kernel
theorem dX9_opensPart_102 : decode cX9_opensPart 102 = .ok (.aload_n 0, 1) := by decide +kernel
theorem dX9_opensPart_103 : decode cX9_opensPart 103 = .ok (.getfield 40, 3) := by decide +kernel
theorem dX9_opensPart_106 : decode cX9_opensPart 106 = .ok (.aload_n 0, 1) := by decide +kernel
theorem dX9_opensPart_107 : decode cX9_opensPart 107 = .ok (.getfield 154, 3) := by decide +kernel
theorem dX9_opensPart_110 : decode cX9_opensPart 110 = .ok (.iload_n 2, 1) := by decide +kernel
theorem dX9_opensPart_111 : decode cX9_opensPart 111 = .ok (.iastore, 1) := by decide +kernel
theorem dX9_opensPart_112 : decode cX9_opensPart 112 = .ok (.aload_n 0, 1) := by decide +kernel
theorem dX9_opensPart_113 : decode cX9_opensPart 113 = .ok (.getfield 37, 3) := by decide +kernel
theorem dX9_opensPart_116 : decode cX9_opensPart 116 = .ok (.aload_n 0, 1) := by decide +kernel
theorem dX9_opensPart_117 : decode cX9_opensPart 117 = .ok (.getfield 154, 3) := by decide +kernel
theorem dX9_opensPart_120 : decode cX9_opensPart 120 = .ok (.iconst 0, 1) := by decide +kernel
theorem dX9_opensPart_121 : decode cX9_opensPart 121 = .ok (.iastore, 1) := by decide +kernel
theorem dX9_opensPart_122 : decode cX9_opensPart 122 = .ok (.aload_n 0, 1) := by decide +kernel
theorem dX9_opensPart_123 : decode cX9_opensPart 123 = .ok (.getfield 9, 3) := by decide +kernel
theorem dX9_opensPart_126 : decode cX9_opensPart 126 = .ok (.bipush 7, 2) := by decide +kernel
theorem dX9_opensPart_128 : decode cX9_opensPart 128 = .ok (.aload_n 0, 1) := by decide +kernel
theorem dX9_opensPart_129 : decode cX9_opensPart 129 = .ok (.getfield 9, 3) := by decide +kernel
theorem dX9_opensPart_132 : decode cX9_opensPart 132 = .ok (.bipush 7, 2) := by decide +kernel
theorem dX9_opensPart_134 : decode cX9_opensPart 134 = .ok (.iaload, 1) := by decide +kernel
theorem dX9_opensPart_135 : decode cX9_opensPart 135 = .ok (.aload_n 0, 1) := by decide +kernel
theorem dX9_opensPart_136 : decode cX9_opensPart 136 = .ok (.getfield 154, 3) := by decide +kernel
theorem dX9_opensPart_139 : decode cX9_opensPart 139 = .ok (.iconst 1, 1) := by decide +kernel
theorem dX9_opensPart_140 : decode cX9_opensPart 140 = .ok (.iadd, 1) := by decide +kernel
theorem dX9_opensPart_141 : decode cX9_opensPart 141 = .ok (.invokestatic 177, 3) := by decide +kernel
theorem dX9_opensPart_144 : decode cX9_opensPart 144 = .ok (.iastore, 1) := by decide +kernel
theorem dX9_opensPart_145 : decode cX9_opensPart 145 = .ok (.return_, 1) := by decide +kernel
theorem dX9_picksOf_0 : decode cX9_picksOf 0 = .ok (.iload_n 1, 1) := by decide +kernel
theorem dX9_picksOf_1 : decode cX9_picksOf 1 = .ok (.sipush 200, 3) := by decide +kernel
theorem dX9_picksOf_4 : decode cX9_picksOf 4 = .ok (.if_icmp .ne 11, 3) := by decide +kernel
theorem dX9_picksOf_7 : decode cX9_picksOf 7 = .ok (.iconst 2, 1) := by decide +kernel
theorem dX9_picksOf_8 : decode cX9_picksOf 8 = .ok (.iload_n 2, 1) := by decide +kernel
theorem dX9_picksOf_9 : decode cX9_picksOf 9 = .ok (.imul, 1) := by decide +kernel
theorem dX9_picksOf_10 : decode cX9_picksOf 10 = .ok (.iconst 1, 1) := by decide +kernel
theorem dX9_picksOf_11 : decode cX9_picksOf 11 = .ok (.isub, 1) := by decide +kernel
theorem dX9_picksOf_12 : decode cX9_picksOf 12 = .ok (.goto 20, 3) := by decide +kernel
theorem dX9_picksOf_15 : decode cX9_picksOf 15 = .ok (.iload_n 1, 1) := by decide +kernel
theorem dX9_picksOf_16 : decode cX9_picksOf 16 = .ok (.sipush 201, 3) := by decide +kernel
theorem dX9_picksOf_19 : decode cX9_picksOf 19 = .ok (.if_icmp .ne 7, 3) := by decide +kernel
theorem dX9_picksOf_22 : decode cX9_picksOf 22 = .ok (.iload_n 2, 1) := by decide +kernel
theorem dX9_picksOf_23 : decode cX9_picksOf 23 = .ok (.goto 9, 3) := by decide +kernel
theorem dX9_picksOf_26 : decode cX9_picksOf 26 = .ok (.iload_n 2, 1) := by decide +kernel
theorem dX9_picksOf_27 : decode cX9_picksOf 27 = .ok (.iload_n 1, 1) := by decide +kernel
theorem dX9_picksOf_28 : decode cX9_picksOf 28 = .ok (.bipush 100, 2) := by decide +kernel
theorem dX9_picksOf_30 : decode cX9_picksOf 30 = .ok (.isub, 1) := by decide +kernel
theorem dX9_picksOf_31 : decode cX9_picksOf 31 = .ok (.imul, 1) := by decide +kernel
theorem dX9_picksOf_32 : decode cX9_picksOf 32 = .ok (.ireturn, 1) := by decide +kernel
theorem dX9_closesPart_0 : decode cX9_closesPart 0 = .ok (.aload_n 0, 1) := by decide +kernel
theorem dX9_closesPart_1 : decode cX9_closesPart 1 = .ok (.getfield 37, 3) := by decide +kernel
theorem dX9_closesPart_4 : decode cX9_closesPart 4 = .ok (.aload_n 0, 1) := by decide +kernel
theorem dX9_closesPart_5 : decode cX9_closesPart 5 = .ok (.getfield 154, 3) := by decide +kernel
theorem dX9_closesPart_8 : decode cX9_closesPart 8 = .ok (.iaload, 1) := by decide +kernel
theorem dX9_closesPart_9 : decode cX9_closesPart 9 = .ok (.istore_n 1, 1) := by decide +kernel
theorem dX9_closesPart_10 : decode cX9_closesPart 10 = .ok (.aload_n 0, 1) := by decide +kernel
theorem dX9_closesPart_11 : decode cX9_closesPart 11 = .ok (.getfield 40, 3) := by decide +kernel
theorem dX9_closesPart_14 : decode cX9_closesPart 14 = .ok (.aload_n 0, 1) := by decide +kernel
theorem dX9_closesPart_15 : decode cX9_closesPart 15 = .ok (.getfield 154, 3) := by decide +kernel
theorem dX9_closesPart_18 : decode cX9_closesPart 18 = .ok (.iaload, 1) := by decide +kernel
theorem dX9_closesPart_19 : decode cX9_closesPart 19 = .ok (.istore_n 2, 1) := by decide +kernel
theorem dX9_closesPart_20 : decode cX9_closesPart 20 = .ok (.iload_n 1, 1) := by decide +kernel
theorem dX9_closesPart_21 : decode cX9_closesPart 21 = .ok (.ifCond .ne 8, 3) := by decide +kernel
theorem dX9_closesPart_24 : decode cX9_closesPart 24 = .ok (.aload_n 0, 1) := by decide +kernel
theorem dX9_closesPart_25 : decode cX9_closesPart 25 = .ok (.iconst 1, 1) := by decide +kernel
theorem dX9_closesPart_26 : decode cX9_closesPart 26 = .ok (.invokevirtual 104, 3) := by decide +kernel
theorem dX9_closesPart_29 : decode cX9_closesPart 29 = .ok (.aload_n 0, 1) := by decide +kernel
theorem dX9_closesPart_30 : decode cX9_closesPart 30 = .ok (.aload_n 0, 1) := by decide +kernel
theorem dX9_closesPart_31 : decode cX9_closesPart 31 = .ok (.iload_n 2, 1) := by decide +kernel
theorem dX9_closesPart_32 : decode cX9_closesPart 32 = .ok (.iload_n 1, 1) := by decide +kernel
theorem dX9_closesPart_33 : decode cX9_closesPart 33 = .ok (.invokevirtual 182, 3) := by decide +kernel
theorem dX9_closesPart_36 : decode cX9_closesPart 36 = .ok (.bipush 100, 2) := by decide +kernel
theorem dX9_closesPart_38 : decode cX9_closesPart 38 = .ok (.if_icmp .gt 26, 3) := by decide +kernel
theorem dX9_closesPart_41 : decode cX9_closesPart 41 = .ok (.aload_n 0, 1) := by decide +kernel
theorem dX9_closesPart_42 : decode cX9_closesPart 42 = .ok (.getfield 37, 3) := by decide +kernel
theorem dX9_closesPart_45 : decode cX9_closesPart 45 = .ok (.aload_n 0, 1) := by decide +kernel
theorem dX9_closesPart_46 : decode cX9_closesPart 46 = .ok (.getfield 154, 3) := by decide +kernel
theorem dX9_closesPart_49 : decode cX9_closesPart 49 = .ok (.iconst 1, 1) := by decide +kernel
theorem dX9_closesPart_50 : decode cX9_closesPart 50 = .ok (.isub, 1) := by decide +kernel
theorem dX9_closesPart_51 : decode cX9_closesPart 51 = .ok (.iaload, 1) := by decide +kernel
theorem dX9_closesPart_52 : decode cX9_closesPart 52 = .ok (.aload_n 0, 1) := by decide +kernel
theorem dX9_closesPart_53 : decode cX9_closesPart 53 = .ok (.iload_n 2, 1) := by decide +kernel
theorem dX9_closesPart_54 : decode cX9_closesPart 54 = .ok (.iload_n 1, 1) := by decide +kernel
theorem dX9_closesPart_55 : decode cX9_closesPart 55 = .ok (.invokevirtual 182, 3) := by decide +kernel
theorem dX9_closesPart_58 : decode cX9_closesPart 58 = .ok (.iadd, 1) := by decide +kernel
theorem dX9_closesPart_59 : decode cX9_closesPart 59 = .ok (.bipush 100, 2) := by decide +kernel
theorem dX9_closesPart_61 : decode cX9_closesPart 61 = .ok (.if_icmp .le 7, 3) := by decide +kernel
theorem dX9_closesPart_64 : decode cX9_closesPart 64 = .ok (.iconst 1, 1) := by decide +kernel
theorem dX9_closesPart_65 : decode cX9_closesPart 65 = .ok (.goto 4, 3) := by decide +kernel
theorem dX9_closesPart_68 : decode cX9_closesPart 68 = .ok (.iconst 0, 1) := by decide +kernel
theorem dX9_closesPart_69 : decode cX9_closesPart 69 = .ok (.invokevirtual 130, 3) := by decide +kernel
theorem dX9_closesPart_72 : decode cX9_closesPart 72 = .ok (.aload_n 0, 1) := by decide +kernel
theorem dX9_closesPart_73 : decode cX9_closesPart 73 = .ok (.getfield 68, 3) := by decide +kernel
theorem dX9_closesPart_76 : decode cX9_closesPart 76 = .ok (.ifCond .le 4, 3) := by decide +kernel
theorem dX9_closesPart_79 : decode cX9_closesPart 79 = .ok (.return_, 1) := by decide +kernel
theorem dX9_closesPart_80 : decode cX9_closesPart 80 = .ok (.iconst 0, 1) := by decide +kernel
theorem dX9_closesPart_81 : decode cX9_closesPart 81 = .ok (.istore_n 3, 1) := by decide +kernel
theorem dX9_closesPart_82 : decode cX9_closesPart 82 = .ok (.iload_n 3, 1) := by decide +kernel
theorem dX9_closesPart_83 : decode cX9_closesPart 83 = .ok (.aload_n 0, 1) := by decide +kernel
theorem dX9_closesPart_84 : decode cX9_closesPart 84 = .ok (.iload_n 2, 1) := by decide +kernel
theorem dX9_closesPart_85 : decode cX9_closesPart 85 = .ok (.iload_n 1, 1) := by decide +kernel
theorem dX9_closesPart_86 : decode cX9_closesPart 86 = .ok (.invokevirtual 182, 3) := by decide +kernel
theorem dX9_closesPart_89 : decode cX9_closesPart 89 = .ok (.if_icmp .ge 33, 3) := by decide +kernel
theorem dX9_closesPart_92 : decode cX9_closesPart 92 = .ok (.aload_n 0, 1) := by decide +kernel
theorem dX9_closesPart_93 : decode cX9_closesPart 93 = .ok (.aload_n 0, 1) := by decide +kernel
theorem dX9_closesPart_94 : decode cX9_closesPart 94 = .ok (.getfield 154, 3) := by decide +kernel
theorem dX9_closesPart_97 : decode cX9_closesPart 97 = .ok (.iconst 1, 1) := by decide +kernel
theorem dX9_closesPart_98 : decode cX9_closesPart 98 = .ok (.isub, 1) := by decide +kernel
theorem dX9_closesPart_99 : decode cX9_closesPart 99 = .ok (.aload_n 0, 1) := by decide +kernel
theorem dX9_closesPart_100 : decode cX9_closesPart 100 = .ok (.aload_n 0, 1) := by decide +kernel
theorem dX9_closesPart_101 : decode cX9_closesPart 101 = .ok (.getfield 154, 3) := by decide +kernel
theorem dX9_closesPart_104 : decode cX9_closesPart 104 = .ok (.iload_n 2, 1) := by decide +kernel
theorem dX9_closesPart_105 : decode cX9_closesPart 105 = .ok (.iload_n 1, 1) := by decide +kernel
theorem dX9_closesPart_106 : decode cX9_closesPart 106 = .ok (.iload_n 3, 1) := by decide +kernel
theorem dX9_closesPart_107 : decode cX9_closesPart 107 = .ok (.invokestatic 185, 3) := by decide +kernel
theorem dX9_closesPart_110 : decode cX9_closesPart 110 = .ok (.invokevirtual 189, 3) := by decide +kernel
theorem dX9_closesPart_113 : decode cX9_closesPart 113 = .ok (.invokevirtual 160, 3) := by decide +kernel
theorem dX9_closesPart_116 : decode cX9_closesPart 116 = .ok (.iinc 3 1, 3) := by decide +kernel
theorem dX9_closesPart_119 : decode cX9_closesPart 119 = .ok (.goto (-37), 3) := by decide +kernel
theorem dX9_closesPart_122 : decode cX9_closesPart 122 = .ok (.aload_n 0, 1) := by decide +kernel
theorem dX9_closesPart_123 : decode cX9_closesPart 123 = .ok (.sipush 300, 3) := by decide +kernel
theorem dX9_closesPart_126 : decode cX9_closesPart 126 = .ok (.invokevirtual 157, 3) := by decide +kernel
theorem dX9_closesPart_129 : decode cX9_closesPart 129 = .ok (.aload_n 0, 1) := by decide +kernel
theorem dX9_closesPart_130 : decode cX9_closesPart 130 = .ok (.dup, 1) := by decide +kernel
theorem dX9_closesPart_131 : decode cX9_closesPart 131 = .ok (.getfield 154, 3) := by decide +kernel
theorem dX9_closesPart_134 : decode cX9_closesPart 134 = .ok (.iconst 1, 1) := by decide +kernel
theorem dX9_closesPart_135 : decode cX9_closesPart 135 = .ok (.isub, 1) := by decide +kernel
theorem dX9_closesPart_136 : decode cX9_closesPart 136 = .ok (.putfield 154, 3) := by decide +kernel
theorem dX9_closesPart_139 : decode cX9_closesPart 139 = .ok (.aload_n 0, 1) := by decide +kernel
theorem dX9_closesPart_140 : decode cX9_closesPart 140 = .ok (.invokevirtual 124, 3) := by decide +kernel
theorem dX9_closesPart_143 : decode cX9_closesPart 143 = .ok (.return_, 1) := by decide +kernel
theorem dX9_placeOf_0 : decode cX9_placeOf 0 = .ok (.iload_n 0, 1) := by decide +kernel
theorem dX9_placeOf_1 : decode cX9_placeOf 1 = .ok (.sipush 201, 3) := by decide +kernel
theorem dX9_placeOf_4 : decode cX9_placeOf 4 = .ok (.if_icmp .ne 9, 3) := by decide +kernel
theorem dX9_placeOf_7 : decode cX9_placeOf 7 = .ok (.iload_n 1, 1) := by decide +kernel
theorem dX9_placeOf_8 : decode cX9_placeOf 8 = .ok (.iconst 1, 1) := by decide +kernel
theorem dX9_placeOf_9 : decode cX9_placeOf 9 = .ok (.isub, 1) := by decide +kernel
theorem dX9_placeOf_10 : decode cX9_placeOf 10 = .ok (.iload_n 2, 1) := by decide +kernel
theorem dX9_placeOf_11 : decode cX9_placeOf 11 = .ok (.isub, 1) := by decide +kernel
theorem dX9_placeOf_12 : decode cX9_placeOf 12 = .ok (.ireturn, 1) := by decide +kernel
theorem dX9_placeOf_13 : decode cX9_placeOf 13 = .ok (.iload_n 0, 1) := by decide +kernel
theorem dX9_placeOf_14 : decode cX9_placeOf 14 = .ok (.sipush 200, 3) := by decide +kernel
theorem dX9_placeOf_17 : decode cX9_placeOf 17 = .ok (.if_icmp .ne 20, 3) := by decide +kernel
theorem dX9_placeOf_20 : decode cX9_placeOf 20 = .ok (.iload_n 2, 1) := by decide +kernel
theorem dX9_placeOf_21 : decode cX9_placeOf 21 = .ok (.iload_n 1, 1) := by decide +kernel
theorem dX9_placeOf_22 : decode cX9_placeOf 22 = .ok (.if_icmp .ge 7, 3) := by decide +kernel
theorem dX9_placeOf_25 : decode cX9_placeOf 25 = .ok (.iload_n 2, 1) := by decide +kernel
theorem dX9_placeOf_26 : decode cX9_placeOf 26 = .ok (.goto 10, 3) := by decide +kernel
theorem dX9_placeOf_29 : decode cX9_placeOf 29 = .ok (.iconst 2, 1) := by decide +kernel
theorem dX9_placeOf_30 : decode cX9_placeOf 30 = .ok (.iload_n 1, 1) := by decide +kernel
theorem dX9_placeOf_31 : decode cX9_placeOf 31 = .ok (.imul, 1) := by decide +kernel
theorem dX9_placeOf_32 : decode cX9_placeOf 32 = .ok (.iconst 2, 1) := by decide +kernel
theorem dX9_placeOf_33 : decode cX9_placeOf 33 = .ok (.isub, 1) := by decide +kernel
theorem dX9_placeOf_34 : decode cX9_placeOf 34 = .ok (.iload_n 2, 1) := by decide +kernel
theorem dX9_placeOf_35 : decode cX9_placeOf 35 = .ok (.isub, 1) := by decide +kernel
theorem dX9_placeOf_36 : decode cX9_placeOf 36 = .ok (.ireturn, 1) := by decide +kernel
theorem dX9_placeOf_37 : decode cX9_placeOf 37 = .ok (.iload_n 2, 1) := by decide +kernel
theorem dX9_placeOf_38 : decode cX9_placeOf 38 = .ok (.iload_n 1, 1) := by decide +kernel
theorem dX9_placeOf_39 : decode cX9_placeOf 39 = .ok (.irem, 1) := by decide +kernel
theorem dX9_placeOf_40 : decode cX9_placeOf 40 = .ok (.ireturn, 1) := by decide +kernel
theorem dX9_readsPart_0 : decode cX9_readsPart 0 = .ok (.aload_n 0, 1) := by decide +kernel
theorem dX9_readsPart_1 : decode cX9_readsPart 1 = .ok (.iconst 3, 1) := by decide +kernel
theorem dX9_readsPart_2 : decode cX9_readsPart 2 = .ok (.invokevirtual 107, 3) := by decide +kernel
theorem dX9_readsPart_5 : decode cX9_readsPart 5 = .ok (.ifCond .eq 10, 3) := by decide +kernel
theorem dX9_readsPart_8 : decode cX9_readsPart 8 = .ok (.aload_n 0, 1) := by decide +kernel
theorem dX9_readsPart_9 : decode cX9_readsPart 9 = .ok (.invokevirtual 192, 3) := by decide +kernel
theorem dX9_readsPart_12 : decode cX9_readsPart 12 = .ok (.goto 45, 3) := by decide +kernel
theorem dX9_readsPart_15 : decode cX9_readsPart 15 = .ok (.aload_n 0, 1) := by decide +kernel
theorem dX9_readsPart_16 : decode cX9_readsPart 16 = .ok (.invokevirtual 195, 3) := by decide +kernel
theorem dX9_readsPart_19 : decode cX9_readsPart 19 = .ok (.ifCond .eq 10, 3) := by decide +kernel
theorem dX9_readsPart_22 : decode cX9_readsPart 22 = .ok (.aload_n 0, 1) := by decide +kernel
theorem dX9_readsPart_23 : decode cX9_readsPart 23 = .ok (.invokevirtual 199, 3) := by decide +kernel
theorem dX9_readsPart_26 : decode cX9_readsPart 26 = .ok (.goto 31, 3) := by decide +kernel
theorem dX9_readsPart_29 : decode cX9_readsPart 29 = .ok (.aload_n 0, 1) := by decide +kernel
theorem dX9_readsPart_30 : decode cX9_readsPart 30 = .ok (.bipush 6, 2) := by decide +kernel
theorem dX9_readsPart_32 : decode cX9_readsPart 32 = .ok (.invokevirtual 107, 3) := by decide +kernel
theorem dX9_readsPart_35 : decode cX9_readsPart 35 = .ok (.ifCond .eq 17, 3) := by decide +kernel
theorem dX9_readsPart_38 : decode cX9_readsPart 38 = .ok (.aload_n 0, 1) := by decide +kernel
theorem dX9_readsPart_39 : decode cX9_readsPart 39 = .ok (.getfield 154, 3) := by decide +kernel
theorem dX9_readsPart_42 : decode cX9_readsPart 42 = .ok (.ifCond .le 10, 3) := by decide +kernel
theorem dX9_readsPart_45 : decode cX9_readsPart 45 = .ok (.aload_n 0, 1) := by decide +kernel
theorem dX9_readsPart_46 : decode cX9_readsPart 46 = .ok (.invokevirtual 202, 3) := by decide +kernel
theorem dX9_readsPart_49 : decode cX9_readsPart 49 = .ok (.goto 8, 3) := by decide +kernel
theorem dX9_readsPart_52 : decode cX9_readsPart 52 = .ok (.aload_n 0, 1) := by decide +kernel
theorem dX9_readsPart_53 : decode cX9_readsPart 53 = .ok (.iconst 1, 1) := by decide +kernel
theorem dX9_readsPart_54 : decode cX9_readsPart 54 = .ok (.invokevirtual 104, 3) := by decide +kernel
theorem dX9_readsPart_57 : decode cX9_readsPart 57 = .ok (.return_, 1) := by decide +kernel
theorem dX9_readsDeck_0 : decode cX9_readsDeck 0 = .ok (.aload_n 0, 1) := by decide +kernel
theorem dX9_readsDeck_1 : decode cX9_readsDeck 1 = .ok (.aload_n 0, 1) := by decide +kernel
theorem dX9_readsDeck_2 : decode cX9_readsDeck 2 = .ok (.getfield 9, 3) := by decide +kernel
theorem dX9_readsDeck_5 : decode cX9_readsDeck 5 = .ok (.iconst 5, 1) := by decide +kernel
theorem dX9_readsDeck_6 : decode cX9_readsDeck 6 = .ok (.iaload, 1) := by decide +kernel
theorem dX9_readsDeck_7 : decode cX9_readsDeck 7 = .ok (.ifCond .le 7, 3) := by decide +kernel
theorem dX9_readsDeck_10 : decode cX9_readsDeck 10 = .ok (.iconst 1, 1) := by decide +kernel
theorem dX9_readsDeck_11 : decode cX9_readsDeck 11 = .ok (.goto 4, 3) := by decide +kernel
theorem dX9_readsDeck_14 : decode cX9_readsDeck 14 = .ok (.iconst 0, 1) := by decide +kernel
theorem dX9_readsDeck_15 : decode cX9_readsDeck 15 = .ok (.invokevirtual 138, 3) := by decide +kernel
theorem dX9_readsDeck_18 : decode cX9_readsDeck 18 = .ok (.aload_n 0, 1) := by decide +kernel
theorem dX9_readsDeck_19 : decode cX9_readsDeck 19 = .ok (.invokevirtual 124, 3) := by decide +kernel
theorem dX9_readsDeck_22 : decode cX9_readsDeck 22 = .ok (.aload_n 0, 1) := by decide +kernel
theorem dX9_readsDeck_23 : decode cX9_readsDeck 23 = .ok (.iconst 0, 1) := by decide +kernel
theorem dX9_readsDeck_24 : decode cX9_readsDeck 24 = .ok (.putfield 154, 3) := by decide +kernel
theorem dX9_readsDeck_27 : decode cX9_readsDeck 27 = .ok (.aload_n 0, 1) := by decide +kernel
theorem dX9_readsDeck_28 : decode cX9_readsDeck 28 = .ok (.getfield 37, 3) := by decide +kernel
theorem dX9_readsDeck_31 : decode cX9_readsDeck 31 = .ok (.iconst 0, 1) := by decide +kernel
theorem dX9_readsDeck_32 : decode cX9_readsDeck 32 = .ok (.aload_n 0, 1) := by decide +kernel
theorem dX9_readsDeck_33 : decode cX9_readsDeck 33 = .ok (.getfield 9, 3) := by decide +kernel
theorem dX9_readsDeck_36 : decode cX9_readsDeck 36 = .ok (.iconst 4, 1) := by decide +kernel
theorem dX9_readsDeck_37 : decode cX9_readsDeck 37 = .ok (.iaload, 1) := by decide +kernel
theorem dX9_readsDeck_38 : decode cX9_readsDeck 38 = .ok (.iastore, 1) := by decide +kernel
theorem dX9_readsDeck_39 : decode cX9_readsDeck 39 = .ok (.iconst 0, 1) := by decide +kernel
theorem dX9_readsDeck_40 : decode cX9_readsDeck 40 = .ok (.istore_n 1, 1) := by decide +kernel
theorem dX9_readsDeck_41 : decode cX9_readsDeck 41 = .ok (.iload_n 1, 1) := by decide +kernel
theorem dX9_readsDeck_42 : decode cX9_readsDeck 42 = .ok (.aload_n 0, 1) := by decide +kernel
theorem dX9_readsDeck_43 : decode cX9_readsDeck 43 = .ok (.getfield 9, 3) := by decide +kernel
theorem dX9_readsDeck_46 : decode cX9_readsDeck 46 = .ok (.iconst 4, 1) := by decide +kernel
theorem dX9_readsDeck_47 : decode cX9_readsDeck 47 = .ok (.iaload, 1) := by decide +kernel
theorem dX9_readsDeck_48 : decode cX9_readsDeck 48 = .ok (.if_icmp .ge 25, 3) := by decide +kernel
theorem dX9_readsDeck_51 : decode cX9_readsDeck 51 = .ok (.aload_n 0, 1) := by decide +kernel
theorem dX9_readsDeck_52 : decode cX9_readsDeck 52 = .ok (.getfield 34, 3) := by decide +kernel
theorem dX9_readsDeck_55 : decode cX9_readsDeck 55 = .ok (.iload_n 1, 1) := by decide +kernel
theorem dX9_readsDeck_56 : decode cX9_readsDeck 56 = .ok (.aload_n 0, 1) := by decide +kernel
theorem dX9_readsDeck_57 : decode cX9_readsDeck 57 = .ok (.getfield 9, 3) := by decide +kernel
theorem dX9_readsDeck_60 : decode cX9_readsDeck 60 = .ok (.sipush 164, 3) := by decide +kernel
theorem dX9_readsDeck_63 : decode cX9_readsDeck 63 = .ok (.iload_n 1, 1) := by decide +kernel
theorem dX9_readsDeck_64 : decode cX9_readsDeck 64 = .ok (.iadd, 1) := by decide +kernel
theorem dX9_readsDeck_65 : decode cX9_readsDeck 65 = .ok (.iaload, 1) := by decide +kernel
theorem dX9_readsDeck_66 : decode cX9_readsDeck 66 = .ok (.iastore, 1) := by decide +kernel
theorem dX9_readsDeck_67 : decode cX9_readsDeck 67 = .ok (.iinc 1 1, 3) := by decide +kernel
theorem dX9_readsDeck_70 : decode cX9_readsDeck 70 = .ok (.goto (-29), 3) := by decide +kernel
theorem dX9_readsDeck_73 : decode cX9_readsDeck 73 = .ok (.aload_n 0, 1) := by decide +kernel
theorem dX9_readsDeck_74 : decode cX9_readsDeck 74 = .ok (.getfield 68, 3) := by decide +kernel
theorem dX9_readsDeck_77 : decode cX9_readsDeck 77 = .ok (.ifCond .ne 21, 3) := by decide +kernel
theorem dX9_readsDeck_80 : decode cX9_readsDeck 80 = .ok (.aload_n 0, 1) := by decide +kernel
theorem dX9_readsDeck_81 : decode cX9_readsDeck 81 = .ok (.getfield 9, 3) := by decide +kernel
theorem dX9_readsDeck_84 : decode cX9_readsDeck 84 = .ok (.bipush 7, 2) := by decide +kernel
theorem dX9_readsDeck_86 : decode cX9_readsDeck 86 = .ok (.aload_n 0, 1) := by decide +kernel
theorem dX9_readsDeck_87 : decode cX9_readsDeck 87 = .ok (.getfield 9, 3) := by decide +kernel
theorem dX9_readsDeck_90 : decode cX9_readsDeck 90 = .ok (.bipush 7, 2) := by decide +kernel
theorem dX9_readsDeck_92 : decode cX9_readsDeck 92 = .ok (.iaload, 1) := by decide +kernel
theorem dX9_readsDeck_93 : decode cX9_readsDeck 93 = .ok (.iconst 1, 1) := by decide +kernel
theorem dX9_readsDeck_94 : decode cX9_readsDeck 94 = .ok (.invokestatic 177, 3) := by decide +kernel
theorem dX9_readsDeck_97 : decode cX9_readsDeck 97 = .ok (.iastore, 1) := by decide +kernel
theorem dX9_readsDeck_98 : decode cX9_readsDeck 98 = .ok (.aload_n 0, 1) := by decide +kernel
theorem dX9_readsDeck_99 : decode cX9_readsDeck 99 = .ok (.invokevirtual 205, 3) := by decide +kernel
theorem dX9_readsDeck_102 : decode cX9_readsDeck 102 = .ok (.aload_n 0, 1) := by decide +kernel
theorem dX9_readsDeck_103 : decode cX9_readsDeck 103 = .ok (.getfield 68, 3) := by decide +kernel
theorem dX9_readsDeck_106 : decode cX9_readsDeck 106 = .ok (.ifCond .ne 25, 3) := by decide +kernel
theorem dX9_readsDeck_109 : decode cX9_readsDeck 109 = .ok (.aload_n 0, 1) := by decide +kernel
theorem dX9_readsDeck_110 : decode cX9_readsDeck 110 = .ok (.getfield 154, 3) := by decide +kernel
theorem dX9_readsDeck_113 : decode cX9_readsDeck 113 = .ok (.ifCond .gt (-15), 3) := by decide +kernel
theorem dX9_readsDeck_116 : decode cX9_readsDeck 116 = .ok (.aload_n 0, 1) := by decide +kernel
theorem dX9_readsDeck_117 : decode cX9_readsDeck 117 = .ok (.iconst 3, 1) := by decide +kernel
theorem dX9_readsDeck_118 : decode cX9_readsDeck 118 = .ok (.invokevirtual 107, 3) := by decide +kernel
theorem dX9_readsDeck_121 : decode cX9_readsDeck 121 = .ok (.ifCond .ne (-23), 3) := by decide +kernel
theorem dX9_readsDeck_124 : decode cX9_readsDeck 124 = .ok (.aload_n 0, 1) := by decide +kernel
theorem dX9_readsDeck_125 : decode cX9_readsDeck 125 = .ok (.invokevirtual 195, 3) := by decide +kernel
theorem dX9_readsDeck_128 : decode cX9_readsDeck 128 = .ok (.ifCond .ne (-30), 3) := by decide +kernel
theorem dX9_readsDeck_131 : decode cX9_readsDeck 131 = .ok (.aload_n 0, 1) := by decide +kernel
theorem dX9_readsDeck_132 : decode cX9_readsDeck 132 = .ok (.getfield 68, 3) := by decide +kernel
theorem dX9_readsDeck_135 : decode cX9_readsDeck 135 = .ok (.ifCond .le 4, 3) := by decide +kernel
theorem dX9_readsDeck_138 : decode cX9_readsDeck 138 = .ok (.return_, 1) := by decide +kernel
theorem dX9_readsDeck_139 : decode cX9_readsDeck 139 = .ok (.aload_n 0, 1) := by decide +kernel
theorem dX9_readsDeck_140 : decode cX9_readsDeck 140 = .ok (.getfield 9, 3) := by decide +kernel
theorem dX9_readsDeck_143 : decode cX9_readsDeck 143 = .ok (.iconst 4, 1) := by decide +kernel
theorem dX9_readsDeck_144 : decode cX9_readsDeck 144 = .ok (.aload_n 0, 1) := by decide +kernel
theorem dX9_readsDeck_145 : decode cX9_readsDeck 145 = .ok (.getfield 37, 3) := by decide +kernel
theorem dX9_readsDeck_148 : decode cX9_readsDeck 148 = .ok (.iconst 0, 1) := by decide +kernel
theorem dX9_readsDeck_149 : decode cX9_readsDeck 149 = .ok (.iaload, 1) := by decide +kernel
theorem dX9_readsDeck_150 : decode cX9_readsDeck 150 = .ok (.iastore, 1) := by decide +kernel
theorem dX9_readsDeck_151 : decode cX9_readsDeck 151 = .ok (.iconst 0, 1) := by decide +kernel
theorem dX9_readsDeck_152 : decode cX9_readsDeck 152 = .ok (.istore_n 1, 1) := by decide +kernel
theorem dX9_readsDeck_153 : decode cX9_readsDeck 153 = .ok (.iload_n 1, 1) := by decide +kernel
theorem dX9_readsDeck_154 : decode cX9_readsDeck 154 = .ok (.aload_n 0, 1) := by decide +kernel
theorem dX9_readsDeck_155 : decode cX9_readsDeck 155 = .ok (.getfield 9, 3) := by decide +kernel
theorem dX9_readsDeck_158 : decode cX9_readsDeck 158 = .ok (.iconst 4, 1) := by decide +kernel
theorem dX9_readsDeck_159 : decode cX9_readsDeck 159 = .ok (.iaload, 1) := by decide +kernel
theorem dX9_readsDeck_160 : decode cX9_readsDeck 160 = .ok (.if_icmp .ge 25, 3) := by decide +kernel
theorem dX9_readsDeck_163 : decode cX9_readsDeck 163 = .ok (.aload_n 0, 1) := by decide +kernel
theorem dX9_readsDeck_164 : decode cX9_readsDeck 164 = .ok (.getfield 9, 3) := by decide +kernel
theorem dX9_readsDeck_167 : decode cX9_readsDeck 167 = .ok (.sipush 164, 3) := by decide +kernel
theorem dX9_readsDeck_170 : decode cX9_readsDeck 170 = .ok (.iload_n 1, 1) := by decide +kernel
theorem dX9_readsDeck_171 : decode cX9_readsDeck 171 = .ok (.iadd, 1) := by decide +kernel
theorem dX9_readsDeck_172 : decode cX9_readsDeck 172 = .ok (.aload_n 0, 1) := by decide +kernel
theorem dX9_readsDeck_173 : decode cX9_readsDeck 173 = .ok (.getfield 34, 3) := by decide +kernel
theorem dX9_readsDeck_176 : decode cX9_readsDeck 176 = .ok (.iload_n 1, 1) := by decide +kernel
theorem dX9_readsDeck_177 : decode cX9_readsDeck 177 = .ok (.iaload, 1) := by decide +kernel
theorem dX9_readsDeck_178 : decode cX9_readsDeck 178 = .ok (.iastore, 1) := by decide +kernel
theorem dX9_readsDeck_179 : decode cX9_readsDeck 179 = .ok (.iinc 1 1, 3) := by decide +kernel
theorem dX9_readsDeck_182 : decode cX9_readsDeck 182 = .ok (.goto (-29), 3) := by decide +kernel
theorem dX9_readsDeck_185 : decode cX9_readsDeck 185 = .ok (.return_, 1) := by decide +kernel
theorem dX9_readsYarn_0 : decode cX9_readsYarn 0 = .ok (.aload_n 0, 1) := by decide +kernel
theorem dX9_readsYarn_1 : decode cX9_readsYarn 1 = .ok (.invokevirtual 124, 3) := by decide +kernel
theorem dX9_readsYarn_4 : decode cX9_readsYarn 4 = .ok (.aload_n 0, 1) := by decide +kernel
theorem dX9_readsYarn_5 : decode cX9_readsYarn 5 = .ok (.invokevirtual 141, 3) := by decide +kernel
theorem dX9_readsYarn_8 : decode cX9_readsYarn 8 = .ok (.istore_n 1, 1) := by decide +kernel
theorem dX9_readsYarn_9 : decode cX9_readsYarn 9 = .ok (.aload_n 0, 1) := by decide +kernel
theorem dX9_readsYarn_10 : decode cX9_readsYarn 10 = .ok (.iconst 1, 1) := by decide +kernel
theorem dX9_readsYarn_11 : decode cX9_readsYarn 11 = .ok (.sipush 999, 3) := by decide +kernel
theorem dX9_readsYarn_14 : decode cX9_readsYarn 14 = .ok (.invokevirtual 174, 3) := by decide +kernel
theorem dX9_readsYarn_17 : decode cX9_readsYarn 17 = .ok (.istore_n 2, 1) := by decide +kernel
theorem dX9_readsYarn_18 : decode cX9_readsYarn 18 = .ok (.aload_n 0, 1) := by decide +kernel
theorem dX9_readsYarn_19 : decode cX9_readsYarn 19 = .ok (.getfield 68, 3) := by decide +kernel
theorem dX9_readsYarn_22 : decode cX9_readsYarn 22 = .ok (.ifCond .ne 9, 3) := by decide +kernel
theorem dX9_readsYarn_25 : decode cX9_readsYarn 25 = .ok (.aload_n 0, 1) := by decide +kernel
theorem dX9_readsYarn_26 : decode cX9_readsYarn 26 = .ok (.iload_n 1, 1) := by decide +kernel
theorem dX9_readsYarn_27 : decode cX9_readsYarn 27 = .ok (.iload_n 2, 1) := by decide +kernel
theorem dX9_readsYarn_28 : decode cX9_readsYarn 28 = .ok (.invokevirtual 208, 3) := by decide +kernel
theorem dX9_readsYarn_31 : decode cX9_readsYarn 31 = .ok (.return_, 1) := by decide +kernel
theorem dX9_readsWeave_0 : decode cX9_readsWeave 0 = .ok (.aload_n 0, 1) := by decide +kernel
theorem dX9_readsWeave_1 : decode cX9_readsWeave 1 = .ok (.invokevirtual 124, 3) := by decide +kernel
theorem dX9_readsWeave_4 : decode cX9_readsWeave 4 = .ok (.aload_n 0, 1) := by decide +kernel
theorem dX9_readsWeave_5 : decode cX9_readsWeave 5 = .ok (.iconst 1, 1) := by decide +kernel
theorem dX9_readsWeave_6 : decode cX9_readsWeave 6 = .ok (.bipush 60, 2) := by decide +kernel
theorem dX9_readsWeave_8 : decode cX9_readsWeave 8 = .ok (.invokevirtual 120, 3) := by decide +kernel
theorem dX9_readsWeave_11 : decode cX9_readsWeave 11 = .ok (.istore_n 1, 1) := by decide +kernel
theorem dX9_readsWeave_12 : decode cX9_readsWeave 12 = .ok (.aload_n 0, 1) := by decide +kernel
theorem dX9_readsWeave_13 : decode cX9_readsWeave 13 = .ok (.getfield 68, 3) := by decide +kernel
theorem dX9_readsWeave_16 : decode cX9_readsWeave 16 = .ok (.ifCond .le 7, 3) := by decide +kernel
theorem dX9_readsWeave_19 : decode cX9_readsWeave 19 = .ok (.iload_n 1, 1) := by decide +kernel
theorem dX9_readsWeave_20 : decode cX9_readsWeave 20 = .ok (.goto 8, 3) := by decide +kernel
theorem dX9_readsWeave_23 : decode cX9_readsWeave 23 = .ok (.aload_n 0, 1) := by decide +kernel
theorem dX9_readsWeave_24 : decode cX9_readsWeave 24 = .ok (.iload_n 1, 1) := by decide +kernel
theorem dX9_readsWeave_25 : decode cX9_readsWeave 25 = .ok (.invokevirtual 211, 3) := by decide +kernel
theorem dX9_readsWeave_28 : decode cX9_readsWeave 28 = .ok (.istore_n 2, 1) := by decide +kernel
theorem dX9_readsWeave_29 : decode cX9_readsWeave 29 = .ok (.aload_n 0, 1) := by decide +kernel
theorem dX9_readsWeave_30 : decode cX9_readsWeave 30 = .ok (.iload_n 2, 1) := by decide +kernel
theorem dX9_readsWeave_31 : decode cX9_readsWeave 31 = .ok (.iload_n 1, 1) := by decide +kernel
theorem dX9_readsWeave_32 : decode cX9_readsWeave 32 = .ok (.if_icmp .ge 7, 3) := by decide +kernel
theorem dX9_readsWeave_35 : decode cX9_readsWeave 35 = .ok (.iconst 1, 1) := by decide +kernel
theorem dX9_readsWeave_36 : decode cX9_readsWeave 36 = .ok (.goto 4, 3) := by decide +kernel
theorem dX9_readsWeave_39 : decode cX9_readsWeave 39 = .ok (.iconst 0, 1) := by decide +kernel
theorem dX9_readsWeave_40 : decode cX9_readsWeave 40 = .ok (.invokevirtual 138, 3) := by decide +kernel
theorem dX9_readsWeave_43 : decode cX9_readsWeave 43 = .ok (.aload_n 0, 1) := by decide +kernel
theorem dX9_readsWeave_44 : decode cX9_readsWeave 44 = .ok (.invokevirtual 124, 3) := by decide +kernel
theorem dX9_readsWeave_47 : decode cX9_readsWeave 47 = .ok (.return_, 1) := by decide +kernel
theorem dX9_readsUnweave_0 : decode cX9_readsUnweave 0 = .ok (.aload_n 0, 1) := by decide +kernel
theorem dX9_readsUnweave_1 : decode cX9_readsUnweave 1 = .ok (.invokevirtual 124, 3) := by decide +kernel
theorem dX9_readsUnweave_4 : decode cX9_readsUnweave 4 = .ok (.aload_n 0, 1) := by decide +kernel
theorem dX9_readsUnweave_5 : decode cX9_readsUnweave 5 = .ok (.iconst 1, 1) := by decide +kernel
theorem dX9_readsUnweave_6 : decode cX9_readsUnweave 6 = .ok (.bipush 60, 2) := by decide +kernel
theorem dX9_readsUnweave_8 : decode cX9_readsUnweave 8 = .ok (.invokevirtual 120, 3) := by decide +kernel
theorem dX9_readsUnweave_11 : decode cX9_readsUnweave 11 = .ok (.istore_n 1, 1) := by decide +kernel
theorem dX9_readsUnweave_12 : decode cX9_readsUnweave 12 = .ok (.aload_n 0, 1) := by decide +kernel
theorem dX9_readsUnweave_13 : decode cX9_readsUnweave 13 = .ok (.iload_n 1, 1) := by decide +kernel
theorem dX9_readsUnweave_14 : decode cX9_readsUnweave 14 = .ok (.aload_n 0, 1) := by decide +kernel
theorem dX9_readsUnweave_15 : decode cX9_readsUnweave 15 = .ok (.getfield 9, 3) := by decide +kernel
theorem dX9_readsUnweave_18 : decode cX9_readsUnweave 18 = .ok (.iconst 5, 1) := by decide +kernel
theorem dX9_readsUnweave_19 : decode cX9_readsUnweave 19 = .ok (.iaload, 1) := by decide +kernel
theorem dX9_readsUnweave_20 : decode cX9_readsUnweave 20 = .ok (.if_icmp .le 7, 3) := by decide +kernel
theorem dX9_readsUnweave_23 : decode cX9_readsUnweave 23 = .ok (.iconst 1, 1) := by decide +kernel
theorem dX9_readsUnweave_24 : decode cX9_readsUnweave 24 = .ok (.goto 4, 3) := by decide +kernel
theorem dX9_readsUnweave_27 : decode cX9_readsUnweave 27 = .ok (.iconst 0, 1) := by decide +kernel
theorem dX9_readsUnweave_28 : decode cX9_readsUnweave 28 = .ok (.invokevirtual 138, 3) := by decide +kernel
theorem dX9_readsUnweave_31 : decode cX9_readsUnweave 31 = .ok (.aload_n 0, 1) := by decide +kernel
theorem dX9_readsUnweave_32 : decode cX9_readsUnweave 32 = .ok (.getfield 68, 3) := by decide +kernel
theorem dX9_readsUnweave_35 : decode cX9_readsUnweave 35 = .ok (.ifCond .ne 8, 3) := by decide +kernel
theorem dX9_readsUnweave_38 : decode cX9_readsUnweave 38 = .ok (.aload_n 0, 1) := by decide +kernel
theorem dX9_readsUnweave_39 : decode cX9_readsUnweave 39 = .ok (.iload_n 1, 1) := by decide +kernel
theorem dX9_readsUnweave_40 : decode cX9_readsUnweave 40 = .ok (.invokevirtual 214, 3) := by decide +kernel
theorem dX9_readsUnweave_43 : decode cX9_readsUnweave 43 = .ok (.aload_n 0, 1) := by decide +kernel
theorem dX9_readsUnweave_44 : decode cX9_readsUnweave 44 = .ok (.invokevirtual 124, 3) := by decide +kernel
theorem dX9_readsUnweave_47 : decode cX9_readsUnweave 47 = .ok (.return_, 1) := by decide +kernel
theorem dX9_readsSwap_0 : decode cX9_readsSwap 0 = .ok (.aload_n 0, 1) := by decide +kernel
theorem dX9_readsSwap_1 : decode cX9_readsSwap 1 = .ok (.invokevirtual 124, 3) := by decide +kernel
theorem dX9_readsSwap_4 : decode cX9_readsSwap 4 = .ok (.aload_n 0, 1) := by decide +kernel
theorem dX9_readsSwap_5 : decode cX9_readsSwap 5 = .ok (.iconst 3, 1) := by decide +kernel
theorem dX9_readsSwap_6 : decode cX9_readsSwap 6 = .ok (.invokevirtual 217, 3) := by decide +kernel
theorem dX9_readsSwap_9 : decode cX9_readsSwap 9 = .ok (.istore_n 1, 1) := by decide +kernel
theorem dX9_readsSwap_10 : decode cX9_readsSwap 10 = .ok (.aload_n 0, 1) := by decide +kernel
theorem dX9_readsSwap_11 : decode cX9_readsSwap 11 = .ok (.iconst 3, 1) := by decide +kernel
theorem dX9_readsSwap_12 : decode cX9_readsSwap 12 = .ok (.invokevirtual 127, 3) := by decide +kernel
theorem dX9_readsSwap_15 : decode cX9_readsSwap 15 = .ok (.istore_n 2, 1) := by decide +kernel
theorem dX9_readsSwap_16 : decode cX9_readsSwap 16 = .ok (.aload_n 0, 1) := by decide +kernel
theorem dX9_readsSwap_17 : decode cX9_readsSwap 17 = .ok (.iload_n 1, 1) := by decide +kernel
theorem dX9_readsSwap_18 : decode cX9_readsSwap 18 = .ok (.iload_n 2, 1) := by decide +kernel
theorem dX9_readsSwap_19 : decode cX9_readsSwap 19 = .ok (.if_icmp .ne 7, 3) := by decide +kernel
theorem dX9_readsSwap_22 : decode cX9_readsSwap 22 = .ok (.iconst 1, 1) := by decide +kernel
theorem dX9_readsSwap_23 : decode cX9_readsSwap 23 = .ok (.goto 4, 3) := by decide +kernel
theorem dX9_readsSwap_26 : decode cX9_readsSwap 26 = .ok (.iconst 0, 1) := by decide +kernel
theorem dX9_readsSwap_27 : decode cX9_readsSwap 27 = .ok (.invokevirtual 138, 3) := by decide +kernel
theorem dX9_readsSwap_30 : decode cX9_readsSwap 30 = .ok (.aload_n 0, 1) := by decide +kernel
theorem dX9_readsSwap_31 : decode cX9_readsSwap 31 = .ok (.getfield 68, 3) := by decide +kernel
theorem dX9_readsSwap_34 : decode cX9_readsSwap 34 = .ok (.ifCond .ne 9, 3) := by decide +kernel
theorem dX9_readsSwap_37 : decode cX9_readsSwap 37 = .ok (.aload_n 0, 1) := by decide +kernel
theorem dX9_readsSwap_38 : decode cX9_readsSwap 38 = .ok (.iload_n 1, 1) := by decide +kernel
theorem dX9_readsSwap_39 : decode cX9_readsSwap 39 = .ok (.iload_n 2, 1) := by decide +kernel
theorem dX9_readsSwap_40 : decode cX9_readsSwap 40 = .ok (.invokevirtual 220, 3) := by decide +kernel
theorem dX9_readsSwap_43 : decode cX9_readsSwap 43 = .ok (.aload_n 0, 1) := by decide +kernel
theorem dX9_readsSwap_44 : decode cX9_readsSwap 44 = .ok (.invokevirtual 124, 3) := by decide +kernel
theorem dX9_readsSwap_47 : decode cX9_readsSwap 47 = .ok (.return_, 1) := by decide +kernel
theorem dX9_readsPunch_0 : decode cX9_readsPunch 0 = .ok (.aload_n 0, 1) := by decide +kernel
theorem dX9_readsPunch_1 : decode cX9_readsPunch 1 = .ok (.invokevirtual 124, 3) := by decide +kernel
theorem dX9_readsPunch_4 : decode cX9_readsPunch 4 = .ok (.aload_n 0, 1) := by decide +kernel
theorem dX9_readsPunch_5 : decode cX9_readsPunch 5 = .ok (.iconst 3, 1) := by decide +kernel
theorem dX9_readsPunch_6 : decode cX9_readsPunch 6 = .ok (.invokevirtual 217, 3) := by decide +kernel
theorem dX9_readsPunch_9 : decode cX9_readsPunch 9 = .ok (.istore_n 1, 1) := by decide +kernel
theorem dX9_readsPunch_10 : decode cX9_readsPunch 10 = .ok (.aload_n 0, 1) := by decide +kernel
theorem dX9_readsPunch_11 : decode cX9_readsPunch 11 = .ok (.iconst 0, 1) := by decide +kernel
theorem dX9_readsPunch_12 : decode cX9_readsPunch 12 = .ok (.invokevirtual 217, 3) := by decide +kernel
theorem dX9_readsPunch_15 : decode cX9_readsPunch 15 = .ok (.istore_n 2, 1) := by decide +kernel
theorem dX9_readsPunch_16 : decode cX9_readsPunch 16 = .ok (.aload_n 0, 1) := by decide +kernel
theorem dX9_readsPunch_17 : decode cX9_readsPunch 17 = .ok (.getfield 68, 3) := by decide +kernel
theorem dX9_readsPunch_20 : decode cX9_readsPunch 20 = .ok (.ifCond .ne 9, 3) := by decide +kernel
theorem dX9_readsPunch_23 : decode cX9_readsPunch 23 = .ok (.aload_n 0, 1) := by decide +kernel
theorem dX9_readsPunch_24 : decode cX9_readsPunch 24 = .ok (.iload_n 1, 1) := by decide +kernel
theorem dX9_readsPunch_25 : decode cX9_readsPunch 25 = .ok (.iload_n 2, 1) := by decide +kernel
theorem dX9_readsPunch_26 : decode cX9_readsPunch 26 = .ok (.invokevirtual 223, 3) := by decide +kernel
theorem dX9_readsPunch_29 : decode cX9_readsPunch 29 = .ok (.return_, 1) := by decide +kernel
theorem dX9_readsDye_0 : decode cX9_readsDye 0 = .ok (.aload_n 0, 1) := by decide +kernel
theorem dX9_readsDye_1 : decode cX9_readsDye 1 = .ok (.invokevirtual 124, 3) := by decide +kernel
theorem dX9_readsDye_4 : decode cX9_readsDye 4 = .ok (.aload_n 0, 1) := by decide +kernel
theorem dX9_readsDye_5 : decode cX9_readsDye 5 = .ok (.iconst 3, 1) := by decide +kernel
theorem dX9_readsDye_6 : decode cX9_readsDye 6 = .ok (.invokevirtual 217, 3) := by decide +kernel
theorem dX9_readsDye_9 : decode cX9_readsDye 9 = .ok (.istore_n 1, 1) := by decide +kernel
theorem dX9_readsDye_10 : decode cX9_readsDye 10 = .ok (.aload_n 0, 1) := by decide +kernel
theorem dX9_readsDye_11 : decode cX9_readsDye 11 = .ok (.invokevirtual 141, 3) := by decide +kernel
theorem dX9_readsDye_14 : decode cX9_readsDye 14 = .ok (.istore_n 2, 1) := by decide +kernel
theorem dX9_readsDye_15 : decode cX9_readsDye 15 = .ok (.aload_n 0, 1) := by decide +kernel
theorem dX9_readsDye_16 : decode cX9_readsDye 16 = .ok (.getfield 68, 3) := by decide +kernel
theorem dX9_readsDye_19 : decode cX9_readsDye 19 = .ok (.ifCond .ne 9, 3) := by decide +kernel
theorem dX9_readsDye_22 : decode cX9_readsDye 22 = .ok (.aload_n 0, 1) := by decide +kernel
theorem dX9_readsDye_23 : decode cX9_readsDye 23 = .ok (.iload_n 1, 1) := by decide +kernel
theorem dX9_readsDye_24 : decode cX9_readsDye 24 = .ok (.iload_n 2, 1) := by decide +kernel
theorem dX9_readsDye_25 : decode cX9_readsDye 25 = .ok (.invokevirtual 226, 3) := by decide +kernel
theorem dX9_readsDye_28 : decode cX9_readsDye 28 = .ok (.return_, 1) := by decide +kernel
theorem dX9_readsOil_0 : decode cX9_readsOil 0 = .ok (.aload_n 0, 1) := by decide +kernel
theorem dX9_readsOil_1 : decode cX9_readsOil 1 = .ok (.invokevirtual 124, 3) := by decide +kernel
theorem dX9_readsOil_4 : decode cX9_readsOil 4 = .ok (.aload_n 0, 1) := by decide +kernel
theorem dX9_readsOil_5 : decode cX9_readsOil 5 = .ok (.iconst 0, 1) := by decide +kernel
theorem dX9_readsOil_6 : decode cX9_readsOil 6 = .ok (.invokevirtual 217, 3) := by decide +kernel
theorem dX9_readsOil_9 : decode cX9_readsOil 9 = .ok (.istore_n 1, 1) := by decide +kernel
theorem dX9_readsOil_10 : decode cX9_readsOil 10 = .ok (.aload_n 0, 1) := by decide +kernel
theorem dX9_readsOil_11 : decode cX9_readsOil 11 = .ok (.getfield 68, 3) := by decide +kernel
theorem dX9_readsOil_14 : decode cX9_readsOil 14 = .ok (.ifCond .ne 8, 3) := by decide +kernel
theorem dX9_readsOil_17 : decode cX9_readsOil 17 = .ok (.aload_n 0, 1) := by decide +kernel
theorem dX9_readsOil_18 : decode cX9_readsOil 18 = .ok (.iload_n 1, 1) := by decide +kernel
theorem dX9_readsOil_19 : decode cX9_readsOil 19 = .ok (.invokevirtual 229, 3) := by decide +kernel
theorem dX9_readsOil_22 : decode cX9_readsOil 22 = .ok (.return_, 1) := by decide +kernel
theorem dX9_readsInvert_0 : decode cX9_readsInvert 0 = .ok (.aload_n 0, 1) := by decide +kernel
theorem dX9_readsInvert_1 : decode cX9_readsInvert 1 = .ok (.invokevirtual 124, 3) := by decide +kernel
theorem dX9_readsInvert_4 : decode cX9_readsInvert 4 = .ok (.aload_n 0, 1) := by decide +kernel
theorem dX9_readsInvert_5 : decode cX9_readsInvert 5 = .ok (.iconst 3, 1) := by decide +kernel
theorem dX9_readsInvert_6 : decode cX9_readsInvert 6 = .ok (.invokevirtual 217, 3) := by decide +kernel
theorem dX9_readsInvert_9 : decode cX9_readsInvert 9 = .ok (.istore_n 1, 1) := by decide +kernel
theorem dX9_readsInvert_10 : decode cX9_readsInvert 10 = .ok (.aload_n 0, 1) := by decide +kernel
theorem dX9_readsInvert_11 : decode cX9_readsInvert 11 = .ok (.getfield 68, 3) := by decide +kernel
theorem dX9_readsInvert_14 : decode cX9_readsInvert 14 = .ok (.ifCond .le 4, 3) := by decide +kernel
theorem dX9_readsInvert_17 : decode cX9_readsInvert 17 = .ok (.return_, 1) := by decide +kernel
theorem dX9_readsInvert_18 : decode cX9_readsInvert 18 = .ok (.aload_n 0, 1) := by decide +kernel
theorem dX9_readsInvert_19 : decode cX9_readsInvert 19 = .ok (.iload_n 1, 1) := by decide +kernel
theorem dX9_readsInvert_20 : decode cX9_readsInvert 20 = .ok (.iconst 0, 1) := by decide +kernel
theorem dX9_readsInvert_21 : decode cX9_readsInvert 21 = .ok (.aload_n 0, 1) := by decide +kernel
theorem dX9_readsInvert_22 : decode cX9_readsInvert 22 = .ok (.iload_n 1, 1) := by decide +kernel
theorem dX9_readsInvert_23 : decode cX9_readsInvert 23 = .ok (.iconst 0, 1) := by decide +kernel
theorem dX9_readsInvert_24 : decode cX9_readsInvert 24 = .ok (.invokevirtual 232, 3) := by decide +kernel
theorem dX9_readsInvert_27 : decode cX9_readsInvert 27 = .ok (.iconst 1, 1) := by decide +kernel
theorem dX9_readsInvert_28 : decode cX9_readsInvert 28 = .ok (.aload_n 0, 1) := by decide +kernel
theorem dX9_readsInvert_29 : decode cX9_readsInvert 29 = .ok (.getfield 9, 3) := by decide +kernel
theorem dX9_readsInvert_32 : decode cX9_readsInvert 32 = .ok (.iconst 0, 1) := by decide +kernel
theorem dX9_readsInvert_33 : decode cX9_readsInvert 33 = .ok (.iaload, 1) := by decide +kernel
theorem dX9_readsInvert_34 : decode cX9_readsInvert 34 = .ok (.ishl, 1) := by decide +kernel
theorem dX9_readsInvert_35 : decode cX9_readsInvert 35 = .ok (.iconst 1, 1) := by decide +kernel
theorem dX9_readsInvert_36 : decode cX9_readsInvert 36 = .ok (.isub, 1) := by decide +kernel
theorem dX9_readsInvert_37 : decode cX9_readsInvert 37 = .ok (.ixor, 1) := by decide +kernel
theorem dX9_readsInvert_38 : decode cX9_readsInvert 38 = .ok (.invokevirtual 151, 3) := by decide +kernel
theorem dX9_readsInvert_41 : decode cX9_readsInvert 41 = .ok (.aload_n 0, 1) := by decide +kernel
theorem dX9_readsInvert_42 : decode cX9_readsInvert 42 = .ok (.getfield 9, 3) := by decide +kernel
theorem dX9_readsInvert_45 : decode cX9_readsInvert 45 = .ok (.bipush 8, 2) := by decide +kernel
theorem dX9_readsInvert_47 : decode cX9_readsInvert 47 = .ok (.iconst 1, 1) := by decide +kernel
theorem dX9_readsInvert_48 : decode cX9_readsInvert 48 = .ok (.iastore, 1) := by decide +kernel
theorem dX9_readsInvert_49 : decode cX9_readsInvert 49 = .ok (.return_, 1) := by decide +kernel
theorem dX9_readsSetting_0 : decode cX9_readsSetting 0 = .ok (.aload_n 0, 1) := by decide +kernel
theorem dX9_readsSetting_1 : decode cX9_readsSetting 1 = .ok (.invokevirtual 124, 3) := by decide +kernel
theorem dX9_readsSetting_4 : decode cX9_readsSetting 4 = .ok (.aload_n 0, 1) := by decide +kernel
theorem dX9_readsSetting_5 : decode cX9_readsSetting 5 = .ok (.iload_n 2, 1) := by decide +kernel
theorem dX9_readsSetting_6 : decode cX9_readsSetting 6 = .ok (.iload_n 3, 1) := by decide +kernel
theorem dX9_readsSetting_7 : decode cX9_readsSetting 7 = .ok (.invokevirtual 174, 3) := by decide +kernel
theorem dX9_readsSetting_10 : decode cX9_readsSetting 10 = .ok (.istore 4, 2) := by decide +kernel
theorem dX9_readsSetting_12 : decode cX9_readsSetting 12 = .ok (.aload_n 0, 1) := by decide +kernel
theorem dX9_readsSetting_13 : decode cX9_readsSetting 13 = .ok (.getfield 68, 3) := by decide +kernel
theorem dX9_readsSetting_16 : decode cX9_readsSetting 16 = .ok (.ifCond .ne 11, 3) := by decide +kernel
theorem dX9_readsSetting_19 : decode cX9_readsSetting 19 = .ok (.aload_n 0, 1) := by decide +kernel
theorem dX9_readsSetting_20 : decode cX9_readsSetting 20 = .ok (.getfield 9, 3) := by decide +kernel
theorem dX9_readsSetting_23 : decode cX9_readsSetting 23 = .ok (.iload_n 1, 1) := by decide +kernel
theorem dX9_readsSetting_24 : decode cX9_readsSetting 24 = .ok (.iload 4, 2) := by decide +kernel
theorem dX9_readsSetting_26 : decode cX9_readsSetting 26 = .ok (.iastore, 1) := by decide +kernel
theorem dX9_readsSetting_27 : decode cX9_readsSetting 27 = .ok (.return_, 1) := by decide +kernel
theorem dX9_readsMend_0 : decode cX9_readsMend 0 = .ok (.aload_n 0, 1) := by decide +kernel
theorem dX9_readsMend_1 : decode cX9_readsMend 1 = .ok (.invokevirtual 124, 3) := by decide +kernel
theorem dX9_readsMend_4 : decode cX9_readsMend 4 = .ok (.aload_n 0, 1) := by decide +kernel
theorem dX9_readsMend_5 : decode cX9_readsMend 5 = .ok (.iconst 2, 1) := by decide +kernel
theorem dX9_readsMend_6 : decode cX9_readsMend 6 = .ok (.invokevirtual 127, 3) := by decide +kernel
theorem dX9_readsMend_9 : decode cX9_readsMend 9 = .ok (.istore_n 1, 1) := by decide +kernel
theorem dX9_readsMend_10 : decode cX9_readsMend 10 = .ok (.aload_n 0, 1) := by decide +kernel
theorem dX9_readsMend_11 : decode cX9_readsMend 11 = .ok (.aload_n 0, 1) := by decide +kernel
theorem dX9_readsMend_12 : decode cX9_readsMend 12 = .ok (.getfield 68, 3) := by decide +kernel
theorem dX9_readsMend_15 : decode cX9_readsMend 15 = .ok (.ifCond .ne 15, 3) := by decide +kernel
theorem dX9_readsMend_18 : decode cX9_readsMend 18 = .ok (.aload_n 0, 1) := by decide +kernel
theorem dX9_readsMend_19 : decode cX9_readsMend 19 = .ok (.iload_n 1, 1) := by decide +kernel
theorem dX9_readsMend_20 : decode cX9_readsMend 20 = .ok (.invokevirtual 235, 3) := by decide +kernel
theorem dX9_readsMend_23 : decode cX9_readsMend 23 = .ok (.ifCond .ne 7, 3) := by decide +kernel
theorem dX9_readsMend_26 : decode cX9_readsMend 26 = .ok (.iconst 1, 1) := by decide +kernel
theorem dX9_readsMend_27 : decode cX9_readsMend 27 = .ok (.goto 4, 3) := by decide +kernel
theorem dX9_readsMend_30 : decode cX9_readsMend 30 = .ok (.iconst 0, 1) := by decide +kernel
theorem dX9_readsMend_31 : decode cX9_readsMend 31 = .ok (.invokevirtual 138, 3) := by decide +kernel
theorem dX9_readsMend_34 : decode cX9_readsMend 34 = .ok (.aload_n 0, 1) := by decide +kernel
theorem dX9_readsMend_35 : decode cX9_readsMend 35 = .ok (.getfield 68, 3) := by decide +kernel
theorem dX9_readsMend_38 : decode cX9_readsMend 38 = .ok (.ifCond .ne 10, 3) := by decide +kernel
theorem dX9_readsMend_41 : decode cX9_readsMend 41 = .ok (.aload_n 0, 1) := by decide +kernel
theorem dX9_readsMend_42 : decode cX9_readsMend 42 = .ok (.iload_n 1, 1) := by decide +kernel
theorem dX9_readsMend_43 : decode cX9_readsMend 43 = .ok (.iconst 2, 1) := by decide +kernel
theorem dX9_readsMend_44 : decode cX9_readsMend 44 = .ok (.iconst 0, 1) := by decide +kernel
theorem dX9_readsMend_45 : decode cX9_readsMend 45 = .ok (.invokevirtual 134, 3) := by decide +kernel
theorem dX9_readsMend_48 : decode cX9_readsMend 48 = .ok (.aload_n 0, 1) := by decide +kernel
theorem dX9_readsMend_49 : decode cX9_readsMend 49 = .ok (.invokevirtual 124, 3) := by decide +kernel
theorem dX9_readsMend_52 : decode cX9_readsMend 52 = .ok (.return_, 1) := by decide +kernel
theorem dX9_readsItem_0 : decode cX9_readsItem 0 = .ok (.aload_n 0, 1) := by decide +kernel
theorem dX9_readsItem_1 : decode cX9_readsItem 1 = .ok (.ldc 238, 2) := by decide +kernel
theorem dX9_readsItem_3 : decode cX9_readsItem 3 = .ok (.invokevirtual 166, 3) := by decide +kernel
theorem dX9_readsItem_6 : decode cX9_readsItem 6 = .ok (.ifCond .eq 10, 3) := by decide +kernel
theorem dX9_readsItem_9 : decode cX9_readsItem 9 = .ok (.aload_n 0, 1) := by decide +kernel
theorem dX9_readsItem_10 : decode cX9_readsItem 10 = .ok (.invokevirtual 240, 3) := by decide +kernel
theorem dX9_readsItem_13 : decode cX9_readsItem 13 = .ok (.goto 72, 3) := by decide +kernel
theorem dX9_readsItem_16 : decode cX9_readsItem 16 = .ok (.aload_n 0, 1) := by decide +kernel
theorem dX9_readsItem_17 : decode cX9_readsItem 17 = .ok (.ldc 243, 2) := by decide +kernel
theorem dX9_readsItem_19 : decode cX9_readsItem 19 = .ok (.invokevirtual 166, 3) := by decide +kernel
theorem dX9_readsItem_22 : decode cX9_readsItem 22 = .ok (.ifCond .eq 10, 3) := by decide +kernel
theorem dX9_readsItem_25 : decode cX9_readsItem 25 = .ok (.aload_n 0, 1) := by decide +kernel
theorem dX9_readsItem_26 : decode cX9_readsItem 26 = .ok (.invokevirtual 245, 3) := by decide +kernel
theorem dX9_readsItem_29 : decode cX9_readsItem 29 = .ok (.goto 56, 3) := by decide +kernel
theorem dX9_readsItem_32 : decode cX9_readsItem 32 = .ok (.aload_n 0, 1) := by decide +kernel
theorem dX9_readsItem_33 : decode cX9_readsItem 33 = .ok (.ldc 248, 2) := by decide +kernel
theorem dX9_readsItem_35 : decode cX9_readsItem 35 = .ok (.invokevirtual 166, 3) := by decide +kernel
theorem dX9_readsItem_38 : decode cX9_readsItem 38 = .ok (.ifCond .eq 10, 3) := by decide +kernel
theorem dX9_readsItem_41 : decode cX9_readsItem 41 = .ok (.aload_n 0, 1) := by decide +kernel
theorem dX9_readsItem_42 : decode cX9_readsItem 42 = .ok (.invokevirtual 250, 3) := by decide +kernel
theorem dX9_readsItem_45 : decode cX9_readsItem 45 = .ok (.goto 40, 3) := by decide +kernel
theorem dX9_readsItem_48 : decode cX9_readsItem 48 = .ok (.aload_n 0, 1) := by decide +kernel
theorem dX9_readsItem_49 : decode cX9_readsItem 49 = .ok (.ldc 253, 2) := by decide +kernel
theorem dX9_readsItem_51 : decode cX9_readsItem 51 = .ok (.invokevirtual 166, 3) := by decide +kernel
theorem dX9_readsItem_54 : decode cX9_readsItem 54 = .ok (.ifCond .eq 10, 3) := by decide +kernel
theorem dX9_readsItem_57 : decode cX9_readsItem 57 = .ok (.aload_n 0, 1) := by decide +kernel
theorem dX9_readsItem_58 : decode cX9_readsItem 58 = .ok (.invokevirtual 255, 3) := by decide +kernel
theorem dX9_readsItem_61 : decode cX9_readsItem 61 = .ok (.goto 24, 3) := by decide +kernel
theorem dX9_readsItem_64 : decode cX9_readsItem 64 = .ok (.aload_n 0, 1) := by decide +kernel
theorem dX9_readsItem_65 : decode cX9_readsItem 65 = .ok (.ldc_w 258, 3) := by decide +kernel
theorem dX9_readsItem_68 : decode cX9_readsItem 68 = .ok (.invokevirtual 166, 3) := by decide +kernel
theorem dX9_readsItem_71 : decode cX9_readsItem 71 = .ok (.ifCond .eq 10, 3) := by decide +kernel
theorem dX9_readsItem_74 : decode cX9_readsItem 74 = .ok (.aload_n 0, 1) := by decide +kernel
theorem dX9_readsItem_75 : decode cX9_readsItem 75 = .ok (.invokevirtual 260, 3) := by decide +kernel
theorem dX9_readsItem_78 : decode cX9_readsItem 78 = .ok (.goto 7, 3) := by decide +kernel
theorem dX9_readsItem_81 : decode cX9_readsItem 81 = .ok (.aload_n 0, 1) := by decide +kernel
theorem dX9_readsItem_82 : decode cX9_readsItem 82 = .ok (.invokevirtual 263, 3) := by decide +kernel
theorem dX9_readsItem_85 : decode cX9_readsItem 85 = .ok (.return_, 1) := by decide +kernel
theorem dX9_readsDeed_0 : decode cX9_readsDeed 0 = .ok (.aload_n 0, 1) := by decide +kernel
theorem dX9_readsDeed_1 : decode cX9_readsDeed 1 = .ok (.ldc_w 266, 3) := by decide +kernel
theorem dX9_readsDeed_4 : decode cX9_readsDeed 4 = .ok (.invokevirtual 166, 3) := by decide +kernel
theorem dX9_readsDeed_7 : decode cX9_readsDeed 7 = .ok (.ifCond .eq 10, 3) := by decide +kernel
theorem dX9_readsDeed_10 : decode cX9_readsDeed 10 = .ok (.aload_n 0, 1) := by decide +kernel
theorem dX9_readsDeed_11 : decode cX9_readsDeed 11 = .ok (.invokevirtual 268, 3) := by decide +kernel
theorem dX9_readsDeed_14 : decode cX9_readsDeed 14 = .ok (.goto 154, 3) := by decide +kernel
theorem dX9_readsDeed_17 : decode cX9_readsDeed 17 = .ok (.aload_n 0, 1) := by decide +kernel
theorem dX9_readsDeed_18 : decode cX9_readsDeed 18 = .ok (.ldc_w 271, 3) := by decide +kernel
theorem dX9_readsDeed_21 : decode cX9_readsDeed 21 = .ok (.invokevirtual 166, 3) := by decide +kernel
theorem dX9_readsDeed_24 : decode cX9_readsDeed 24 = .ok (.ifCond .eq 10, 3) := by decide +kernel
theorem dX9_readsDeed_27 : decode cX9_readsDeed 27 = .ok (.aload_n 0, 1) := by decide +kernel
theorem dX9_readsDeed_28 : decode cX9_readsDeed 28 = .ok (.invokevirtual 273, 3) := by decide +kernel
theorem dX9_readsDeed_31 : decode cX9_readsDeed 31 = .ok (.goto 137, 3) := by decide +kernel
theorem dX9_readsDeed_34 : decode cX9_readsDeed 34 = .ok (.aload_n 0, 1) := by decide +kernel
theorem dX9_readsDeed_35 : decode cX9_readsDeed 35 = .ok (.ldc_w 276, 3) := by decide +kernel
theorem dX9_readsDeed_38 : decode cX9_readsDeed 38 = .ok (.invokevirtual 166, 3) := by decide +kernel
theorem dX9_readsDeed_41 : decode cX9_readsDeed 41 = .ok (.ifCond .eq 10, 3) := by decide +kernel
theorem dX9_readsDeed_44 : decode cX9_readsDeed 44 = .ok (.aload_n 0, 1) := by decide +kernel
theorem dX9_readsDeed_45 : decode cX9_readsDeed 45 = .ok (.invokevirtual 278, 3) := by decide +kernel
theorem dX9_readsDeed_48 : decode cX9_readsDeed 48 = .ok (.goto 120, 3) := by decide +kernel
theorem dX9_readsDeed_51 : decode cX9_readsDeed 51 = .ok (.aload_n 0, 1) := by decide +kernel
theorem dX9_readsDeed_52 : decode cX9_readsDeed 52 = .ok (.ldc_w 281, 3) := by decide +kernel
theorem dX9_readsDeed_55 : decode cX9_readsDeed 55 = .ok (.invokevirtual 166, 3) := by decide +kernel
theorem dX9_readsDeed_58 : decode cX9_readsDeed 58 = .ok (.ifCond .eq 10, 3) := by decide +kernel
theorem dX9_readsDeed_61 : decode cX9_readsDeed 61 = .ok (.aload_n 0, 1) := by decide +kernel
theorem dX9_readsDeed_62 : decode cX9_readsDeed 62 = .ok (.invokevirtual 283, 3) := by decide +kernel
theorem dX9_readsDeed_65 : decode cX9_readsDeed 65 = .ok (.goto 103, 3) := by decide +kernel
theorem dX9_readsDeed_68 : decode cX9_readsDeed 68 = .ok (.aload_n 0, 1) := by decide +kernel
theorem dX9_readsDeed_69 : decode cX9_readsDeed 69 = .ok (.ldc_w 286, 3) := by decide +kernel
theorem dX9_readsDeed_72 : decode cX9_readsDeed 72 = .ok (.invokevirtual 166, 3) := by decide +kernel
theorem dX9_readsDeed_75 : decode cX9_readsDeed 75 = .ok (.ifCond .eq 10, 3) := by decide +kernel
theorem dX9_readsDeed_78 : decode cX9_readsDeed 78 = .ok (.aload_n 0, 1) := by decide +kernel
theorem dX9_readsDeed_79 : decode cX9_readsDeed 79 = .ok (.invokevirtual 288, 3) := by decide +kernel
theorem dX9_readsDeed_82 : decode cX9_readsDeed 82 = .ok (.goto 86, 3) := by decide +kernel
theorem dX9_readsDeed_85 : decode cX9_readsDeed 85 = .ok (.aload_n 0, 1) := by decide +kernel
theorem dX9_readsDeed_86 : decode cX9_readsDeed 86 = .ok (.ldc_w 291, 3) := by decide +kernel
theorem dX9_readsDeed_89 : decode cX9_readsDeed 89 = .ok (.invokevirtual 166, 3) := by decide +kernel
theorem dX9_readsDeed_92 : decode cX9_readsDeed 92 = .ok (.ifCond .eq 10, 3) := by decide +kernel
theorem dX9_readsDeed_95 : decode cX9_readsDeed 95 = .ok (.aload_n 0, 1) := by decide +kernel
theorem dX9_readsDeed_96 : decode cX9_readsDeed 96 = .ok (.invokevirtual 293, 3) := by decide +kernel
theorem dX9_readsDeed_99 : decode cX9_readsDeed 99 = .ok (.goto 69, 3) := by decide +kernel
theorem dX9_readsDeed_102 : decode cX9_readsDeed 102 = .ok (.aload_n 0, 1) := by decide +kernel
theorem dX9_readsDeed_103 : decode cX9_readsDeed 103 = .ok (.ldc_w 296, 3) := by decide +kernel
theorem dX9_readsDeed_106 : decode cX9_readsDeed 106 = .ok (.invokevirtual 166, 3) := by decide +kernel
theorem dX9_readsDeed_109 : decode cX9_readsDeed 109 = .ok (.ifCond .eq 15, 3) := by decide +kernel
theorem dX9_readsDeed_112 : decode cX9_readsDeed 112 = .ok (.aload_n 0, 1) := by decide +kernel
theorem dX9_readsDeed_113 : decode cX9_readsDeed 113 = .ok (.bipush 11, 2) := by decide +kernel
theorem dX9_readsDeed_115 : decode cX9_readsDeed 115 = .ok (.iconst 0, 1) := by decide +kernel
theorem dX9_readsDeed_116 : decode cX9_readsDeed 116 = .ok (.bipush 60, 2) := by decide +kernel
theorem dX9_readsDeed_118 : decode cX9_readsDeed 118 = .ok (.invokevirtual 298, 3) := by decide +kernel
theorem dX9_readsDeed_121 : decode cX9_readsDeed 121 = .ok (.goto 47, 3) := by decide +kernel
theorem dX9_readsDeed_124 : decode cX9_readsDeed 124 = .ok (.aload_n 0, 1) := by decide +kernel
theorem dX9_readsDeed_125 : decode cX9_readsDeed 125 = .ok (.ldc_w 301, 3) := by decide +kernel
theorem dX9_readsDeed_128 : decode cX9_readsDeed 128 = .ok (.invokevirtual 166, 3) := by decide +kernel
theorem dX9_readsDeed_131 : decode cX9_readsDeed 131 = .ok (.ifCond .eq 15, 3) := by decide +kernel
theorem dX9_readsDeed_134 : decode cX9_readsDeed 134 = .ok (.aload_n 0, 1) := by decide +kernel
theorem dX9_readsDeed_135 : decode cX9_readsDeed 135 = .ok (.bipush 12, 2) := by decide +kernel
theorem dX9_readsDeed_137 : decode cX9_readsDeed 137 = .ok (.iconst 1, 1) := by decide +kernel
theorem dX9_readsDeed_138 : decode cX9_readsDeed 138 = .ok (.bipush 24, 2) := by decide +kernel
theorem dX9_readsDeed_140 : decode cX9_readsDeed 140 = .ok (.invokevirtual 298, 3) := by decide +kernel
theorem dX9_readsDeed_143 : decode cX9_readsDeed 143 = .ok (.goto 25, 3) := by decide +kernel
theorem dX9_readsDeed_146 : decode cX9_readsDeed 146 = .ok (.aload_n 0, 1) := by decide +kernel
theorem dX9_readsDeed_147 : decode cX9_readsDeed 147 = .ok (.ldc_w 303, 3) := by decide +kernel
theorem dX9_readsDeed_150 : decode cX9_readsDeed 150 = .ok (.invokevirtual 166, 3) := by decide +kernel
theorem dX9_readsDeed_153 : decode cX9_readsDeed 153 = .ok (.ifCond .eq 10, 3) := by decide +kernel
theorem dX9_readsDeed_156 : decode cX9_readsDeed 156 = .ok (.aload_n 0, 1) := by decide +kernel
theorem dX9_readsDeed_157 : decode cX9_readsDeed 157 = .ok (.invokevirtual 305, 3) := by decide +kernel
theorem dX9_readsDeed_160 : decode cX9_readsDeed 160 = .ok (.goto 8, 3) := by decide +kernel
theorem dX9_readsDeed_163 : decode cX9_readsDeed 163 = .ok (.aload_n 0, 1) := by decide +kernel
theorem dX9_readsDeed_164 : decode cX9_readsDeed 164 = .ok (.iconst 1, 1) := by decide +kernel
theorem dX9_readsDeed_165 : decode cX9_readsDeed 165 = .ok (.invokevirtual 104, 3) := by decide +kernel
theorem dX9_readsDeed_168 : decode cX9_readsDeed 168 = .ok (.return_, 1) := by decide +kernel
theorem dX9_readsText_0 : decode cX9_readsText 0 = .ok (.aload_n 0, 1) := by decide +kernel
theorem dX9_readsText_1 : decode cX9_readsText 1 = .ok (.invokevirtual 124, 3) := by decide +kernel
theorem dX9_readsText_4 : decode cX9_readsText 4 = .ok (.aload_n 0, 1) := by decide +kernel
theorem dX9_readsText_5 : decode cX9_readsText 5 = .ok (.ldc_w 308, 3) := by decide +kernel
theorem dX9_readsText_8 : decode cX9_readsText 8 = .ok (.invokevirtual 166, 3) := by decide +kernel
theorem dX9_readsText_11 : decode cX9_readsText 11 = .ok (.ifCond .ne 8, 3) := by decide +kernel
theorem dX9_readsText_14 : decode cX9_readsText 14 = .ok (.aload_n 0, 1) := by decide +kernel
theorem dX9_readsText_15 : decode cX9_readsText 15 = .ok (.iconst 1, 1) := by decide +kernel
theorem dX9_readsText_16 : decode cX9_readsText 16 = .ok (.invokevirtual 104, 3) := by decide +kernel
theorem dX9_readsText_19 : decode cX9_readsText 19 = .ok (.aload_n 0, 1) := by decide +kernel
theorem dX9_readsText_20 : decode cX9_readsText 20 = .ok (.invokevirtual 124, 3) := by decide +kernel
theorem dX9_readsText_23 : decode cX9_readsText 23 = .ok (.aload_n 0, 1) := by decide +kernel
theorem dX9_readsText_24 : decode cX9_readsText 24 = .ok (.getfield 9, 3) := by decide +kernel
theorem dX9_readsText_27 : decode cX9_readsText 27 = .ok (.iconst 0, 1) := by decide +kernel
theorem dX9_readsText_28 : decode cX9_readsText 28 = .ok (.aload_n 0, 1) := by decide +kernel
theorem dX9_readsText_29 : decode cX9_readsText 29 = .ok (.iconst 2, 1) := by decide +kernel
theorem dX9_readsText_30 : decode cX9_readsText 30 = .ok (.bipush 8, 2) := by decide +kernel
theorem dX9_readsText_32 : decode cX9_readsText 32 = .ok (.invokevirtual 174, 3) := by decide +kernel
theorem dX9_readsText_35 : decode cX9_readsText 35 = .ok (.iastore, 1) := by decide +kernel
theorem dX9_readsText_36 : decode cX9_readsText 36 = .ok (.aload_n 0, 1) := by decide +kernel
theorem dX9_readsText_37 : decode cX9_readsText 37 = .ok (.getfield 9, 3) := by decide +kernel
theorem dX9_readsText_40 : decode cX9_readsText 40 = .ok (.iconst 1, 1) := by decide +kernel
theorem dX9_readsText_41 : decode cX9_readsText 41 = .ok (.aload_n 0, 1) := by decide +kernel
theorem dX9_readsText_42 : decode cX9_readsText 42 = .ok (.iconst 1, 1) := by decide +kernel
theorem dX9_readsText_43 : decode cX9_readsText 43 = .ok (.sipush 200, 3) := by decide +kernel
theorem dX9_readsText_46 : decode cX9_readsText 46 = .ok (.invokevirtual 174, 3) := by decide +kernel
theorem dX9_readsText_49 : decode cX9_readsText 49 = .ok (.iastore, 1) := by decide +kernel
theorem dX9_readsText_50 : decode cX9_readsText 50 = .ok (.aload_n 0, 1) := by decide +kernel
theorem dX9_readsText_51 : decode cX9_readsText 51 = .ok (.iconst 4, 1) := by decide +kernel
theorem dX9_readsText_52 : decode cX9_readsText 52 = .ok (.invokevirtual 107, 3) := by decide +kernel
theorem dX9_readsText_55 : decode cX9_readsText 55 = .ok (.ifCond .eq 14, 3) := by decide +kernel
theorem dX9_readsText_58 : decode cX9_readsText 58 = .ok (.aload_n 0, 1) := by decide +kernel
theorem dX9_readsText_59 : decode cX9_readsText 59 = .ok (.invokevirtual 124, 3) := by decide +kernel
theorem dX9_readsText_62 : decode cX9_readsText 62 = .ok (.aload_n 0, 1) := by decide +kernel
theorem dX9_readsText_63 : decode cX9_readsText 63 = .ok (.invokevirtual 310, 3) := by decide +kernel
theorem dX9_readsText_66 : decode cX9_readsText 66 = .ok (.goto (-16), 3) := by decide +kernel
theorem dX9_readsText_69 : decode cX9_readsText 69 = .ok (.aload_n 0, 1) := by decide +kernel
theorem dX9_readsText_70 : decode cX9_readsText 70 = .ok (.iconst 1, 1) := by decide +kernel
theorem dX9_readsText_71 : decode cX9_readsText 71 = .ok (.invokevirtual 107, 3) := by decide +kernel
theorem dX9_readsText_74 : decode cX9_readsText 74 = .ok (.ifCond .ne 8, 3) := by decide +kernel
theorem dX9_readsText_77 : decode cX9_readsText 77 = .ok (.aload_n 0, 1) := by decide +kernel
theorem dX9_readsText_78 : decode cX9_readsText 78 = .ok (.iconst 1, 1) := by decide +kernel
theorem dX9_readsText_79 : decode cX9_readsText 79 = .ok (.invokevirtual 104, 3) := by decide +kernel
theorem dX9_readsText_82 : decode cX9_readsText 82 = .ok (.aload_n 0, 1) := by decide +kernel
theorem dX9_readsText_83 : decode cX9_readsText 83 = .ok (.aload_n 0, 1) := by decide +kernel
theorem dX9_readsText_84 : decode cX9_readsText 84 = .ok (.getfield 9, 3) := by decide +kernel
theorem dX9_readsText_87 : decode cX9_readsText 87 = .ok (.iconst 2, 1) := by decide +kernel
theorem dX9_readsText_88 : decode cX9_readsText 88 = .ok (.iaload, 1) := by decide +kernel
theorem dX9_readsText_89 : decode cX9_readsText 89 = .ok (.ifCond .ne 7, 3) := by decide +kernel
theorem dX9_readsText_92 : decode cX9_readsText 92 = .ok (.iconst 1, 1) := by decide +kernel
theorem dX9_readsText_93 : decode cX9_readsText 93 = .ok (.goto 4, 3) := by decide +kernel
theorem dX9_readsText_96 : decode cX9_readsText 96 = .ok (.iconst 0, 1) := by decide +kernel
theorem dX9_readsText_97 : decode cX9_readsText 97 = .ok (.invokevirtual 130, 3) := by decide +kernel
theorem dX9_readsText_100 : decode cX9_readsText 100 = .ok (.return_, 1) := by decide +kernel
theorem dX9_parseSetup_0 : decode cX9_parseSetup 0 = .ok (.aload_n 0, 1) := by decide +kernel
theorem dX9_parseSetup_1 : decode cX9_parseSetup 1 = .ok (.iload_n 1, 1) := by decide +kernel
theorem dX9_parseSetup_2 : decode cX9_parseSetup 2 = .ok (.iconst 0, 1) := by decide +kernel
theorem dX9_parseSetup_3 : decode cX9_parseSetup 3 = .ok (.aload_n 0, 1) := by decide +kernel
theorem dX9_parseSetup_4 : decode cX9_parseSetup 4 = .ok (.getfield 61, 3) := by decide +kernel
theorem dX9_parseSetup_7 : decode cX9_parseSetup 7 = .ok (.invokestatic 78, 3) := by decide +kernel
theorem dX9_parseSetup_10 : decode cX9_parseSetup 10 = .ok (.iconst 1, 1) := by decide +kernel
theorem dX9_parseSetup_11 : decode cX9_parseSetup 11 = .ok (.iconst 1, 1) := by decide +kernel
theorem dX9_parseSetup_12 : decode cX9_parseSetup 12 = .ok (.invokevirtual 49, 3) := by decide +kernel
theorem dX9_parseSetup_15 : decode cX9_parseSetup 15 = .ok (.ifCond .ne 5, 3) := by decide +kernel
theorem dX9_parseSetup_18 : decode cX9_parseSetup 18 = .ok (.iconst 0, 1) := by decide +kernel
theorem dX9_parseSetup_19 : decode cX9_parseSetup 19 = .ok (.ireturn, 1) := by decide +kernel
theorem dX9_parseSetup_20 : decode cX9_parseSetup 20 = .ok (.aload_n 0, 1) := by decide +kernel
theorem dX9_parseSetup_21 : decode cX9_parseSetup 21 = .ok (.iload_n 1, 1) := by decide +kernel
theorem dX9_parseSetup_22 : decode cX9_parseSetup 22 = .ok (.putfield 75, 3) := by decide +kernel
theorem dX9_parseSetup_25 : decode cX9_parseSetup 25 = .ok (.aload_n 0, 1) := by decide +kernel
theorem dX9_parseSetup_26 : decode cX9_parseSetup 26 = .ok (.iconst 0, 1) := by decide +kernel
theorem dX9_parseSetup_27 : decode cX9_parseSetup 27 = .ok (.putfield 82, 3) := by decide +kernel
theorem dX9_parseSetup_30 : decode cX9_parseSetup 30 = .ok (.aload_n 0, 1) := by decide +kernel
theorem dX9_parseSetup_31 : decode cX9_parseSetup 31 = .ok (.iconst 0, 1) := by decide +kernel
theorem dX9_parseSetup_32 : decode cX9_parseSetup 32 = .ok (.putfield 61, 3) := by decide +kernel
theorem dX9_parseSetup_35 : decode cX9_parseSetup 35 = .ok (.aload_n 0, 1) := by decide +kernel
theorem dX9_parseSetup_36 : decode cX9_parseSetup 36 = .ok (.iconst 0, 1) := by decide +kernel
theorem dX9_parseSetup_37 : decode cX9_parseSetup 37 = .ok (.putfield 68, 3) := by decide +kernel
theorem dX9_parseSetup_40 : decode cX9_parseSetup 40 = .ok (.aload_n 0, 1) := by decide +kernel
theorem dX9_parseSetup_41 : decode cX9_parseSetup 41 = .ok (.iconst (-1), 1) := by decide +kernel
theorem dX9_parseSetup_42 : decode cX9_parseSetup 42 = .ok (.putfield 30, 3) := by decide +kernel
theorem dX9_parseSetup_45 : decode cX9_parseSetup 45 = .ok (.aload_n 0, 1) := by decide +kernel
theorem dX9_parseSetup_46 : decode cX9_parseSetup 46 = .ok (.invokevirtual 313, 3) := by decide +kernel
theorem dX9_parseSetup_49 : decode cX9_parseSetup 49 = .ok (.iconst 0, 1) := by decide +kernel
theorem dX9_parseSetup_50 : decode cX9_parseSetup 50 = .ok (.istore_n 2, 1) := by decide +kernel
theorem dX9_parseSetup_51 : decode cX9_parseSetup 51 = .ok (.iload_n 2, 1) := by decide +kernel
theorem dX9_parseSetup_52 : decode cX9_parseSetup 52 = .ok (.sipush 2030, 3) := by decide +kernel
theorem dX9_parseSetup_55 : decode cX9_parseSetup 55 = .ok (.if_icmp .ge 16, 3) := by decide +kernel
theorem dX9_parseSetup_58 : decode cX9_parseSetup 58 = .ok (.aload_n 0, 1) := by decide +kernel
theorem dX9_parseSetup_59 : decode cX9_parseSetup 59 = .ok (.getfield 9, 3) := by decide +kernel
theorem dX9_parseSetup_62 : decode cX9_parseSetup 62 = .ok (.iload_n 2, 1) := by decide +kernel
theorem dX9_parseSetup_63 : decode cX9_parseSetup 63 = .ok (.iconst 0, 1) := by decide +kernel
theorem dX9_parseSetup_64 : decode cX9_parseSetup 64 = .ok (.iastore, 1) := by decide +kernel
theorem dX9_parseSetup_65 : decode cX9_parseSetup 65 = .ok (.iinc 2 1, 3) := by decide +kernel
theorem dX9_parseSetup_68 : decode cX9_parseSetup 68 = .ok (.goto (-17), 3) := by decide +kernel
theorem dX9_parseSetup_71 : decode cX9_parseSetup 71 = .ok (.aload_n 0, 1) := by decide +kernel
theorem dX9_parseSetup_72 : decode cX9_parseSetup 72 = .ok (.getfield 9, 3) := by decide +kernel
theorem dX9_parseSetup_75 : decode cX9_parseSetup 75 = .ok (.bipush 12, 2) := by decide +kernel
theorem dX9_parseSetup_77 : decode cX9_parseSetup 77 = .ok (.bipush 24, 2) := by decide +kernel
theorem dX9_parseSetup_79 : decode cX9_parseSetup 79 = .ok (.iastore, 1) := by decide +kernel
theorem dX9_parseSetup_80 : decode cX9_parseSetup 80 = .ok (.aload_n 0, 1) := by decide +kernel
theorem dX9_parseSetup_81 : decode cX9_parseSetup 81 = .ok (.invokevirtual 316, 3) := by decide +kernel
theorem dX9_parseSetup_84 : decode cX9_parseSetup 84 = .ok (.aload_n 0, 1) := by decide +kernel
theorem dX9_parseSetup_85 : decode cX9_parseSetup 85 = .ok (.getfield 68, 3) := by decide +kernel
theorem dX9_parseSetup_88 : decode cX9_parseSetup 88 = .ok (.ifCond .le 14, 3) := by decide +kernel
theorem dX9_parseSetup_91 : decode cX9_parseSetup 91 = .ok (.aload_n 0, 1) := by decide +kernel
theorem dX9_parseSetup_92 : decode cX9_parseSetup 92 = .ok (.iconst 2, 1) := by decide +kernel
theorem dX9_parseSetup_93 : decode cX9_parseSetup 93 = .ok (.putfield 46, 3) := by decide +kernel
theorem dX9_parseSetup_96 : decode cX9_parseSetup 96 = .ok (.aload_n 0, 1) := by decide +kernel
theorem dX9_parseSetup_97 : decode cX9_parseSetup 97 = .ok (.iconst 0, 1) := by decide +kernel
theorem dX9_parseSetup_98 : decode cX9_parseSetup 98 = .ok (.invokevirtual 319, 3) := by decide +kernel
theorem dX9_parseSetup_101 : decode cX9_parseSetup 101 = .ok (.ireturn, 1) := by decide +kernel
theorem dX9_parseSetup_102 : decode cX9_parseSetup 102 = .ok (.aload_n 0, 1) := by decide +kernel
theorem dX9_parseSetup_103 : decode cX9_parseSetup 103 = .ok (.iconst 1, 1) := by decide +kernel
theorem dX9_parseSetup_104 : decode cX9_parseSetup 104 = .ok (.putfield 53, 3) := by decide +kernel
theorem dX9_parseSetup_107 : decode cX9_parseSetup 107 = .ok (.aload_n 0, 1) := by decide +kernel
theorem dX9_parseSetup_108 : decode cX9_parseSetup 108 = .ok (.iconst 0, 1) := by decide +kernel
theorem dX9_parseSetup_109 : decode cX9_parseSetup 109 = .ok (.putfield 321, 3) := by decide +kernel
theorem dX9_parseSetup_112 : decode cX9_parseSetup 112 = .ok (.aload_n 0, 1) := by decide +kernel
theorem dX9_parseSetup_113 : decode cX9_parseSetup 113 = .ok (.getfield 22, 3) := by decide +kernel
theorem dX9_parseSetup_116 : decode cX9_parseSetup 116 = .ok (.iconst 0, 1) := by decide +kernel
theorem dX9_parseSetup_117 : decode cX9_parseSetup 117 = .ok (.iconst 0, 1) := by decide +kernel
theorem dX9_parseSetup_118 : decode cX9_parseSetup 118 = .ok (.bastore, 1) := by decide +kernel
theorem dX9_parseSetup_119 : decode cX9_parseSetup 119 = .ok (.aload_n 0, 1) := by decide +kernel
theorem dX9_parseSetup_120 : decode cX9_parseSetup 120 = .ok (.getfield 22, 3) := by decide +kernel
theorem dX9_parseSetup_123 : decode cX9_parseSetup 123 = .ok (.iconst 1, 1) := by decide +kernel
theorem dX9_parseSetup_124 : decode cX9_parseSetup 124 = .ok (.iconst 0, 1) := by decide +kernel
theorem dX9_parseSetup_125 : decode cX9_parseSetup 125 = .ok (.bastore, 1) := by decide +kernel
theorem dX9_parseSetup_126 : decode cX9_parseSetup 126 = .ok (.aload_n 0, 1) := by decide +kernel
theorem dX9_parseSetup_127 : decode cX9_parseSetup 127 = .ok (.getfield 9, 3) := by decide +kernel
theorem dX9_parseSetup_130 : decode cX9_parseSetup 130 = .ok (.iconst 4, 1) := by decide +kernel
theorem dX9_parseSetup_131 : decode cX9_parseSetup 131 = .ok (.iaload, 1) := by decide +kernel
theorem dX9_parseSetup_132 : decode cX9_parseSetup 132 = .ok (.ireturn, 1) := by decide +kernel
theorem dX9_ofHarness_0 : decode cX9_ofHarness 0 = .ok (.aload_n 0, 1) := by decide +kernel
theorem dX9_ofHarness_1 : decode cX9_ofHarness 1 = .ok (.getfield 9, 3) := by decide +kernel
theorem dX9_ofHarness_4 : decode cX9_ofHarness 4 = .ok (.bipush 14, 2) := by decide +kernel
theorem dX9_ofHarness_6 : decode cX9_ofHarness 6 = .ok (.iconst 3, 1) := by decide +kernel
theorem dX9_ofHarness_7 : decode cX9_ofHarness 7 = .ok (.iload_n 1, 1) := by decide +kernel
theorem dX9_ofHarness_8 : decode cX9_ofHarness 8 = .ok (.imul, 1) := by decide +kernel
theorem dX9_ofHarness_9 : decode cX9_ofHarness 9 = .ok (.iadd, 1) := by decide +kernel
theorem dX9_ofHarness_10 : decode cX9_ofHarness 10 = .ok (.iload_n 2, 1) := by decide +kernel
theorem dX9_ofHarness_11 : decode cX9_ofHarness 11 = .ok (.iadd, 1) := by decide +kernel
theorem dX9_ofHarness_12 : decode cX9_ofHarness 12 = .ok (.iaload, 1) := by decide +kernel
theorem dX9_ofHarness_13 : decode cX9_ofHarness 13 = .ok (.ireturn, 1) := by decide +kernel
theorem dX9_putsHarness_0 : decode cX9_putsHarness 0 = .ok (.aload_n 0, 1) := by decide +kernel
theorem dX9_putsHarness_1 : decode cX9_putsHarness 1 = .ok (.getfield 9, 3) := by decide +kernel
theorem dX9_putsHarness_4 : decode cX9_putsHarness 4 = .ok (.bipush 14, 2) := by decide +kernel
theorem dX9_putsHarness_6 : decode cX9_putsHarness 6 = .ok (.iconst 3, 1) := by decide +kernel
theorem dX9_putsHarness_7 : decode cX9_putsHarness 7 = .ok (.iload_n 1, 1) := by decide +kernel
theorem dX9_putsHarness_8 : decode cX9_putsHarness 8 = .ok (.imul, 1) := by decide +kernel
theorem dX9_putsHarness_9 : decode cX9_putsHarness 9 = .ok (.iadd, 1) := by decide +kernel
theorem dX9_putsHarness_10 : decode cX9_putsHarness 10 = .ok (.iload_n 2, 1) := by decide +kernel
theorem dX9_putsHarness_11 : decode cX9_putsHarness 11 = .ok (.iadd, 1) := by decide +kernel
theorem dX9_putsHarness_12 : decode cX9_putsHarness 12 = .ok (.iload_n 3, 1) := by decide +kernel
theorem dX9_putsHarness_13 : decode cX9_putsHarness 13 = .ok (.iastore, 1) := by decide +kernel
theorem dX9_putsHarness_14 : decode cX9_putsHarness 14 = .ok (.return_, 1) := by decide +kernel
theorem dX9_putsWarp_0 : decode cX9_putsWarp 0 = .ok (.aload_n 0, 1) := by decide +kernel
theorem dX9_putsWarp_1 : decode cX9_putsWarp 1 = .ok (.getfield 9, 3) := by decide +kernel
theorem dX9_putsWarp_4 : decode cX9_putsWarp 4 = .ok (.bipush 38, 2) := by decide +kernel
theorem dX9_putsWarp_6 : decode cX9_putsWarp 6 = .ok (.iconst 3, 1) := by decide +kernel
theorem dX9_putsWarp_7 : decode cX9_putsWarp 7 = .ok (.iload_n 1, 1) := by decide +kernel
theorem dX9_putsWarp_8 : decode cX9_putsWarp 8 = .ok (.imul, 1) := by decide +kernel
theorem dX9_putsWarp_9 : decode cX9_putsWarp 9 = .ok (.iadd, 1) := by decide +kernel
theorem dX9_putsWarp_10 : decode cX9_putsWarp 10 = .ok (.iload_n 2, 1) := by decide +kernel
theorem dX9_putsWarp_11 : decode cX9_putsWarp 11 = .ok (.iadd, 1) := by decide +kernel
theorem dX9_putsWarp_12 : decode cX9_putsWarp 12 = .ok (.iload_n 3, 1) := by decide +kernel
theorem dX9_putsWarp_13 : decode cX9_putsWarp 13 = .ok (.iastore, 1) := by decide +kernel
theorem dX9_putsWarp_14 : decode cX9_putsWarp 14 = .ok (.return_, 1) := by decide +kernel
theorem dX9_harnessOf_0 : decode cX9_harnessOf 0 = .ok (.aload_n 0, 1) := by decide +kernel
theorem dX9_harnessOf_1 : decode cX9_harnessOf 1 = .ok (.getfield 9, 3) := by decide +kernel
theorem dX9_harnessOf_4 : decode cX9_harnessOf 4 = .ok (.bipush 38, 2) := by decide +kernel
theorem dX9_harnessOf_6 : decode cX9_harnessOf 6 = .ok (.iconst 3, 1) := by decide +kernel
theorem dX9_harnessOf_7 : decode cX9_harnessOf 7 = .ok (.iload_n 1, 1) := by decide +kernel
theorem dX9_harnessOf_8 : decode cX9_harnessOf 8 = .ok (.imul, 1) := by decide +kernel
theorem dX9_harnessOf_9 : decode cX9_harnessOf 9 = .ok (.iadd, 1) := by decide +kernel
theorem dX9_harnessOf_10 : decode cX9_harnessOf 10 = .ok (.iconst 0, 1) := by decide +kernel
theorem dX9_harnessOf_11 : decode cX9_harnessOf 11 = .ok (.iadd, 1) := by decide +kernel
theorem dX9_harnessOf_12 : decode cX9_harnessOf 12 = .ok (.iaload, 1) := by decide +kernel
theorem dX9_harnessOf_13 : decode cX9_harnessOf 13 = .ok (.ireturn, 1) := by decide +kernel
theorem dX9_colourOf_0 : decode cX9_colourOf 0 = .ok (.aload_n 0, 1) := by decide +kernel
theorem dX9_colourOf_1 : decode cX9_colourOf 1 = .ok (.getfield 9, 3) := by decide +kernel
theorem dX9_colourOf_4 : decode cX9_colourOf 4 = .ok (.bipush 38, 2) := by decide +kernel
theorem dX9_colourOf_6 : decode cX9_colourOf 6 = .ok (.iconst 3, 1) := by decide +kernel
theorem dX9_colourOf_7 : decode cX9_colourOf 7 = .ok (.iload_n 1, 1) := by decide +kernel
theorem dX9_colourOf_8 : decode cX9_colourOf 8 = .ok (.imul, 1) := by decide +kernel
theorem dX9_colourOf_9 : decode cX9_colourOf 9 = .ok (.iadd, 1) := by decide +kernel
theorem dX9_colourOf_10 : decode cX9_colourOf 10 = .ok (.iconst 1, 1) := by decide +kernel
theorem dX9_colourOf_11 : decode cX9_colourOf 11 = .ok (.iadd, 1) := by decide +kernel
theorem dX9_colourOf_12 : decode cX9_colourOf 12 = .ok (.iaload, 1) := by decide +kernel
theorem dX9_colourOf_13 : decode cX9_colourOf 13 = .ok (.ireturn, 1) := by decide +kernel
theorem dX9_breaks_0 : decode cX9_breaks 0 = .ok (.aload_n 0, 1) := by decide +kernel
theorem dX9_breaks_1 : decode cX9_breaks 1 = .ok (.getfield 9, 3) := by decide +kernel
theorem dX9_breaks_4 : decode cX9_breaks 4 = .ok (.bipush 38, 2) := by decide +kernel
theorem dX9_breaks_6 : decode cX9_breaks 6 = .ok (.iconst 3, 1) := by decide +kernel
theorem dX9_breaks_7 : decode cX9_breaks 7 = .ok (.iload_n 1, 1) := by decide +kernel
theorem dX9_breaks_8 : decode cX9_breaks 8 = .ok (.imul, 1) := by decide +kernel
theorem dX9_breaks_9 : decode cX9_breaks 9 = .ok (.iadd, 1) := by decide +kernel
theorem dX9_breaks_10 : decode cX9_breaks 10 = .ok (.iconst 2, 1) := by decide +kernel
theorem dX9_breaks_11 : decode cX9_breaks 11 = .ok (.iadd, 1) := by decide +kernel
theorem dX9_breaks_12 : decode cX9_breaks 12 = .ok (.iaload, 1) := by decide +kernel
theorem dX9_breaks_13 : decode cX9_breaks 13 = .ok (.iconst 1, 1) := by decide +kernel
theorem dX9_breaks_14 : decode cX9_breaks 14 = .ok (.if_icmp .ne 7, 3) := by decide +kernel
theorem dX9_breaks_17 : decode cX9_breaks 17 = .ok (.iconst 1, 1) := by decide +kernel
theorem dX9_breaks_18 : decode cX9_breaks 18 = .ok (.goto 4, 3) := by decide +kernel
theorem dX9_breaks_21 : decode cX9_breaks 21 = .ok (.iconst 0, 1) := by decide +kernel
theorem dX9_breaks_22 : decode cX9_breaks 22 = .ok (.ireturn, 1) := by decide +kernel
theorem dX9_brokenOnes_0 : decode cX9_brokenOnes 0 = .ok (.iconst 0, 1) := by decide +kernel
theorem dX9_brokenOnes_1 : decode cX9_brokenOnes 1 = .ok (.istore_n 1, 1) := by decide +kernel
theorem dX9_brokenOnes_2 : decode cX9_brokenOnes 2 = .ok (.iconst 0, 1) := by decide +kernel
theorem dX9_brokenOnes_3 : decode cX9_brokenOnes 3 = .ok (.istore_n 2, 1) := by decide +kernel
theorem dX9_brokenOnes_4 : decode cX9_brokenOnes 4 = .ok (.iload_n 2, 1) := by decide +kernel
theorem dX9_brokenOnes_5 : decode cX9_brokenOnes 5 = .ok (.aload_n 0, 1) := by decide +kernel
theorem dX9_brokenOnes_6 : decode cX9_brokenOnes 6 = .ok (.getfield 9, 3) := by decide +kernel
theorem dX9_brokenOnes_9 : decode cX9_brokenOnes 9 = .ok (.iconst 2, 1) := by decide +kernel
theorem dX9_brokenOnes_10 : decode cX9_brokenOnes 10 = .ok (.iaload, 1) := by decide +kernel
theorem dX9_brokenOnes_11 : decode cX9_brokenOnes 11 = .ok (.if_icmp .ge 20, 3) := by decide +kernel
theorem dX9_brokenOnes_14 : decode cX9_brokenOnes 14 = .ok (.iload_n 1, 1) := by decide +kernel
theorem dX9_brokenOnes_15 : decode cX9_brokenOnes 15 = .ok (.aload_n 0, 1) := by decide +kernel
theorem dX9_brokenOnes_16 : decode cX9_brokenOnes 16 = .ok (.iload_n 2, 1) := by decide +kernel
theorem dX9_brokenOnes_17 : decode cX9_brokenOnes 17 = .ok (.invokevirtual 235, 3) := by decide +kernel
theorem dX9_brokenOnes_20 : decode cX9_brokenOnes 20 = .ok (.invokestatic 324, 3) := by decide +kernel
theorem dX9_brokenOnes_23 : decode cX9_brokenOnes 23 = .ok (.iadd, 1) := by decide +kernel
theorem dX9_brokenOnes_24 : decode cX9_brokenOnes 24 = .ok (.istore_n 1, 1) := by decide +kernel
theorem dX9_brokenOnes_25 : decode cX9_brokenOnes 25 = .ok (.iinc 2 1, 3) := by decide +kernel
theorem dX9_brokenOnes_28 : decode cX9_brokenOnes 28 = .ok (.goto (-24), 3) := by decide +kernel
theorem dX9_brokenOnes_31 : decode cX9_brokenOnes 31 = .ok (.iload_n 1, 1) := by decide +kernel
theorem dX9_brokenOnes_32 : decode cX9_brokenOnes 32 = .ok (.ireturn, 1) := by decide +kernel
theorem dX9_warpsOf_0 : decode cX9_warpsOf 0 = .ok (.iconst 0, 1) := by decide +kernel
theorem dX9_warpsOf_1 : decode cX9_warpsOf 1 = .ok (.istore_n 2, 1) := by decide +kernel
theorem dX9_warpsOf_2 : decode cX9_warpsOf 2 = .ok (.iconst 0, 1) := by decide +kernel
theorem dX9_warpsOf_3 : decode cX9_warpsOf 3 = .ok (.istore_n 3, 1) := by decide +kernel
theorem dX9_warpsOf_4 : decode cX9_warpsOf 4 = .ok (.iload_n 3, 1) := by decide +kernel
theorem dX9_warpsOf_5 : decode cX9_warpsOf 5 = .ok (.aload_n 0, 1) := by decide +kernel
theorem dX9_warpsOf_6 : decode cX9_warpsOf 6 = .ok (.getfield 9, 3) := by decide +kernel
theorem dX9_warpsOf_9 : decode cX9_warpsOf 9 = .ok (.iconst 2, 1) := by decide +kernel
theorem dX9_warpsOf_10 : decode cX9_warpsOf 10 = .ok (.iaload, 1) := by decide +kernel
theorem dX9_warpsOf_11 : decode cX9_warpsOf 11 = .ok (.if_icmp .ge 29, 3) := by decide +kernel
theorem dX9_warpsOf_14 : decode cX9_warpsOf 14 = .ok (.iload_n 2, 1) := by decide +kernel
theorem dX9_warpsOf_15 : decode cX9_warpsOf 15 = .ok (.aload_n 0, 1) := by decide +kernel
theorem dX9_warpsOf_16 : decode cX9_warpsOf 16 = .ok (.iload_n 1, 1) := by decide +kernel
theorem dX9_warpsOf_17 : decode cX9_warpsOf 17 = .ok (.iconst 0, 1) := by decide +kernel
theorem dX9_warpsOf_18 : decode cX9_warpsOf 18 = .ok (.invokevirtual 232, 3) := by decide +kernel
theorem dX9_warpsOf_21 : decode cX9_warpsOf 21 = .ok (.aload_n 0, 1) := by decide +kernel
theorem dX9_warpsOf_22 : decode cX9_warpsOf 22 = .ok (.iload_n 3, 1) := by decide +kernel
theorem dX9_warpsOf_23 : decode cX9_warpsOf 23 = .ok (.invokevirtual 328, 3) := by decide +kernel
theorem dX9_warpsOf_26 : decode cX9_warpsOf 26 = .ok (.invokestatic 147, 3) := by decide +kernel
theorem dX9_warpsOf_29 : decode cX9_warpsOf 29 = .ok (.invokestatic 324, 3) := by decide +kernel
theorem dX9_warpsOf_32 : decode cX9_warpsOf 32 = .ok (.iadd, 1) := by decide +kernel
theorem dX9_warpsOf_33 : decode cX9_warpsOf 33 = .ok (.istore_n 2, 1) := by decide +kernel
theorem dX9_warpsOf_34 : decode cX9_warpsOf 34 = .ok (.iinc 3 1, 3) := by decide +kernel
theorem dX9_warpsOf_37 : decode cX9_warpsOf 37 = .ok (.goto (-33), 3) := by decide +kernel
theorem dX9_warpsOf_40 : decode cX9_warpsOf 40 = .ok (.iload_n 2, 1) := by decide +kernel
theorem dX9_warpsOf_41 : decode cX9_warpsOf 41 = .ok (.ireturn, 1) := by decide +kernel
theorem dX9_ofCard_0 : decode cX9_ofCard 0 = .ok (.aload_n 0, 1) := by decide +kernel
theorem dX9_ofCard_1 : decode cX9_ofCard 1 = .ok (.getfield 9, 3) := by decide +kernel
theorem dX9_ofCard_4 : decode cX9_ofCard 4 = .ok (.bipush 116, 2) := by decide +kernel
theorem dX9_ofCard_6 : decode cX9_ofCard 6 = .ok (.iconst 4, 1) := by decide +kernel
theorem dX9_ofCard_7 : decode cX9_ofCard 7 = .ok (.iload_n 1, 1) := by decide +kernel
theorem dX9_ofCard_8 : decode cX9_ofCard 8 = .ok (.imul, 1) := by decide +kernel
theorem dX9_ofCard_9 : decode cX9_ofCard 9 = .ok (.iadd, 1) := by decide +kernel
theorem dX9_ofCard_10 : decode cX9_ofCard 10 = .ok (.iload_n 2, 1) := by decide +kernel
theorem dX9_ofCard_11 : decode cX9_ofCard 11 = .ok (.iadd, 1) := by decide +kernel
theorem dX9_ofCard_12 : decode cX9_ofCard 12 = .ok (.iaload, 1) := by decide +kernel
theorem dX9_ofCard_13 : decode cX9_ofCard 13 = .ok (.ireturn, 1) := by decide +kernel
theorem dX9_putsCard_0 : decode cX9_putsCard 0 = .ok (.aload_n 0, 1) := by decide +kernel
theorem dX9_putsCard_1 : decode cX9_putsCard 1 = .ok (.getfield 9, 3) := by decide +kernel
theorem dX9_putsCard_4 : decode cX9_putsCard 4 = .ok (.bipush 116, 2) := by decide +kernel
theorem dX9_putsCard_6 : decode cX9_putsCard 6 = .ok (.iconst 4, 1) := by decide +kernel
theorem dX9_putsCard_7 : decode cX9_putsCard 7 = .ok (.iload_n 1, 1) := by decide +kernel
theorem dX9_putsCard_8 : decode cX9_putsCard 8 = .ok (.imul, 1) := by decide +kernel
theorem dX9_putsCard_9 : decode cX9_putsCard 9 = .ok (.iadd, 1) := by decide +kernel
theorem dX9_putsCard_10 : decode cX9_putsCard 10 = .ok (.iload_n 2, 1) := by decide +kernel
theorem dX9_putsCard_11 : decode cX9_putsCard 11 = .ok (.iadd, 1) := by decide +kernel
theorem dX9_putsCard_12 : decode cX9_putsCard 12 = .ok (.iload_n 3, 1) := by decide +kernel
theorem dX9_putsCard_13 : decode cX9_putsCard 13 = .ok (.iastore, 1) := by decide +kernel
theorem dX9_putsCard_14 : decode cX9_putsCard 14 = .ok (.return_, 1) := by decide +kernel
theorem dX9_weftOf_0 : decode cX9_weftOf 0 = .ok (.aload_n 0, 1) := by decide +kernel
theorem dX9_weftOf_1 : decode cX9_weftOf 1 = .ok (.getfield 9, 3) := by decide +kernel
theorem dX9_weftOf_4 : decode cX9_weftOf 4 = .ok (.sipush 264, 3) := by decide +kernel
theorem dX9_weftOf_7 : decode cX9_weftOf 7 = .ok (.bipush 25, 2) := by decide +kernel
theorem dX9_weftOf_9 : decode cX9_weftOf 9 = .ok (.iload_n 1, 1) := by decide +kernel
theorem dX9_weftOf_10 : decode cX9_weftOf 10 = .ok (.imul, 1) := by decide +kernel
theorem dX9_weftOf_11 : decode cX9_weftOf 11 = .ok (.iadd, 1) := by decide +kernel
theorem dX9_weftOf_12 : decode cX9_weftOf 12 = .ok (.iaload, 1) := by decide +kernel
theorem dX9_weftOf_13 : decode cX9_weftOf 13 = .ok (.ireturn, 1) := by decide +kernel
theorem dX9_cellOf_0 : decode cX9_cellOf 0 = .ok (.aload_n 0, 1) := by decide +kernel
theorem dX9_cellOf_1 : decode cX9_cellOf 1 = .ok (.getfield 9, 3) := by decide +kernel
theorem dX9_cellOf_4 : decode cX9_cellOf 4 = .ok (.sipush 264, 3) := by decide +kernel
theorem dX9_cellOf_7 : decode cX9_cellOf 7 = .ok (.bipush 25, 2) := by decide +kernel
theorem dX9_cellOf_9 : decode cX9_cellOf 9 = .ok (.iload_n 1, 1) := by decide +kernel
theorem dX9_cellOf_10 : decode cX9_cellOf 10 = .ok (.imul, 1) := by decide +kernel
theorem dX9_cellOf_11 : decode cX9_cellOf 11 = .ok (.iadd, 1) := by decide +kernel
theorem dX9_cellOf_12 : decode cX9_cellOf 12 = .ok (.iconst 1, 1) := by decide +kernel
theorem dX9_cellOf_13 : decode cX9_cellOf 13 = .ok (.iadd, 1) := by decide +kernel
theorem dX9_cellOf_14 : decode cX9_cellOf 14 = .ok (.iload_n 2, 1) := by decide +kernel
theorem dX9_cellOf_15 : decode cX9_cellOf 15 = .ok (.iadd, 1) := by decide +kernel
theorem dX9_cellOf_16 : decode cX9_cellOf 16 = .ok (.iaload, 1) := by decide +kernel
theorem dX9_cellOf_17 : decode cX9_cellOf 17 = .ok (.ireturn, 1) := by decide +kernel
theorem dX9_brings_0 : decode cX9_brings 0 = .ok (.aload_n 0, 1) := by decide +kernel
theorem dX9_brings_1 : decode cX9_brings 1 = .ok (.getfield 9, 3) := by decide +kernel
theorem dX9_brings_4 : decode cX9_brings 4 = .ok (.bipush 110, 2) := by decide +kernel
theorem dX9_brings_6 : decode cX9_brings 6 = .ok (.iload_n 1, 1) := by decide +kernel
theorem dX9_brings_7 : decode cX9_brings 7 = .ok (.iadd, 1) := by decide +kernel
theorem dX9_brings_8 : decode cX9_brings 8 = .ok (.dup2, 1) := by decide +kernel
theorem dX9_brings_9 : decode cX9_brings 9 = .ok (.iaload, 1) := by decide +kernel
theorem dX9_brings_10 : decode cX9_brings 10 = .ok (.iload_n 2, 1) := by decide +kernel
theorem dX9_brings_11 : decode cX9_brings 11 = .ok (.iadd, 1) := by decide +kernel
theorem dX9_brings_12 : decode cX9_brings 12 = .ok (.iastore, 1) := by decide +kernel
theorem dX9_brings_13 : decode cX9_brings 13 = .ok (.aload_n 0, 1) := by decide +kernel
theorem dX9_brings_14 : decode cX9_brings 14 = .ok (.getfield 9, 3) := by decide +kernel
theorem dX9_brings_17 : decode cX9_brings 17 = .ok (.bipush 10, 2) := by decide +kernel
theorem dX9_brings_19 : decode cX9_brings 19 = .ok (.dup2, 1) := by decide +kernel
theorem dX9_brings_20 : decode cX9_brings 20 = .ok (.iaload, 1) := by decide +kernel
theorem dX9_brings_21 : decode cX9_brings 21 = .ok (.iload_n 2, 1) := by decide +kernel
theorem dX9_brings_22 : decode cX9_brings 22 = .ok (.iadd, 1) := by decide +kernel
theorem dX9_brings_23 : decode cX9_brings 23 = .ok (.iastore, 1) := by decide +kernel
theorem dX9_brings_24 : decode cX9_brings 24 = .ok (.return_, 1) := by decide +kernel
theorem dX9_swaps_0 : decode cX9_swaps 0 = .ok (.iconst 0, 1) := by decide +kernel
theorem dX9_swaps_1 : decode cX9_swaps 1 = .ok (.istore_n 3, 1) := by decide +kernel
theorem dX9_swaps_2 : decode cX9_swaps 2 = .ok (.iload_n 3, 1) := by decide +kernel
theorem dX9_swaps_3 : decode cX9_swaps 3 = .ok (.iconst 1, 1) := by decide +kernel
theorem dX9_swaps_4 : decode cX9_swaps 4 = .ok (.if_icmp .gt 37, 3) := by decide +kernel
theorem dX9_swaps_7 : decode cX9_swaps 7 = .ok (.aload_n 0, 1) := by decide +kernel
theorem dX9_swaps_8 : decode cX9_swaps 8 = .ok (.iload_n 1, 1) := by decide +kernel
theorem dX9_swaps_9 : decode cX9_swaps 9 = .ok (.iload_n 3, 1) := by decide +kernel
theorem dX9_swaps_10 : decode cX9_swaps 10 = .ok (.invokevirtual 232, 3) := by decide +kernel
theorem dX9_swaps_13 : decode cX9_swaps 13 = .ok (.istore 4, 2) := by decide +kernel
theorem dX9_swaps_15 : decode cX9_swaps 15 = .ok (.aload_n 0, 1) := by decide +kernel
theorem dX9_swaps_16 : decode cX9_swaps 16 = .ok (.iload_n 1, 1) := by decide +kernel
theorem dX9_swaps_17 : decode cX9_swaps 17 = .ok (.iload_n 3, 1) := by decide +kernel
theorem dX9_swaps_18 : decode cX9_swaps 18 = .ok (.aload_n 0, 1) := by decide +kernel
theorem dX9_swaps_19 : decode cX9_swaps 19 = .ok (.iload_n 2, 1) := by decide +kernel
theorem dX9_swaps_20 : decode cX9_swaps 20 = .ok (.iload_n 3, 1) := by decide +kernel
theorem dX9_swaps_21 : decode cX9_swaps 21 = .ok (.invokevirtual 232, 3) := by decide +kernel
theorem dX9_swaps_24 : decode cX9_swaps 24 = .ok (.invokevirtual 151, 3) := by decide +kernel
theorem dX9_swaps_27 : decode cX9_swaps 27 = .ok (.aload_n 0, 1) := by decide +kernel
theorem dX9_swaps_28 : decode cX9_swaps 28 = .ok (.iload_n 2, 1) := by decide +kernel
theorem dX9_swaps_29 : decode cX9_swaps 29 = .ok (.iload_n 3, 1) := by decide +kernel
theorem dX9_swaps_30 : decode cX9_swaps 30 = .ok (.iload 4, 2) := by decide +kernel
theorem dX9_swaps_32 : decode cX9_swaps 32 = .ok (.invokevirtual 151, 3) := by decide +kernel
theorem dX9_swaps_35 : decode cX9_swaps 35 = .ok (.iinc 3 1, 3) := by decide +kernel
theorem dX9_swaps_38 : decode cX9_swaps 38 = .ok (.goto (-36), 3) := by decide +kernel
theorem dX9_swaps_41 : decode cX9_swaps 41 = .ok (.aload_n 0, 1) := by decide +kernel
theorem dX9_swaps_42 : decode cX9_swaps 42 = .ok (.getfield 9, 3) := by decide +kernel
theorem dX9_swaps_45 : decode cX9_swaps 45 = .ok (.bipush 8, 2) := by decide +kernel
theorem dX9_swaps_47 : decode cX9_swaps 47 = .ok (.iconst 1, 1) := by decide +kernel
theorem dX9_swaps_48 : decode cX9_swaps 48 = .ok (.iastore, 1) := by decide +kernel
theorem dX9_swaps_49 : decode cX9_swaps 49 = .ok (.return_, 1) := by decide +kernel
theorem dX9_punches_0 : decode cX9_punches 0 = .ok (.aload_n 0, 1) := by decide +kernel
theorem dX9_punches_1 : decode cX9_punches 1 = .ok (.iload_n 1, 1) := by decide +kernel
theorem dX9_punches_2 : decode cX9_punches 2 = .ok (.iconst 0, 1) := by decide +kernel
theorem dX9_punches_3 : decode cX9_punches 3 = .ok (.aload_n 0, 1) := by decide +kernel
theorem dX9_punches_4 : decode cX9_punches 4 = .ok (.iload_n 1, 1) := by decide +kernel
theorem dX9_punches_5 : decode cX9_punches 5 = .ok (.iconst 0, 1) := by decide +kernel
theorem dX9_punches_6 : decode cX9_punches 6 = .ok (.invokevirtual 232, 3) := by decide +kernel
theorem dX9_punches_9 : decode cX9_punches 9 = .ok (.iconst 1, 1) := by decide +kernel
theorem dX9_punches_10 : decode cX9_punches 10 = .ok (.iload_n 2, 1) := by decide +kernel
theorem dX9_punches_11 : decode cX9_punches 11 = .ok (.ishl, 1) := by decide +kernel
theorem dX9_punches_12 : decode cX9_punches 12 = .ok (.ixor, 1) := by decide +kernel
theorem dX9_punches_13 : decode cX9_punches 13 = .ok (.invokevirtual 151, 3) := by decide +kernel
theorem dX9_punches_16 : decode cX9_punches 16 = .ok (.aload_n 0, 1) := by decide +kernel
theorem dX9_punches_17 : decode cX9_punches 17 = .ok (.getfield 9, 3) := by decide +kernel
theorem dX9_punches_20 : decode cX9_punches 20 = .ok (.bipush 8, 2) := by decide +kernel
theorem dX9_punches_22 : decode cX9_punches 22 = .ok (.iconst 1, 1) := by decide +kernel
theorem dX9_punches_23 : decode cX9_punches 23 = .ok (.iastore, 1) := by decide +kernel
theorem dX9_punches_24 : decode cX9_punches 24 = .ok (.return_, 1) := by decide +kernel
theorem dX9_dyes_0 : decode cX9_dyes 0 = .ok (.aload_n 0, 1) := by decide +kernel
theorem dX9_dyes_1 : decode cX9_dyes 1 = .ok (.iload_n 1, 1) := by decide +kernel
theorem dX9_dyes_2 : decode cX9_dyes 2 = .ok (.iconst 1, 1) := by decide +kernel
theorem dX9_dyes_3 : decode cX9_dyes 3 = .ok (.iload_n 2, 1) := by decide +kernel
theorem dX9_dyes_4 : decode cX9_dyes 4 = .ok (.invokevirtual 151, 3) := by decide +kernel
theorem dX9_dyes_7 : decode cX9_dyes 7 = .ok (.aload_n 0, 1) := by decide +kernel
theorem dX9_dyes_8 : decode cX9_dyes 8 = .ok (.getfield 9, 3) := by decide +kernel
theorem dX9_dyes_11 : decode cX9_dyes 11 = .ok (.bipush 8, 2) := by decide +kernel
theorem dX9_dyes_13 : decode cX9_dyes 13 = .ok (.iconst 1, 1) := by decide +kernel
theorem dX9_dyes_14 : decode cX9_dyes 14 = .ok (.iastore, 1) := by decide +kernel
theorem dX9_dyes_15 : decode cX9_dyes 15 = .ok (.return_, 1) := by decide +kernel
theorem dX9_oils_0 : decode cX9_oils 0 = .ok (.aload_n 0, 1) := by decide +kernel
theorem dX9_oils_1 : decode cX9_oils 1 = .ok (.iload_n 1, 1) := by decide +kernel
theorem dX9_oils_2 : decode cX9_oils 2 = .ok (.iconst 1, 1) := by decide +kernel
theorem dX9_oils_3 : decode cX9_oils 3 = .ok (.iconst 0, 1) := by decide +kernel
theorem dX9_oils_4 : decode cX9_oils 4 = .ok (.invokevirtual 331, 3) := by decide +kernel
theorem dX9_oils_7 : decode cX9_oils 7 = .ok (.aload_n 0, 1) := by decide +kernel
theorem dX9_oils_8 : decode cX9_oils 8 = .ok (.iload_n 1, 1) := by decide +kernel
theorem dX9_oils_9 : decode cX9_oils 9 = .ok (.iconst 2, 1) := by decide +kernel
theorem dX9_oils_10 : decode cX9_oils 10 = .ok (.iconst 0, 1) := by decide +kernel
theorem dX9_oils_11 : decode cX9_oils 11 = .ok (.invokevirtual 331, 3) := by decide +kernel
theorem dX9_oils_14 : decode cX9_oils 14 = .ok (.return_, 1) := by decide +kernel
theorem dX9_next_0 : decode cX9_next 0 = .ok (.aload_n 0, 1) := by decide +kernel
theorem dX9_next_1 : decode cX9_next 1 = .ok (.getfield 9, 3) := by decide +kernel
theorem dX9_next_4 : decode cX9_next 4 = .ok (.iconst 4, 1) := by decide +kernel
theorem dX9_next_5 : decode cX9_next 5 = .ok (.iaload, 1) := by decide +kernel
theorem dX9_next_6 : decode cX9_next 6 = .ok (.ifCond .ne 7, 3) := by decide +kernel
theorem dX9_next_9 : decode cX9_next 9 = .ok (.iconst (-1), 1) := by decide +kernel
theorem dX9_next_10 : decode cX9_next 10 = .ok (.goto 25, 3) := by decide +kernel
theorem dX9_next_13 : decode cX9_next 13 = .ok (.aload_n 0, 1) := by decide +kernel
theorem dX9_next_14 : decode cX9_next 14 = .ok (.getfield 9, 3) := by decide +kernel
theorem dX9_next_17 : decode cX9_next 17 = .ok (.sipush 164, 3) := by decide +kernel
theorem dX9_next_20 : decode cX9_next 20 = .ok (.aload_n 0, 1) := by decide +kernel
theorem dX9_next_21 : decode cX9_next 21 = .ok (.getfield 9, 3) := by decide +kernel
theorem dX9_next_24 : decode cX9_next 24 = .ok (.iconst 5, 1) := by decide +kernel
theorem dX9_next_25 : decode cX9_next 25 = .ok (.iaload, 1) := by decide +kernel
theorem dX9_next_26 : decode cX9_next 26 = .ok (.aload_n 0, 1) := by decide +kernel
theorem dX9_next_27 : decode cX9_next 27 = .ok (.getfield 9, 3) := by decide +kernel
theorem dX9_next_30 : decode cX9_next 30 = .ok (.iconst 4, 1) := by decide +kernel
theorem dX9_next_31 : decode cX9_next 31 = .ok (.iaload, 1) := by decide +kernel
theorem dX9_next_32 : decode cX9_next 32 = .ok (.irem, 1) := by decide +kernel
theorem dX9_next_33 : decode cX9_next 33 = .ok (.iadd, 1) := by decide +kernel
theorem dX9_next_34 : decode cX9_next 34 = .ok (.iaload, 1) := by decide +kernel
theorem dX9_next_35 : decode cX9_next 35 = .ok (.ireturn, 1) := by decide +kernel
theorem dX9_why_0 : decode cX9_why 0 = .ok (.aload_n 0, 1) := by decide +kernel
theorem dX9_why_1 : decode cX9_why 1 = .ok (.getfield 9, 3) := by decide +kernel
theorem dX9_why_4 : decode cX9_why 4 = .ok (.iconst 4, 1) := by decide +kernel
theorem dX9_why_5 : decode cX9_why 5 = .ok (.iaload, 1) := by decide +kernel
theorem dX9_why_6 : decode cX9_why 6 = .ok (.ifCond .ne 5, 3) := by decide +kernel
theorem dX9_why_9 : decode cX9_why 9 = .ok (.iconst 1, 1) := by decide +kernel
theorem dX9_why_10 : decode cX9_why 10 = .ok (.ireturn, 1) := by decide +kernel
theorem dX9_why_11 : decode cX9_why 11 = .ok (.aload_n 0, 1) := by decide +kernel
theorem dX9_why_12 : decode cX9_why 12 = .ok (.getfield 9, 3) := by decide +kernel
theorem dX9_why_15 : decode cX9_why 15 = .ok (.iconst 5, 1) := by decide +kernel
theorem dX9_why_16 : decode cX9_why 16 = .ok (.iaload, 1) := by decide +kernel
theorem dX9_why_17 : decode cX9_why 17 = .ok (.bipush 60, 2) := by decide +kernel
theorem dX9_why_19 : decode cX9_why 19 = .ok (.if_icmp .ne 5, 3) := by decide +kernel
theorem dX9_why_22 : decode cX9_why 22 = .ok (.iconst 2, 1) := by decide +kernel
theorem dX9_why_23 : decode cX9_why 23 = .ok (.ireturn, 1) := by decide +kernel
theorem dX9_why_24 : decode cX9_why 24 = .ok (.aload_n 0, 1) := by decide +kernel
theorem dX9_why_25 : decode cX9_why 25 = .ok (.getfield 9, 3) := by decide +kernel
theorem dX9_why_28 : decode cX9_why 28 = .ok (.bipush 110, 2) := by decide +kernel
theorem dX9_why_30 : decode cX9_why 30 = .ok (.aload_n 0, 1) := by decide +kernel
theorem dX9_why_31 : decode cX9_why 31 = .ok (.aload_n 0, 1) := by decide +kernel
theorem dX9_why_32 : decode cX9_why 32 = .ok (.invokevirtual 334, 3) := by decide +kernel
theorem dX9_why_35 : decode cX9_why 35 = .ok (.iconst 1, 1) := by decide +kernel
theorem dX9_why_36 : decode cX9_why 36 = .ok (.invokevirtual 232, 3) := by decide +kernel
theorem dX9_why_39 : decode cX9_why 39 = .ok (.iadd, 1) := by decide +kernel
theorem dX9_why_40 : decode cX9_why 40 = .ok (.iaload, 1) := by decide +kernel
theorem dX9_why_41 : decode cX9_why 41 = .ok (.aload_n 0, 1) := by decide +kernel
theorem dX9_why_42 : decode cX9_why 42 = .ok (.getfield 9, 3) := by decide +kernel
theorem dX9_why_45 : decode cX9_why 45 = .ok (.iconst 2, 1) := by decide +kernel
theorem dX9_why_46 : decode cX9_why 46 = .ok (.iaload, 1) := by decide +kernel
theorem dX9_why_47 : decode cX9_why 47 = .ok (.if_icmp .ge 5, 3) := by decide +kernel
theorem dX9_why_50 : decode cX9_why 50 = .ok (.iconst 3, 1) := by decide +kernel
theorem dX9_why_51 : decode cX9_why 51 = .ok (.ireturn, 1) := by decide +kernel
theorem dX9_why_52 : decode cX9_why 52 = .ok (.aload_n 0, 1) := by decide +kernel
theorem dX9_why_53 : decode cX9_why 53 = .ok (.aload_n 0, 1) := by decide +kernel
theorem dX9_why_54 : decode cX9_why 54 = .ok (.invokevirtual 334, 3) := by decide +kernel
theorem dX9_why_57 : decode cX9_why 57 = .ok (.invokevirtual 337, 3) := by decide +kernel
theorem dX9_why_60 : decode cX9_why 60 = .ok (.aload_n 0, 1) := by decide +kernel
theorem dX9_why_61 : decode cX9_why 61 = .ok (.getfield 9, 3) := by decide +kernel
theorem dX9_why_64 : decode cX9_why 64 = .ok (.bipush 12, 2) := by decide +kernel
theorem dX9_why_66 : decode cX9_why 66 = .ok (.iaload, 1) := by decide +kernel
theorem dX9_why_67 : decode cX9_why 67 = .ok (.if_icmp .le 7, 3) := by decide +kernel
theorem dX9_why_70 : decode cX9_why 70 = .ok (.iconst 4, 1) := by decide +kernel
theorem dX9_why_71 : decode cX9_why 71 = .ok (.goto 4, 3) := by decide +kernel
theorem dX9_why_74 : decode cX9_why 74 = .ok (.iconst 0, 1) := by decide +kernel
theorem dX9_why_75 : decode cX9_why 75 = .ok (.ireturn, 1) := by decide +kernel
theorem dX9_isStrained_0 : decode cX9_isStrained 0 = .ok (.aload_n 0, 1) := by decide +kernel
theorem dX9_isStrained_1 : decode cX9_isStrained 1 = .ok (.getfield 9, 3) := by decide +kernel
theorem dX9_isStrained_4 : decode cX9_isStrained 4 = .ok (.iconst 5, 1) := by decide +kernel
theorem dX9_isStrained_5 : decode cX9_isStrained 5 = .ok (.iaload, 1) := by decide +kernel
theorem dX9_isStrained_6 : decode cX9_isStrained 6 = .ok (.aload_n 0, 1) := by decide +kernel
theorem dX9_isStrained_7 : decode cX9_isStrained 7 = .ok (.getfield 9, 3) := by decide +kernel
theorem dX9_isStrained_10 : decode cX9_isStrained 10 = .ok (.bipush 11, 2) := by decide +kernel
theorem dX9_isStrained_12 : decode cX9_isStrained 12 = .ok (.iaload, 1) := by decide +kernel
theorem dX9_isStrained_13 : decode cX9_isStrained 13 = .ok (.isub, 1) := by decide +kernel
theorem dX9_isStrained_14 : decode cX9_isStrained 14 = .ok (.istore_n 2, 1) := by decide +kernel
theorem dX9_isStrained_15 : decode cX9_isStrained 15 = .ok (.iload_n 2, 1) := by decide +kernel
theorem dX9_isStrained_16 : decode cX9_isStrained 16 = .ok (.aload_n 0, 1) := by decide +kernel
theorem dX9_isStrained_17 : decode cX9_isStrained 17 = .ok (.getfield 9, 3) := by decide +kernel
theorem dX9_isStrained_20 : decode cX9_isStrained 20 = .ok (.iconst 5, 1) := by decide +kernel
theorem dX9_isStrained_21 : decode cX9_isStrained 21 = .ok (.iaload, 1) := by decide +kernel
theorem dX9_isStrained_22 : decode cX9_isStrained 22 = .ok (.if_icmp .ge 20, 3) := by decide +kernel
theorem dX9_isStrained_25 : decode cX9_isStrained 25 = .ok (.aload_n 0, 1) := by decide +kernel
theorem dX9_isStrained_26 : decode cX9_isStrained 26 = .ok (.iload_n 2, 1) := by decide +kernel
theorem dX9_isStrained_27 : decode cX9_isStrained 27 = .ok (.iload_n 1, 1) := by decide +kernel
theorem dX9_isStrained_28 : decode cX9_isStrained 28 = .ok (.invokevirtual 340, 3) := by decide +kernel
theorem dX9_isStrained_31 : decode cX9_isStrained 31 = .ok (.ifCond .ne 5, 3) := by decide +kernel
theorem dX9_isStrained_34 : decode cX9_isStrained 34 = .ok (.iconst 0, 1) := by decide +kernel
theorem dX9_isStrained_35 : decode cX9_isStrained 35 = .ok (.ireturn, 1) := by decide +kernel
theorem dX9_isStrained_36 : decode cX9_isStrained 36 = .ok (.iinc 2 1, 3) := by decide +kernel
theorem dX9_isStrained_39 : decode cX9_isStrained 39 = .ok (.goto (-24), 3) := by decide +kernel
theorem dX9_isStrained_42 : decode cX9_isStrained 42 = .ok (.iconst 1, 1) := by decide +kernel
theorem dX9_isStrained_43 : decode cX9_isStrained 43 = .ok (.ireturn, 1) := by decide +kernel
theorem dX9_strains_0 : decode cX9_strains 0 = .ok (.aload_n 0, 1) := by decide +kernel
theorem dX9_strains_1 : decode cX9_strains 1 = .ok (.getfield 9, 3) := by decide +kernel
theorem dX9_strains_4 : decode cX9_strains 4 = .ok (.bipush 11, 2) := by decide +kernel
theorem dX9_strains_6 : decode cX9_strains 6 = .ok (.iaload, 1) := by decide +kernel
theorem dX9_strains_7 : decode cX9_strains 7 = .ok (.ifCond .eq 19, 3) := by decide +kernel
theorem dX9_strains_10 : decode cX9_strains 10 = .ok (.aload_n 0, 1) := by decide +kernel
theorem dX9_strains_11 : decode cX9_strains 11 = .ok (.getfield 9, 3) := by decide +kernel
theorem dX9_strains_14 : decode cX9_strains 14 = .ok (.iconst 5, 1) := by decide +kernel
theorem dX9_strains_15 : decode cX9_strains 15 = .ok (.iaload, 1) := by decide +kernel
theorem dX9_strains_16 : decode cX9_strains 16 = .ok (.aload_n 0, 1) := by decide +kernel
theorem dX9_strains_17 : decode cX9_strains 17 = .ok (.getfield 9, 3) := by decide +kernel
theorem dX9_strains_20 : decode cX9_strains 20 = .ok (.bipush 11, 2) := by decide +kernel
theorem dX9_strains_22 : decode cX9_strains 22 = .ok (.iaload, 1) := by decide +kernel
theorem dX9_strains_23 : decode cX9_strains 23 = .ok (.if_icmp .ge 4, 3) := by decide +kernel
theorem dX9_strains_26 : decode cX9_strains 26 = .ok (.return_, 1) := by decide +kernel
theorem dX9_strains_27 : decode cX9_strains 27 = .ok (.iconst 0, 1) := by decide +kernel
theorem dX9_strains_28 : decode cX9_strains 28 = .ok (.istore_n 1, 1) := by decide +kernel
theorem dX9_strains_29 : decode cX9_strains 29 = .ok (.iload_n 1, 1) := by decide +kernel
theorem dX9_strains_30 : decode cX9_strains 30 = .ok (.aload_n 0, 1) := by decide +kernel
theorem dX9_strains_31 : decode cX9_strains 31 = .ok (.getfield 9, 3) := by decide +kernel
theorem dX9_strains_34 : decode cX9_strains 34 = .ok (.iconst 2, 1) := by decide +kernel
theorem dX9_strains_35 : decode cX9_strains 35 = .ok (.iaload, 1) := by decide +kernel
theorem dX9_strains_36 : decode cX9_strains 36 = .ok (.if_icmp .ge 35, 3) := by decide +kernel
theorem dX9_strains_39 : decode cX9_strains 39 = .ok (.aload_n 0, 1) := by decide +kernel
theorem dX9_strains_40 : decode cX9_strains 40 = .ok (.iload_n 1, 1) := by decide +kernel
theorem dX9_strains_41 : decode cX9_strains 41 = .ok (.invokevirtual 343, 3) := by decide +kernel
theorem dX9_strains_44 : decode cX9_strains 44 = .ok (.ifCond .ne 6, 3) := by decide +kernel
theorem dX9_strains_47 : decode cX9_strains 47 = .ok (.goto 18, 3) := by decide +kernel
theorem dX9_strains_50 : decode cX9_strains 50 = .ok (.aload_n 0, 1) := by decide +kernel
theorem dX9_strains_51 : decode cX9_strains 51 = .ok (.iload_n 1, 1) := by decide +kernel
theorem dX9_strains_52 : decode cX9_strains 52 = .ok (.iconst 2, 1) := by decide +kernel
theorem dX9_strains_53 : decode cX9_strains 53 = .ok (.iconst 1, 1) := by decide +kernel
theorem dX9_strains_54 : decode cX9_strains 54 = .ok (.invokevirtual 134, 3) := by decide +kernel
theorem dX9_strains_57 : decode cX9_strains 57 = .ok (.aload_n 0, 1) := by decide +kernel
theorem dX9_strains_58 : decode cX9_strains 58 = .ok (.getfield 9, 3) := by decide +kernel
theorem dX9_strains_61 : decode cX9_strains 61 = .ok (.bipush 13, 2) := by decide +kernel
theorem dX9_strains_63 : decode cX9_strains 63 = .ok (.iconst 1, 1) := by decide +kernel
theorem dX9_strains_64 : decode cX9_strains 64 = .ok (.iastore, 1) := by decide +kernel
theorem dX9_strains_65 : decode cX9_strains 65 = .ok (.iinc 1 1, 3) := by decide +kernel
theorem dX9_strains_68 : decode cX9_strains 68 = .ok (.goto (-39), 3) := by decide +kernel
theorem dX9_strains_71 : decode cX9_strains 71 = .ok (.return_, 1) := by decide +kernel
theorem dX9_moves_0 : decode cX9_moves 0 = .ok (.aload_n 0, 1) := by decide +kernel
theorem dX9_moves_1 : decode cX9_moves 1 = .ok (.iload_n 1, 1) := by decide +kernel
theorem dX9_moves_2 : decode cX9_moves 2 = .ok (.iconst 2, 1) := by decide +kernel
theorem dX9_moves_3 : decode cX9_moves 3 = .ok (.invokevirtual 346, 3) := by decide +kernel
theorem dX9_moves_6 : decode cX9_moves 6 = .ok (.iconst 1, 1) := by decide +kernel
theorem dX9_moves_7 : decode cX9_moves 7 = .ok (.if_icmp .eq 22, 3) := by decide +kernel
theorem dX9_moves_10 : decode cX9_moves 10 = .ok (.aload_n 0, 1) := by decide +kernel
theorem dX9_moves_11 : decode cX9_moves 11 = .ok (.iload_n 1, 1) := by decide +kernel
theorem dX9_moves_12 : decode cX9_moves 12 = .ok (.iconst 0, 1) := by decide +kernel
theorem dX9_moves_13 : decode cX9_moves 13 = .ok (.invokevirtual 346, 3) := by decide +kernel
theorem dX9_moves_16 : decode cX9_moves 16 = .ok (.iconst 1, 1) := by decide +kernel
theorem dX9_moves_17 : decode cX9_moves 17 = .ok (.if_icmp .ne 7, 3) := by decide +kernel
theorem dX9_moves_20 : decode cX9_moves 20 = .ok (.iconst 1, 1) := by decide +kernel
theorem dX9_moves_21 : decode cX9_moves 21 = .ok (.goto 4, 3) := by decide +kernel
theorem dX9_moves_24 : decode cX9_moves 24 = .ok (.iconst 0, 1) := by decide +kernel
theorem dX9_moves_25 : decode cX9_moves 25 = .ok (.iload_n 2, 1) := by decide +kernel
theorem dX9_moves_26 : decode cX9_moves 26 = .ok (.if_icmp .ne 4, 3) := by decide +kernel
theorem dX9_moves_29 : decode cX9_moves 29 = .ok (.return_, 1) := by decide +kernel
theorem dX9_moves_30 : decode cX9_moves 30 = .ok (.aload_n 0, 1) := by decide +kernel
theorem dX9_moves_31 : decode cX9_moves 31 = .ok (.iload_n 1, 1) := by decide +kernel
theorem dX9_moves_32 : decode cX9_moves 32 = .ok (.iconst 0, 1) := by decide +kernel
theorem dX9_moves_33 : decode cX9_moves 33 = .ok (.iload_n 2, 1) := by decide +kernel
theorem dX9_moves_34 : decode cX9_moves 34 = .ok (.invokestatic 324, 3) := by decide +kernel
theorem dX9_moves_37 : decode cX9_moves 37 = .ok (.invokevirtual 331, 3) := by decide +kernel
theorem dX9_moves_40 : decode cX9_moves 40 = .ok (.aload_n 0, 1) := by decide +kernel
theorem dX9_moves_41 : decode cX9_moves 41 = .ok (.iload_n 1, 1) := by decide +kernel
theorem dX9_moves_42 : decode cX9_moves 42 = .ok (.iconst 1, 1) := by decide +kernel
theorem dX9_moves_43 : decode cX9_moves 43 = .ok (.aload_n 0, 1) := by decide +kernel
theorem dX9_moves_44 : decode cX9_moves 44 = .ok (.iload_n 1, 1) := by decide +kernel
theorem dX9_moves_45 : decode cX9_moves 45 = .ok (.iconst 1, 1) := by decide +kernel
theorem dX9_moves_46 : decode cX9_moves 46 = .ok (.invokevirtual 346, 3) := by decide +kernel
theorem dX9_moves_49 : decode cX9_moves 49 = .ok (.iconst 1, 1) := by decide +kernel
theorem dX9_moves_50 : decode cX9_moves 50 = .ok (.iadd, 1) := by decide +kernel
theorem dX9_moves_51 : decode cX9_moves 51 = .ok (.invokevirtual 331, 3) := by decide +kernel
theorem dX9_moves_54 : decode cX9_moves 54 = .ok (.aload_n 0, 1) := by decide +kernel
theorem dX9_moves_55 : decode cX9_moves 55 = .ok (.iload_n 1, 1) := by decide +kernel
theorem dX9_moves_56 : decode cX9_moves 56 = .ok (.iconst 1, 1) := by decide +kernel
theorem dX9_moves_57 : decode cX9_moves 57 = .ok (.invokevirtual 346, 3) := by decide +kernel
theorem dX9_moves_60 : decode cX9_moves 60 = .ok (.aload_n 0, 1) := by decide +kernel
theorem dX9_moves_61 : decode cX9_moves 61 = .ok (.getfield 9, 3) := by decide +kernel
theorem dX9_moves_64 : decode cX9_moves 64 = .ok (.iconst 1, 1) := by decide +kernel
theorem dX9_moves_65 : decode cX9_moves 65 = .ok (.iaload, 1) := by decide +kernel
theorem dX9_moves_66 : decode cX9_moves 66 = .ok (.if_icmp .eq 4, 3) := by decide +kernel
theorem dX9_moves_69 : decode cX9_moves 69 = .ok (.return_, 1) := by decide +kernel
theorem dX9_moves_70 : decode cX9_moves 70 = .ok (.aload_n 0, 1) := by decide +kernel
theorem dX9_moves_71 : decode cX9_moves 71 = .ok (.iload_n 1, 1) := by decide +kernel
theorem dX9_moves_72 : decode cX9_moves 72 = .ok (.iconst 2, 1) := by decide +kernel
theorem dX9_moves_73 : decode cX9_moves 73 = .ok (.iconst 1, 1) := by decide +kernel
theorem dX9_moves_74 : decode cX9_moves 74 = .ok (.invokevirtual 331, 3) := by decide +kernel
theorem dX9_moves_77 : decode cX9_moves 77 = .ok (.aload_n 0, 1) := by decide +kernel
theorem dX9_moves_78 : decode cX9_moves 78 = .ok (.getfield 9, 3) := by decide +kernel
theorem dX9_moves_81 : decode cX9_moves 81 = .ok (.bipush 9, 2) := by decide +kernel
theorem dX9_moves_83 : decode cX9_moves 83 = .ok (.iconst 1, 1) := by decide +kernel
theorem dX9_moves_84 : decode cX9_moves 84 = .ok (.iastore, 1) := by decide +kernel
theorem dX9_moves_85 : decode cX9_moves 85 = .ok (.return_, 1) := by decide +kernel
theorem dX9_cell_0 : decode cX9_cell 0 = .ok (.iconst 2, 1) := by decide +kernel
theorem dX9_cell_1 : decode cX9_cell 1 = .ok (.iload_n 0, 1) := by decide +kernel
theorem dX9_cell_2 : decode cX9_cell 2 = .ok (.imul, 1) := by decide +kernel
theorem dX9_cell_3 : decode cX9_cell 3 = .ok (.iload_n 1, 1) := by decide +kernel
theorem dX9_cell_4 : decode cX9_cell 4 = .ok (.invokestatic 324, 3) := by decide +kernel
theorem dX9_cell_7 : decode cX9_cell 7 = .ok (.iadd, 1) := by decide +kernel
theorem dX9_cell_8 : decode cX9_cell 8 = .ok (.ireturn, 1) := by decide +kernel
theorem dX9_weavesOne_0 : decode cX9_weavesOne 0 = .ok (.aload_n 0, 1) := by decide +kernel
theorem dX9_weavesOne_1 : decode cX9_weavesOne 1 = .ok (.invokevirtual 334, 3) := by decide +kernel
theorem dX9_weavesOne_4 : decode cX9_weavesOne 4 = .ok (.istore_n 1, 1) := by decide +kernel
theorem dX9_weavesOne_5 : decode cX9_weavesOne 5 = .ok (.aload_n 0, 1) := by decide +kernel
theorem dX9_weavesOne_6 : decode cX9_weavesOne 6 = .ok (.iload_n 1, 1) := by decide +kernel
theorem dX9_weavesOne_7 : decode cX9_weavesOne 7 = .ok (.iconst 1, 1) := by decide +kernel
theorem dX9_weavesOne_8 : decode cX9_weavesOne 8 = .ok (.invokevirtual 232, 3) := by decide +kernel
theorem dX9_weavesOne_11 : decode cX9_weavesOne 11 = .ok (.istore_n 2, 1) := by decide +kernel
theorem dX9_weavesOne_12 : decode cX9_weavesOne 12 = .ok (.aload_n 0, 1) := by decide +kernel
theorem dX9_weavesOne_13 : decode cX9_weavesOne 13 = .ok (.getfield 9, 3) := by decide +kernel
theorem dX9_weavesOne_16 : decode cX9_weavesOne 16 = .ok (.bipush 110, 2) := by decide +kernel
theorem dX9_weavesOne_18 : decode cX9_weavesOne 18 = .ok (.iload_n 2, 1) := by decide +kernel
theorem dX9_weavesOne_19 : decode cX9_weavesOne 19 = .ok (.iadd, 1) := by decide +kernel
theorem dX9_weavesOne_20 : decode cX9_weavesOne 20 = .ok (.dup2, 1) := by decide +kernel
theorem dX9_weavesOne_21 : decode cX9_weavesOne 21 = .ok (.iaload, 1) := by decide +kernel
theorem dX9_weavesOne_22 : decode cX9_weavesOne 22 = .ok (.aload_n 0, 1) := by decide +kernel
theorem dX9_weavesOne_23 : decode cX9_weavesOne 23 = .ok (.getfield 9, 3) := by decide +kernel
theorem dX9_weavesOne_26 : decode cX9_weavesOne 26 = .ok (.iconst 2, 1) := by decide +kernel
theorem dX9_weavesOne_27 : decode cX9_weavesOne 27 = .ok (.iaload, 1) := by decide +kernel
theorem dX9_weavesOne_28 : decode cX9_weavesOne 28 = .ok (.isub, 1) := by decide +kernel
theorem dX9_weavesOne_29 : decode cX9_weavesOne 29 = .ok (.iastore, 1) := by decide +kernel
theorem dX9_weavesOne_30 : decode cX9_weavesOne 30 = .ok (.iconst 0, 1) := by decide +kernel
theorem dX9_weavesOne_31 : decode cX9_weavesOne 31 = .ok (.istore_n 3, 1) := by decide +kernel
theorem dX9_weavesOne_32 : decode cX9_weavesOne 32 = .ok (.iload_n 3, 1) := by decide +kernel
theorem dX9_weavesOne_33 : decode cX9_weavesOne 33 = .ok (.aload_n 0, 1) := by decide +kernel
theorem dX9_weavesOne_34 : decode cX9_weavesOne 34 = .ok (.getfield 9, 3) := by decide +kernel
theorem dX9_weavesOne_37 : decode cX9_weavesOne 37 = .ok (.iconst 0, 1) := by decide +kernel
theorem dX9_weavesOne_38 : decode cX9_weavesOne 38 = .ok (.iaload, 1) := by decide +kernel
theorem dX9_weavesOne_39 : decode cX9_weavesOne 39 = .ok (.if_icmp .ge 24, 3) := by decide +kernel
theorem dX9_weavesOne_42 : decode cX9_weavesOne 42 = .ok (.aload_n 0, 1) := by decide +kernel
theorem dX9_weavesOne_43 : decode cX9_weavesOne 43 = .ok (.iload_n 3, 1) := by decide +kernel
theorem dX9_weavesOne_44 : decode cX9_weavesOne 44 = .ok (.aload_n 0, 1) := by decide +kernel
theorem dX9_weavesOne_45 : decode cX9_weavesOne 45 = .ok (.iload_n 1, 1) := by decide +kernel
theorem dX9_weavesOne_46 : decode cX9_weavesOne 46 = .ok (.iconst 0, 1) := by decide +kernel
theorem dX9_weavesOne_47 : decode cX9_weavesOne 47 = .ok (.invokevirtual 232, 3) := by decide +kernel
theorem dX9_weavesOne_50 : decode cX9_weavesOne 50 = .ok (.iload_n 3, 1) := by decide +kernel
theorem dX9_weavesOne_51 : decode cX9_weavesOne 51 = .ok (.invokestatic 147, 3) := by decide +kernel
theorem dX9_weavesOne_54 : decode cX9_weavesOne 54 = .ok (.invokevirtual 349, 3) := by decide +kernel
theorem dX9_weavesOne_57 : decode cX9_weavesOne 57 = .ok (.iinc 3 1, 3) := by decide +kernel
theorem dX9_weavesOne_60 : decode cX9_weavesOne 60 = .ok (.goto (-28), 3) := by decide +kernel
theorem dX9_weavesOne_63 : decode cX9_weavesOne 63 = .ok (.sipush 264, 3) := by decide +kernel
theorem dX9_weavesOne_66 : decode cX9_weavesOne 66 = .ok (.bipush 25, 2) := by decide +kernel
theorem dX9_weavesOne_68 : decode cX9_weavesOne 68 = .ok (.aload_n 0, 1) := by decide +kernel
theorem dX9_weavesOne_69 : decode cX9_weavesOne 69 = .ok (.getfield 9, 3) := by decide +kernel
theorem dX9_weavesOne_72 : decode cX9_weavesOne 72 = .ok (.iconst 5, 1) := by decide +kernel
theorem dX9_weavesOne_73 : decode cX9_weavesOne 73 = .ok (.iaload, 1) := by decide +kernel
theorem dX9_weavesOne_74 : decode cX9_weavesOne 74 = .ok (.imul, 1) := by decide +kernel
theorem dX9_weavesOne_75 : decode cX9_weavesOne 75 = .ok (.iadd, 1) := by decide +kernel
theorem dX9_weavesOne_76 : decode cX9_weavesOne 76 = .ok (.istore_n 3, 1) := by decide +kernel
theorem dX9_weavesOne_77 : decode cX9_weavesOne 77 = .ok (.aload_n 0, 1) := by decide +kernel
theorem dX9_weavesOne_78 : decode cX9_weavesOne 78 = .ok (.getfield 9, 3) := by decide +kernel
theorem dX9_weavesOne_81 : decode cX9_weavesOne 81 = .ok (.iload_n 3, 1) := by decide +kernel
theorem dX9_weavesOne_82 : decode cX9_weavesOne 82 = .ok (.iload_n 2, 1) := by decide +kernel
theorem dX9_weavesOne_83 : decode cX9_weavesOne 83 = .ok (.iastore, 1) := by decide +kernel
theorem dX9_weavesOne_84 : decode cX9_weavesOne 84 = .ok (.iconst 0, 1) := by decide +kernel
theorem dX9_weavesOne_85 : decode cX9_weavesOne 85 = .ok (.istore 4, 2) := by decide +kernel
theorem dX9_weavesOne_87 : decode cX9_weavesOne 87 = .ok (.iload 4, 2) := by decide +kernel
theorem dX9_weavesOne_89 : decode cX9_weavesOne 89 = .ok (.aload_n 0, 1) := by decide +kernel
theorem dX9_weavesOne_90 : decode cX9_weavesOne 90 = .ok (.getfield 9, 3) := by decide +kernel
theorem dX9_weavesOne_93 : decode cX9_weavesOne 93 = .ok (.iconst 2, 1) := by decide +kernel
theorem dX9_weavesOne_94 : decode cX9_weavesOne 94 = .ok (.iaload, 1) := by decide +kernel
theorem dX9_weavesOne_95 : decode cX9_weavesOne 95 = .ok (.if_icmp .ge 71, 3) := by decide +kernel
theorem dX9_weavesOne_98 : decode cX9_weavesOne 98 = .ok (.aload_n 0, 1) := by decide +kernel
theorem dX9_weavesOne_99 : decode cX9_weavesOne 99 = .ok (.aload_n 0, 1) := by decide +kernel
theorem dX9_weavesOne_100 : decode cX9_weavesOne 100 = .ok (.iload 4, 2) := by decide +kernel
theorem dX9_weavesOne_102 : decode cX9_weavesOne 102 = .ok (.invokevirtual 328, 3) := by decide +kernel
theorem dX9_weavesOne_105 : decode cX9_weavesOne 105 = .ok (.iconst 0, 1) := by decide +kernel
theorem dX9_weavesOne_106 : decode cX9_weavesOne 106 = .ok (.invokevirtual 346, 3) := by decide +kernel
theorem dX9_weavesOne_109 : decode cX9_weavesOne 109 = .ok (.iconst 1, 1) := by decide +kernel
theorem dX9_weavesOne_110 : decode cX9_weavesOne 110 = .ok (.if_icmp .ne 16, 3) := by decide +kernel
theorem dX9_weavesOne_113 : decode cX9_weavesOne 113 = .ok (.aload_n 0, 1) := by decide +kernel
theorem dX9_weavesOne_114 : decode cX9_weavesOne 114 = .ok (.iload 4, 2) := by decide +kernel
theorem dX9_weavesOne_116 : decode cX9_weavesOne 116 = .ok (.invokevirtual 235, 3) := by decide +kernel
theorem dX9_weavesOne_119 : decode cX9_weavesOne 119 = .ok (.ifCond .ne 7, 3) := by decide +kernel
theorem dX9_weavesOne_122 : decode cX9_weavesOne 122 = .ok (.iconst 1, 1) := by decide +kernel
theorem dX9_weavesOne_123 : decode cX9_weavesOne 123 = .ok (.goto 4, 3) := by decide +kernel
theorem dX9_weavesOne_126 : decode cX9_weavesOne 126 = .ok (.iconst 0, 1) := by decide +kernel
theorem dX9_weavesOne_127 : decode cX9_weavesOne 127 = .ok (.istore 5, 2) := by decide +kernel
theorem dX9_weavesOne_129 : decode cX9_weavesOne 129 = .ok (.aload_n 0, 1) := by decide +kernel
theorem dX9_weavesOne_130 : decode cX9_weavesOne 130 = .ok (.getfield 9, 3) := by decide +kernel
theorem dX9_weavesOne_133 : decode cX9_weavesOne 133 = .ok (.iload_n 3, 1) := by decide +kernel
theorem dX9_weavesOne_134 : decode cX9_weavesOne 134 = .ok (.iconst 1, 1) := by decide +kernel
theorem dX9_weavesOne_135 : decode cX9_weavesOne 135 = .ok (.iadd, 1) := by decide +kernel
theorem dX9_weavesOne_136 : decode cX9_weavesOne 136 = .ok (.iload 4, 2) := by decide +kernel
theorem dX9_weavesOne_138 : decode cX9_weavesOne 138 = .ok (.iadd, 1) := by decide +kernel
theorem dX9_weavesOne_139 : decode cX9_weavesOne 139 = .ok (.iload 5, 2) := by decide +kernel
theorem dX9_weavesOne_141 : decode cX9_weavesOne 141 = .ok (.ifCond .eq 12, 3) := by decide +kernel
theorem dX9_weavesOne_144 : decode cX9_weavesOne 144 = .ok (.aload_n 0, 1) := by decide +kernel
theorem dX9_weavesOne_145 : decode cX9_weavesOne 145 = .ok (.iload 4, 2) := by decide +kernel
theorem dX9_weavesOne_147 : decode cX9_weavesOne 147 = .ok (.invokevirtual 353, 3) := by decide +kernel
theorem dX9_weavesOne_150 : decode cX9_weavesOne 150 = .ok (.goto 4, 3) := by decide +kernel
theorem dX9_weavesOne_153 : decode cX9_weavesOne 153 = .ok (.iload_n 2, 1) := by decide +kernel
theorem dX9_weavesOne_154 : decode cX9_weavesOne 154 = .ok (.iload 5, 2) := by decide +kernel
theorem dX9_weavesOne_156 : decode cX9_weavesOne 156 = .ok (.invokestatic 356, 3) := by decide +kernel
theorem dX9_weavesOne_159 : decode cX9_weavesOne 159 = .ok (.iastore, 1) := by decide +kernel
theorem dX9_weavesOne_160 : decode cX9_weavesOne 160 = .ok (.iinc 4 1, 3) := by decide +kernel
theorem dX9_weavesOne_163 : decode cX9_weavesOne 163 = .ok (.goto (-76), 3) := by decide +kernel
theorem dX9_weavesOne_166 : decode cX9_weavesOne 166 = .ok (.aload_n 0, 1) := by decide +kernel
theorem dX9_weavesOne_167 : decode cX9_weavesOne 167 = .ok (.getfield 9, 3) := by decide +kernel
theorem dX9_weavesOne_170 : decode cX9_weavesOne 170 = .ok (.iconst 5, 1) := by decide +kernel
theorem dX9_weavesOne_171 : decode cX9_weavesOne 171 = .ok (.dup2, 1) := by decide +kernel
theorem dX9_weavesOne_172 : decode cX9_weavesOne 172 = .ok (.iaload, 1) := by decide +kernel
theorem dX9_weavesOne_173 : decode cX9_weavesOne 173 = .ok (.iconst 1, 1) := by decide +kernel
theorem dX9_weavesOne_174 : decode cX9_weavesOne 174 = .ok (.iadd, 1) := by decide +kernel
theorem dX9_weavesOne_175 : decode cX9_weavesOne 175 = .ok (.iastore, 1) := by decide +kernel
theorem dX9_weavesOne_176 : decode cX9_weavesOne 176 = .ok (.aload_n 0, 1) := by decide +kernel
theorem dX9_weavesOne_177 : decode cX9_weavesOne 177 = .ok (.invokevirtual 360, 3) := by decide +kernel
theorem dX9_weavesOne_180 : decode cX9_weavesOne 180 = .ok (.return_, 1) := by decide +kernel
theorem dX9_weaves_0 : decode cX9_weaves 0 = .ok (.iconst 0, 1) := by decide +kernel
theorem dX9_weaves_1 : decode cX9_weaves 1 = .ok (.istore_n 2, 1) := by decide +kernel
theorem dX9_weaves_2 : decode cX9_weaves 2 = .ok (.iload_n 2, 1) := by decide +kernel
theorem dX9_weaves_3 : decode cX9_weaves 3 = .ok (.iload_n 1, 1) := by decide +kernel
theorem dX9_weaves_4 : decode cX9_weaves 4 = .ok (.if_icmp .ge 20, 3) := by decide +kernel
theorem dX9_weaves_7 : decode cX9_weaves 7 = .ok (.aload_n 0, 1) := by decide +kernel
theorem dX9_weaves_8 : decode cX9_weaves 8 = .ok (.invokevirtual 363, 3) := by decide +kernel
theorem dX9_weaves_11 : decode cX9_weaves 11 = .ok (.ifCond .ne 13, 3) := by decide +kernel
theorem dX9_weaves_14 : decode cX9_weaves 14 = .ok (.aload_n 0, 1) := by decide +kernel
theorem dX9_weaves_15 : decode cX9_weaves 15 = .ok (.invokevirtual 366, 3) := by decide +kernel
theorem dX9_weaves_18 : decode cX9_weaves 18 = .ok (.iinc 2 1, 3) := by decide +kernel
theorem dX9_weaves_21 : decode cX9_weaves 21 = .ok (.goto (-19), 3) := by decide +kernel
theorem dX9_weaves_24 : decode cX9_weaves 24 = .ok (.iload_n 2, 1) := by decide +kernel
theorem dX9_weaves_25 : decode cX9_weaves 25 = .ok (.ireturn, 1) := by decide +kernel
theorem dX9_removes_0 : decode cX9_removes 0 = .ok (.iconst 0, 1) := by decide +kernel
theorem dX9_removes_1 : decode cX9_removes 1 = .ok (.istore_n 2, 1) := by decide +kernel
theorem dX9_removes_2 : decode cX9_removes 2 = .ok (.iload_n 2, 1) := by decide +kernel
theorem dX9_removes_3 : decode cX9_removes 3 = .ok (.iload_n 1, 1) := by decide +kernel
theorem dX9_removes_4 : decode cX9_removes 4 = .ok (.if_icmp .ge 46, 3) := by decide +kernel
theorem dX9_removes_7 : decode cX9_removes 7 = .ok (.aload_n 0, 1) := by decide +kernel
theorem dX9_removes_8 : decode cX9_removes 8 = .ok (.getfield 9, 3) := by decide +kernel
theorem dX9_removes_11 : decode cX9_removes 11 = .ok (.iconst 5, 1) := by decide +kernel
theorem dX9_removes_12 : decode cX9_removes 12 = .ok (.dup2, 1) := by decide +kernel
theorem dX9_removes_13 : decode cX9_removes 13 = .ok (.iaload, 1) := by decide +kernel
theorem dX9_removes_14 : decode cX9_removes 14 = .ok (.iconst 1, 1) := by decide +kernel
theorem dX9_removes_15 : decode cX9_removes 15 = .ok (.isub, 1) := by decide +kernel
theorem dX9_removes_16 : decode cX9_removes 16 = .ok (.iastore, 1) := by decide +kernel
theorem dX9_removes_17 : decode cX9_removes 17 = .ok (.aload_n 0, 1) := by decide +kernel
theorem dX9_removes_18 : decode cX9_removes 18 = .ok (.getfield 9, 3) := by decide +kernel
theorem dX9_removes_21 : decode cX9_removes 21 = .ok (.bipush 110, 2) := by decide +kernel
theorem dX9_removes_23 : decode cX9_removes 23 = .ok (.aload_n 0, 1) := by decide +kernel
theorem dX9_removes_24 : decode cX9_removes 24 = .ok (.aload_n 0, 1) := by decide +kernel
theorem dX9_removes_25 : decode cX9_removes 25 = .ok (.getfield 9, 3) := by decide +kernel
theorem dX9_removes_28 : decode cX9_removes 28 = .ok (.iconst 5, 1) := by decide +kernel
theorem dX9_removes_29 : decode cX9_removes 29 = .ok (.iaload, 1) := by decide +kernel
theorem dX9_removes_30 : decode cX9_removes 30 = .ok (.invokevirtual 369, 3) := by decide +kernel
theorem dX9_removes_33 : decode cX9_removes 33 = .ok (.iadd, 1) := by decide +kernel
theorem dX9_removes_34 : decode cX9_removes 34 = .ok (.dup2, 1) := by decide +kernel
theorem dX9_removes_35 : decode cX9_removes 35 = .ok (.iaload, 1) := by decide +kernel
theorem dX9_removes_36 : decode cX9_removes 36 = .ok (.aload_n 0, 1) := by decide +kernel
theorem dX9_removes_37 : decode cX9_removes 37 = .ok (.getfield 9, 3) := by decide +kernel
theorem dX9_removes_40 : decode cX9_removes 40 = .ok (.iconst 2, 1) := by decide +kernel
theorem dX9_removes_41 : decode cX9_removes 41 = .ok (.iaload, 1) := by decide +kernel
theorem dX9_removes_42 : decode cX9_removes 42 = .ok (.iadd, 1) := by decide +kernel
theorem dX9_removes_43 : decode cX9_removes 43 = .ok (.iastore, 1) := by decide +kernel
theorem dX9_removes_44 : decode cX9_removes 44 = .ok (.iinc 2 1, 3) := by decide +kernel
theorem dX9_removes_47 : decode cX9_removes 47 = .ok (.goto (-45), 3) := by decide +kernel
theorem dX9_removes_50 : decode cX9_removes 50 = .ok (.return_, 1) := by decide +kernel
theorem dX9_exchanged_0 : decode cX9_exchanged 0 = .ok (.iload_n 0, 1) := by decide +kernel
theorem dX9_exchanged_1 : decode cX9_exchanged 1 = .ok (.iload_n 1, 1) := by decide +kernel
theorem dX9_exchanged_2 : decode cX9_exchanged 2 = .ok (.if_icmp .ne 7, 3) := by decide +kernel
theorem dX9_exchanged_5 : decode cX9_exchanged 5 = .ok (.iload_n 2, 1) := by decide +kernel
theorem dX9_exchanged_6 : decode cX9_exchanged 6 = .ok (.goto 13, 3) := by decide +kernel
theorem dX9_exchanged_9 : decode cX9_exchanged 9 = .ok (.iload_n 0, 1) := by decide +kernel
theorem dX9_exchanged_10 : decode cX9_exchanged 10 = .ok (.iload_n 2, 1) := by decide +kernel
theorem dX9_exchanged_11 : decode cX9_exchanged 11 = .ok (.if_icmp .ne 7, 3) := by decide +kernel
theorem dX9_exchanged_14 : decode cX9_exchanged 14 = .ok (.iload_n 1, 1) := by decide +kernel
theorem dX9_exchanged_15 : decode cX9_exchanged 15 = .ok (.goto 4, 3) := by decide +kernel
theorem dX9_exchanged_18 : decode cX9_exchanged 18 = .ok (.iload_n 0, 1) := by decide +kernel
theorem dX9_exchanged_19 : decode cX9_exchanged 19 = .ok (.ireturn, 1) := by decide +kernel
theorem dX9_isAsExpected_0 : decode cX9_isAsExpected 0 = .ok (.aload_n 0, 1) := by decide +kernel
theorem dX9_isAsExpected_1 : decode cX9_isAsExpected 1 = .ok (.getfield 9, 3) := by decide +kernel
theorem dX9_isAsExpected_4 : decode cX9_isAsExpected 4 = .ok (.sipush 164, 3) := by decide +kernel
theorem dX9_isAsExpected_7 : decode cX9_isAsExpected 7 = .ok (.iload_n 1, 1) := by decide +kernel
theorem dX9_isAsExpected_8 : decode cX9_isAsExpected 8 = .ok (.aload_n 0, 1) := by decide +kernel
theorem dX9_isAsExpected_9 : decode cX9_isAsExpected 9 = .ok (.getfield 9, 3) := by decide +kernel
theorem dX9_isAsExpected_12 : decode cX9_isAsExpected 12 = .ok (.iconst 4, 1) := by decide +kernel
theorem dX9_isAsExpected_13 : decode cX9_isAsExpected 13 = .ok (.iaload, 1) := by decide +kernel
theorem dX9_isAsExpected_14 : decode cX9_isAsExpected 14 = .ok (.irem, 1) := by decide +kernel
theorem dX9_isAsExpected_15 : decode cX9_isAsExpected 15 = .ok (.iadd, 1) := by decide +kernel
theorem dX9_isAsExpected_16 : decode cX9_isAsExpected 16 = .ok (.iaload, 1) := by decide +kernel
theorem dX9_isAsExpected_17 : decode cX9_isAsExpected 17 = .ok (.iload_n 2, 1) := by decide +kernel
theorem dX9_isAsExpected_18 : decode cX9_isAsExpected 18 = .ok (.iload_n 3, 1) := by decide +kernel
theorem dX9_isAsExpected_19 : decode cX9_isAsExpected 19 = .ok (.invokestatic 372, 3) := by decide +kernel
theorem dX9_isAsExpected_22 : decode cX9_isAsExpected 22 = .ok (.istore 4, 2) := by decide +kernel
theorem dX9_isAsExpected_24 : decode cX9_isAsExpected 24 = .ok (.iconst 0, 1) := by decide +kernel
theorem dX9_isAsExpected_25 : decode cX9_isAsExpected 25 = .ok (.istore 5, 2) := by decide +kernel
theorem dX9_isAsExpected_27 : decode cX9_isAsExpected 27 = .ok (.iload 5, 2) := by decide +kernel
theorem dX9_isAsExpected_29 : decode cX9_isAsExpected 29 = .ok (.aload_n 0, 1) := by decide +kernel
theorem dX9_isAsExpected_30 : decode cX9_isAsExpected 30 = .ok (.getfield 9, 3) := by decide +kernel
theorem dX9_isAsExpected_33 : decode cX9_isAsExpected 33 = .ok (.iconst 2, 1) := by decide +kernel
theorem dX9_isAsExpected_34 : decode cX9_isAsExpected 34 = .ok (.iaload, 1) := by decide +kernel
theorem dX9_isAsExpected_35 : decode cX9_isAsExpected 35 = .ok (.if_icmp .ge 65, 3) := by decide +kernel
theorem dX9_isAsExpected_38 : decode cX9_isAsExpected 38 = .ok (.aload_n 0, 1) := by decide +kernel
theorem dX9_isAsExpected_39 : decode cX9_isAsExpected 39 = .ok (.iload 4, 2) := by decide +kernel
theorem dX9_isAsExpected_41 : decode cX9_isAsExpected 41 = .ok (.iconst 2, 1) := by decide +kernel
theorem dX9_isAsExpected_42 : decode cX9_isAsExpected 42 = .ok (.invokevirtual 232, 3) := by decide +kernel
theorem dX9_isAsExpected_45 : decode cX9_isAsExpected 45 = .ok (.aload_n 0, 1) := by decide +kernel
theorem dX9_isAsExpected_46 : decode cX9_isAsExpected 46 = .ok (.iload 5, 2) := by decide +kernel
theorem dX9_isAsExpected_48 : decode cX9_isAsExpected 48 = .ok (.invokevirtual 328, 3) := by decide +kernel
theorem dX9_isAsExpected_51 : decode cX9_isAsExpected 51 = .ok (.invokestatic 147, 3) := by decide +kernel
theorem dX9_isAsExpected_54 : decode cX9_isAsExpected 54 = .ok (.istore 6, 2) := by decide +kernel
theorem dX9_isAsExpected_56 : decode cX9_isAsExpected 56 = .ok (.aload_n 0, 1) := by decide +kernel
theorem dX9_isAsExpected_57 : decode cX9_isAsExpected 57 = .ok (.iload_n 1, 1) := by decide +kernel
theorem dX9_isAsExpected_58 : decode cX9_isAsExpected 58 = .ok (.iload 5, 2) := by decide +kernel
theorem dX9_isAsExpected_60 : decode cX9_isAsExpected 60 = .ok (.invokevirtual 375, 3) := by decide +kernel
theorem dX9_isAsExpected_63 : decode cX9_isAsExpected 63 = .ok (.iload 6, 2) := by decide +kernel
theorem dX9_isAsExpected_65 : decode cX9_isAsExpected 65 = .ok (.ifCond .eq 12, 3) := by decide +kernel
theorem dX9_isAsExpected_68 : decode cX9_isAsExpected 68 = .ok (.aload_n 0, 1) := by decide +kernel
theorem dX9_isAsExpected_69 : decode cX9_isAsExpected 69 = .ok (.iload 5, 2) := by decide +kernel
theorem dX9_isAsExpected_71 : decode cX9_isAsExpected 71 = .ok (.invokevirtual 353, 3) := by decide +kernel
theorem dX9_isAsExpected_74 : decode cX9_isAsExpected 74 = .ok (.goto 10, 3) := by decide +kernel
theorem dX9_isAsExpected_77 : decode cX9_isAsExpected 77 = .ok (.aload_n 0, 1) := by decide +kernel
theorem dX9_isAsExpected_78 : decode cX9_isAsExpected 78 = .ok (.iload 4, 2) := by decide +kernel
theorem dX9_isAsExpected_80 : decode cX9_isAsExpected 80 = .ok (.iconst 3, 1) := by decide +kernel
theorem dX9_isAsExpected_81 : decode cX9_isAsExpected 81 = .ok (.invokevirtual 232, 3) := by decide +kernel
theorem dX9_isAsExpected_84 : decode cX9_isAsExpected 84 = .ok (.iload 6, 2) := by decide +kernel
theorem dX9_isAsExpected_86 : decode cX9_isAsExpected 86 = .ok (.invokestatic 356, 3) := by decide +kernel
theorem dX9_isAsExpected_89 : decode cX9_isAsExpected 89 = .ok (.if_icmp .eq 5, 3) := by decide +kernel
theorem dX9_isAsExpected_92 : decode cX9_isAsExpected 92 = .ok (.iconst 0, 1) := by decide +kernel
theorem dX9_isAsExpected_93 : decode cX9_isAsExpected 93 = .ok (.ireturn, 1) := by decide +kernel
theorem dX9_isAsExpected_94 : decode cX9_isAsExpected 94 = .ok (.iinc 5 1, 3) := by decide +kernel
theorem dX9_isAsExpected_97 : decode cX9_isAsExpected 97 = .ok (.goto (-70), 3) := by decide +kernel
theorem dX9_isAsExpected_100 : decode cX9_isAsExpected 100 = .ok (.iconst 1, 1) := by decide +kernel
theorem dX9_isAsExpected_101 : decode cX9_isAsExpected 101 = .ok (.ireturn, 1) := by decide +kernel
theorem dX9_isWrongRow_0 : decode cX9_isWrongRow 0 = .ok (.aload_n 0, 1) := by decide +kernel
theorem dX9_isWrongRow_1 : decode cX9_isWrongRow 1 = .ok (.iload_n 1, 1) := by decide +kernel
theorem dX9_isWrongRow_2 : decode cX9_isWrongRow 2 = .ok (.iconst (-1), 1) := by decide +kernel
theorem dX9_isWrongRow_3 : decode cX9_isWrongRow 3 = .ok (.iconst (-1), 1) := by decide +kernel
theorem dX9_isWrongRow_4 : decode cX9_isWrongRow 4 = .ok (.invokevirtual 378, 3) := by decide +kernel
theorem dX9_isWrongRow_7 : decode cX9_isWrongRow 7 = .ok (.ifCond .ne 7, 3) := by decide +kernel
theorem dX9_isWrongRow_10 : decode cX9_isWrongRow 10 = .ok (.iconst 1, 1) := by decide +kernel
theorem dX9_isWrongRow_11 : decode cX9_isWrongRow 11 = .ok (.goto 4, 3) := by decide +kernel
theorem dX9_isWrongRow_14 : decode cX9_isWrongRow 14 = .ok (.iconst 0, 1) := by decide +kernel
theorem dX9_isWrongRow_15 : decode cX9_isWrongRow 15 = .ok (.ireturn, 1) := by decide +kernel
theorem dX9_wrongs_0 : decode cX9_wrongs 0 = .ok (.iconst 0, 1) := by decide +kernel
theorem dX9_wrongs_1 : decode cX9_wrongs 1 = .ok (.istore_n 1, 1) := by decide +kernel
theorem dX9_wrongs_2 : decode cX9_wrongs 2 = .ok (.iconst 0, 1) := by decide +kernel
theorem dX9_wrongs_3 : decode cX9_wrongs 3 = .ok (.istore_n 2, 1) := by decide +kernel
theorem dX9_wrongs_4 : decode cX9_wrongs 4 = .ok (.iload_n 2, 1) := by decide +kernel
theorem dX9_wrongs_5 : decode cX9_wrongs 5 = .ok (.aload_n 0, 1) := by decide +kernel
theorem dX9_wrongs_6 : decode cX9_wrongs 6 = .ok (.getfield 9, 3) := by decide +kernel
theorem dX9_wrongs_9 : decode cX9_wrongs 9 = .ok (.iconst 5, 1) := by decide +kernel
theorem dX9_wrongs_10 : decode cX9_wrongs 10 = .ok (.iaload, 1) := by decide +kernel
theorem dX9_wrongs_11 : decode cX9_wrongs 11 = .ok (.if_icmp .ge 20, 3) := by decide +kernel
theorem dX9_wrongs_14 : decode cX9_wrongs 14 = .ok (.iload_n 1, 1) := by decide +kernel
theorem dX9_wrongs_15 : decode cX9_wrongs 15 = .ok (.aload_n 0, 1) := by decide +kernel
theorem dX9_wrongs_16 : decode cX9_wrongs 16 = .ok (.iload_n 2, 1) := by decide +kernel
theorem dX9_wrongs_17 : decode cX9_wrongs 17 = .ok (.invokevirtual 381, 3) := by decide +kernel
theorem dX9_wrongs_20 : decode cX9_wrongs 20 = .ok (.invokestatic 324, 3) := by decide +kernel
theorem dX9_wrongs_23 : decode cX9_wrongs 23 = .ok (.iadd, 1) := by decide +kernel
theorem dX9_wrongs_24 : decode cX9_wrongs 24 = .ok (.istore_n 1, 1) := by decide +kernel
theorem dX9_wrongs_25 : decode cX9_wrongs 25 = .ok (.iinc 2 1, 3) := by decide +kernel
theorem dX9_wrongs_28 : decode cX9_wrongs 28 = .ok (.goto (-24), 3) := by decide +kernel
theorem dX9_wrongs_31 : decode cX9_wrongs 31 = .ok (.iload_n 1, 1) := by decide +kernel
theorem dX9_wrongs_32 : decode cX9_wrongs 32 = .ok (.ireturn, 1) := by decide +kernel
theorem dX9_explains_0 : decode cX9_explains 0 = .ok (.iconst 0, 1) := by decide +kernel
theorem dX9_explains_1 : decode cX9_explains 1 = .ok (.istore_n 3, 1) := by decide +kernel
theorem dX9_explains_2 : decode cX9_explains 2 = .ok (.iload_n 3, 1) := by decide +kernel
theorem dX9_explains_3 : decode cX9_explains 3 = .ok (.aload_n 0, 1) := by decide +kernel
theorem dX9_explains_4 : decode cX9_explains 4 = .ok (.getfield 9, 3) := by decide +kernel
theorem dX9_explains_7 : decode cX9_explains 7 = .ok (.iconst 5, 1) := by decide +kernel
theorem dX9_explains_8 : decode cX9_explains 8 = .ok (.iaload, 1) := by decide +kernel
theorem dX9_explains_9 : decode cX9_explains 9 = .ok (.if_icmp .ge 21, 3) := by decide +kernel
theorem dX9_explains_12 : decode cX9_explains 12 = .ok (.aload_n 0, 1) := by decide +kernel
theorem dX9_explains_13 : decode cX9_explains 13 = .ok (.iload_n 3, 1) := by decide +kernel
theorem dX9_explains_14 : decode cX9_explains 14 = .ok (.iload_n 1, 1) := by decide +kernel
theorem dX9_explains_15 : decode cX9_explains 15 = .ok (.iload_n 2, 1) := by decide +kernel
theorem dX9_explains_16 : decode cX9_explains 16 = .ok (.invokevirtual 378, 3) := by decide +kernel
theorem dX9_explains_19 : decode cX9_explains 19 = .ok (.ifCond .ne 5, 3) := by decide +kernel
theorem dX9_explains_22 : decode cX9_explains 22 = .ok (.iconst 0, 1) := by decide +kernel
theorem dX9_explains_23 : decode cX9_explains 23 = .ok (.ireturn, 1) := by decide +kernel
theorem dX9_explains_24 : decode cX9_explains 24 = .ok (.iinc 3 1, 3) := by decide +kernel
theorem dX9_explains_27 : decode cX9_explains 27 = .ok (.goto (-25), 3) := by decide +kernel
theorem dX9_explains_30 : decode cX9_explains 30 = .ok (.iconst 1, 1) := by decide +kernel
theorem dX9_explains_31 : decode cX9_explains 31 = .ok (.ireturn, 1) := by decide +kernel
theorem dX9_suspicion_0 : decode cX9_suspicion 0 = .ok (.aload_n 0, 1) := by decide +kernel
theorem dX9_suspicion_1 : decode cX9_suspicion 1 = .ok (.invokevirtual 384, 3) := by decide +kernel
theorem dX9_suspicion_4 : decode cX9_suspicion 4 = .ok (.ifCond .ne 5, 3) := by decide +kernel
theorem dX9_suspicion_7 : decode cX9_suspicion 7 = .ok (.iconst (-1), 1) := by decide +kernel
theorem dX9_suspicion_8 : decode cX9_suspicion 8 = .ok (.ireturn, 1) := by decide +kernel
theorem dX9_suspicion_9 : decode cX9_suspicion 9 = .ok (.iconst 0, 1) := by decide +kernel
theorem dX9_suspicion_10 : decode cX9_suspicion 10 = .ok (.istore_n 1, 1) := by decide +kernel
theorem dX9_suspicion_11 : decode cX9_suspicion 11 = .ok (.iload_n 1, 1) := by decide +kernel
theorem dX9_suspicion_12 : decode cX9_suspicion 12 = .ok (.aload_n 0, 1) := by decide +kernel
theorem dX9_suspicion_13 : decode cX9_suspicion 13 = .ok (.getfield 9, 3) := by decide +kernel
theorem dX9_suspicion_16 : decode cX9_suspicion 16 = .ok (.iconst 3, 1) := by decide +kernel
theorem dX9_suspicion_17 : decode cX9_suspicion 17 = .ok (.iaload, 1) := by decide +kernel
theorem dX9_suspicion_18 : decode cX9_suspicion 18 = .ok (.if_icmp .ge 45, 3) := by decide +kernel
theorem dX9_suspicion_21 : decode cX9_suspicion 21 = .ok (.iload_n 1, 1) := by decide +kernel
theorem dX9_suspicion_22 : decode cX9_suspicion 22 = .ok (.iconst 1, 1) := by decide +kernel
theorem dX9_suspicion_23 : decode cX9_suspicion 23 = .ok (.iadd, 1) := by decide +kernel
theorem dX9_suspicion_24 : decode cX9_suspicion 24 = .ok (.istore_n 2, 1) := by decide +kernel
theorem dX9_suspicion_25 : decode cX9_suspicion 25 = .ok (.iload_n 2, 1) := by decide +kernel
theorem dX9_suspicion_26 : decode cX9_suspicion 26 = .ok (.aload_n 0, 1) := by decide +kernel
theorem dX9_suspicion_27 : decode cX9_suspicion 27 = .ok (.getfield 9, 3) := by decide +kernel
theorem dX9_suspicion_30 : decode cX9_suspicion 30 = .ok (.iconst 3, 1) := by decide +kernel
theorem dX9_suspicion_31 : decode cX9_suspicion 31 = .ok (.iaload, 1) := by decide +kernel
theorem dX9_suspicion_32 : decode cX9_suspicion 32 = .ok (.if_icmp .ge 25, 3) := by decide +kernel
theorem dX9_suspicion_35 : decode cX9_suspicion 35 = .ok (.aload_n 0, 1) := by decide +kernel
theorem dX9_suspicion_36 : decode cX9_suspicion 36 = .ok (.iload_n 1, 1) := by decide +kernel
theorem dX9_suspicion_37 : decode cX9_suspicion 37 = .ok (.iload_n 2, 1) := by decide +kernel
theorem dX9_suspicion_38 : decode cX9_suspicion 38 = .ok (.invokevirtual 387, 3) := by decide +kernel
theorem dX9_suspicion_41 : decode cX9_suspicion 41 = .ok (.ifCond .eq 10, 3) := by decide +kernel
theorem dX9_suspicion_44 : decode cX9_suspicion 44 = .ok (.iload_n 1, 1) := by decide +kernel
theorem dX9_suspicion_45 : decode cX9_suspicion 45 = .ok (.bipush 12, 2) := by decide +kernel
theorem dX9_suspicion_47 : decode cX9_suspicion 47 = .ok (.imul, 1) := by decide +kernel
theorem dX9_suspicion_48 : decode cX9_suspicion 48 = .ok (.iload_n 2, 1) := by decide +kernel
theorem dX9_suspicion_49 : decode cX9_suspicion 49 = .ok (.iadd, 1) := by decide +kernel
theorem dX9_suspicion_50 : decode cX9_suspicion 50 = .ok (.ireturn, 1) := by decide +kernel
theorem dX9_suspicion_51 : decode cX9_suspicion 51 = .ok (.iinc 2 1, 3) := by decide +kernel
theorem dX9_suspicion_54 : decode cX9_suspicion 54 = .ok (.goto (-29), 3) := by decide +kernel
theorem dX9_suspicion_57 : decode cX9_suspicion 57 = .ok (.iinc 1 1, 3) := by decide +kernel
theorem dX9_suspicion_60 : decode cX9_suspicion 60 = .ok (.goto (-49), 3) := by decide +kernel
theorem dX9_suspicion_63 : decode cX9_suspicion 63 = .ok (.iconst (-1), 1) := by decide +kernel
theorem dX9_suspicion_64 : decode cX9_suspicion 64 = .ok (.ireturn, 1) := by decide +kernel
theorem dX9_isHarness_0 : decode cX9_isHarness 0 = .ok (.aload_n 0, 1) := by decide +kernel
theorem dX9_isHarness_1 : decode cX9_isHarness 1 = .ok (.getfield 53, 3) := by decide +kernel
theorem dX9_isHarness_4 : decode cX9_isHarness 4 = .ok (.ifCond .eq 23, 3) := by decide +kernel
theorem dX9_isHarness_7 : decode cX9_isHarness 7 = .ok (.iload_n 1, 1) := by decide +kernel
theorem dX9_isHarness_8 : decode cX9_isHarness 8 = .ok (.iconst 0, 1) := by decide +kernel
theorem dX9_isHarness_9 : decode cX9_isHarness 9 = .ok (.aload_n 0, 1) := by decide +kernel
theorem dX9_isHarness_10 : decode cX9_isHarness 10 = .ok (.getfield 9, 3) := by decide +kernel
theorem dX9_isHarness_13 : decode cX9_isHarness 13 = .ok (.iconst 0, 1) := by decide +kernel
theorem dX9_isHarness_14 : decode cX9_isHarness 14 = .ok (.iaload, 1) := by decide +kernel
theorem dX9_isHarness_15 : decode cX9_isHarness 15 = .ok (.iconst 1, 1) := by decide +kernel
theorem dX9_isHarness_16 : decode cX9_isHarness 16 = .ok (.isub, 1) := by decide +kernel
theorem dX9_isHarness_17 : decode cX9_isHarness 17 = .ok (.invokestatic 78, 3) := by decide +kernel
theorem dX9_isHarness_20 : decode cX9_isHarness 20 = .ok (.ifCond .eq 7, 3) := by decide +kernel
theorem dX9_isHarness_23 : decode cX9_isHarness 23 = .ok (.iconst 1, 1) := by decide +kernel
theorem dX9_isHarness_24 : decode cX9_isHarness 24 = .ok (.goto 4, 3) := by decide +kernel
theorem dX9_isHarness_27 : decode cX9_isHarness 27 = .ok (.iconst 0, 1) := by decide +kernel
theorem dX9_isHarness_28 : decode cX9_isHarness 28 = .ok (.ireturn, 1) := by decide +kernel
theorem dX9_isWarp_0 : decode cX9_isWarp 0 = .ok (.aload_n 0, 1) := by decide +kernel
theorem dX9_isWarp_1 : decode cX9_isWarp 1 = .ok (.getfield 53, 3) := by decide +kernel
theorem dX9_isWarp_4 : decode cX9_isWarp 4 = .ok (.ifCond .eq 23, 3) := by decide +kernel
theorem dX9_isWarp_7 : decode cX9_isWarp 7 = .ok (.iload_n 1, 1) := by decide +kernel
theorem dX9_isWarp_8 : decode cX9_isWarp 8 = .ok (.iconst 0, 1) := by decide +kernel
theorem dX9_isWarp_9 : decode cX9_isWarp 9 = .ok (.aload_n 0, 1) := by decide +kernel
theorem dX9_isWarp_10 : decode cX9_isWarp 10 = .ok (.getfield 9, 3) := by decide +kernel
theorem dX9_isWarp_13 : decode cX9_isWarp 13 = .ok (.iconst 2, 1) := by decide +kernel
theorem dX9_isWarp_14 : decode cX9_isWarp 14 = .ok (.iaload, 1) := by decide +kernel
theorem dX9_isWarp_15 : decode cX9_isWarp 15 = .ok (.iconst 1, 1) := by decide +kernel
theorem dX9_isWarp_16 : decode cX9_isWarp 16 = .ok (.isub, 1) := by decide +kernel
theorem dX9_isWarp_17 : decode cX9_isWarp 17 = .ok (.invokestatic 78, 3) := by decide +kernel
theorem dX9_isWarp_20 : decode cX9_isWarp 20 = .ok (.ifCond .eq 7, 3) := by decide +kernel
theorem dX9_isWarp_23 : decode cX9_isWarp 23 = .ok (.iconst 1, 1) := by decide +kernel
theorem dX9_isWarp_24 : decode cX9_isWarp 24 = .ok (.goto 4, 3) := by decide +kernel
theorem dX9_isWarp_27 : decode cX9_isWarp 27 = .ok (.iconst 0, 1) := by decide +kernel
theorem dX9_isWarp_28 : decode cX9_isWarp 28 = .ok (.ireturn, 1) := by decide +kernel
theorem dX9_isCard_0 : decode cX9_isCard 0 = .ok (.aload_n 0, 1) := by decide +kernel
theorem dX9_isCard_1 : decode cX9_isCard 1 = .ok (.getfield 53, 3) := by decide +kernel
theorem dX9_isCard_4 : decode cX9_isCard 4 = .ok (.ifCond .eq 23, 3) := by decide +kernel
theorem dX9_isCard_7 : decode cX9_isCard 7 = .ok (.iload_n 1, 1) := by decide +kernel
theorem dX9_isCard_8 : decode cX9_isCard 8 = .ok (.iconst 0, 1) := by decide +kernel
theorem dX9_isCard_9 : decode cX9_isCard 9 = .ok (.aload_n 0, 1) := by decide +kernel
theorem dX9_isCard_10 : decode cX9_isCard 10 = .ok (.getfield 9, 3) := by decide +kernel
theorem dX9_isCard_13 : decode cX9_isCard 13 = .ok (.iconst 3, 1) := by decide +kernel
theorem dX9_isCard_14 : decode cX9_isCard 14 = .ok (.iaload, 1) := by decide +kernel
theorem dX9_isCard_15 : decode cX9_isCard 15 = .ok (.iconst 1, 1) := by decide +kernel
theorem dX9_isCard_16 : decode cX9_isCard 16 = .ok (.isub, 1) := by decide +kernel
theorem dX9_isCard_17 : decode cX9_isCard 17 = .ok (.invokestatic 78, 3) := by decide +kernel
theorem dX9_isCard_20 : decode cX9_isCard 20 = .ok (.ifCond .eq 7, 3) := by decide +kernel
theorem dX9_isCard_23 : decode cX9_isCard 23 = .ok (.iconst 1, 1) := by decide +kernel
theorem dX9_isCard_24 : decode cX9_isCard 24 = .ok (.goto 4, 3) := by decide +kernel
theorem dX9_isCard_27 : decode cX9_isCard 27 = .ok (.iconst 0, 1) := by decide +kernel
theorem dX9_isCard_28 : decode cX9_isCard 28 = .ok (.ireturn, 1) := by decide +kernel
theorem dX9_isRow_0 : decode cX9_isRow 0 = .ok (.aload_n 0, 1) := by decide +kernel
theorem dX9_isRow_1 : decode cX9_isRow 1 = .ok (.getfield 53, 3) := by decide +kernel
theorem dX9_isRow_4 : decode cX9_isRow 4 = .ok (.ifCond .eq 23, 3) := by decide +kernel
theorem dX9_isRow_7 : decode cX9_isRow 7 = .ok (.iload_n 1, 1) := by decide +kernel
theorem dX9_isRow_8 : decode cX9_isRow 8 = .ok (.iconst 0, 1) := by decide +kernel
theorem dX9_isRow_9 : decode cX9_isRow 9 = .ok (.aload_n 0, 1) := by decide +kernel
theorem dX9_isRow_10 : decode cX9_isRow 10 = .ok (.getfield 9, 3) := by decide +kernel
theorem dX9_isRow_13 : decode cX9_isRow 13 = .ok (.iconst 5, 1) := by decide +kernel
theorem dX9_isRow_14 : decode cX9_isRow 14 = .ok (.iaload, 1) := by decide +kernel
theorem dX9_isRow_15 : decode cX9_isRow 15 = .ok (.iconst 1, 1) := by decide +kernel
theorem dX9_isRow_16 : decode cX9_isRow 16 = .ok (.isub, 1) := by decide +kernel
theorem dX9_isRow_17 : decode cX9_isRow 17 = .ok (.invokestatic 78, 3) := by decide +kernel
theorem dX9_isRow_20 : decode cX9_isRow 20 = .ok (.ifCond .eq 7, 3) := by decide +kernel
theorem dX9_isRow_23 : decode cX9_isRow 23 = .ok (.iconst 1, 1) := by decide +kernel
theorem dX9_isRow_24 : decode cX9_isRow 24 = .ok (.goto 4, 3) := by decide +kernel
theorem dX9_isRow_27 : decode cX9_isRow 27 = .ok (.iconst 0, 1) := by decide +kernel
theorem dX9_isRow_28 : decode cX9_isRow 28 = .ok (.ireturn, 1) := by decide +kernel
theorem dX9_isColour_0 : decode cX9_isColour 0 = .ok (.iload_n 0, 1) := by decide +kernel
theorem dX9_isColour_1 : decode cX9_isColour 1 = .ok (.iconst 0, 1) := by decide +kernel
theorem dX9_isColour_2 : decode cX9_isColour 2 = .ok (.iconst 5, 1) := by decide +kernel
theorem dX9_isColour_3 : decode cX9_isColour 3 = .ok (.invokestatic 78, 3) := by decide +kernel
theorem dX9_isColour_6 : decode cX9_isColour 6 = .ok (.ireturn, 1) := by decide +kernel
theorem dX9_mayHarness_0 : decode cX9_mayHarness 0 = .ok (.aload_n 0, 1) := by decide +kernel
theorem dX9_mayHarness_1 : decode cX9_mayHarness 1 = .ok (.aload_n 0, 1) := by decide +kernel
theorem dX9_mayHarness_2 : decode cX9_mayHarness 2 = .ok (.getfield 53, 3) := by decide +kernel
theorem dX9_mayHarness_5 : decode cX9_mayHarness 5 = .ok (.aload_n 0, 1) := by decide +kernel
theorem dX9_mayHarness_6 : decode cX9_mayHarness 6 = .ok (.iload_n 1, 1) := by decide +kernel
theorem dX9_mayHarness_7 : decode cX9_mayHarness 7 = .ok (.invokevirtual 390, 3) := by decide +kernel
theorem dX9_mayHarness_10 : decode cX9_mayHarness 10 = .ok (.invokevirtual 393, 3) := by decide +kernel
theorem dX9_mayHarness_13 : decode cX9_mayHarness 13 = .ok (.ireturn, 1) := by decide +kernel
theorem dX9_mayWarp_0 : decode cX9_mayWarp 0 = .ok (.aload_n 0, 1) := by decide +kernel
theorem dX9_mayWarp_1 : decode cX9_mayWarp 1 = .ok (.aload_n 0, 1) := by decide +kernel
theorem dX9_mayWarp_2 : decode cX9_mayWarp 2 = .ok (.getfield 53, 3) := by decide +kernel
theorem dX9_mayWarp_5 : decode cX9_mayWarp 5 = .ok (.aload_n 0, 1) := by decide +kernel
theorem dX9_mayWarp_6 : decode cX9_mayWarp 6 = .ok (.iload_n 1, 1) := by decide +kernel
theorem dX9_mayWarp_7 : decode cX9_mayWarp 7 = .ok (.invokevirtual 397, 3) := by decide +kernel
theorem dX9_mayWarp_10 : decode cX9_mayWarp 10 = .ok (.invokevirtual 393, 3) := by decide +kernel
theorem dX9_mayWarp_13 : decode cX9_mayWarp 13 = .ok (.ireturn, 1) := by decide +kernel
theorem dX9_mayCard_0 : decode cX9_mayCard 0 = .ok (.aload_n 0, 1) := by decide +kernel
theorem dX9_mayCard_1 : decode cX9_mayCard 1 = .ok (.aload_n 0, 1) := by decide +kernel
theorem dX9_mayCard_2 : decode cX9_mayCard 2 = .ok (.getfield 53, 3) := by decide +kernel
theorem dX9_mayCard_5 : decode cX9_mayCard 5 = .ok (.aload_n 0, 1) := by decide +kernel
theorem dX9_mayCard_6 : decode cX9_mayCard 6 = .ok (.iload_n 1, 1) := by decide +kernel
theorem dX9_mayCard_7 : decode cX9_mayCard 7 = .ok (.invokevirtual 400, 3) := by decide +kernel
theorem dX9_mayCard_10 : decode cX9_mayCard 10 = .ok (.invokevirtual 393, 3) := by decide +kernel
theorem dX9_mayCard_13 : decode cX9_mayCard 13 = .ok (.ireturn, 1) := by decide +kernel
theorem dX9_mayCards_0 : decode cX9_mayCards 0 = .ok (.aload_n 0, 1) := by decide +kernel
theorem dX9_mayCards_1 : decode cX9_mayCards 1 = .ok (.aload_n 0, 1) := by decide +kernel
theorem dX9_mayCards_2 : decode cX9_mayCards 2 = .ok (.getfield 53, 3) := by decide +kernel
theorem dX9_mayCards_5 : decode cX9_mayCards 5 = .ok (.aload_n 0, 1) := by decide +kernel
theorem dX9_mayCards_6 : decode cX9_mayCards 6 = .ok (.iload_n 1, 1) := by decide +kernel
theorem dX9_mayCards_7 : decode cX9_mayCards 7 = .ok (.invokevirtual 400, 3) := by decide +kernel
theorem dX9_mayCards_10 : decode cX9_mayCards 10 = .ok (.ifCond .eq 15, 3) := by decide +kernel
theorem dX9_mayCards_13 : decode cX9_mayCards 13 = .ok (.aload_n 0, 1) := by decide +kernel
theorem dX9_mayCards_14 : decode cX9_mayCards 14 = .ok (.iload_n 2, 1) := by decide +kernel
theorem dX9_mayCards_15 : decode cX9_mayCards 15 = .ok (.invokevirtual 400, 3) := by decide +kernel
theorem dX9_mayCards_18 : decode cX9_mayCards 18 = .ok (.ifCond .eq 7, 3) := by decide +kernel
theorem dX9_mayCards_21 : decode cX9_mayCards 21 = .ok (.iconst 1, 1) := by decide +kernel
theorem dX9_mayCards_22 : decode cX9_mayCards 22 = .ok (.goto 4, 3) := by decide +kernel
theorem dX9_mayCards_25 : decode cX9_mayCards 25 = .ok (.iconst 0, 1) := by decide +kernel
theorem dX9_mayCards_26 : decode cX9_mayCards 26 = .ok (.invokevirtual 393, 3) := by decide +kernel
theorem dX9_mayCards_29 : decode cX9_mayCards 29 = .ok (.ireturn, 1) := by decide +kernel
theorem dX9_mayRow_0 : decode cX9_mayRow 0 = .ok (.aload_n 0, 1) := by decide +kernel
theorem dX9_mayRow_1 : decode cX9_mayRow 1 = .ok (.aload_n 0, 1) := by decide +kernel
theorem dX9_mayRow_2 : decode cX9_mayRow 2 = .ok (.getfield 53, 3) := by decide +kernel
theorem dX9_mayRow_5 : decode cX9_mayRow 5 = .ok (.aload_n 0, 1) := by decide +kernel
theorem dX9_mayRow_6 : decode cX9_mayRow 6 = .ok (.iload_n 1, 1) := by decide +kernel
theorem dX9_mayRow_7 : decode cX9_mayRow 7 = .ok (.invokevirtual 403, 3) := by decide +kernel
theorem dX9_mayRow_10 : decode cX9_mayRow 10 = .ok (.invokevirtual 393, 3) := by decide +kernel
theorem dX9_mayRow_13 : decode cX9_mayRow 13 = .ok (.ireturn, 1) := by decide +kernel
theorem dX9_mayCell_0 : decode cX9_mayCell 0 = .ok (.aload_n 0, 1) := by decide +kernel
theorem dX9_mayCell_1 : decode cX9_mayCell 1 = .ok (.aload_n 0, 1) := by decide +kernel
theorem dX9_mayCell_2 : decode cX9_mayCell 2 = .ok (.getfield 53, 3) := by decide +kernel
theorem dX9_mayCell_5 : decode cX9_mayCell 5 = .ok (.aload_n 0, 1) := by decide +kernel
theorem dX9_mayCell_6 : decode cX9_mayCell 6 = .ok (.iload_n 1, 1) := by decide +kernel
theorem dX9_mayCell_7 : decode cX9_mayCell 7 = .ok (.invokevirtual 403, 3) := by decide +kernel
theorem dX9_mayCell_10 : decode cX9_mayCell 10 = .ok (.ifCond .eq 15, 3) := by decide +kernel
theorem dX9_mayCell_13 : decode cX9_mayCell 13 = .ok (.aload_n 0, 1) := by decide +kernel
theorem dX9_mayCell_14 : decode cX9_mayCell 14 = .ok (.iload_n 2, 1) := by decide +kernel
theorem dX9_mayCell_15 : decode cX9_mayCell 15 = .ok (.invokevirtual 397, 3) := by decide +kernel
theorem dX9_mayCell_18 : decode cX9_mayCell 18 = .ok (.ifCond .eq 7, 3) := by decide +kernel
theorem dX9_mayCell_21 : decode cX9_mayCell 21 = .ok (.iconst 1, 1) := by decide +kernel
theorem dX9_mayCell_22 : decode cX9_mayCell 22 = .ok (.goto 4, 3) := by decide +kernel
theorem dX9_mayCell_25 : decode cX9_mayCell 25 = .ok (.iconst 0, 1) := by decide +kernel
theorem dX9_mayCell_26 : decode cX9_mayCell 26 = .ok (.invokevirtual 393, 3) := by decide +kernel
theorem dX9_mayCell_29 : decode cX9_mayCell 29 = .ok (.ireturn, 1) := by decide +kernel
theorem dX9_mayColour_0 : decode cX9_mayColour 0 = .ok (.aload_n 0, 1) := by decide +kernel
theorem dX9_mayColour_1 : decode cX9_mayColour 1 = .ok (.aload_n 0, 1) := by decide +kernel
theorem dX9_mayColour_2 : decode cX9_mayColour 2 = .ok (.getfield 53, 3) := by decide +kernel
theorem dX9_mayColour_5 : decode cX9_mayColour 5 = .ok (.iload_n 1, 1) := by decide +kernel
theorem dX9_mayColour_6 : decode cX9_mayColour 6 = .ok (.invokestatic 406, 3) := by decide +kernel
theorem dX9_mayColour_9 : decode cX9_mayColour 9 = .ok (.invokevirtual 393, 3) := by decide +kernel
theorem dX9_mayColour_12 : decode cX9_mayColour 12 = .ok (.ireturn, 1) := by decide +kernel
theorem dX9_look_0 : decode cX9_look 0 = .ok (.aload_n 0, 1) := by decide +kernel
theorem dX9_look_1 : decode cX9_look 1 = .ok (.invokevirtual 409, 3) := by decide +kernel
theorem dX9_look_4 : decode cX9_look 4 = .ok (.ifCond .eq 12, 3) := by decide +kernel
theorem dX9_look_7 : decode cX9_look 7 = .ok (.aload_n 0, 1) := by decide +kernel
theorem dX9_look_8 : decode cX9_look 8 = .ok (.getfield 9, 3) := by decide +kernel
theorem dX9_look_11 : decode cX9_look 11 = .ok (.iload_n 1, 1) := by decide +kernel
theorem dX9_look_12 : decode cX9_look 12 = .ok (.iaload, 1) := by decide +kernel
theorem dX9_look_13 : decode cX9_look 13 = .ok (.goto 4, 3) := by decide +kernel
theorem dX9_look_16 : decode cX9_look 16 = .ok (.iconst 0, 1) := by decide +kernel
theorem dX9_look_17 : decode cX9_look 17 = .ok (.ireturn, 1) := by decide +kernel
theorem dX9_harnessCount_0 : decode cX9_harnessCount 0 = .ok (.aload_n 0, 1) := by decide +kernel
theorem dX9_harnessCount_1 : decode cX9_harnessCount 1 = .ok (.iconst 0, 1) := by decide +kernel
theorem dX9_harnessCount_2 : decode cX9_harnessCount 2 = .ok (.invokevirtual 412, 3) := by decide +kernel
theorem dX9_harnessCount_5 : decode cX9_harnessCount 5 = .ok (.ireturn, 1) := by decide +kernel
theorem dX9_warpCount_0 : decode cX9_warpCount 0 = .ok (.aload_n 0, 1) := by decide +kernel
theorem dX9_warpCount_1 : decode cX9_warpCount 1 = .ok (.iconst 2, 1) := by decide +kernel
theorem dX9_warpCount_2 : decode cX9_warpCount 2 = .ok (.invokevirtual 412, 3) := by decide +kernel
theorem dX9_warpCount_5 : decode cX9_warpCount 5 = .ok (.ireturn, 1) := by decide +kernel
theorem dX9_warpHarness_0 : decode cX9_warpHarness 0 = .ok (.aload_n 0, 1) := by decide +kernel
theorem dX9_warpHarness_1 : decode cX9_warpHarness 1 = .ok (.iload_n 1, 1) := by decide +kernel
theorem dX9_warpHarness_2 : decode cX9_warpHarness 2 = .ok (.invokevirtual 415, 3) := by decide +kernel
theorem dX9_warpHarness_5 : decode cX9_warpHarness 5 = .ok (.ifCond .eq 11, 3) := by decide +kernel
theorem dX9_warpHarness_8 : decode cX9_warpHarness 8 = .ok (.aload_n 0, 1) := by decide +kernel
theorem dX9_warpHarness_9 : decode cX9_warpHarness 9 = .ok (.iload_n 1, 1) := by decide +kernel
theorem dX9_warpHarness_10 : decode cX9_warpHarness 10 = .ok (.invokevirtual 328, 3) := by decide +kernel
theorem dX9_warpHarness_13 : decode cX9_warpHarness 13 = .ok (.goto 4, 3) := by decide +kernel
theorem dX9_warpHarness_16 : decode cX9_warpHarness 16 = .ok (.iconst 0, 1) := by decide +kernel
theorem dX9_warpHarness_17 : decode cX9_warpHarness 17 = .ok (.ireturn, 1) := by decide +kernel
theorem dX9_warpColour_0 : decode cX9_warpColour 0 = .ok (.aload_n 0, 1) := by decide +kernel
theorem dX9_warpColour_1 : decode cX9_warpColour 1 = .ok (.iload_n 1, 1) := by decide +kernel
theorem dX9_warpColour_2 : decode cX9_warpColour 2 = .ok (.invokevirtual 415, 3) := by decide +kernel
theorem dX9_warpColour_5 : decode cX9_warpColour 5 = .ok (.ifCond .eq 11, 3) := by decide +kernel
theorem dX9_warpColour_8 : decode cX9_warpColour 8 = .ok (.aload_n 0, 1) := by decide +kernel
theorem dX9_warpColour_9 : decode cX9_warpColour 9 = .ok (.iload_n 1, 1) := by decide +kernel
theorem dX9_warpColour_10 : decode cX9_warpColour 10 = .ok (.invokevirtual 353, 3) := by decide +kernel
theorem dX9_warpColour_13 : decode cX9_warpColour 13 = .ok (.goto 4, 3) := by decide +kernel
theorem dX9_warpColour_16 : decode cX9_warpColour 16 = .ok (.iconst 0, 1) := by decide +kernel
theorem dX9_warpColour_17 : decode cX9_warpColour 17 = .ok (.ireturn, 1) := by decide +kernel
theorem dX9_warpsOn_0 : decode cX9_warpsOn 0 = .ok (.aload_n 0, 1) := by decide +kernel
theorem dX9_warpsOn_1 : decode cX9_warpsOn 1 = .ok (.iload_n 1, 1) := by decide +kernel
theorem dX9_warpsOn_2 : decode cX9_warpsOn 2 = .ok (.invokevirtual 418, 3) := by decide +kernel
theorem dX9_warpsOn_5 : decode cX9_warpsOn 5 = .ok (.ifCond .ne 5, 3) := by decide +kernel
theorem dX9_warpsOn_8 : decode cX9_warpsOn 8 = .ok (.iconst 0, 1) := by decide +kernel
theorem dX9_warpsOn_9 : decode cX9_warpsOn 9 = .ok (.ireturn, 1) := by decide +kernel
theorem dX9_warpsOn_10 : decode cX9_warpsOn 10 = .ok (.iconst 0, 1) := by decide +kernel
theorem dX9_warpsOn_11 : decode cX9_warpsOn 11 = .ok (.istore_n 2, 1) := by decide +kernel
theorem dX9_warpsOn_12 : decode cX9_warpsOn 12 = .ok (.iconst 0, 1) := by decide +kernel
theorem dX9_warpsOn_13 : decode cX9_warpsOn 13 = .ok (.istore_n 3, 1) := by decide +kernel
theorem dX9_warpsOn_14 : decode cX9_warpsOn 14 = .ok (.iload_n 3, 1) := by decide +kernel
theorem dX9_warpsOn_15 : decode cX9_warpsOn 15 = .ok (.aload_n 0, 1) := by decide +kernel
theorem dX9_warpsOn_16 : decode cX9_warpsOn 16 = .ok (.getfield 9, 3) := by decide +kernel
theorem dX9_warpsOn_19 : decode cX9_warpsOn 19 = .ok (.iconst 2, 1) := by decide +kernel
theorem dX9_warpsOn_20 : decode cX9_warpsOn 20 = .ok (.iaload, 1) := by decide +kernel
theorem dX9_warpsOn_21 : decode cX9_warpsOn 21 = .ok (.if_icmp .ge 29, 3) := by decide +kernel
theorem dX9_warpsOn_24 : decode cX9_warpsOn 24 = .ok (.iload_n 2, 1) := by decide +kernel
theorem dX9_warpsOn_25 : decode cX9_warpsOn 25 = .ok (.aload_n 0, 1) := by decide +kernel
theorem dX9_warpsOn_26 : decode cX9_warpsOn 26 = .ok (.iload_n 3, 1) := by decide +kernel
theorem dX9_warpsOn_27 : decode cX9_warpsOn 27 = .ok (.invokevirtual 328, 3) := by decide +kernel
theorem dX9_warpsOn_30 : decode cX9_warpsOn 30 = .ok (.iload_n 1, 1) := by decide +kernel
theorem dX9_warpsOn_31 : decode cX9_warpsOn 31 = .ok (.if_icmp .ne 7, 3) := by decide +kernel
theorem dX9_warpsOn_34 : decode cX9_warpsOn 34 = .ok (.iconst 1, 1) := by decide +kernel
theorem dX9_warpsOn_35 : decode cX9_warpsOn 35 = .ok (.goto 4, 3) := by decide +kernel
theorem dX9_warpsOn_38 : decode cX9_warpsOn 38 = .ok (.iconst 0, 1) := by decide +kernel
theorem dX9_warpsOn_39 : decode cX9_warpsOn 39 = .ok (.invokestatic 324, 3) := by decide +kernel
theorem dX9_warpsOn_42 : decode cX9_warpsOn 42 = .ok (.iadd, 1) := by decide +kernel
theorem dX9_warpsOn_43 : decode cX9_warpsOn 43 = .ok (.istore_n 2, 1) := by decide +kernel
theorem dX9_warpsOn_44 : decode cX9_warpsOn 44 = .ok (.iinc 3 1, 3) := by decide +kernel
theorem dX9_warpsOn_47 : decode cX9_warpsOn 47 = .ok (.goto (-33), 3) := by decide +kernel
theorem dX9_warpsOn_50 : decode cX9_warpsOn 50 = .ok (.iload_n 2, 1) := by decide +kernel
theorem dX9_warpsOn_51 : decode cX9_warpsOn 51 = .ok (.ireturn, 1) := by decide +kernel
theorem dX9_isBroken_0 : decode cX9_isBroken 0 = .ok (.aload_n 0, 1) := by decide +kernel
theorem dX9_isBroken_1 : decode cX9_isBroken 1 = .ok (.iload_n 1, 1) := by decide +kernel
theorem dX9_isBroken_2 : decode cX9_isBroken 2 = .ok (.invokevirtual 415, 3) := by decide +kernel
theorem dX9_isBroken_5 : decode cX9_isBroken 5 = .ok (.ifCond .eq 15, 3) := by decide +kernel
theorem dX9_isBroken_8 : decode cX9_isBroken 8 = .ok (.aload_n 0, 1) := by decide +kernel
theorem dX9_isBroken_9 : decode cX9_isBroken 9 = .ok (.iload_n 1, 1) := by decide +kernel
theorem dX9_isBroken_10 : decode cX9_isBroken 10 = .ok (.invokevirtual 235, 3) := by decide +kernel
theorem dX9_isBroken_13 : decode cX9_isBroken 13 = .ok (.ifCond .eq 7, 3) := by decide +kernel
theorem dX9_isBroken_16 : decode cX9_isBroken 16 = .ok (.iconst 1, 1) := by decide +kernel
theorem dX9_isBroken_17 : decode cX9_isBroken 17 = .ok (.goto 4, 3) := by decide +kernel
theorem dX9_isBroken_20 : decode cX9_isBroken 20 = .ok (.iconst 0, 1) := by decide +kernel
theorem dX9_isBroken_21 : decode cX9_isBroken 21 = .ok (.ireturn, 1) := by decide +kernel
theorem dX9_brokenCount_0 : decode cX9_brokenCount 0 = .ok (.aload_n 0, 1) := by decide +kernel
theorem dX9_brokenCount_1 : decode cX9_brokenCount 1 = .ok (.invokevirtual 409, 3) := by decide +kernel
theorem dX9_brokenCount_4 : decode cX9_brokenCount 4 = .ok (.ifCond .eq 10, 3) := by decide +kernel
theorem dX9_brokenCount_7 : decode cX9_brokenCount 7 = .ok (.aload_n 0, 1) := by decide +kernel
theorem dX9_brokenCount_8 : decode cX9_brokenCount 8 = .ok (.invokevirtual 421, 3) := by decide +kernel
theorem dX9_brokenCount_11 : decode cX9_brokenCount 11 = .ok (.goto 4, 3) := by decide +kernel
theorem dX9_brokenCount_14 : decode cX9_brokenCount 14 = .ok (.iconst 0, 1) := by decide +kernel
theorem dX9_brokenCount_15 : decode cX9_brokenCount 15 = .ok (.ireturn, 1) := by decide +kernel
theorem dX9_isLifted_0 : decode cX9_isLifted 0 = .ok (.aload_n 0, 1) := by decide +kernel
theorem dX9_isLifted_1 : decode cX9_isLifted 1 = .ok (.iload_n 1, 1) := by decide +kernel
theorem dX9_isLifted_2 : decode cX9_isLifted 2 = .ok (.invokevirtual 418, 3) := by decide +kernel
theorem dX9_isLifted_5 : decode cX9_isLifted 5 = .ok (.ifCond .eq 17, 3) := by decide +kernel
theorem dX9_isLifted_8 : decode cX9_isLifted 8 = .ok (.aload_n 0, 1) := by decide +kernel
theorem dX9_isLifted_9 : decode cX9_isLifted 9 = .ok (.iload_n 1, 1) := by decide +kernel
theorem dX9_isLifted_10 : decode cX9_isLifted 10 = .ok (.iconst 0, 1) := by decide +kernel
theorem dX9_isLifted_11 : decode cX9_isLifted 11 = .ok (.invokevirtual 346, 3) := by decide +kernel
theorem dX9_isLifted_14 : decode cX9_isLifted 14 = .ok (.iconst 1, 1) := by decide +kernel
theorem dX9_isLifted_15 : decode cX9_isLifted 15 = .ok (.if_icmp .ne 7, 3) := by decide +kernel
theorem dX9_isLifted_18 : decode cX9_isLifted 18 = .ok (.iconst 1, 1) := by decide +kernel
theorem dX9_isLifted_19 : decode cX9_isLifted 19 = .ok (.goto 4, 3) := by decide +kernel
theorem dX9_isLifted_22 : decode cX9_isLifted 22 = .ok (.iconst 0, 1) := by decide +kernel
theorem dX9_isLifted_23 : decode cX9_isLifted 23 = .ok (.ireturn, 1) := by decide +kernel
theorem dX9_wear_0 : decode cX9_wear 0 = .ok (.aload_n 0, 1) := by decide +kernel
theorem dX9_wear_1 : decode cX9_wear 1 = .ok (.iload_n 1, 1) := by decide +kernel
theorem dX9_wear_2 : decode cX9_wear 2 = .ok (.invokevirtual 418, 3) := by decide +kernel
theorem dX9_wear_5 : decode cX9_wear 5 = .ok (.ifCond .eq 12, 3) := by decide +kernel
theorem dX9_wear_8 : decode cX9_wear 8 = .ok (.aload_n 0, 1) := by decide +kernel
theorem dX9_wear_9 : decode cX9_wear 9 = .ok (.iload_n 1, 1) := by decide +kernel
theorem dX9_wear_10 : decode cX9_wear 10 = .ok (.iconst 1, 1) := by decide +kernel
theorem dX9_wear_11 : decode cX9_wear 11 = .ok (.invokevirtual 346, 3) := by decide +kernel
theorem dX9_wear_14 : decode cX9_wear 14 = .ok (.goto 4, 3) := by decide +kernel
theorem dX9_wear_17 : decode cX9_wear 17 = .ok (.iconst 0, 1) := by decide +kernel
theorem dX9_wear_18 : decode cX9_wear 18 = .ok (.ireturn, 1) := by decide +kernel
theorem dX9_isStuck_0 : decode cX9_isStuck 0 = .ok (.aload_n 0, 1) := by decide +kernel
theorem dX9_isStuck_1 : decode cX9_isStuck 1 = .ok (.iload_n 1, 1) := by decide +kernel
theorem dX9_isStuck_2 : decode cX9_isStuck 2 = .ok (.invokevirtual 418, 3) := by decide +kernel
theorem dX9_isStuck_5 : decode cX9_isStuck 5 = .ok (.ifCond .eq 17, 3) := by decide +kernel
theorem dX9_isStuck_8 : decode cX9_isStuck 8 = .ok (.aload_n 0, 1) := by decide +kernel
theorem dX9_isStuck_9 : decode cX9_isStuck 9 = .ok (.iload_n 1, 1) := by decide +kernel
theorem dX9_isStuck_10 : decode cX9_isStuck 10 = .ok (.iconst 2, 1) := by decide +kernel
theorem dX9_isStuck_11 : decode cX9_isStuck 11 = .ok (.invokevirtual 346, 3) := by decide +kernel
theorem dX9_isStuck_14 : decode cX9_isStuck 14 = .ok (.iconst 1, 1) := by decide +kernel
theorem dX9_isStuck_15 : decode cX9_isStuck 15 = .ok (.if_icmp .ne 7, 3) := by decide +kernel
theorem dX9_isStuck_18 : decode cX9_isStuck 18 = .ok (.iconst 1, 1) := by decide +kernel
theorem dX9_isStuck_19 : decode cX9_isStuck 19 = .ok (.goto 4, 3) := by decide +kernel
theorem dX9_isStuck_22 : decode cX9_isStuck 22 = .ok (.iconst 0, 1) := by decide +kernel
theorem dX9_isStuck_23 : decode cX9_isStuck 23 = .ok (.ireturn, 1) := by decide +kernel
theorem dX9_cardCount_0 : decode cX9_cardCount 0 = .ok (.aload_n 0, 1) := by decide +kernel
theorem dX9_cardCount_1 : decode cX9_cardCount 1 = .ok (.iconst 3, 1) := by decide +kernel
theorem dX9_cardCount_2 : decode cX9_cardCount 2 = .ok (.invokevirtual 412, 3) := by decide +kernel
theorem dX9_cardCount_5 : decode cX9_cardCount 5 = .ok (.ireturn, 1) := by decide +kernel
theorem dX9_lifts_0 : decode cX9_lifts 0 = .ok (.aload_n 0, 1) := by decide +kernel
theorem dX9_lifts_1 : decode cX9_lifts 1 = .ok (.aload_n 0, 1) := by decide +kernel
theorem dX9_lifts_2 : decode cX9_lifts 2 = .ok (.getfield 53, 3) := by decide +kernel
theorem dX9_lifts_5 : decode cX9_lifts 5 = .ok (.aload_n 0, 1) := by decide +kernel
theorem dX9_lifts_6 : decode cX9_lifts 6 = .ok (.iload_n 1, 1) := by decide +kernel
theorem dX9_lifts_7 : decode cX9_lifts 7 = .ok (.invokevirtual 400, 3) := by decide +kernel
theorem dX9_lifts_10 : decode cX9_lifts 10 = .ok (.ifCond .eq 15, 3) := by decide +kernel
theorem dX9_lifts_13 : decode cX9_lifts 13 = .ok (.aload_n 0, 1) := by decide +kernel
theorem dX9_lifts_14 : decode cX9_lifts 14 = .ok (.iload_n 2, 1) := by decide +kernel
theorem dX9_lifts_15 : decode cX9_lifts 15 = .ok (.invokevirtual 390, 3) := by decide +kernel
theorem dX9_lifts_18 : decode cX9_lifts 18 = .ok (.ifCond .eq 7, 3) := by decide +kernel
theorem dX9_lifts_21 : decode cX9_lifts 21 = .ok (.iconst 1, 1) := by decide +kernel
theorem dX9_lifts_22 : decode cX9_lifts 22 = .ok (.goto 4, 3) := by decide +kernel
theorem dX9_lifts_25 : decode cX9_lifts 25 = .ok (.iconst 0, 1) := by decide +kernel
theorem dX9_lifts_26 : decode cX9_lifts 26 = .ok (.invokevirtual 393, 3) := by decide +kernel
theorem dX9_lifts_29 : decode cX9_lifts 29 = .ok (.ifCond .eq 20, 3) := by decide +kernel
theorem dX9_lifts_32 : decode cX9_lifts 32 = .ok (.aload_n 0, 1) := by decide +kernel
theorem dX9_lifts_33 : decode cX9_lifts 33 = .ok (.iload_n 1, 1) := by decide +kernel
theorem dX9_lifts_34 : decode cX9_lifts 34 = .ok (.iconst 0, 1) := by decide +kernel
theorem dX9_lifts_35 : decode cX9_lifts 35 = .ok (.invokevirtual 232, 3) := by decide +kernel
theorem dX9_lifts_38 : decode cX9_lifts 38 = .ok (.iload_n 2, 1) := by decide +kernel
theorem dX9_lifts_39 : decode cX9_lifts 39 = .ok (.invokestatic 147, 3) := by decide +kernel
theorem dX9_lifts_42 : decode cX9_lifts 42 = .ok (.ifCond .eq 7, 3) := by decide +kernel
theorem dX9_lifts_45 : decode cX9_lifts 45 = .ok (.iconst 1, 1) := by decide +kernel
theorem dX9_lifts_46 : decode cX9_lifts 46 = .ok (.goto 4, 3) := by decide +kernel
theorem dX9_lifts_49 : decode cX9_lifts 49 = .ok (.iconst 0, 1) := by decide +kernel
theorem dX9_lifts_50 : decode cX9_lifts 50 = .ok (.ireturn, 1) := by decide +kernel
theorem dX9_cardColour_0 : decode cX9_cardColour 0 = .ok (.aload_n 0, 1) := by decide +kernel
theorem dX9_cardColour_1 : decode cX9_cardColour 1 = .ok (.iload_n 1, 1) := by decide +kernel
theorem dX9_cardColour_2 : decode cX9_cardColour 2 = .ok (.invokevirtual 424, 3) := by decide +kernel
theorem dX9_cardColour_5 : decode cX9_cardColour 5 = .ok (.ifCond .eq 12, 3) := by decide +kernel
theorem dX9_cardColour_8 : decode cX9_cardColour 8 = .ok (.aload_n 0, 1) := by decide +kernel
theorem dX9_cardColour_9 : decode cX9_cardColour 9 = .ok (.iload_n 1, 1) := by decide +kernel
theorem dX9_cardColour_10 : decode cX9_cardColour 10 = .ok (.iconst 1, 1) := by decide +kernel
theorem dX9_cardColour_11 : decode cX9_cardColour 11 = .ok (.invokevirtual 232, 3) := by decide +kernel
theorem dX9_cardColour_14 : decode cX9_cardColour 14 = .ok (.goto 4, 3) := by decide +kernel
theorem dX9_cardColour_17 : decode cX9_cardColour 17 = .ok (.iconst 0, 1) := by decide +kernel
theorem dX9_cardColour_18 : decode cX9_cardColour 18 = .ok (.ireturn, 1) := by decide +kernel
theorem dX9_liftedWarps_0 : decode cX9_liftedWarps 0 = .ok (.aload_n 0, 1) := by decide +kernel
theorem dX9_liftedWarps_1 : decode cX9_liftedWarps 1 = .ok (.iload_n 1, 1) := by decide +kernel
theorem dX9_liftedWarps_2 : decode cX9_liftedWarps 2 = .ok (.invokevirtual 424, 3) := by decide +kernel
theorem dX9_liftedWarps_5 : decode cX9_liftedWarps 5 = .ok (.ifCond .eq 11, 3) := by decide +kernel
theorem dX9_liftedWarps_8 : decode cX9_liftedWarps 8 = .ok (.aload_n 0, 1) := by decide +kernel
theorem dX9_liftedWarps_9 : decode cX9_liftedWarps 9 = .ok (.iload_n 1, 1) := by decide +kernel
theorem dX9_liftedWarps_10 : decode cX9_liftedWarps 10 = .ok (.invokevirtual 337, 3) := by decide +kernel
theorem dX9_liftedWarps_13 : decode cX9_liftedWarps 13 = .ok (.goto 4, 3) := by decide +kernel
theorem dX9_liftedWarps_16 : decode cX9_liftedWarps 16 = .ok (.iconst 0, 1) := by decide +kernel
theorem dX9_liftedWarps_17 : decode cX9_liftedWarps 17 = .ok (.ireturn, 1) := by decide +kernel
theorem dX9_countOf_0 : decode cX9_countOf 0 = .ok (.iconst 0, 1) := by decide +kernel
theorem dX9_countOf_1 : decode cX9_countOf 1 = .ok (.istore_n 1, 1) := by decide +kernel
theorem dX9_countOf_2 : decode cX9_countOf 2 = .ok (.iconst 0, 1) := by decide +kernel
theorem dX9_countOf_3 : decode cX9_countOf 3 = .ok (.istore_n 2, 1) := by decide +kernel
theorem dX9_countOf_4 : decode cX9_countOf 4 = .ok (.iload_n 2, 1) := by decide +kernel
theorem dX9_countOf_5 : decode cX9_countOf 5 = .ok (.bipush 8, 2) := by decide +kernel
theorem dX9_countOf_7 : decode cX9_countOf 7 = .ok (.if_icmp .ge 20, 3) := by decide +kernel
theorem dX9_countOf_10 : decode cX9_countOf 10 = .ok (.iload_n 1, 1) := by decide +kernel
theorem dX9_countOf_11 : decode cX9_countOf 11 = .ok (.iload_n 0, 1) := by decide +kernel
theorem dX9_countOf_12 : decode cX9_countOf 12 = .ok (.iload_n 2, 1) := by decide +kernel
theorem dX9_countOf_13 : decode cX9_countOf 13 = .ok (.invokestatic 147, 3) := by decide +kernel
theorem dX9_countOf_16 : decode cX9_countOf 16 = .ok (.invokestatic 324, 3) := by decide +kernel
theorem dX9_countOf_19 : decode cX9_countOf 19 = .ok (.iadd, 1) := by decide +kernel
theorem dX9_countOf_20 : decode cX9_countOf 20 = .ok (.istore_n 1, 1) := by decide +kernel
theorem dX9_countOf_21 : decode cX9_countOf 21 = .ok (.iinc 2 1, 3) := by decide +kernel
theorem dX9_countOf_24 : decode cX9_countOf 24 = .ok (.goto (-20), 3) := by decide +kernel
theorem dX9_countOf_27 : decode cX9_countOf 27 = .ok (.iload_n 1, 1) := by decide +kernel
theorem dX9_countOf_28 : decode cX9_countOf 28 = .ok (.ireturn, 1) := by decide +kernel
theorem dX9_liftDistance_0 : decode cX9_liftDistance 0 = .ok (.aload_n 0, 1) := by decide +kernel
theorem dX9_liftDistance_1 : decode cX9_liftDistance 1 = .ok (.iload_n 1, 1) := by decide +kernel
theorem dX9_liftDistance_2 : decode cX9_liftDistance 2 = .ok (.iload_n 2, 1) := by decide +kernel
theorem dX9_liftDistance_3 : decode cX9_liftDistance 3 = .ok (.invokevirtual 427, 3) := by decide +kernel
theorem dX9_liftDistance_6 : decode cX9_liftDistance 6 = .ok (.ifCond .eq 22, 3) := by decide +kernel
theorem dX9_liftDistance_9 : decode cX9_liftDistance 9 = .ok (.aload_n 0, 1) := by decide +kernel
theorem dX9_liftDistance_10 : decode cX9_liftDistance 10 = .ok (.iload_n 1, 1) := by decide +kernel
theorem dX9_liftDistance_11 : decode cX9_liftDistance 11 = .ok (.iconst 0, 1) := by decide +kernel
theorem dX9_liftDistance_12 : decode cX9_liftDistance 12 = .ok (.invokevirtual 232, 3) := by decide +kernel
theorem dX9_liftDistance_15 : decode cX9_liftDistance 15 = .ok (.aload_n 0, 1) := by decide +kernel
theorem dX9_liftDistance_16 : decode cX9_liftDistance 16 = .ok (.iload_n 2, 1) := by decide +kernel
theorem dX9_liftDistance_17 : decode cX9_liftDistance 17 = .ok (.iconst 0, 1) := by decide +kernel
theorem dX9_liftDistance_18 : decode cX9_liftDistance 18 = .ok (.invokevirtual 232, 3) := by decide +kernel
theorem dX9_liftDistance_21 : decode cX9_liftDistance 21 = .ok (.ixor, 1) := by decide +kernel
theorem dX9_liftDistance_22 : decode cX9_liftDistance 22 = .ok (.invokestatic 430, 3) := by decide +kernel
theorem dX9_liftDistance_25 : decode cX9_liftDistance 25 = .ok (.goto 4, 3) := by decide +kernel
theorem dX9_liftDistance_28 : decode cX9_liftDistance 28 = .ok (.iconst 0, 1) := by decide +kernel
theorem dX9_liftDistance_29 : decode cX9_liftDistance 29 = .ok (.ireturn, 1) := by decide +kernel
theorem dX9_oppositeCard_0 : decode cX9_oppositeCard 0 = .ok (.aload_n 0, 1) := by decide +kernel
theorem dX9_oppositeCard_1 : decode cX9_oppositeCard 1 = .ok (.iload_n 1, 1) := by decide +kernel
theorem dX9_oppositeCard_2 : decode cX9_oppositeCard 2 = .ok (.invokevirtual 424, 3) := by decide +kernel
theorem dX9_oppositeCard_5 : decode cX9_oppositeCard 5 = .ok (.ifCond .ne 5, 3) := by decide +kernel
theorem dX9_oppositeCard_8 : decode cX9_oppositeCard 8 = .ok (.iconst 0, 1) := by decide +kernel
theorem dX9_oppositeCard_9 : decode cX9_oppositeCard 9 = .ok (.ireturn, 1) := by decide +kernel
theorem dX9_oppositeCard_10 : decode cX9_oppositeCard 10 = .ok (.iconst 0, 1) := by decide +kernel
theorem dX9_oppositeCard_11 : decode cX9_oppositeCard 11 = .ok (.istore_n 2, 1) := by decide +kernel
theorem dX9_oppositeCard_12 : decode cX9_oppositeCard 12 = .ok (.iload_n 2, 1) := by decide +kernel
theorem dX9_oppositeCard_13 : decode cX9_oppositeCard 13 = .ok (.aload_n 0, 1) := by decide +kernel
theorem dX9_oppositeCard_14 : decode cX9_oppositeCard 14 = .ok (.getfield 9, 3) := by decide +kernel
theorem dX9_oppositeCard_17 : decode cX9_oppositeCard 17 = .ok (.iconst 3, 1) := by decide +kernel
theorem dX9_oppositeCard_18 : decode cX9_oppositeCard 18 = .ok (.iaload, 1) := by decide +kernel
theorem dX9_oppositeCard_19 : decode cX9_oppositeCard 19 = .ok (.if_icmp .ge 36, 3) := by decide +kernel
theorem dX9_oppositeCard_22 : decode cX9_oppositeCard 22 = .ok (.aload_n 0, 1) := by decide +kernel
theorem dX9_oppositeCard_23 : decode cX9_oppositeCard 23 = .ok (.iload_n 1, 1) := by decide +kernel
theorem dX9_oppositeCard_24 : decode cX9_oppositeCard 24 = .ok (.iconst 0, 1) := by decide +kernel
theorem dX9_oppositeCard_25 : decode cX9_oppositeCard 25 = .ok (.invokevirtual 232, 3) := by decide +kernel
theorem dX9_oppositeCard_28 : decode cX9_oppositeCard 28 = .ok (.aload_n 0, 1) := by decide +kernel
theorem dX9_oppositeCard_29 : decode cX9_oppositeCard 29 = .ok (.iload_n 2, 1) := by decide +kernel
theorem dX9_oppositeCard_30 : decode cX9_oppositeCard 30 = .ok (.iconst 0, 1) := by decide +kernel
theorem dX9_oppositeCard_31 : decode cX9_oppositeCard 31 = .ok (.invokevirtual 232, 3) := by decide +kernel
theorem dX9_oppositeCard_34 : decode cX9_oppositeCard 34 = .ok (.ixor, 1) := by decide +kernel
theorem dX9_oppositeCard_35 : decode cX9_oppositeCard 35 = .ok (.invokestatic 430, 3) := by decide +kernel
theorem dX9_oppositeCard_38 : decode cX9_oppositeCard 38 = .ok (.aload_n 0, 1) := by decide +kernel
theorem dX9_oppositeCard_39 : decode cX9_oppositeCard 39 = .ok (.getfield 9, 3) := by decide +kernel
theorem dX9_oppositeCard_42 : decode cX9_oppositeCard 42 = .ok (.iconst 0, 1) := by decide +kernel
theorem dX9_oppositeCard_43 : decode cX9_oppositeCard 43 = .ok (.iaload, 1) := by decide +kernel
theorem dX9_oppositeCard_44 : decode cX9_oppositeCard 44 = .ok (.if_icmp .ne 5, 3) := by decide +kernel
theorem dX9_oppositeCard_47 : decode cX9_oppositeCard 47 = .ok (.iload_n 2, 1) := by decide +kernel
theorem dX9_oppositeCard_48 : decode cX9_oppositeCard 48 = .ok (.ireturn, 1) := by decide +kernel
theorem dX9_oppositeCard_49 : decode cX9_oppositeCard 49 = .ok (.iinc 2 1, 3) := by decide +kernel
theorem dX9_oppositeCard_52 : decode cX9_oppositeCard 52 = .ok (.goto (-40), 3) := by decide +kernel
theorem dX9_oppositeCard_55 : decode cX9_oppositeCard 55 = .ok (.iconst (-1), 1) := by decide +kernel
theorem dX9_oppositeCard_56 : decode cX9_oppositeCard 56 = .ok (.ireturn, 1) := by decide +kernel
theorem dX9_deckLength_0 : decode cX9_deckLength 0 = .ok (.aload_n 0, 1) := by decide +kernel
theorem dX9_deckLength_1 : decode cX9_deckLength 1 = .ok (.iconst 4, 1) := by decide +kernel
theorem dX9_deckLength_2 : decode cX9_deckLength 2 = .ok (.invokevirtual 412, 3) := by decide +kernel
theorem dX9_deckLength_5 : decode cX9_deckLength 5 = .ok (.ireturn, 1) := by decide +kernel
theorem dX9_deckCard_0 : decode cX9_deckCard 0 = .ok (.aload_n 0, 1) := by decide +kernel
theorem dX9_deckCard_1 : decode cX9_deckCard 1 = .ok (.aload_n 0, 1) := by decide +kernel
theorem dX9_deckCard_2 : decode cX9_deckCard 2 = .ok (.getfield 53, 3) := by decide +kernel
theorem dX9_deckCard_5 : decode cX9_deckCard 5 = .ok (.aload_n 0, 1) := by decide +kernel
theorem dX9_deckCard_6 : decode cX9_deckCard 6 = .ok (.getfield 53, 3) := by decide +kernel
theorem dX9_deckCard_9 : decode cX9_deckCard 9 = .ok (.ifCond .eq 23, 3) := by decide +kernel
theorem dX9_deckCard_12 : decode cX9_deckCard 12 = .ok (.iload_n 1, 1) := by decide +kernel
theorem dX9_deckCard_13 : decode cX9_deckCard 13 = .ok (.iconst 0, 1) := by decide +kernel
theorem dX9_deckCard_14 : decode cX9_deckCard 14 = .ok (.aload_n 0, 1) := by decide +kernel
theorem dX9_deckCard_15 : decode cX9_deckCard 15 = .ok (.getfield 9, 3) := by decide +kernel
theorem dX9_deckCard_18 : decode cX9_deckCard 18 = .ok (.iconst 4, 1) := by decide +kernel
theorem dX9_deckCard_19 : decode cX9_deckCard 19 = .ok (.iaload, 1) := by decide +kernel
theorem dX9_deckCard_20 : decode cX9_deckCard 20 = .ok (.iconst 1, 1) := by decide +kernel
theorem dX9_deckCard_21 : decode cX9_deckCard 21 = .ok (.isub, 1) := by decide +kernel
theorem dX9_deckCard_22 : decode cX9_deckCard 22 = .ok (.invokestatic 78, 3) := by decide +kernel
theorem dX9_deckCard_25 : decode cX9_deckCard 25 = .ok (.ifCond .eq 7, 3) := by decide +kernel
theorem dX9_deckCard_28 : decode cX9_deckCard 28 = .ok (.iconst 1, 1) := by decide +kernel
theorem dX9_deckCard_29 : decode cX9_deckCard 29 = .ok (.goto 4, 3) := by decide +kernel
theorem dX9_deckCard_32 : decode cX9_deckCard 32 = .ok (.iconst 0, 1) := by decide +kernel
theorem dX9_deckCard_33 : decode cX9_deckCard 33 = .ok (.invokevirtual 393, 3) := by decide +kernel
theorem dX9_deckCard_36 : decode cX9_deckCard 36 = .ok (.ifCond .eq 16, 3) := by decide +kernel
theorem dX9_deckCard_39 : decode cX9_deckCard 39 = .ok (.aload_n 0, 1) := by decide +kernel
theorem dX9_deckCard_40 : decode cX9_deckCard 40 = .ok (.getfield 9, 3) := by decide +kernel
theorem dX9_deckCard_43 : decode cX9_deckCard 43 = .ok (.sipush 164, 3) := by decide +kernel
theorem dX9_deckCard_46 : decode cX9_deckCard 46 = .ok (.iload_n 1, 1) := by decide +kernel
theorem dX9_deckCard_47 : decode cX9_deckCard 47 = .ok (.iadd, 1) := by decide +kernel
theorem dX9_deckCard_48 : decode cX9_deckCard 48 = .ok (.iaload, 1) := by decide +kernel
theorem dX9_deckCard_49 : decode cX9_deckCard 49 = .ok (.goto 4, 3) := by decide +kernel
theorem dX9_deckCard_52 : decode cX9_deckCard 52 = .ok (.iconst 0, 1) := by decide +kernel
theorem dX9_deckCard_53 : decode cX9_deckCard 53 = .ok (.ireturn, 1) := by decide +kernel
theorem dX9_usesOf_0 : decode cX9_usesOf 0 = .ok (.iconst 0, 1) := by decide +kernel
theorem dX9_usesOf_1 : decode cX9_usesOf 1 = .ok (.istore_n 3, 1) := by decide +kernel
theorem dX9_usesOf_2 : decode cX9_usesOf 2 = .ok (.iconst 0, 1) := by decide +kernel
theorem dX9_usesOf_3 : decode cX9_usesOf 3 = .ok (.istore 4, 2) := by decide +kernel
theorem dX9_usesOf_5 : decode cX9_usesOf 5 = .ok (.iload 4, 2) := by decide +kernel
theorem dX9_usesOf_7 : decode cX9_usesOf 7 = .ok (.aload_n 0, 1) := by decide +kernel
theorem dX9_usesOf_8 : decode cX9_usesOf 8 = .ok (.getfield 9, 3) := by decide +kernel
theorem dX9_usesOf_11 : decode cX9_usesOf 11 = .ok (.iconst 4, 1) := by decide +kernel
theorem dX9_usesOf_12 : decode cX9_usesOf 12 = .ok (.iaload, 1) := by decide +kernel
theorem dX9_usesOf_13 : decode cX9_usesOf 13 = .ok (.if_icmp .ge 50, 3) := by decide +kernel
theorem dX9_usesOf_16 : decode cX9_usesOf 16 = .ok (.iload_n 3, 1) := by decide +kernel
theorem dX9_usesOf_17 : decode cX9_usesOf 17 = .ok (.aload_n 0, 1) := by decide +kernel
theorem dX9_usesOf_18 : decode cX9_usesOf 18 = .ok (.getfield 9, 3) := by decide +kernel
theorem dX9_usesOf_21 : decode cX9_usesOf 21 = .ok (.sipush 164, 3) := by decide +kernel
theorem dX9_usesOf_24 : decode cX9_usesOf 24 = .ok (.iload 4, 2) := by decide +kernel
theorem dX9_usesOf_26 : decode cX9_usesOf 26 = .ok (.iadd, 1) := by decide +kernel
theorem dX9_usesOf_27 : decode cX9_usesOf 27 = .ok (.iaload, 1) := by decide +kernel
theorem dX9_usesOf_28 : decode cX9_usesOf 28 = .ok (.iload_n 1, 1) := by decide +kernel
theorem dX9_usesOf_29 : decode cX9_usesOf 29 = .ok (.if_icmp .eq 18, 3) := by decide +kernel
theorem dX9_usesOf_32 : decode cX9_usesOf 32 = .ok (.aload_n 0, 1) := by decide +kernel
theorem dX9_usesOf_33 : decode cX9_usesOf 33 = .ok (.getfield 9, 3) := by decide +kernel
theorem dX9_usesOf_36 : decode cX9_usesOf 36 = .ok (.sipush 164, 3) := by decide +kernel
theorem dX9_usesOf_39 : decode cX9_usesOf 39 = .ok (.iload 4, 2) := by decide +kernel
theorem dX9_usesOf_41 : decode cX9_usesOf 41 = .ok (.iadd, 1) := by decide +kernel
theorem dX9_usesOf_42 : decode cX9_usesOf 42 = .ok (.iaload, 1) := by decide +kernel
theorem dX9_usesOf_43 : decode cX9_usesOf 43 = .ok (.iload_n 2, 1) := by decide +kernel
theorem dX9_usesOf_44 : decode cX9_usesOf 44 = .ok (.if_icmp .ne 7, 3) := by decide +kernel
theorem dX9_usesOf_47 : decode cX9_usesOf 47 = .ok (.iconst 1, 1) := by decide +kernel
theorem dX9_usesOf_48 : decode cX9_usesOf 48 = .ok (.goto 4, 3) := by decide +kernel
theorem dX9_usesOf_51 : decode cX9_usesOf 51 = .ok (.iconst 0, 1) := by decide +kernel
theorem dX9_usesOf_52 : decode cX9_usesOf 52 = .ok (.invokestatic 324, 3) := by decide +kernel
theorem dX9_usesOf_55 : decode cX9_usesOf 55 = .ok (.iadd, 1) := by decide +kernel
theorem dX9_usesOf_56 : decode cX9_usesOf 56 = .ok (.istore_n 3, 1) := by decide +kernel
theorem dX9_usesOf_57 : decode cX9_usesOf 57 = .ok (.iinc 4 1, 3) := by decide +kernel
theorem dX9_usesOf_60 : decode cX9_usesOf 60 = .ok (.goto (-55), 3) := by decide +kernel
theorem dX9_usesOf_63 : decode cX9_usesOf 63 = .ok (.iload_n 3, 1) := by decide +kernel
theorem dX9_usesOf_64 : decode cX9_usesOf 64 = .ok (.ireturn, 1) := by decide +kernel
theorem dX9_cardUses_0 : decode cX9_cardUses 0 = .ok (.aload_n 0, 1) := by decide +kernel
theorem dX9_cardUses_1 : decode cX9_cardUses 1 = .ok (.iload_n 1, 1) := by decide +kernel
theorem dX9_cardUses_2 : decode cX9_cardUses 2 = .ok (.invokevirtual 424, 3) := by decide +kernel
theorem dX9_cardUses_5 : decode cX9_cardUses 5 = .ok (.ifCond .eq 12, 3) := by decide +kernel
theorem dX9_cardUses_8 : decode cX9_cardUses 8 = .ok (.aload_n 0, 1) := by decide +kernel
theorem dX9_cardUses_9 : decode cX9_cardUses 9 = .ok (.iload_n 1, 1) := by decide +kernel
theorem dX9_cardUses_10 : decode cX9_cardUses 10 = .ok (.iload_n 1, 1) := by decide +kernel
theorem dX9_cardUses_11 : decode cX9_cardUses 11 = .ok (.invokevirtual 433, 3) := by decide +kernel
theorem dX9_cardUses_14 : decode cX9_cardUses 14 = .ok (.goto 4, 3) := by decide +kernel
theorem dX9_cardUses_17 : decode cX9_cardUses 17 = .ok (.iconst 0, 1) := by decide +kernel
theorem dX9_cardUses_18 : decode cX9_cardUses 18 = .ok (.ireturn, 1) := by decide +kernel
theorem dX9_deckDepth_0 : decode cX9_deckDepth 0 = .ok (.aload_n 0, 1) := by decide +kernel
theorem dX9_deckDepth_1 : decode cX9_deckDepth 1 = .ok (.bipush 7, 2) := by decide +kernel
theorem dX9_deckDepth_3 : decode cX9_deckDepth 3 = .ok (.invokevirtual 412, 3) := by decide +kernel
theorem dX9_deckDepth_6 : decode cX9_deckDepth 6 = .ok (.ireturn, 1) := by decide +kernel
theorem dX9_isPeriod_0 : decode cX9_isPeriod 0 = .ok (.iload_n 1, 1) := by decide +kernel
theorem dX9_isPeriod_1 : decode cX9_isPeriod 1 = .ok (.istore_n 2, 1) := by decide +kernel
theorem dX9_isPeriod_2 : decode cX9_isPeriod 2 = .ok (.iload_n 2, 1) := by decide +kernel
theorem dX9_isPeriod_3 : decode cX9_isPeriod 3 = .ok (.aload_n 0, 1) := by decide +kernel
theorem dX9_isPeriod_4 : decode cX9_isPeriod 4 = .ok (.getfield 9, 3) := by decide +kernel
theorem dX9_isPeriod_7 : decode cX9_isPeriod 7 = .ok (.iconst 4, 1) := by decide +kernel
theorem dX9_isPeriod_8 : decode cX9_isPeriod 8 = .ok (.iaload, 1) := by decide +kernel
theorem dX9_isPeriod_9 : decode cX9_isPeriod 9 = .ok (.if_icmp .ge 36, 3) := by decide +kernel
theorem dX9_isPeriod_12 : decode cX9_isPeriod 12 = .ok (.aload_n 0, 1) := by decide +kernel
theorem dX9_isPeriod_13 : decode cX9_isPeriod 13 = .ok (.getfield 9, 3) := by decide +kernel
theorem dX9_isPeriod_16 : decode cX9_isPeriod 16 = .ok (.sipush 164, 3) := by decide +kernel
theorem dX9_isPeriod_19 : decode cX9_isPeriod 19 = .ok (.iload_n 2, 1) := by decide +kernel
theorem dX9_isPeriod_20 : decode cX9_isPeriod 20 = .ok (.iadd, 1) := by decide +kernel
theorem dX9_isPeriod_21 : decode cX9_isPeriod 21 = .ok (.iaload, 1) := by decide +kernel
theorem dX9_isPeriod_22 : decode cX9_isPeriod 22 = .ok (.aload_n 0, 1) := by decide +kernel
theorem dX9_isPeriod_23 : decode cX9_isPeriod 23 = .ok (.getfield 9, 3) := by decide +kernel
theorem dX9_isPeriod_26 : decode cX9_isPeriod 26 = .ok (.sipush 164, 3) := by decide +kernel
theorem dX9_isPeriod_29 : decode cX9_isPeriod 29 = .ok (.iload_n 2, 1) := by decide +kernel
theorem dX9_isPeriod_30 : decode cX9_isPeriod 30 = .ok (.iadd, 1) := by decide +kernel
theorem dX9_isPeriod_31 : decode cX9_isPeriod 31 = .ok (.iload_n 1, 1) := by decide +kernel
theorem dX9_isPeriod_32 : decode cX9_isPeriod 32 = .ok (.isub, 1) := by decide +kernel
theorem dX9_isPeriod_33 : decode cX9_isPeriod 33 = .ok (.iaload, 1) := by decide +kernel
theorem dX9_isPeriod_34 : decode cX9_isPeriod 34 = .ok (.if_icmp .eq 5, 3) := by decide +kernel
theorem dX9_isPeriod_37 : decode cX9_isPeriod 37 = .ok (.iconst 0, 1) := by decide +kernel
theorem dX9_isPeriod_38 : decode cX9_isPeriod 38 = .ok (.ireturn, 1) := by decide +kernel
theorem dX9_isPeriod_39 : decode cX9_isPeriod 39 = .ok (.iinc 2 1, 3) := by decide +kernel
theorem dX9_isPeriod_42 : decode cX9_isPeriod 42 = .ok (.goto (-40), 3) := by decide +kernel
theorem dX9_isPeriod_45 : decode cX9_isPeriod 45 = .ok (.aload_n 0, 1) := by decide +kernel
theorem dX9_isPeriod_46 : decode cX9_isPeriod 46 = .ok (.getfield 9, 3) := by decide +kernel
theorem dX9_isPeriod_49 : decode cX9_isPeriod 49 = .ok (.iconst 4, 1) := by decide +kernel
theorem dX9_isPeriod_50 : decode cX9_isPeriod 50 = .ok (.iaload, 1) := by decide +kernel
theorem dX9_isPeriod_51 : decode cX9_isPeriod 51 = .ok (.iload_n 1, 1) := by decide +kernel
theorem dX9_isPeriod_52 : decode cX9_isPeriod 52 = .ok (.irem, 1) := by decide +kernel
theorem dX9_isPeriod_53 : decode cX9_isPeriod 53 = .ok (.ifCond .ne 7, 3) := by decide +kernel
theorem dX9_isPeriod_56 : decode cX9_isPeriod 56 = .ok (.iconst 1, 1) := by decide +kernel
theorem dX9_isPeriod_57 : decode cX9_isPeriod 57 = .ok (.goto 4, 3) := by decide +kernel
theorem dX9_isPeriod_60 : decode cX9_isPeriod 60 = .ok (.iconst 0, 1) := by decide +kernel
theorem dX9_isPeriod_61 : decode cX9_isPeriod 61 = .ok (.ireturn, 1) := by decide +kernel
theorem dX9_deckPeriod_0 : decode cX9_deckPeriod 0 = .ok (.aload_n 0, 1) := by decide +kernel
theorem dX9_deckPeriod_1 : decode cX9_deckPeriod 1 = .ok (.invokevirtual 409, 3) := by decide +kernel
theorem dX9_deckPeriod_4 : decode cX9_deckPeriod 4 = .ok (.ifCond .ne 5, 3) := by decide +kernel
theorem dX9_deckPeriod_7 : decode cX9_deckPeriod 7 = .ok (.iconst 0, 1) := by decide +kernel
theorem dX9_deckPeriod_8 : decode cX9_deckPeriod 8 = .ok (.ireturn, 1) := by decide +kernel
theorem dX9_deckPeriod_9 : decode cX9_deckPeriod 9 = .ok (.iconst 1, 1) := by decide +kernel
theorem dX9_deckPeriod_10 : decode cX9_deckPeriod 10 = .ok (.istore_n 1, 1) := by decide +kernel
theorem dX9_deckPeriod_11 : decode cX9_deckPeriod 11 = .ok (.iload_n 1, 1) := by decide +kernel
theorem dX9_deckPeriod_12 : decode cX9_deckPeriod 12 = .ok (.aload_n 0, 1) := by decide +kernel
theorem dX9_deckPeriod_13 : decode cX9_deckPeriod 13 = .ok (.getfield 9, 3) := by decide +kernel
theorem dX9_deckPeriod_16 : decode cX9_deckPeriod 16 = .ok (.iconst 4, 1) := by decide +kernel
theorem dX9_deckPeriod_17 : decode cX9_deckPeriod 17 = .ok (.iaload, 1) := by decide +kernel
theorem dX9_deckPeriod_18 : decode cX9_deckPeriod 18 = .ok (.if_icmp .gt 19, 3) := by decide +kernel
theorem dX9_deckPeriod_21 : decode cX9_deckPeriod 21 = .ok (.aload_n 0, 1) := by decide +kernel
theorem dX9_deckPeriod_22 : decode cX9_deckPeriod 22 = .ok (.iload_n 1, 1) := by decide +kernel
theorem dX9_deckPeriod_23 : decode cX9_deckPeriod 23 = .ok (.invokevirtual 436, 3) := by decide +kernel
theorem dX9_deckPeriod_26 : decode cX9_deckPeriod 26 = .ok (.ifCond .eq 5, 3) := by decide +kernel
theorem dX9_deckPeriod_29 : decode cX9_deckPeriod 29 = .ok (.iload_n 1, 1) := by decide +kernel
theorem dX9_deckPeriod_30 : decode cX9_deckPeriod 30 = .ok (.ireturn, 1) := by decide +kernel
theorem dX9_deckPeriod_31 : decode cX9_deckPeriod 31 = .ok (.iinc 1 1, 3) := by decide +kernel
theorem dX9_deckPeriod_34 : decode cX9_deckPeriod 34 = .ok (.goto (-23), 3) := by decide +kernel
theorem dX9_deckPeriod_37 : decode cX9_deckPeriod 37 = .ok (.iconst 0, 1) := by decide +kernel
theorem dX9_deckPeriod_38 : decode cX9_deckPeriod 38 = .ok (.ireturn, 1) := by decide +kernel
theorem dX9_isPalindrome_0 : decode cX9_isPalindrome 0 = .ok (.aload_n 0, 1) := by decide +kernel
theorem dX9_isPalindrome_1 : decode cX9_isPalindrome 1 = .ok (.invokevirtual 409, 3) := by decide +kernel
theorem dX9_isPalindrome_4 : decode cX9_isPalindrome 4 = .ok (.ifCond .ne 5, 3) := by decide +kernel
theorem dX9_isPalindrome_7 : decode cX9_isPalindrome 7 = .ok (.iconst 0, 1) := by decide +kernel
theorem dX9_isPalindrome_8 : decode cX9_isPalindrome 8 = .ok (.ireturn, 1) := by decide +kernel
theorem dX9_isPalindrome_9 : decode cX9_isPalindrome 9 = .ok (.iconst 0, 1) := by decide +kernel
theorem dX9_isPalindrome_10 : decode cX9_isPalindrome 10 = .ok (.istore_n 1, 1) := by decide +kernel
theorem dX9_isPalindrome_11 : decode cX9_isPalindrome 11 = .ok (.iload_n 1, 1) := by decide +kernel
theorem dX9_isPalindrome_12 : decode cX9_isPalindrome 12 = .ok (.aload_n 0, 1) := by decide +kernel
theorem dX9_isPalindrome_13 : decode cX9_isPalindrome 13 = .ok (.getfield 9, 3) := by decide +kernel
theorem dX9_isPalindrome_16 : decode cX9_isPalindrome 16 = .ok (.iconst 4, 1) := by decide +kernel
theorem dX9_isPalindrome_17 : decode cX9_isPalindrome 17 = .ok (.iaload, 1) := by decide +kernel
theorem dX9_isPalindrome_18 : decode cX9_isPalindrome 18 = .ok (.if_icmp .ge 43, 3) := by decide +kernel
theorem dX9_isPalindrome_21 : decode cX9_isPalindrome 21 = .ok (.aload_n 0, 1) := by decide +kernel
theorem dX9_isPalindrome_22 : decode cX9_isPalindrome 22 = .ok (.getfield 9, 3) := by decide +kernel
theorem dX9_isPalindrome_25 : decode cX9_isPalindrome 25 = .ok (.sipush 164, 3) := by decide +kernel
theorem dX9_isPalindrome_28 : decode cX9_isPalindrome 28 = .ok (.iload_n 1, 1) := by decide +kernel
theorem dX9_isPalindrome_29 : decode cX9_isPalindrome 29 = .ok (.iadd, 1) := by decide +kernel
theorem dX9_isPalindrome_30 : decode cX9_isPalindrome 30 = .ok (.iaload, 1) := by decide +kernel
theorem dX9_isPalindrome_31 : decode cX9_isPalindrome 31 = .ok (.aload_n 0, 1) := by decide +kernel
theorem dX9_isPalindrome_32 : decode cX9_isPalindrome 32 = .ok (.getfield 9, 3) := by decide +kernel
theorem dX9_isPalindrome_35 : decode cX9_isPalindrome 35 = .ok (.sipush 164, 3) := by decide +kernel
theorem dX9_isPalindrome_38 : decode cX9_isPalindrome 38 = .ok (.aload_n 0, 1) := by decide +kernel
theorem dX9_isPalindrome_39 : decode cX9_isPalindrome 39 = .ok (.getfield 9, 3) := by decide +kernel
theorem dX9_isPalindrome_42 : decode cX9_isPalindrome 42 = .ok (.iconst 4, 1) := by decide +kernel
theorem dX9_isPalindrome_43 : decode cX9_isPalindrome 43 = .ok (.iaload, 1) := by decide +kernel
theorem dX9_isPalindrome_44 : decode cX9_isPalindrome 44 = .ok (.iadd, 1) := by decide +kernel
theorem dX9_isPalindrome_45 : decode cX9_isPalindrome 45 = .ok (.iconst 1, 1) := by decide +kernel
theorem dX9_isPalindrome_46 : decode cX9_isPalindrome 46 = .ok (.isub, 1) := by decide +kernel
theorem dX9_isPalindrome_47 : decode cX9_isPalindrome 47 = .ok (.iload_n 1, 1) := by decide +kernel
theorem dX9_isPalindrome_48 : decode cX9_isPalindrome 48 = .ok (.isub, 1) := by decide +kernel
theorem dX9_isPalindrome_49 : decode cX9_isPalindrome 49 = .ok (.iaload, 1) := by decide +kernel
theorem dX9_isPalindrome_50 : decode cX9_isPalindrome 50 = .ok (.if_icmp .eq 5, 3) := by decide +kernel
theorem dX9_isPalindrome_53 : decode cX9_isPalindrome 53 = .ok (.iconst 0, 1) := by decide +kernel
theorem dX9_isPalindrome_54 : decode cX9_isPalindrome 54 = .ok (.ireturn, 1) := by decide +kernel
theorem dX9_isPalindrome_55 : decode cX9_isPalindrome 55 = .ok (.iinc 1 1, 3) := by decide +kernel
theorem dX9_isPalindrome_58 : decode cX9_isPalindrome 58 = .ok (.goto (-47), 3) := by decide +kernel
theorem dX9_isPalindrome_61 : decode cX9_isPalindrome 61 = .ok (.iconst 1, 1) := by decide +kernel
theorem dX9_isPalindrome_62 : decode cX9_isPalindrome 62 = .ok (.ireturn, 1) := by decide +kernel
theorem dX9_rowCount_0 : decode cX9_rowCount 0 = .ok (.aload_n 0, 1) := by decide +kernel
theorem dX9_rowCount_1 : decode cX9_rowCount 1 = .ok (.iconst 5, 1) := by decide +kernel
theorem dX9_rowCount_2 : decode cX9_rowCount 2 = .ok (.invokevirtual 412, 3) := by decide +kernel
theorem dX9_rowCount_5 : decode cX9_rowCount 5 = .ok (.ireturn, 1) := by decide +kernel
theorem dX9_cellColour_0 : decode cX9_cellColour 0 = .ok (.aload_n 0, 1) := by decide +kernel
theorem dX9_cellColour_1 : decode cX9_cellColour 1 = .ok (.iload_n 1, 1) := by decide +kernel
theorem dX9_cellColour_2 : decode cX9_cellColour 2 = .ok (.iload_n 2, 1) := by decide +kernel
theorem dX9_cellColour_3 : decode cX9_cellColour 3 = .ok (.invokevirtual 439, 3) := by decide +kernel
theorem dX9_cellColour_6 : decode cX9_cellColour 6 = .ok (.ifCond .eq 14, 3) := by decide +kernel
theorem dX9_cellColour_9 : decode cX9_cellColour 9 = .ok (.aload_n 0, 1) := by decide +kernel
theorem dX9_cellColour_10 : decode cX9_cellColour 10 = .ok (.iload_n 1, 1) := by decide +kernel
theorem dX9_cellColour_11 : decode cX9_cellColour 11 = .ok (.iload_n 2, 1) := by decide +kernel
theorem dX9_cellColour_12 : decode cX9_cellColour 12 = .ok (.invokevirtual 375, 3) := by decide +kernel
theorem dX9_cellColour_15 : decode cX9_cellColour 15 = .ok (.iconst 2, 1) := by decide +kernel
theorem dX9_cellColour_16 : decode cX9_cellColour 16 = .ok (.idiv, 1) := by decide +kernel
theorem dX9_cellColour_17 : decode cX9_cellColour 17 = .ok (.goto 4, 3) := by decide +kernel
theorem dX9_cellColour_20 : decode cX9_cellColour 20 = .ok (.iconst 0, 1) := by decide +kernel
theorem dX9_cellColour_21 : decode cX9_cellColour 21 = .ok (.ireturn, 1) := by decide +kernel
theorem dX9_shows_0 : decode cX9_shows 0 = .ok (.aload_n 0, 1) := by decide +kernel
theorem dX9_shows_1 : decode cX9_shows 1 = .ok (.iload_n 1, 1) := by decide +kernel
theorem dX9_shows_2 : decode cX9_shows 2 = .ok (.iload_n 2, 1) := by decide +kernel
theorem dX9_shows_3 : decode cX9_shows 3 = .ok (.invokevirtual 375, 3) := by decide +kernel
theorem dX9_shows_6 : decode cX9_shows 6 = .ok (.iconst 2, 1) := by decide +kernel
theorem dX9_shows_7 : decode cX9_shows 7 = .ok (.irem, 1) := by decide +kernel
theorem dX9_shows_8 : decode cX9_shows 8 = .ok (.iconst 1, 1) := by decide +kernel
theorem dX9_shows_9 : decode cX9_shows 9 = .ok (.if_icmp .ne 7, 3) := by decide +kernel
theorem dX9_shows_12 : decode cX9_shows 12 = .ok (.iconst 1, 1) := by decide +kernel
theorem dX9_shows_13 : decode cX9_shows 13 = .ok (.goto 4, 3) := by decide +kernel
theorem dX9_shows_16 : decode cX9_shows 16 = .ok (.iconst 0, 1) := by decide +kernel
theorem dX9_shows_17 : decode cX9_shows 17 = .ok (.ireturn, 1) := by decide +kernel
theorem dX9_showsWarp_0 : decode cX9_showsWarp 0 = .ok (.aload_n 0, 1) := by decide +kernel
theorem dX9_showsWarp_1 : decode cX9_showsWarp 1 = .ok (.iload_n 1, 1) := by decide +kernel
theorem dX9_showsWarp_2 : decode cX9_showsWarp 2 = .ok (.iload_n 2, 1) := by decide +kernel
theorem dX9_showsWarp_3 : decode cX9_showsWarp 3 = .ok (.invokevirtual 439, 3) := by decide +kernel
theorem dX9_showsWarp_6 : decode cX9_showsWarp 6 = .ok (.ifCond .eq 16, 3) := by decide +kernel
theorem dX9_showsWarp_9 : decode cX9_showsWarp 9 = .ok (.aload_n 0, 1) := by decide +kernel
theorem dX9_showsWarp_10 : decode cX9_showsWarp 10 = .ok (.iload_n 1, 1) := by decide +kernel
theorem dX9_showsWarp_11 : decode cX9_showsWarp 11 = .ok (.iload_n 2, 1) := by decide +kernel
theorem dX9_showsWarp_12 : decode cX9_showsWarp 12 = .ok (.invokevirtual 340, 3) := by decide +kernel
theorem dX9_showsWarp_15 : decode cX9_showsWarp 15 = .ok (.ifCond .eq 7, 3) := by decide +kernel
theorem dX9_showsWarp_18 : decode cX9_showsWarp 18 = .ok (.iconst 1, 1) := by decide +kernel
theorem dX9_showsWarp_19 : decode cX9_showsWarp 19 = .ok (.goto 4, 3) := by decide +kernel
theorem dX9_showsWarp_22 : decode cX9_showsWarp 22 = .ok (.iconst 0, 1) := by decide +kernel
theorem dX9_showsWarp_23 : decode cX9_showsWarp 23 = .ok (.ireturn, 1) := by decide +kernel
theorem dX9_longestWarpFloat_0 : decode cX9_longestWarpFloat 0 = .ok (.aload_n 0, 1) := by decide +kernel
theorem dX9_longestWarpFloat_1 : decode cX9_longestWarpFloat 1 = .ok (.iload_n 1, 1) := by decide +kernel
theorem dX9_longestWarpFloat_2 : decode cX9_longestWarpFloat 2 = .ok (.invokevirtual 415, 3) := by decide +kernel
theorem dX9_longestWarpFloat_5 : decode cX9_longestWarpFloat 5 = .ok (.ifCond .ne 5, 3) := by decide +kernel
theorem dX9_longestWarpFloat_8 : decode cX9_longestWarpFloat 8 = .ok (.iconst 0, 1) := by decide +kernel
theorem dX9_longestWarpFloat_9 : decode cX9_longestWarpFloat 9 = .ok (.ireturn, 1) := by decide +kernel
theorem dX9_longestWarpFloat_10 : decode cX9_longestWarpFloat 10 = .ok (.iconst 0, 1) := by decide +kernel
theorem dX9_longestWarpFloat_11 : decode cX9_longestWarpFloat 11 = .ok (.istore_n 2, 1) := by decide +kernel
theorem dX9_longestWarpFloat_12 : decode cX9_longestWarpFloat 12 = .ok (.iconst 0, 1) := by decide +kernel
theorem dX9_longestWarpFloat_13 : decode cX9_longestWarpFloat 13 = .ok (.istore_n 3, 1) := by decide +kernel
theorem dX9_longestWarpFloat_14 : decode cX9_longestWarpFloat 14 = .ok (.iconst 0, 1) := by decide +kernel
theorem dX9_longestWarpFloat_15 : decode cX9_longestWarpFloat 15 = .ok (.istore 4, 2) := by decide +kernel
theorem dX9_longestWarpFloat_17 : decode cX9_longestWarpFloat 17 = .ok (.iload 4, 2) := by decide +kernel
theorem dX9_longestWarpFloat_19 : decode cX9_longestWarpFloat 19 = .ok (.aload_n 0, 1) := by decide +kernel
theorem dX9_longestWarpFloat_20 : decode cX9_longestWarpFloat 20 = .ok (.getfield 9, 3) := by decide +kernel
theorem dX9_longestWarpFloat_23 : decode cX9_longestWarpFloat 23 = .ok (.iconst 5, 1) := by decide +kernel
theorem dX9_longestWarpFloat_24 : decode cX9_longestWarpFloat 24 = .ok (.iaload, 1) := by decide +kernel
theorem dX9_longestWarpFloat_25 : decode cX9_longestWarpFloat 25 = .ok (.if_icmp .ge 33, 3) := by decide +kernel
theorem dX9_longestWarpFloat_28 : decode cX9_longestWarpFloat 28 = .ok (.aload_n 0, 1) := by decide +kernel
theorem dX9_longestWarpFloat_29 : decode cX9_longestWarpFloat 29 = .ok (.iload 4, 2) := by decide +kernel
theorem dX9_longestWarpFloat_31 : decode cX9_longestWarpFloat 31 = .ok (.iload_n 1, 1) := by decide +kernel
theorem dX9_longestWarpFloat_32 : decode cX9_longestWarpFloat 32 = .ok (.invokevirtual 340, 3) := by decide +kernel
theorem dX9_longestWarpFloat_35 : decode cX9_longestWarpFloat 35 = .ok (.ifCond .eq 9, 3) := by decide +kernel
theorem dX9_longestWarpFloat_38 : decode cX9_longestWarpFloat 38 = .ok (.iload_n 3, 1) := by decide +kernel
theorem dX9_longestWarpFloat_39 : decode cX9_longestWarpFloat 39 = .ok (.iconst 1, 1) := by decide +kernel
theorem dX9_longestWarpFloat_40 : decode cX9_longestWarpFloat 40 = .ok (.iadd, 1) := by decide +kernel
theorem dX9_longestWarpFloat_41 : decode cX9_longestWarpFloat 41 = .ok (.goto 4, 3) := by decide +kernel
theorem dX9_longestWarpFloat_44 : decode cX9_longestWarpFloat 44 = .ok (.iconst 0, 1) := by decide +kernel
theorem dX9_longestWarpFloat_45 : decode cX9_longestWarpFloat 45 = .ok (.istore_n 3, 1) := by decide +kernel
theorem dX9_longestWarpFloat_46 : decode cX9_longestWarpFloat 46 = .ok (.iload_n 2, 1) := by decide +kernel
theorem dX9_longestWarpFloat_47 : decode cX9_longestWarpFloat 47 = .ok (.iload_n 3, 1) := by decide +kernel
theorem dX9_longestWarpFloat_48 : decode cX9_longestWarpFloat 48 = .ok (.invokestatic 177, 3) := by decide +kernel
theorem dX9_longestWarpFloat_51 : decode cX9_longestWarpFloat 51 = .ok (.istore_n 2, 1) := by decide +kernel
theorem dX9_longestWarpFloat_52 : decode cX9_longestWarpFloat 52 = .ok (.iinc 4 1, 3) := by decide +kernel
theorem dX9_longestWarpFloat_55 : decode cX9_longestWarpFloat 55 = .ok (.goto (-38), 3) := by decide +kernel
theorem dX9_longestWarpFloat_58 : decode cX9_longestWarpFloat 58 = .ok (.iload_n 2, 1) := by decide +kernel
theorem dX9_longestWarpFloat_59 : decode cX9_longestWarpFloat 59 = .ok (.ireturn, 1) := by decide +kernel
theorem dX9_longestWeftFloat_0 : decode cX9_longestWeftFloat 0 = .ok (.aload_n 0, 1) := by decide +kernel
theorem dX9_longestWeftFloat_1 : decode cX9_longestWeftFloat 1 = .ok (.iload_n 1, 1) := by decide +kernel
theorem dX9_longestWeftFloat_2 : decode cX9_longestWeftFloat 2 = .ok (.invokevirtual 442, 3) := by decide +kernel
theorem dX9_longestWeftFloat_5 : decode cX9_longestWeftFloat 5 = .ok (.ifCond .ne 5, 3) := by decide +kernel
theorem dX9_longestWeftFloat_8 : decode cX9_longestWeftFloat 8 = .ok (.iconst 0, 1) := by decide +kernel
theorem dX9_longestWeftFloat_9 : decode cX9_longestWeftFloat 9 = .ok (.ireturn, 1) := by decide +kernel
theorem dX9_longestWeftFloat_10 : decode cX9_longestWeftFloat 10 = .ok (.iconst 0, 1) := by decide +kernel
theorem dX9_longestWeftFloat_11 : decode cX9_longestWeftFloat 11 = .ok (.istore_n 2, 1) := by decide +kernel
theorem dX9_longestWeftFloat_12 : decode cX9_longestWeftFloat 12 = .ok (.iconst 0, 1) := by decide +kernel
theorem dX9_longestWeftFloat_13 : decode cX9_longestWeftFloat 13 = .ok (.istore_n 3, 1) := by decide +kernel
theorem dX9_longestWeftFloat_14 : decode cX9_longestWeftFloat 14 = .ok (.iconst 0, 1) := by decide +kernel
theorem dX9_longestWeftFloat_15 : decode cX9_longestWeftFloat 15 = .ok (.istore 4, 2) := by decide +kernel
theorem dX9_longestWeftFloat_17 : decode cX9_longestWeftFloat 17 = .ok (.iload 4, 2) := by decide +kernel
theorem dX9_longestWeftFloat_19 : decode cX9_longestWeftFloat 19 = .ok (.aload_n 0, 1) := by decide +kernel
theorem dX9_longestWeftFloat_20 : decode cX9_longestWeftFloat 20 = .ok (.getfield 9, 3) := by decide +kernel
theorem dX9_longestWeftFloat_23 : decode cX9_longestWeftFloat 23 = .ok (.iconst 2, 1) := by decide +kernel
theorem dX9_longestWeftFloat_24 : decode cX9_longestWeftFloat 24 = .ok (.iaload, 1) := by decide +kernel
theorem dX9_longestWeftFloat_25 : decode cX9_longestWeftFloat 25 = .ok (.if_icmp .ge 33, 3) := by decide +kernel
theorem dX9_longestWeftFloat_28 : decode cX9_longestWeftFloat 28 = .ok (.aload_n 0, 1) := by decide +kernel
theorem dX9_longestWeftFloat_29 : decode cX9_longestWeftFloat 29 = .ok (.iload_n 1, 1) := by decide +kernel
theorem dX9_longestWeftFloat_30 : decode cX9_longestWeftFloat 30 = .ok (.iload 4, 2) := by decide +kernel
theorem dX9_longestWeftFloat_32 : decode cX9_longestWeftFloat 32 = .ok (.invokevirtual 340, 3) := by decide +kernel
theorem dX9_longestWeftFloat_35 : decode cX9_longestWeftFloat 35 = .ok (.ifCond .eq 7, 3) := by decide +kernel
theorem dX9_longestWeftFloat_38 : decode cX9_longestWeftFloat 38 = .ok (.iconst 0, 1) := by decide +kernel
theorem dX9_longestWeftFloat_39 : decode cX9_longestWeftFloat 39 = .ok (.goto 6, 3) := by decide +kernel
theorem dX9_longestWeftFloat_42 : decode cX9_longestWeftFloat 42 = .ok (.iload_n 3, 1) := by decide +kernel
theorem dX9_longestWeftFloat_43 : decode cX9_longestWeftFloat 43 = .ok (.iconst 1, 1) := by decide +kernel
theorem dX9_longestWeftFloat_44 : decode cX9_longestWeftFloat 44 = .ok (.iadd, 1) := by decide +kernel
theorem dX9_longestWeftFloat_45 : decode cX9_longestWeftFloat 45 = .ok (.istore_n 3, 1) := by decide +kernel
theorem dX9_longestWeftFloat_46 : decode cX9_longestWeftFloat 46 = .ok (.iload_n 2, 1) := by decide +kernel
theorem dX9_longestWeftFloat_47 : decode cX9_longestWeftFloat 47 = .ok (.iload_n 3, 1) := by decide +kernel
theorem dX9_longestWeftFloat_48 : decode cX9_longestWeftFloat 48 = .ok (.invokestatic 177, 3) := by decide +kernel
theorem dX9_longestWeftFloat_51 : decode cX9_longestWeftFloat 51 = .ok (.istore_n 2, 1) := by decide +kernel
theorem dX9_longestWeftFloat_52 : decode cX9_longestWeftFloat 52 = .ok (.iinc 4 1, 3) := by decide +kernel
theorem dX9_longestWeftFloat_55 : decode cX9_longestWeftFloat 55 = .ok (.goto (-38), 3) := by decide +kernel
theorem dX9_longestWeftFloat_58 : decode cX9_longestWeftFloat 58 = .ok (.iload_n 2, 1) := by decide +kernel
theorem dX9_longestWeftFloat_59 : decode cX9_longestWeftFloat 59 = .ok (.ireturn, 1) := by decide +kernel
theorem dX9_cellsOfColour_0 : decode cX9_cellsOfColour 0 = .ok (.aload_n 0, 1) := by decide +kernel
theorem dX9_cellsOfColour_1 : decode cX9_cellsOfColour 1 = .ok (.iload_n 1, 1) := by decide +kernel
theorem dX9_cellsOfColour_2 : decode cX9_cellsOfColour 2 = .ok (.invokevirtual 445, 3) := by decide +kernel
theorem dX9_cellsOfColour_5 : decode cX9_cellsOfColour 5 = .ok (.ifCond .ne 5, 3) := by decide +kernel
theorem dX9_cellsOfColour_8 : decode cX9_cellsOfColour 8 = .ok (.iconst 0, 1) := by decide +kernel
theorem dX9_cellsOfColour_9 : decode cX9_cellsOfColour 9 = .ok (.ireturn, 1) := by decide +kernel
theorem dX9_cellsOfColour_10 : decode cX9_cellsOfColour 10 = .ok (.iconst 0, 1) := by decide +kernel
theorem dX9_cellsOfColour_11 : decode cX9_cellsOfColour 11 = .ok (.istore_n 2, 1) := by decide +kernel
theorem dX9_cellsOfColour_12 : decode cX9_cellsOfColour 12 = .ok (.iconst 0, 1) := by decide +kernel
theorem dX9_cellsOfColour_13 : decode cX9_cellsOfColour 13 = .ok (.istore_n 3, 1) := by decide +kernel
theorem dX9_cellsOfColour_14 : decode cX9_cellsOfColour 14 = .ok (.iload_n 3, 1) := by decide +kernel
theorem dX9_cellsOfColour_15 : decode cX9_cellsOfColour 15 = .ok (.aload_n 0, 1) := by decide +kernel
theorem dX9_cellsOfColour_16 : decode cX9_cellsOfColour 16 = .ok (.getfield 9, 3) := by decide +kernel
theorem dX9_cellsOfColour_19 : decode cX9_cellsOfColour 19 = .ok (.iconst 5, 1) := by decide +kernel
theorem dX9_cellsOfColour_20 : decode cX9_cellsOfColour 20 = .ok (.iaload, 1) := by decide +kernel
theorem dX9_cellsOfColour_21 : decode cX9_cellsOfColour 21 = .ok (.if_icmp .ge 53, 3) := by decide +kernel
theorem dX9_cellsOfColour_24 : decode cX9_cellsOfColour 24 = .ok (.iconst 0, 1) := by decide +kernel
theorem dX9_cellsOfColour_25 : decode cX9_cellsOfColour 25 = .ok (.istore 4, 2) := by decide +kernel
theorem dX9_cellsOfColour_27 : decode cX9_cellsOfColour 27 = .ok (.iload 4, 2) := by decide +kernel
theorem dX9_cellsOfColour_29 : decode cX9_cellsOfColour 29 = .ok (.aload_n 0, 1) := by decide +kernel
theorem dX9_cellsOfColour_30 : decode cX9_cellsOfColour 30 = .ok (.getfield 9, 3) := by decide +kernel
theorem dX9_cellsOfColour_33 : decode cX9_cellsOfColour 33 = .ok (.iconst 2, 1) := by decide +kernel
theorem dX9_cellsOfColour_34 : decode cX9_cellsOfColour 34 = .ok (.iaload, 1) := by decide +kernel
theorem dX9_cellsOfColour_35 : decode cX9_cellsOfColour 35 = .ok (.if_icmp .ge 33, 3) := by decide +kernel
theorem dX9_cellsOfColour_38 : decode cX9_cellsOfColour 38 = .ok (.iload_n 2, 1) := by decide +kernel
theorem dX9_cellsOfColour_39 : decode cX9_cellsOfColour 39 = .ok (.aload_n 0, 1) := by decide +kernel
theorem dX9_cellsOfColour_40 : decode cX9_cellsOfColour 40 = .ok (.iload_n 3, 1) := by decide +kernel
theorem dX9_cellsOfColour_41 : decode cX9_cellsOfColour 41 = .ok (.iload 4, 2) := by decide +kernel
theorem dX9_cellsOfColour_43 : decode cX9_cellsOfColour 43 = .ok (.invokevirtual 375, 3) := by decide +kernel
theorem dX9_cellsOfColour_46 : decode cX9_cellsOfColour 46 = .ok (.iconst 2, 1) := by decide +kernel
theorem dX9_cellsOfColour_47 : decode cX9_cellsOfColour 47 = .ok (.idiv, 1) := by decide +kernel
theorem dX9_cellsOfColour_48 : decode cX9_cellsOfColour 48 = .ok (.iload_n 1, 1) := by decide +kernel
theorem dX9_cellsOfColour_49 : decode cX9_cellsOfColour 49 = .ok (.if_icmp .ne 7, 3) := by decide +kernel
theorem dX9_cellsOfColour_52 : decode cX9_cellsOfColour 52 = .ok (.iconst 1, 1) := by decide +kernel
theorem dX9_cellsOfColour_53 : decode cX9_cellsOfColour 53 = .ok (.goto 4, 3) := by decide +kernel
theorem dX9_cellsOfColour_56 : decode cX9_cellsOfColour 56 = .ok (.iconst 0, 1) := by decide +kernel
theorem dX9_cellsOfColour_57 : decode cX9_cellsOfColour 57 = .ok (.invokestatic 324, 3) := by decide +kernel
theorem dX9_cellsOfColour_60 : decode cX9_cellsOfColour 60 = .ok (.iadd, 1) := by decide +kernel
theorem dX9_cellsOfColour_61 : decode cX9_cellsOfColour 61 = .ok (.istore_n 2, 1) := by decide +kernel
theorem dX9_cellsOfColour_62 : decode cX9_cellsOfColour 62 = .ok (.iinc 4 1, 3) := by decide +kernel
theorem dX9_cellsOfColour_65 : decode cX9_cellsOfColour 65 = .ok (.goto (-38), 3) := by decide +kernel
theorem dX9_cellsOfColour_68 : decode cX9_cellsOfColour 68 = .ok (.iinc 3 1, 3) := by decide +kernel
theorem dX9_cellsOfColour_71 : decode cX9_cellsOfColour 71 = .ok (.goto (-57), 3) := by decide +kernel
theorem dX9_cellsOfColour_74 : decode cX9_cellsOfColour 74 = .ok (.iload_n 2, 1) := by decide +kernel
theorem dX9_cellsOfColour_75 : decode cX9_cellsOfColour 75 = .ok (.ireturn, 1) := by decide +kernel
theorem dX9_areAlike_0 : decode cX9_areAlike 0 = .ok (.iconst 0, 1) := by decide +kernel
theorem dX9_areAlike_1 : decode cX9_areAlike 1 = .ok (.istore_n 3, 1) := by decide +kernel
theorem dX9_areAlike_2 : decode cX9_areAlike 2 = .ok (.iload_n 3, 1) := by decide +kernel
theorem dX9_areAlike_3 : decode cX9_areAlike 3 = .ok (.aload_n 0, 1) := by decide +kernel
theorem dX9_areAlike_4 : decode cX9_areAlike 4 = .ok (.getfield 9, 3) := by decide +kernel
theorem dX9_areAlike_7 : decode cX9_areAlike 7 = .ok (.iconst 2, 1) := by decide +kernel
theorem dX9_areAlike_8 : decode cX9_areAlike 8 = .ok (.iaload, 1) := by decide +kernel
theorem dX9_areAlike_9 : decode cX9_areAlike 9 = .ok (.if_icmp .ge 30, 3) := by decide +kernel
theorem dX9_areAlike_12 : decode cX9_areAlike 12 = .ok (.aload_n 0, 1) := by decide +kernel
theorem dX9_areAlike_13 : decode cX9_areAlike 13 = .ok (.iload_n 1, 1) := by decide +kernel
theorem dX9_areAlike_14 : decode cX9_areAlike 14 = .ok (.iload_n 3, 1) := by decide +kernel
theorem dX9_areAlike_15 : decode cX9_areAlike 15 = .ok (.invokevirtual 375, 3) := by decide +kernel
theorem dX9_areAlike_18 : decode cX9_areAlike 18 = .ok (.iconst 2, 1) := by decide +kernel
theorem dX9_areAlike_19 : decode cX9_areAlike 19 = .ok (.idiv, 1) := by decide +kernel
theorem dX9_areAlike_20 : decode cX9_areAlike 20 = .ok (.aload_n 0, 1) := by decide +kernel
theorem dX9_areAlike_21 : decode cX9_areAlike 21 = .ok (.iload_n 2, 1) := by decide +kernel
theorem dX9_areAlike_22 : decode cX9_areAlike 22 = .ok (.iload_n 3, 1) := by decide +kernel
theorem dX9_areAlike_23 : decode cX9_areAlike 23 = .ok (.invokevirtual 375, 3) := by decide +kernel
theorem dX9_areAlike_26 : decode cX9_areAlike 26 = .ok (.iconst 2, 1) := by decide +kernel
theorem dX9_areAlike_27 : decode cX9_areAlike 27 = .ok (.idiv, 1) := by decide +kernel
theorem dX9_areAlike_28 : decode cX9_areAlike 28 = .ok (.if_icmp .eq 5, 3) := by decide +kernel
theorem dX9_areAlike_31 : decode cX9_areAlike 31 = .ok (.iconst 0, 1) := by decide +kernel
theorem dX9_areAlike_32 : decode cX9_areAlike 32 = .ok (.ireturn, 1) := by decide +kernel
theorem dX9_areAlike_33 : decode cX9_areAlike 33 = .ok (.iinc 3 1, 3) := by decide +kernel
theorem dX9_areAlike_36 : decode cX9_areAlike 36 = .ok (.goto (-34), 3) := by decide +kernel
theorem dX9_areAlike_39 : decode cX9_areAlike 39 = .ok (.iconst 1, 1) := by decide +kernel
theorem dX9_areAlike_40 : decode cX9_areAlike 40 = .ok (.ireturn, 1) := by decide +kernel
theorem dX9_isRowPeriod_0 : decode cX9_isRowPeriod 0 = .ok (.iload_n 1, 1) := by decide +kernel
theorem dX9_isRowPeriod_1 : decode cX9_isRowPeriod 1 = .ok (.istore_n 2, 1) := by decide +kernel
theorem dX9_isRowPeriod_2 : decode cX9_isRowPeriod 2 = .ok (.iload_n 2, 1) := by decide +kernel
theorem dX9_isRowPeriod_3 : decode cX9_isRowPeriod 3 = .ok (.aload_n 0, 1) := by decide +kernel
theorem dX9_isRowPeriod_4 : decode cX9_isRowPeriod 4 = .ok (.getfield 9, 3) := by decide +kernel
theorem dX9_isRowPeriod_7 : decode cX9_isRowPeriod 7 = .ok (.iconst 5, 1) := by decide +kernel
theorem dX9_isRowPeriod_8 : decode cX9_isRowPeriod 8 = .ok (.iaload, 1) := by decide +kernel
theorem dX9_isRowPeriod_9 : decode cX9_isRowPeriod 9 = .ok (.if_icmp .ge 22, 3) := by decide +kernel
theorem dX9_isRowPeriod_12 : decode cX9_isRowPeriod 12 = .ok (.aload_n 0, 1) := by decide +kernel
theorem dX9_isRowPeriod_13 : decode cX9_isRowPeriod 13 = .ok (.iload_n 2, 1) := by decide +kernel
theorem dX9_isRowPeriod_14 : decode cX9_isRowPeriod 14 = .ok (.iload_n 2, 1) := by decide +kernel
theorem dX9_isRowPeriod_15 : decode cX9_isRowPeriod 15 = .ok (.iload_n 1, 1) := by decide +kernel
theorem dX9_isRowPeriod_16 : decode cX9_isRowPeriod 16 = .ok (.isub, 1) := by decide +kernel
theorem dX9_isRowPeriod_17 : decode cX9_isRowPeriod 17 = .ok (.invokevirtual 448, 3) := by decide +kernel
theorem dX9_isRowPeriod_20 : decode cX9_isRowPeriod 20 = .ok (.ifCond .ne 5, 3) := by decide +kernel
theorem dX9_isRowPeriod_23 : decode cX9_isRowPeriod 23 = .ok (.iconst 0, 1) := by decide +kernel
theorem dX9_isRowPeriod_24 : decode cX9_isRowPeriod 24 = .ok (.ireturn, 1) := by decide +kernel
theorem dX9_isRowPeriod_25 : decode cX9_isRowPeriod 25 = .ok (.iinc 2 1, 3) := by decide +kernel
theorem dX9_isRowPeriod_28 : decode cX9_isRowPeriod 28 = .ok (.goto (-26), 3) := by decide +kernel
theorem dX9_isRowPeriod_31 : decode cX9_isRowPeriod 31 = .ok (.iconst 1, 1) := by decide +kernel
theorem dX9_isRowPeriod_32 : decode cX9_isRowPeriod 32 = .ok (.ireturn, 1) := by decide +kernel
theorem dX9_rowPeriod_0 : decode cX9_rowPeriod 0 = .ok (.aload_n 0, 1) := by decide +kernel
theorem dX9_rowPeriod_1 : decode cX9_rowPeriod 1 = .ok (.invokevirtual 409, 3) := by decide +kernel
theorem dX9_rowPeriod_4 : decode cX9_rowPeriod 4 = .ok (.ifCond .ne 5, 3) := by decide +kernel
theorem dX9_rowPeriod_7 : decode cX9_rowPeriod 7 = .ok (.iconst 0, 1) := by decide +kernel
theorem dX9_rowPeriod_8 : decode cX9_rowPeriod 8 = .ok (.ireturn, 1) := by decide +kernel
theorem dX9_rowPeriod_9 : decode cX9_rowPeriod 9 = .ok (.iconst 1, 1) := by decide +kernel
theorem dX9_rowPeriod_10 : decode cX9_rowPeriod 10 = .ok (.istore_n 1, 1) := by decide +kernel
theorem dX9_rowPeriod_11 : decode cX9_rowPeriod 11 = .ok (.iload_n 1, 1) := by decide +kernel
theorem dX9_rowPeriod_12 : decode cX9_rowPeriod 12 = .ok (.aload_n 0, 1) := by decide +kernel
theorem dX9_rowPeriod_13 : decode cX9_rowPeriod 13 = .ok (.getfield 9, 3) := by decide +kernel
theorem dX9_rowPeriod_16 : decode cX9_rowPeriod 16 = .ok (.iconst 5, 1) := by decide +kernel
theorem dX9_rowPeriod_17 : decode cX9_rowPeriod 17 = .ok (.iaload, 1) := by decide +kernel
theorem dX9_rowPeriod_18 : decode cX9_rowPeriod 18 = .ok (.if_icmp .gt 19, 3) := by decide +kernel
theorem dX9_rowPeriod_21 : decode cX9_rowPeriod 21 = .ok (.aload_n 0, 1) := by decide +kernel
theorem dX9_rowPeriod_22 : decode cX9_rowPeriod 22 = .ok (.iload_n 1, 1) := by decide +kernel
theorem dX9_rowPeriod_23 : decode cX9_rowPeriod 23 = .ok (.invokevirtual 451, 3) := by decide +kernel
theorem dX9_rowPeriod_26 : decode cX9_rowPeriod 26 = .ok (.ifCond .eq 5, 3) := by decide +kernel
theorem dX9_rowPeriod_29 : decode cX9_rowPeriod 29 = .ok (.iload_n 1, 1) := by decide +kernel
theorem dX9_rowPeriod_30 : decode cX9_rowPeriod 30 = .ok (.ireturn, 1) := by decide +kernel
theorem dX9_rowPeriod_31 : decode cX9_rowPeriod 31 = .ok (.iinc 1 1, 3) := by decide +kernel
theorem dX9_rowPeriod_34 : decode cX9_rowPeriod 34 = .ok (.goto (-23), 3) := by decide +kernel
theorem dX9_rowPeriod_37 : decode cX9_rowPeriod 37 = .ok (.iconst 0, 1) := by decide +kernel
theorem dX9_rowPeriod_38 : decode cX9_rowPeriod 38 = .ok (.ireturn, 1) := by decide +kernel
theorem dX9_warpShare_0 : decode cX9_warpShare 0 = .ok (.aload_n 0, 1) := by decide +kernel
theorem dX9_warpShare_1 : decode cX9_warpShare 1 = .ok (.invokevirtual 409, 3) := by decide +kernel
theorem dX9_warpShare_4 : decode cX9_warpShare 4 = .ok (.ifCond .eq 12, 3) := by decide +kernel
theorem dX9_warpShare_7 : decode cX9_warpShare 7 = .ok (.aload_n 0, 1) := by decide +kernel
theorem dX9_warpShare_8 : decode cX9_warpShare 8 = .ok (.getfield 9, 3) := by decide +kernel
theorem dX9_warpShare_11 : decode cX9_warpShare 11 = .ok (.iconst 5, 1) := by decide +kernel
theorem dX9_warpShare_12 : decode cX9_warpShare 12 = .ok (.iaload, 1) := by decide +kernel
theorem dX9_warpShare_13 : decode cX9_warpShare 13 = .ok (.ifCond .ne 5, 3) := by decide +kernel
theorem dX9_warpShare_16 : decode cX9_warpShare 16 = .ok (.fconst 0, 1) := by decide +kernel
theorem dX9_warpShare_17 : decode cX9_warpShare 17 = .ok (.freturn, 1) := by decide +kernel
theorem dX9_warpShare_18 : decode cX9_warpShare 18 = .ok (.iconst 0, 1) := by decide +kernel
theorem dX9_warpShare_19 : decode cX9_warpShare 19 = .ok (.istore_n 1, 1) := by decide +kernel
theorem dX9_warpShare_20 : decode cX9_warpShare 20 = .ok (.iconst 0, 1) := by decide +kernel
theorem dX9_warpShare_21 : decode cX9_warpShare 21 = .ok (.istore_n 2, 1) := by decide +kernel
theorem dX9_warpShare_22 : decode cX9_warpShare 22 = .ok (.iload_n 2, 1) := by decide +kernel
theorem dX9_warpShare_23 : decode cX9_warpShare 23 = .ok (.aload_n 0, 1) := by decide +kernel
theorem dX9_warpShare_24 : decode cX9_warpShare 24 = .ok (.getfield 9, 3) := by decide +kernel
theorem dX9_warpShare_27 : decode cX9_warpShare 27 = .ok (.iconst 5, 1) := by decide +kernel
theorem dX9_warpShare_28 : decode cX9_warpShare 28 = .ok (.iaload, 1) := by decide +kernel
theorem dX9_warpShare_29 : decode cX9_warpShare 29 = .ok (.if_icmp .ge 39, 3) := by decide +kernel
theorem dX9_warpShare_32 : decode cX9_warpShare 32 = .ok (.iconst 0, 1) := by decide +kernel
theorem dX9_warpShare_33 : decode cX9_warpShare 33 = .ok (.istore_n 3, 1) := by decide +kernel
theorem dX9_warpShare_34 : decode cX9_warpShare 34 = .ok (.iload_n 3, 1) := by decide +kernel
theorem dX9_warpShare_35 : decode cX9_warpShare 35 = .ok (.aload_n 0, 1) := by decide +kernel
theorem dX9_warpShare_36 : decode cX9_warpShare 36 = .ok (.getfield 9, 3) := by decide +kernel
theorem dX9_warpShare_39 : decode cX9_warpShare 39 = .ok (.iconst 2, 1) := by decide +kernel
theorem dX9_warpShare_40 : decode cX9_warpShare 40 = .ok (.iaload, 1) := by decide +kernel
theorem dX9_warpShare_41 : decode cX9_warpShare 41 = .ok (.if_icmp .ge 21, 3) := by decide +kernel
theorem dX9_warpShare_44 : decode cX9_warpShare 44 = .ok (.iload_n 1, 1) := by decide +kernel
theorem dX9_warpShare_45 : decode cX9_warpShare 45 = .ok (.aload_n 0, 1) := by decide +kernel
theorem dX9_warpShare_46 : decode cX9_warpShare 46 = .ok (.iload_n 2, 1) := by decide +kernel
theorem dX9_warpShare_47 : decode cX9_warpShare 47 = .ok (.iload_n 3, 1) := by decide +kernel
theorem dX9_warpShare_48 : decode cX9_warpShare 48 = .ok (.invokevirtual 340, 3) := by decide +kernel
theorem dX9_warpShare_51 : decode cX9_warpShare 51 = .ok (.invokestatic 324, 3) := by decide +kernel
theorem dX9_warpShare_54 : decode cX9_warpShare 54 = .ok (.iadd, 1) := by decide +kernel
theorem dX9_warpShare_55 : decode cX9_warpShare 55 = .ok (.istore_n 1, 1) := by decide +kernel
theorem dX9_warpShare_56 : decode cX9_warpShare 56 = .ok (.iinc 3 1, 3) := by decide +kernel
theorem dX9_warpShare_59 : decode cX9_warpShare 59 = .ok (.goto (-25), 3) := by decide +kernel
theorem dX9_warpShare_62 : decode cX9_warpShare 62 = .ok (.iinc 2 1, 3) := by decide +kernel
theorem dX9_warpShare_65 : decode cX9_warpShare 65 = .ok (.goto (-43), 3) := by decide +kernel
theorem dX9_warpShare_68 : decode cX9_warpShare 68 = .ok (.iload_n 1, 1) := by decide +kernel
theorem dX9_warpShare_69 : decode cX9_warpShare 69 = .ok (.i2f, 1) := by decide +kernel
theorem dX9_warpShare_70 : decode cX9_warpShare 70 = .ok (.aload_n 0, 1) := by decide +kernel
theorem dX9_warpShare_71 : decode cX9_warpShare 71 = .ok (.getfield 9, 3) := by decide +kernel
theorem dX9_warpShare_74 : decode cX9_warpShare 74 = .ok (.iconst 5, 1) := by decide +kernel
theorem dX9_warpShare_75 : decode cX9_warpShare 75 = .ok (.iaload, 1) := by decide +kernel
theorem dX9_warpShare_76 : decode cX9_warpShare 76 = .ok (.aload_n 0, 1) := by decide +kernel
theorem dX9_warpShare_77 : decode cX9_warpShare 77 = .ok (.getfield 9, 3) := by decide +kernel
theorem dX9_warpShare_80 : decode cX9_warpShare 80 = .ok (.iconst 2, 1) := by decide +kernel
theorem dX9_warpShare_81 : decode cX9_warpShare 81 = .ok (.iaload, 1) := by decide +kernel
theorem dX9_warpShare_82 : decode cX9_warpShare 82 = .ok (.imul, 1) := by decide +kernel
theorem dX9_warpShare_83 : decode cX9_warpShare 83 = .ok (.i2f, 1) := by decide +kernel
theorem dX9_warpShare_84 : decode cX9_warpShare 84 = .ok (.fdiv, 1) := by decide +kernel
theorem dX9_warpShare_85 : decode cX9_warpShare 85 = .ok (.freturn, 1) := by decide +kernel
theorem dX9_averageLifts_0 : decode cX9_averageLifts 0 = .ok (.aload_n 0, 1) := by decide +kernel
theorem dX9_averageLifts_1 : decode cX9_averageLifts 1 = .ok (.invokevirtual 409, 3) := by decide +kernel
theorem dX9_averageLifts_4 : decode cX9_averageLifts 4 = .ok (.ifCond .eq 12, 3) := by decide +kernel
theorem dX9_averageLifts_7 : decode cX9_averageLifts 7 = .ok (.aload_n 0, 1) := by decide +kernel
theorem dX9_averageLifts_8 : decode cX9_averageLifts 8 = .ok (.getfield 9, 3) := by decide +kernel
theorem dX9_averageLifts_11 : decode cX9_averageLifts 11 = .ok (.iconst 3, 1) := by decide +kernel
theorem dX9_averageLifts_12 : decode cX9_averageLifts 12 = .ok (.iaload, 1) := by decide +kernel
theorem dX9_averageLifts_13 : decode cX9_averageLifts 13 = .ok (.ifCond .ne 5, 3) := by decide +kernel
theorem dX9_averageLifts_16 : decode cX9_averageLifts 16 = .ok (.dconst 0, 1) := by decide +kernel
theorem dX9_averageLifts_17 : decode cX9_averageLifts 17 = .ok (.dreturn, 1) := by decide +kernel
theorem dX9_averageLifts_18 : decode cX9_averageLifts 18 = .ok (.iconst 0, 1) := by decide +kernel
theorem dX9_averageLifts_19 : decode cX9_averageLifts 19 = .ok (.istore_n 1, 1) := by decide +kernel
theorem dX9_averageLifts_20 : decode cX9_averageLifts 20 = .ok (.iconst 0, 1) := by decide +kernel
theorem dX9_averageLifts_21 : decode cX9_averageLifts 21 = .ok (.istore_n 2, 1) := by decide +kernel
theorem dX9_averageLifts_22 : decode cX9_averageLifts 22 = .ok (.iload_n 2, 1) := by decide +kernel
theorem dX9_averageLifts_23 : decode cX9_averageLifts 23 = .ok (.aload_n 0, 1) := by decide +kernel
theorem dX9_averageLifts_24 : decode cX9_averageLifts 24 = .ok (.getfield 9, 3) := by decide +kernel
theorem dX9_averageLifts_27 : decode cX9_averageLifts 27 = .ok (.iconst 3, 1) := by decide +kernel
theorem dX9_averageLifts_28 : decode cX9_averageLifts 28 = .ok (.iaload, 1) := by decide +kernel
theorem dX9_averageLifts_29 : decode cX9_averageLifts 29 = .ok (.if_icmp .ge 21, 3) := by decide +kernel
theorem dX9_averageLifts_32 : decode cX9_averageLifts 32 = .ok (.iload_n 1, 1) := by decide +kernel
theorem dX9_averageLifts_33 : decode cX9_averageLifts 33 = .ok (.aload_n 0, 1) := by decide +kernel
theorem dX9_averageLifts_34 : decode cX9_averageLifts 34 = .ok (.iload_n 2, 1) := by decide +kernel
theorem dX9_averageLifts_35 : decode cX9_averageLifts 35 = .ok (.iconst 0, 1) := by decide +kernel
theorem dX9_averageLifts_36 : decode cX9_averageLifts 36 = .ok (.invokevirtual 232, 3) := by decide +kernel
theorem dX9_averageLifts_39 : decode cX9_averageLifts 39 = .ok (.invokestatic 430, 3) := by decide +kernel
theorem dX9_averageLifts_42 : decode cX9_averageLifts 42 = .ok (.iadd, 1) := by decide +kernel
theorem dX9_averageLifts_43 : decode cX9_averageLifts 43 = .ok (.istore_n 1, 1) := by decide +kernel
theorem dX9_averageLifts_44 : decode cX9_averageLifts 44 = .ok (.iinc 2 1, 3) := by decide +kernel
theorem dX9_averageLifts_47 : decode cX9_averageLifts 47 = .ok (.goto (-25), 3) := by decide +kernel
theorem dX9_averageLifts_50 : decode cX9_averageLifts 50 = .ok (.iload_n 1, 1) := by decide +kernel
theorem dX9_averageLifts_51 : decode cX9_averageLifts 51 = .ok (.i2d, 1) := by decide +kernel
theorem dX9_averageLifts_52 : decode cX9_averageLifts 52 = .ok (.aload_n 0, 1) := by decide +kernel
theorem dX9_averageLifts_53 : decode cX9_averageLifts 53 = .ok (.getfield 9, 3) := by decide +kernel
theorem dX9_averageLifts_56 : decode cX9_averageLifts 56 = .ok (.iconst 3, 1) := by decide +kernel
theorem dX9_averageLifts_57 : decode cX9_averageLifts 57 = .ok (.iaload, 1) := by decide +kernel
theorem dX9_averageLifts_58 : decode cX9_averageLifts 58 = .ok (.i2d, 1) := by decide +kernel
theorem dX9_averageLifts_59 : decode cX9_averageLifts 59 = .ok (.ddiv, 1) := by decide +kernel
theorem dX9_averageLifts_60 : decode cX9_averageLifts 60 = .ok (.dreturn, 1) := by decide +kernel
theorem dX9_isWrong_0 : decode cX9_isWrong 0 = .ok (.aload_n 0, 1) := by decide +kernel
theorem dX9_isWrong_1 : decode cX9_isWrong 1 = .ok (.iload_n 1, 1) := by decide +kernel
theorem dX9_isWrong_2 : decode cX9_isWrong 2 = .ok (.invokevirtual 442, 3) := by decide +kernel
theorem dX9_isWrong_5 : decode cX9_isWrong 5 = .ok (.ifCond .eq 15, 3) := by decide +kernel
theorem dX9_isWrong_8 : decode cX9_isWrong 8 = .ok (.aload_n 0, 1) := by decide +kernel
theorem dX9_isWrong_9 : decode cX9_isWrong 9 = .ok (.iload_n 1, 1) := by decide +kernel
theorem dX9_isWrong_10 : decode cX9_isWrong 10 = .ok (.invokevirtual 381, 3) := by decide +kernel
theorem dX9_isWrong_13 : decode cX9_isWrong 13 = .ok (.ifCond .eq 7, 3) := by decide +kernel
theorem dX9_isWrong_16 : decode cX9_isWrong 16 = .ok (.iconst 1, 1) := by decide +kernel
theorem dX9_isWrong_17 : decode cX9_isWrong 17 = .ok (.goto 4, 3) := by decide +kernel
theorem dX9_isWrong_20 : decode cX9_isWrong 20 = .ok (.iconst 0, 1) := by decide +kernel
theorem dX9_isWrong_21 : decode cX9_isWrong 21 = .ok (.ireturn, 1) := by decide +kernel
theorem dX9_wrongCount_0 : decode cX9_wrongCount 0 = .ok (.aload_n 0, 1) := by decide +kernel
theorem dX9_wrongCount_1 : decode cX9_wrongCount 1 = .ok (.invokevirtual 409, 3) := by decide +kernel
theorem dX9_wrongCount_4 : decode cX9_wrongCount 4 = .ok (.ifCond .eq 10, 3) := by decide +kernel
theorem dX9_wrongCount_7 : decode cX9_wrongCount 7 = .ok (.aload_n 0, 1) := by decide +kernel
theorem dX9_wrongCount_8 : decode cX9_wrongCount 8 = .ok (.invokevirtual 384, 3) := by decide +kernel
theorem dX9_wrongCount_11 : decode cX9_wrongCount 11 = .ok (.goto 4, 3) := by decide +kernel
theorem dX9_wrongCount_14 : decode cX9_wrongCount 14 = .ok (.iconst 0, 1) := by decide +kernel
theorem dX9_wrongCount_15 : decode cX9_wrongCount 15 = .ok (.ireturn, 1) := by decide +kernel
theorem dX9_firstWrongRow_0 : decode cX9_firstWrongRow 0 = .ok (.aload_n 0, 1) := by decide +kernel
theorem dX9_firstWrongRow_1 : decode cX9_firstWrongRow 1 = .ok (.invokevirtual 409, 3) := by decide +kernel
theorem dX9_firstWrongRow_4 : decode cX9_firstWrongRow 4 = .ok (.ifCond .ne 5, 3) := by decide +kernel
theorem dX9_firstWrongRow_7 : decode cX9_firstWrongRow 7 = .ok (.iconst 0, 1) := by decide +kernel
theorem dX9_firstWrongRow_8 : decode cX9_firstWrongRow 8 = .ok (.ireturn, 1) := by decide +kernel
theorem dX9_firstWrongRow_9 : decode cX9_firstWrongRow 9 = .ok (.iconst 0, 1) := by decide +kernel
theorem dX9_firstWrongRow_10 : decode cX9_firstWrongRow 10 = .ok (.istore_n 1, 1) := by decide +kernel
theorem dX9_firstWrongRow_11 : decode cX9_firstWrongRow 11 = .ok (.iload_n 1, 1) := by decide +kernel
theorem dX9_firstWrongRow_12 : decode cX9_firstWrongRow 12 = .ok (.aload_n 0, 1) := by decide +kernel
theorem dX9_firstWrongRow_13 : decode cX9_firstWrongRow 13 = .ok (.getfield 9, 3) := by decide +kernel
theorem dX9_firstWrongRow_16 : decode cX9_firstWrongRow 16 = .ok (.iconst 5, 1) := by decide +kernel
theorem dX9_firstWrongRow_17 : decode cX9_firstWrongRow 17 = .ok (.iaload, 1) := by decide +kernel
theorem dX9_firstWrongRow_18 : decode cX9_firstWrongRow 18 = .ok (.if_icmp .ge 19, 3) := by decide +kernel
theorem dX9_firstWrongRow_21 : decode cX9_firstWrongRow 21 = .ok (.aload_n 0, 1) := by decide +kernel
theorem dX9_firstWrongRow_22 : decode cX9_firstWrongRow 22 = .ok (.iload_n 1, 1) := by decide +kernel
theorem dX9_firstWrongRow_23 : decode cX9_firstWrongRow 23 = .ok (.invokevirtual 381, 3) := by decide +kernel
theorem dX9_firstWrongRow_26 : decode cX9_firstWrongRow 26 = .ok (.ifCond .eq 5, 3) := by decide +kernel
theorem dX9_firstWrongRow_29 : decode cX9_firstWrongRow 29 = .ok (.iload_n 1, 1) := by decide +kernel
theorem dX9_firstWrongRow_30 : decode cX9_firstWrongRow 30 = .ok (.ireturn, 1) := by decide +kernel
theorem dX9_firstWrongRow_31 : decode cX9_firstWrongRow 31 = .ok (.iinc 1 1, 3) := by decide +kernel
theorem dX9_firstWrongRow_34 : decode cX9_firstWrongRow 34 = .ok (.goto (-23), 3) := by decide +kernel
theorem dX9_firstWrongRow_37 : decode cX9_firstWrongRow 37 = .ok (.iconst (-1), 1) := by decide +kernel
theorem dX9_firstWrongRow_38 : decode cX9_firstWrongRow 38 = .ok (.ireturn, 1) := by decide +kernel
theorem dX9_swapFirst_0 : decode cX9_swapFirst 0 = .ok (.aload_n 0, 1) := by decide +kernel
theorem dX9_swapFirst_1 : decode cX9_swapFirst 1 = .ok (.invokevirtual 409, 3) := by decide +kernel
theorem dX9_swapFirst_4 : decode cX9_swapFirst 4 = .ok (.ifCond .ne 5, 3) := by decide +kernel
theorem dX9_swapFirst_7 : decode cX9_swapFirst 7 = .ok (.iconst 0, 1) := by decide +kernel
theorem dX9_swapFirst_8 : decode cX9_swapFirst 8 = .ok (.ireturn, 1) := by decide +kernel
theorem dX9_swapFirst_9 : decode cX9_swapFirst 9 = .ok (.aload_n 0, 1) := by decide +kernel
theorem dX9_swapFirst_10 : decode cX9_swapFirst 10 = .ok (.invokevirtual 454, 3) := by decide +kernel
theorem dX9_swapFirst_13 : decode cX9_swapFirst 13 = .ok (.istore_n 1, 1) := by decide +kernel
theorem dX9_swapFirst_14 : decode cX9_swapFirst 14 = .ok (.iload_n 1, 1) := by decide +kernel
theorem dX9_swapFirst_15 : decode cX9_swapFirst 15 = .ok (.iconst (-1), 1) := by decide +kernel
theorem dX9_swapFirst_16 : decode cX9_swapFirst 16 = .ok (.if_icmp .ne 7, 3) := by decide +kernel
theorem dX9_swapFirst_19 : decode cX9_swapFirst 19 = .ok (.iconst (-1), 1) := by decide +kernel
theorem dX9_swapFirst_20 : decode cX9_swapFirst 20 = .ok (.goto 7, 3) := by decide +kernel
theorem dX9_swapFirst_23 : decode cX9_swapFirst 23 = .ok (.iload_n 1, 1) := by decide +kernel
theorem dX9_swapFirst_24 : decode cX9_swapFirst 24 = .ok (.bipush 12, 2) := by decide +kernel
theorem dX9_swapFirst_26 : decode cX9_swapFirst 26 = .ok (.idiv, 1) := by decide +kernel
theorem dX9_swapFirst_27 : decode cX9_swapFirst 27 = .ok (.ireturn, 1) := by decide +kernel
theorem dX9_swapSecond_0 : decode cX9_swapSecond 0 = .ok (.aload_n 0, 1) := by decide +kernel
theorem dX9_swapSecond_1 : decode cX9_swapSecond 1 = .ok (.invokevirtual 409, 3) := by decide +kernel
theorem dX9_swapSecond_4 : decode cX9_swapSecond 4 = .ok (.ifCond .ne 5, 3) := by decide +kernel
theorem dX9_swapSecond_7 : decode cX9_swapSecond 7 = .ok (.iconst 0, 1) := by decide +kernel
theorem dX9_swapSecond_8 : decode cX9_swapSecond 8 = .ok (.ireturn, 1) := by decide +kernel
theorem dX9_swapSecond_9 : decode cX9_swapSecond 9 = .ok (.aload_n 0, 1) := by decide +kernel
theorem dX9_swapSecond_10 : decode cX9_swapSecond 10 = .ok (.invokevirtual 454, 3) := by decide +kernel
theorem dX9_swapSecond_13 : decode cX9_swapSecond 13 = .ok (.istore_n 1, 1) := by decide +kernel
theorem dX9_swapSecond_14 : decode cX9_swapSecond 14 = .ok (.iload_n 1, 1) := by decide +kernel
theorem dX9_swapSecond_15 : decode cX9_swapSecond 15 = .ok (.iconst (-1), 1) := by decide +kernel
theorem dX9_swapSecond_16 : decode cX9_swapSecond 16 = .ok (.if_icmp .ne 7, 3) := by decide +kernel
theorem dX9_swapSecond_19 : decode cX9_swapSecond 19 = .ok (.iconst (-1), 1) := by decide +kernel
theorem dX9_swapSecond_20 : decode cX9_swapSecond 20 = .ok (.goto 7, 3) := by decide +kernel
theorem dX9_swapSecond_23 : decode cX9_swapSecond 23 = .ok (.iload_n 1, 1) := by decide +kernel
theorem dX9_swapSecond_24 : decode cX9_swapSecond 24 = .ok (.bipush 12, 2) := by decide +kernel
theorem dX9_swapSecond_26 : decode cX9_swapSecond 26 = .ok (.irem, 1) := by decide +kernel
theorem dX9_swapSecond_27 : decode cX9_swapSecond 27 = .ok (.ireturn, 1) := by decide +kernel
theorem dX9_yarn_0 : decode cX9_yarn 0 = .ok (.aload_n 0, 1) := by decide +kernel
theorem dX9_yarn_1 : decode cX9_yarn 1 = .ok (.iload_n 1, 1) := by decide +kernel
theorem dX9_yarn_2 : decode cX9_yarn 2 = .ok (.invokevirtual 445, 3) := by decide +kernel
theorem dX9_yarn_5 : decode cX9_yarn 5 = .ok (.ifCond .eq 15, 3) := by decide +kernel
theorem dX9_yarn_8 : decode cX9_yarn 8 = .ok (.aload_n 0, 1) := by decide +kernel
theorem dX9_yarn_9 : decode cX9_yarn 9 = .ok (.getfield 9, 3) := by decide +kernel
theorem dX9_yarn_12 : decode cX9_yarn 12 = .ok (.bipush 110, 2) := by decide +kernel
theorem dX9_yarn_14 : decode cX9_yarn 14 = .ok (.iload_n 1, 1) := by decide +kernel
theorem dX9_yarn_15 : decode cX9_yarn 15 = .ok (.iadd, 1) := by decide +kernel
theorem dX9_yarn_16 : decode cX9_yarn 16 = .ok (.iaload, 1) := by decide +kernel
theorem dX9_yarn_17 : decode cX9_yarn 17 = .ok (.goto 4, 3) := by decide +kernel
theorem dX9_yarn_20 : decode cX9_yarn 20 = .ok (.iconst 0, 1) := by decide +kernel
theorem dX9_yarn_21 : decode cX9_yarn 21 = .ok (.ireturn, 1) := by decide +kernel
theorem dX9_yarnNeeded_0 : decode cX9_yarnNeeded 0 = .ok (.aload_n 0, 1) := by decide +kernel
theorem dX9_yarnNeeded_1 : decode cX9_yarnNeeded 1 = .ok (.iload_n 1, 1) := by decide +kernel
theorem dX9_yarnNeeded_2 : decode cX9_yarnNeeded 2 = .ok (.invokevirtual 445, 3) := by decide +kernel
theorem dX9_yarnNeeded_5 : decode cX9_yarnNeeded 5 = .ok (.ifCond .eq 12, 3) := by decide +kernel
theorem dX9_yarnNeeded_8 : decode cX9_yarnNeeded 8 = .ok (.aload_n 0, 1) := by decide +kernel
theorem dX9_yarnNeeded_9 : decode cX9_yarnNeeded 9 = .ok (.getfield 9, 3) := by decide +kernel
theorem dX9_yarnNeeded_12 : decode cX9_yarnNeeded 12 = .ok (.iconst 4, 1) := by decide +kernel
theorem dX9_yarnNeeded_13 : decode cX9_yarnNeeded 13 = .ok (.iaload, 1) := by decide +kernel
theorem dX9_yarnNeeded_14 : decode cX9_yarnNeeded 14 = .ok (.ifCond .ne 5, 3) := by decide +kernel
theorem dX9_yarnNeeded_17 : decode cX9_yarnNeeded 17 = .ok (.iconst 0, 1) := by decide +kernel
theorem dX9_yarnNeeded_18 : decode cX9_yarnNeeded 18 = .ok (.ireturn, 1) := by decide +kernel
theorem dX9_yarnNeeded_19 : decode cX9_yarnNeeded 19 = .ok (.iconst 0, 1) := by decide +kernel
theorem dX9_yarnNeeded_20 : decode cX9_yarnNeeded 20 = .ok (.istore_n 2, 1) := by decide +kernel
theorem dX9_yarnNeeded_21 : decode cX9_yarnNeeded 21 = .ok (.aload_n 0, 1) := by decide +kernel
theorem dX9_yarnNeeded_22 : decode cX9_yarnNeeded 22 = .ok (.getfield 9, 3) := by decide +kernel
theorem dX9_yarnNeeded_25 : decode cX9_yarnNeeded 25 = .ok (.iconst 5, 1) := by decide +kernel
theorem dX9_yarnNeeded_26 : decode cX9_yarnNeeded 26 = .ok (.iaload, 1) := by decide +kernel
theorem dX9_yarnNeeded_27 : decode cX9_yarnNeeded 27 = .ok (.aload_n 0, 1) := by decide +kernel
theorem dX9_yarnNeeded_28 : decode cX9_yarnNeeded 28 = .ok (.getfield 9, 3) := by decide +kernel
theorem dX9_yarnNeeded_31 : decode cX9_yarnNeeded 31 = .ok (.iconst 4, 1) := by decide +kernel
theorem dX9_yarnNeeded_32 : decode cX9_yarnNeeded 32 = .ok (.iaload, 1) := by decide +kernel
theorem dX9_yarnNeeded_33 : decode cX9_yarnNeeded 33 = .ok (.irem, 1) := by decide +kernel
theorem dX9_yarnNeeded_34 : decode cX9_yarnNeeded 34 = .ok (.istore_n 3, 1) := by decide +kernel
theorem dX9_yarnNeeded_35 : decode cX9_yarnNeeded 35 = .ok (.iload_n 3, 1) := by decide +kernel
theorem dX9_yarnNeeded_36 : decode cX9_yarnNeeded 36 = .ok (.aload_n 0, 1) := by decide +kernel
theorem dX9_yarnNeeded_37 : decode cX9_yarnNeeded 37 = .ok (.getfield 9, 3) := by decide +kernel
theorem dX9_yarnNeeded_40 : decode cX9_yarnNeeded 40 = .ok (.iconst 4, 1) := by decide +kernel
theorem dX9_yarnNeeded_41 : decode cX9_yarnNeeded 41 = .ok (.iaload, 1) := by decide +kernel
theorem dX9_yarnNeeded_42 : decode cX9_yarnNeeded 42 = .ok (.if_icmp .ge 39, 3) := by decide +kernel
theorem dX9_yarnNeeded_45 : decode cX9_yarnNeeded 45 = .ok (.iload_n 2, 1) := by decide +kernel
theorem dX9_yarnNeeded_46 : decode cX9_yarnNeeded 46 = .ok (.aload_n 0, 1) := by decide +kernel
theorem dX9_yarnNeeded_47 : decode cX9_yarnNeeded 47 = .ok (.aload_n 0, 1) := by decide +kernel
theorem dX9_yarnNeeded_48 : decode cX9_yarnNeeded 48 = .ok (.getfield 9, 3) := by decide +kernel
theorem dX9_yarnNeeded_51 : decode cX9_yarnNeeded 51 = .ok (.sipush 164, 3) := by decide +kernel
theorem dX9_yarnNeeded_54 : decode cX9_yarnNeeded 54 = .ok (.iload_n 3, 1) := by decide +kernel
theorem dX9_yarnNeeded_55 : decode cX9_yarnNeeded 55 = .ok (.iadd, 1) := by decide +kernel
theorem dX9_yarnNeeded_56 : decode cX9_yarnNeeded 56 = .ok (.iaload, 1) := by decide +kernel
theorem dX9_yarnNeeded_57 : decode cX9_yarnNeeded 57 = .ok (.iconst 1, 1) := by decide +kernel
theorem dX9_yarnNeeded_58 : decode cX9_yarnNeeded 58 = .ok (.invokevirtual 232, 3) := by decide +kernel
theorem dX9_yarnNeeded_61 : decode cX9_yarnNeeded 61 = .ok (.iload_n 1, 1) := by decide +kernel
theorem dX9_yarnNeeded_62 : decode cX9_yarnNeeded 62 = .ok (.if_icmp .ne 7, 3) := by decide +kernel
theorem dX9_yarnNeeded_65 : decode cX9_yarnNeeded 65 = .ok (.iconst 1, 1) := by decide +kernel
theorem dX9_yarnNeeded_66 : decode cX9_yarnNeeded 66 = .ok (.goto 4, 3) := by decide +kernel
theorem dX9_yarnNeeded_69 : decode cX9_yarnNeeded 69 = .ok (.iconst 0, 1) := by decide +kernel
theorem dX9_yarnNeeded_70 : decode cX9_yarnNeeded 70 = .ok (.invokestatic 324, 3) := by decide +kernel
theorem dX9_yarnNeeded_73 : decode cX9_yarnNeeded 73 = .ok (.iadd, 1) := by decide +kernel
theorem dX9_yarnNeeded_74 : decode cX9_yarnNeeded 74 = .ok (.istore_n 2, 1) := by decide +kernel
theorem dX9_yarnNeeded_75 : decode cX9_yarnNeeded 75 = .ok (.iinc 3 1, 3) := by decide +kernel
theorem dX9_yarnNeeded_78 : decode cX9_yarnNeeded 78 = .ok (.goto (-43), 3) := by decide +kernel
theorem dX9_yarnNeeded_81 : decode cX9_yarnNeeded 81 = .ok (.iload_n 2, 1) := by decide +kernel
theorem dX9_yarnNeeded_82 : decode cX9_yarnNeeded 82 = .ok (.aload_n 0, 1) := by decide +kernel
theorem dX9_yarnNeeded_83 : decode cX9_yarnNeeded 83 = .ok (.getfield 9, 3) := by decide +kernel
theorem dX9_yarnNeeded_86 : decode cX9_yarnNeeded 86 = .ok (.iconst 2, 1) := by decide +kernel
theorem dX9_yarnNeeded_87 : decode cX9_yarnNeeded 87 = .ok (.iaload, 1) := by decide +kernel
theorem dX9_yarnNeeded_88 : decode cX9_yarnNeeded 88 = .ok (.imul, 1) := by decide +kernel
theorem dX9_yarnNeeded_89 : decode cX9_yarnNeeded 89 = .ok (.ireturn, 1) := by decide +kernel
theorem dX9_nextCard_0 : decode cX9_nextCard 0 = .ok (.aload_n 0, 1) := by decide +kernel
theorem dX9_nextCard_1 : decode cX9_nextCard 1 = .ok (.invokevirtual 409, 3) := by decide +kernel
theorem dX9_nextCard_4 : decode cX9_nextCard 4 = .ok (.ifCond .eq 10, 3) := by decide +kernel
theorem dX9_nextCard_7 : decode cX9_nextCard 7 = .ok (.aload_n 0, 1) := by decide +kernel
theorem dX9_nextCard_8 : decode cX9_nextCard 8 = .ok (.invokevirtual 334, 3) := by decide +kernel
theorem dX9_nextCard_11 : decode cX9_nextCard 11 = .ok (.goto 4, 3) := by decide +kernel
theorem dX9_nextCard_14 : decode cX9_nextCard 14 = .ok (.iconst 0, 1) := by decide +kernel
theorem dX9_nextCard_15 : decode cX9_nextCard 15 = .ok (.ireturn, 1) := by decide +kernel
theorem dX9_weaveObstacle_0 : decode cX9_weaveObstacle 0 = .ok (.aload_n 0, 1) := by decide +kernel
theorem dX9_weaveObstacle_1 : decode cX9_weaveObstacle 1 = .ok (.invokevirtual 409, 3) := by decide +kernel
theorem dX9_weaveObstacle_4 : decode cX9_weaveObstacle 4 = .ok (.ifCond .eq 10, 3) := by decide +kernel
theorem dX9_weaveObstacle_7 : decode cX9_weaveObstacle 7 = .ok (.aload_n 0, 1) := by decide +kernel
theorem dX9_weaveObstacle_8 : decode cX9_weaveObstacle 8 = .ok (.invokevirtual 363, 3) := by decide +kernel
theorem dX9_weaveObstacle_11 : decode cX9_weaveObstacle 11 = .ok (.goto 4, 3) := by decide +kernel
theorem dX9_weaveObstacle_14 : decode cX9_weaveObstacle 14 = .ok (.iconst 0, 1) := by decide +kernel
theorem dX9_weaveObstacle_15 : decode cX9_weaveObstacle 15 = .ok (.ireturn, 1) := by decide +kernel
theorem dX9_picksPossible_0 : decode cX9_picksPossible 0 = .ok (.aload_n 0, 1) := by decide +kernel
theorem dX9_picksPossible_1 : decode cX9_picksPossible 1 = .ok (.invokevirtual 409, 3) := by decide +kernel
theorem dX9_picksPossible_4 : decode cX9_picksPossible 4 = .ok (.ifCond .ne 5, 3) := by decide +kernel
theorem dX9_picksPossible_7 : decode cX9_picksPossible 7 = .ok (.iconst 0, 1) := by decide +kernel
theorem dX9_picksPossible_8 : decode cX9_picksPossible 8 = .ok (.ireturn, 1) := by decide +kernel
theorem dX9_picksPossible_9 : decode cX9_picksPossible 9 = .ok (.aload_n 0, 1) := by decide +kernel
theorem dX9_picksPossible_10 : decode cX9_picksPossible 10 = .ok (.invokevirtual 313, 3) := by decide +kernel
theorem dX9_picksPossible_13 : decode cX9_picksPossible 13 = .ok (.aload_n 0, 1) := by decide +kernel
theorem dX9_picksPossible_14 : decode cX9_picksPossible 14 = .ok (.aload_n 0, 1) := by decide +kernel
theorem dX9_picksPossible_15 : decode cX9_picksPossible 15 = .ok (.bipush 60, 2) := by decide +kernel
theorem dX9_picksPossible_17 : decode cX9_picksPossible 17 = .ok (.invokevirtual 211, 3) := by decide +kernel
theorem dX9_picksPossible_20 : decode cX9_picksPossible 20 = .ok (.invokevirtual 319, 3) := by decide +kernel
theorem dX9_picksPossible_23 : decode cX9_picksPossible 23 = .ok (.ireturn, 1) := by decide +kernel
theorem dX9_stuckOnes_0 : decode cX9_stuckOnes 0 = .ok (.iconst 0, 1) := by decide +kernel
theorem dX9_stuckOnes_1 : decode cX9_stuckOnes 1 = .ok (.istore_n 1, 1) := by decide +kernel
theorem dX9_stuckOnes_2 : decode cX9_stuckOnes 2 = .ok (.iconst 0, 1) := by decide +kernel
theorem dX9_stuckOnes_3 : decode cX9_stuckOnes 3 = .ok (.istore_n 2, 1) := by decide +kernel
theorem dX9_stuckOnes_4 : decode cX9_stuckOnes 4 = .ok (.iload_n 2, 1) := by decide +kernel
theorem dX9_stuckOnes_5 : decode cX9_stuckOnes 5 = .ok (.aload_n 0, 1) := by decide +kernel
theorem dX9_stuckOnes_6 : decode cX9_stuckOnes 6 = .ok (.getfield 9, 3) := by decide +kernel
theorem dX9_stuckOnes_9 : decode cX9_stuckOnes 9 = .ok (.iconst 0, 1) := by decide +kernel
theorem dX9_stuckOnes_10 : decode cX9_stuckOnes 10 = .ok (.iaload, 1) := by decide +kernel
theorem dX9_stuckOnes_11 : decode cX9_stuckOnes 11 = .ok (.if_icmp .ge 18, 3) := by decide +kernel
theorem dX9_stuckOnes_14 : decode cX9_stuckOnes 14 = .ok (.iload_n 1, 1) := by decide +kernel
theorem dX9_stuckOnes_15 : decode cX9_stuckOnes 15 = .ok (.aload_n 0, 1) := by decide +kernel
theorem dX9_stuckOnes_16 : decode cX9_stuckOnes 16 = .ok (.iload_n 2, 1) := by decide +kernel
theorem dX9_stuckOnes_17 : decode cX9_stuckOnes 17 = .ok (.iconst 2, 1) := by decide +kernel
theorem dX9_stuckOnes_18 : decode cX9_stuckOnes 18 = .ok (.invokevirtual 346, 3) := by decide +kernel
theorem dX9_stuckOnes_21 : decode cX9_stuckOnes 21 = .ok (.iadd, 1) := by decide +kernel
theorem dX9_stuckOnes_22 : decode cX9_stuckOnes 22 = .ok (.istore_n 1, 1) := by decide +kernel
theorem dX9_stuckOnes_23 : decode cX9_stuckOnes 23 = .ok (.iinc 2 1, 3) := by decide +kernel
theorem dX9_stuckOnes_26 : decode cX9_stuckOnes 26 = .ok (.goto (-22), 3) := by decide +kernel
theorem dX9_stuckOnes_29 : decode cX9_stuckOnes 29 = .ok (.iload_n 1, 1) := by decide +kernel
theorem dX9_stuckOnes_30 : decode cX9_stuckOnes 30 = .ok (.ireturn, 1) := by decide +kernel
theorem dX9_untilStuck_0 : decode cX9_untilStuck 0 = .ok (.aload_n 0, 1) := by decide +kernel
theorem dX9_untilStuck_1 : decode cX9_untilStuck 1 = .ok (.invokevirtual 457, 3) := by decide +kernel
theorem dX9_untilStuck_4 : decode cX9_untilStuck 4 = .ok (.istore_n 1, 1) := by decide +kernel
theorem dX9_untilStuck_5 : decode cX9_untilStuck 5 = .ok (.iconst 1, 1) := by decide +kernel
theorem dX9_untilStuck_6 : decode cX9_untilStuck 6 = .ok (.istore_n 2, 1) := by decide +kernel
theorem dX9_untilStuck_7 : decode cX9_untilStuck 7 = .ok (.iload_n 2, 1) := by decide +kernel
theorem dX9_untilStuck_8 : decode cX9_untilStuck 8 = .ok (.bipush 60, 2) := by decide +kernel
theorem dX9_untilStuck_10 : decode cX9_untilStuck 10 = .ok (.if_icmp .gt 30, 3) := by decide +kernel
theorem dX9_untilStuck_13 : decode cX9_untilStuck 13 = .ok (.aload_n 0, 1) := by decide +kernel
theorem dX9_untilStuck_14 : decode cX9_untilStuck 14 = .ok (.invokevirtual 363, 3) := by decide +kernel
theorem dX9_untilStuck_17 : decode cX9_untilStuck 17 = .ok (.ifCond .ne 23, 3) := by decide +kernel
theorem dX9_untilStuck_20 : decode cX9_untilStuck 20 = .ok (.aload_n 0, 1) := by decide +kernel
theorem dX9_untilStuck_21 : decode cX9_untilStuck 21 = .ok (.invokevirtual 366, 3) := by decide +kernel
theorem dX9_untilStuck_24 : decode cX9_untilStuck 24 = .ok (.aload_n 0, 1) := by decide +kernel
theorem dX9_untilStuck_25 : decode cX9_untilStuck 25 = .ok (.invokevirtual 457, 3) := by decide +kernel
theorem dX9_untilStuck_28 : decode cX9_untilStuck 28 = .ok (.iload_n 1, 1) := by decide +kernel
theorem dX9_untilStuck_29 : decode cX9_untilStuck 29 = .ok (.if_icmp .le 5, 3) := by decide +kernel
theorem dX9_untilStuck_32 : decode cX9_untilStuck 32 = .ok (.iload_n 2, 1) := by decide +kernel
theorem dX9_untilStuck_33 : decode cX9_untilStuck 33 = .ok (.ireturn, 1) := by decide +kernel
theorem dX9_untilStuck_34 : decode cX9_untilStuck 34 = .ok (.iinc 2 1, 3) := by decide +kernel
theorem dX9_untilStuck_37 : decode cX9_untilStuck 37 = .ok (.goto (-30), 3) := by decide +kernel
theorem dX9_untilStuck_40 : decode cX9_untilStuck 40 = .ok (.iconst (-1), 1) := by decide +kernel
theorem dX9_untilStuck_41 : decode cX9_untilStuck 41 = .ok (.ireturn, 1) := by decide +kernel
theorem dX9_picksUntilStuck_0 : decode cX9_picksUntilStuck 0 = .ok (.aload_n 0, 1) := by decide +kernel
theorem dX9_picksUntilStuck_1 : decode cX9_picksUntilStuck 1 = .ok (.invokevirtual 409, 3) := by decide +kernel
theorem dX9_picksUntilStuck_4 : decode cX9_picksUntilStuck 4 = .ok (.ifCond .ne 5, 3) := by decide +kernel
theorem dX9_picksUntilStuck_7 : decode cX9_picksUntilStuck 7 = .ok (.iconst 0, 1) := by decide +kernel
theorem dX9_picksUntilStuck_8 : decode cX9_picksUntilStuck 8 = .ok (.ireturn, 1) := by decide +kernel
theorem dX9_picksUntilStuck_9 : decode cX9_picksUntilStuck 9 = .ok (.aload_n 0, 1) := by decide +kernel
theorem dX9_picksUntilStuck_10 : decode cX9_picksUntilStuck 10 = .ok (.invokevirtual 313, 3) := by decide +kernel
theorem dX9_picksUntilStuck_13 : decode cX9_picksUntilStuck 13 = .ok (.aload_n 0, 1) := by decide +kernel
theorem dX9_picksUntilStuck_14 : decode cX9_picksUntilStuck 14 = .ok (.aload_n 0, 1) := by decide +kernel
theorem dX9_picksUntilStuck_15 : decode cX9_picksUntilStuck 15 = .ok (.invokevirtual 460, 3) := by decide +kernel
theorem dX9_picksUntilStuck_18 : decode cX9_picksUntilStuck 18 = .ok (.invokevirtual 319, 3) := by decide +kernel
theorem dX9_picksUntilStuck_21 : decode cX9_picksUntilStuck 21 = .ok (.ireturn, 1) := by decide +kernel
theorem dX9_imbalance_0 : decode cX9_imbalance 0 = .ok (.aload_n 0, 1) := by decide +kernel
theorem dX9_imbalance_1 : decode cX9_imbalance 1 = .ok (.invokevirtual 409, 3) := by decide +kernel
theorem dX9_imbalance_4 : decode cX9_imbalance 4 = .ok (.ifCond .ne 5, 3) := by decide +kernel
theorem dX9_imbalance_7 : decode cX9_imbalance 7 = .ok (.iconst 0, 1) := by decide +kernel
theorem dX9_imbalance_8 : decode cX9_imbalance 8 = .ok (.ireturn, 1) := by decide +kernel
theorem dX9_imbalance_9 : decode cX9_imbalance 9 = .ok (.aload_n 0, 1) := by decide +kernel
theorem dX9_imbalance_10 : decode cX9_imbalance 10 = .ok (.getfield 9, 3) := by decide +kernel
theorem dX9_imbalance_13 : decode cX9_imbalance 13 = .ok (.iconst 5, 1) := by decide +kernel
theorem dX9_imbalance_14 : decode cX9_imbalance 14 = .ok (.iaload, 1) := by decide +kernel
theorem dX9_imbalance_15 : decode cX9_imbalance 15 = .ok (.aload_n 0, 1) := by decide +kernel
theorem dX9_imbalance_16 : decode cX9_imbalance 16 = .ok (.getfield 9, 3) := by decide +kernel
theorem dX9_imbalance_19 : decode cX9_imbalance 19 = .ok (.iconst 2, 1) := by decide +kernel
theorem dX9_imbalance_20 : decode cX9_imbalance 20 = .ok (.iaload, 1) := by decide +kernel
theorem dX9_imbalance_21 : decode cX9_imbalance 21 = .ok (.imul, 1) := by decide +kernel
theorem dX9_imbalance_22 : decode cX9_imbalance 22 = .ok (.istore_n 1, 1) := by decide +kernel
theorem dX9_imbalance_23 : decode cX9_imbalance 23 = .ok (.iconst 0, 1) := by decide +kernel
theorem dX9_imbalance_24 : decode cX9_imbalance 24 = .ok (.istore_n 2, 1) := by decide +kernel
theorem dX9_imbalance_25 : decode cX9_imbalance 25 = .ok (.iload_n 2, 1) := by decide +kernel
theorem dX9_imbalance_26 : decode cX9_imbalance 26 = .ok (.bipush 6, 2) := by decide +kernel
theorem dX9_imbalance_28 : decode cX9_imbalance 28 = .ok (.if_icmp .ge 21, 3) := by decide +kernel
theorem dX9_imbalance_31 : decode cX9_imbalance 31 = .ok (.iload_n 1, 1) := by decide +kernel
theorem dX9_imbalance_32 : decode cX9_imbalance 32 = .ok (.aload_n 0, 1) := by decide +kernel
theorem dX9_imbalance_33 : decode cX9_imbalance 33 = .ok (.getfield 9, 3) := by decide +kernel
theorem dX9_imbalance_36 : decode cX9_imbalance 36 = .ok (.bipush 110, 2) := by decide +kernel
theorem dX9_imbalance_38 : decode cX9_imbalance 38 = .ok (.iload_n 2, 1) := by decide +kernel
theorem dX9_imbalance_39 : decode cX9_imbalance 39 = .ok (.iadd, 1) := by decide +kernel
theorem dX9_imbalance_40 : decode cX9_imbalance 40 = .ok (.iaload, 1) := by decide +kernel
theorem dX9_imbalance_41 : decode cX9_imbalance 41 = .ok (.iadd, 1) := by decide +kernel
theorem dX9_imbalance_42 : decode cX9_imbalance 42 = .ok (.istore_n 1, 1) := by decide +kernel
theorem dX9_imbalance_43 : decode cX9_imbalance 43 = .ok (.iinc 2 1, 3) := by decide +kernel
theorem dX9_imbalance_46 : decode cX9_imbalance 46 = .ok (.goto (-21), 3) := by decide +kernel
theorem dX9_imbalance_49 : decode cX9_imbalance 49 = .ok (.iload_n 1, 1) := by decide +kernel
theorem dX9_imbalance_50 : decode cX9_imbalance 50 = .ok (.aload_n 0, 1) := by decide +kernel
theorem dX9_imbalance_51 : decode cX9_imbalance 51 = .ok (.getfield 9, 3) := by decide +kernel
theorem dX9_imbalance_54 : decode cX9_imbalance 54 = .ok (.bipush 10, 2) := by decide +kernel
theorem dX9_imbalance_56 : decode cX9_imbalance 56 = .ok (.iaload, 1) := by decide +kernel
theorem dX9_imbalance_57 : decode cX9_imbalance 57 = .ok (.isub, 1) := by decide +kernel
theorem dX9_imbalance_58 : decode cX9_imbalance 58 = .ok (.invokestatic 463, 3) := by decide +kernel
theorem dX9_imbalance_61 : decode cX9_imbalance 61 = .ok (.aload_n 0, 1) := by decide +kernel
theorem dX9_imbalance_62 : decode cX9_imbalance 62 = .ok (.getfield 9, 3) := by decide +kernel
theorem dX9_imbalance_65 : decode cX9_imbalance 65 = .ok (.bipush 8, 2) := by decide +kernel
theorem dX9_imbalance_67 : decode cX9_imbalance 67 = .ok (.iaload, 1) := by decide +kernel
theorem dX9_imbalance_68 : decode cX9_imbalance 68 = .ok (.ifCond .ne 30, 3) := by decide +kernel
theorem dX9_imbalance_71 : decode cX9_imbalance 71 = .ok (.aload_n 0, 1) := by decide +kernel
theorem dX9_imbalance_72 : decode cX9_imbalance 72 = .ok (.getfield 9, 3) := by decide +kernel
theorem dX9_imbalance_75 : decode cX9_imbalance 75 = .ok (.bipush 9, 2) := by decide +kernel
theorem dX9_imbalance_77 : decode cX9_imbalance 77 = .ok (.iaload, 1) := by decide +kernel
theorem dX9_imbalance_78 : decode cX9_imbalance 78 = .ok (.ifCond .ne 20, 3) := by decide +kernel
theorem dX9_imbalance_81 : decode cX9_imbalance 81 = .ok (.aload_n 0, 1) := by decide +kernel
theorem dX9_imbalance_82 : decode cX9_imbalance 82 = .ok (.getfield 9, 3) := by decide +kernel
theorem dX9_imbalance_85 : decode cX9_imbalance 85 = .ok (.bipush 13, 2) := by decide +kernel
theorem dX9_imbalance_87 : decode cX9_imbalance 87 = .ok (.iaload, 1) := by decide +kernel
theorem dX9_imbalance_88 : decode cX9_imbalance 88 = .ok (.ifCond .ne 10, 3) := by decide +kernel
theorem dX9_imbalance_91 : decode cX9_imbalance 91 = .ok (.aload_n 0, 1) := by decide +kernel
theorem dX9_imbalance_92 : decode cX9_imbalance 92 = .ok (.invokevirtual 384, 3) := by decide +kernel
theorem dX9_imbalance_95 : decode cX9_imbalance 95 = .ok (.goto 4, 3) := by decide +kernel
theorem dX9_imbalance_98 : decode cX9_imbalance 98 = .ok (.iconst 0, 1) := by decide +kernel
theorem dX9_imbalance_99 : decode cX9_imbalance 99 = .ok (.iadd, 1) := by decide +kernel
theorem dX9_imbalance_100 : decode cX9_imbalance 100 = .ok (.ireturn, 1) := by decide +kernel
theorem dX9_writesByte_0 : decode cX9_writesByte 0 = .ok (.aload_n 0, 1) := by decide +kernel
theorem dX9_writesByte_1 : decode cX9_writesByte 1 = .ok (.getfield 43, 3) := by decide +kernel
theorem dX9_writesByte_4 : decode cX9_writesByte 4 = .ok (.aload_n 0, 1) := by decide +kernel
theorem dX9_writesByte_5 : decode cX9_writesByte 5 = .ok (.getfield 466, 3) := by decide +kernel
theorem dX9_writesByte_8 : decode cX9_writesByte 8 = .ok (.iload_n 1, 1) := by decide +kernel
theorem dX9_writesByte_9 : decode cX9_writesByte 9 = .ok (.i2b, 1) := by decide +kernel
theorem dX9_writesByte_10 : decode cX9_writesByte 10 = .ok (.bastore, 1) := by decide +kernel
theorem dX9_writesByte_11 : decode cX9_writesByte 11 = .ok (.aload_n 0, 1) := by decide +kernel
theorem dX9_writesByte_12 : decode cX9_writesByte 12 = .ok (.dup, 1) := by decide +kernel
theorem dX9_writesByte_13 : decode cX9_writesByte 13 = .ok (.getfield 466, 3) := by decide +kernel
theorem dX9_writesByte_16 : decode cX9_writesByte 16 = .ok (.iconst 1, 1) := by decide +kernel
theorem dX9_writesByte_17 : decode cX9_writesByte 17 = .ok (.iadd, 1) := by decide +kernel
theorem dX9_writesByte_18 : decode cX9_writesByte 18 = .ok (.putfield 466, 3) := by decide +kernel
theorem dX9_writesByte_21 : decode cX9_writesByte 21 = .ok (.return_, 1) := by decide +kernel
theorem dX9_writesNumber_0 : decode cX9_writesNumber 0 = .ok (.iload_n 1, 1) := by decide +kernel
theorem dX9_writesNumber_1 : decode cX9_writesNumber 1 = .ok (.bipush 9, 2) := by decide +kernel
theorem dX9_writesNumber_3 : decode cX9_writesNumber 3 = .ok (.if_icmp .le 14, 3) := by decide +kernel
theorem dX9_writesNumber_6 : decode cX9_writesNumber 6 = .ok (.aload_n 0, 1) := by decide +kernel
theorem dX9_writesNumber_7 : decode cX9_writesNumber 7 = .ok (.bipush 48, 2) := by decide +kernel
theorem dX9_writesNumber_9 : decode cX9_writesNumber 9 = .ok (.iload_n 1, 1) := by decide +kernel
theorem dX9_writesNumber_10 : decode cX9_writesNumber 10 = .ok (.bipush 10, 2) := by decide +kernel
theorem dX9_writesNumber_12 : decode cX9_writesNumber 12 = .ok (.idiv, 1) := by decide +kernel
theorem dX9_writesNumber_13 : decode cX9_writesNumber 13 = .ok (.iadd, 1) := by decide +kernel
theorem dX9_writesNumber_14 : decode cX9_writesNumber 14 = .ok (.invokevirtual 469, 3) := by decide +kernel
theorem dX9_writesNumber_17 : decode cX9_writesNumber 17 = .ok (.aload_n 0, 1) := by decide +kernel
theorem dX9_writesNumber_18 : decode cX9_writesNumber 18 = .ok (.bipush 48, 2) := by decide +kernel
theorem dX9_writesNumber_20 : decode cX9_writesNumber 20 = .ok (.iload_n 1, 1) := by decide +kernel
theorem dX9_writesNumber_21 : decode cX9_writesNumber 21 = .ok (.bipush 10, 2) := by decide +kernel
theorem dX9_writesNumber_23 : decode cX9_writesNumber 23 = .ok (.irem, 1) := by decide +kernel
theorem dX9_writesNumber_24 : decode cX9_writesNumber 24 = .ok (.iadd, 1) := by decide +kernel
theorem dX9_writesNumber_25 : decode cX9_writesNumber 25 = .ok (.invokevirtual 469, 3) := by decide +kernel
theorem dX9_writesNumber_28 : decode cX9_writesNumber 28 = .ok (.return_, 1) := by decide +kernel
theorem dX9_writeRow_0 : decode cX9_writeRow 0 = .ok (.aload_n 0, 1) := by decide +kernel
theorem dX9_writeRow_1 : decode cX9_writeRow 1 = .ok (.iload_n 1, 1) := by decide +kernel
theorem dX9_writeRow_2 : decode cX9_writeRow 2 = .ok (.invokevirtual 442, 3) := by decide +kernel
theorem dX9_writeRow_5 : decode cX9_writeRow 5 = .ok (.ifCond .ne 5, 3) := by decide +kernel
theorem dX9_writeRow_8 : decode cX9_writeRow 8 = .ok (.iconst 0, 1) := by decide +kernel
theorem dX9_writeRow_9 : decode cX9_writeRow 9 = .ok (.ireturn, 1) := by decide +kernel
theorem dX9_writeRow_10 : decode cX9_writeRow 10 = .ok (.aload_n 0, 1) := by decide +kernel
theorem dX9_writeRow_11 : decode cX9_writeRow 11 = .ok (.iconst 0, 1) := by decide +kernel
theorem dX9_writeRow_12 : decode cX9_writeRow 12 = .ok (.putfield 466, 3) := by decide +kernel
theorem dX9_writeRow_15 : decode cX9_writeRow 15 = .ok (.iconst 0, 1) := by decide +kernel
theorem dX9_writeRow_16 : decode cX9_writeRow 16 = .ok (.istore_n 2, 1) := by decide +kernel
theorem dX9_writeRow_17 : decode cX9_writeRow 17 = .ok (.iload_n 2, 1) := by decide +kernel
theorem dX9_writeRow_18 : decode cX9_writeRow 18 = .ok (.aload_n 0, 1) := by decide +kernel
theorem dX9_writeRow_19 : decode cX9_writeRow 19 = .ok (.getfield 9, 3) := by decide +kernel
theorem dX9_writeRow_22 : decode cX9_writeRow 22 = .ok (.iconst 2, 1) := by decide +kernel
theorem dX9_writeRow_23 : decode cX9_writeRow 23 = .ok (.iaload, 1) := by decide +kernel
theorem dX9_writeRow_24 : decode cX9_writeRow 24 = .ok (.if_icmp .ge 38, 3) := by decide +kernel
theorem dX9_writeRow_27 : decode cX9_writeRow 27 = .ok (.aload_n 0, 1) := by decide +kernel
theorem dX9_writeRow_28 : decode cX9_writeRow 28 = .ok (.aload_n 0, 1) := by decide +kernel
theorem dX9_writeRow_29 : decode cX9_writeRow 29 = .ok (.iload_n 1, 1) := by decide +kernel
theorem dX9_writeRow_30 : decode cX9_writeRow 30 = .ok (.iload_n 2, 1) := by decide +kernel
theorem dX9_writeRow_31 : decode cX9_writeRow 31 = .ok (.invokevirtual 340, 3) := by decide +kernel
theorem dX9_writeRow_34 : decode cX9_writeRow 34 = .ok (.ifCond .eq 8, 3) := by decide +kernel
theorem dX9_writeRow_37 : decode cX9_writeRow 37 = .ok (.bipush 65, 2) := by decide +kernel
theorem dX9_writeRow_39 : decode cX9_writeRow 39 = .ok (.goto 5, 3) := by decide +kernel
theorem dX9_writeRow_42 : decode cX9_writeRow 42 = .ok (.bipush 97, 2) := by decide +kernel
theorem dX9_writeRow_44 : decode cX9_writeRow 44 = .ok (.aload_n 0, 1) := by decide +kernel
theorem dX9_writeRow_45 : decode cX9_writeRow 45 = .ok (.iload_n 1, 1) := by decide +kernel
theorem dX9_writeRow_46 : decode cX9_writeRow 46 = .ok (.iload_n 2, 1) := by decide +kernel
theorem dX9_writeRow_47 : decode cX9_writeRow 47 = .ok (.invokevirtual 375, 3) := by decide +kernel
theorem dX9_writeRow_50 : decode cX9_writeRow 50 = .ok (.iconst 2, 1) := by decide +kernel
theorem dX9_writeRow_51 : decode cX9_writeRow 51 = .ok (.idiv, 1) := by decide +kernel
theorem dX9_writeRow_52 : decode cX9_writeRow 52 = .ok (.iadd, 1) := by decide +kernel
theorem dX9_writeRow_53 : decode cX9_writeRow 53 = .ok (.invokevirtual 469, 3) := by decide +kernel
theorem dX9_writeRow_56 : decode cX9_writeRow 56 = .ok (.iinc 2 1, 3) := by decide +kernel
theorem dX9_writeRow_59 : decode cX9_writeRow 59 = .ok (.goto (-42), 3) := by decide +kernel
theorem dX9_writeRow_62 : decode cX9_writeRow 62 = .ok (.aload_n 0, 1) := by decide +kernel
theorem dX9_writeRow_63 : decode cX9_writeRow 63 = .ok (.getfield 466, 3) := by decide +kernel
theorem dX9_writeRow_66 : decode cX9_writeRow 66 = .ok (.ireturn, 1) := by decide +kernel
theorem dX9_writeCard_0 : decode cX9_writeCard 0 = .ok (.aload_n 0, 1) := by decide +kernel
theorem dX9_writeCard_1 : decode cX9_writeCard 1 = .ok (.iload_n 1, 1) := by decide +kernel
theorem dX9_writeCard_2 : decode cX9_writeCard 2 = .ok (.invokevirtual 424, 3) := by decide +kernel
theorem dX9_writeCard_5 : decode cX9_writeCard 5 = .ok (.ifCond .ne 5, 3) := by decide +kernel
theorem dX9_writeCard_8 : decode cX9_writeCard 8 = .ok (.iconst 0, 1) := by decide +kernel
theorem dX9_writeCard_9 : decode cX9_writeCard 9 = .ok (.ireturn, 1) := by decide +kernel
theorem dX9_writeCard_10 : decode cX9_writeCard 10 = .ok (.aload_n 0, 1) := by decide +kernel
theorem dX9_writeCard_11 : decode cX9_writeCard 11 = .ok (.iconst 0, 1) := by decide +kernel
theorem dX9_writeCard_12 : decode cX9_writeCard 12 = .ok (.putfield 466, 3) := by decide +kernel
theorem dX9_writeCard_15 : decode cX9_writeCard 15 = .ok (.iconst 0, 1) := by decide +kernel
theorem dX9_writeCard_16 : decode cX9_writeCard 16 = .ok (.istore_n 2, 1) := by decide +kernel
theorem dX9_writeCard_17 : decode cX9_writeCard 17 = .ok (.iload_n 2, 1) := by decide +kernel
theorem dX9_writeCard_18 : decode cX9_writeCard 18 = .ok (.aload_n 0, 1) := by decide +kernel
theorem dX9_writeCard_19 : decode cX9_writeCard 19 = .ok (.getfield 9, 3) := by decide +kernel
theorem dX9_writeCard_22 : decode cX9_writeCard 22 = .ok (.iconst 0, 1) := by decide +kernel
theorem dX9_writeCard_23 : decode cX9_writeCard 23 = .ok (.iaload, 1) := by decide +kernel
theorem dX9_writeCard_24 : decode cX9_writeCard 24 = .ok (.if_icmp .ge 33, 3) := by decide +kernel
theorem dX9_writeCard_27 : decode cX9_writeCard 27 = .ok (.aload_n 0, 1) := by decide +kernel
theorem dX9_writeCard_28 : decode cX9_writeCard 28 = .ok (.aload_n 0, 1) := by decide +kernel
theorem dX9_writeCard_29 : decode cX9_writeCard 29 = .ok (.iload_n 1, 1) := by decide +kernel
theorem dX9_writeCard_30 : decode cX9_writeCard 30 = .ok (.iconst 0, 1) := by decide +kernel
theorem dX9_writeCard_31 : decode cX9_writeCard 31 = .ok (.invokevirtual 232, 3) := by decide +kernel
theorem dX9_writeCard_34 : decode cX9_writeCard 34 = .ok (.iload_n 2, 1) := by decide +kernel
theorem dX9_writeCard_35 : decode cX9_writeCard 35 = .ok (.invokestatic 147, 3) := by decide +kernel
theorem dX9_writeCard_38 : decode cX9_writeCard 38 = .ok (.ifCond .eq 8, 3) := by decide +kernel
theorem dX9_writeCard_41 : decode cX9_writeCard 41 = .ok (.bipush 111, 2) := by decide +kernel
theorem dX9_writeCard_43 : decode cX9_writeCard 43 = .ok (.goto 5, 3) := by decide +kernel
theorem dX9_writeCard_46 : decode cX9_writeCard 46 = .ok (.bipush 46, 2) := by decide +kernel
theorem dX9_writeCard_48 : decode cX9_writeCard 48 = .ok (.invokevirtual 469, 3) := by decide +kernel
theorem dX9_writeCard_51 : decode cX9_writeCard 51 = .ok (.iinc 2 1, 3) := by decide +kernel
theorem dX9_writeCard_54 : decode cX9_writeCard 54 = .ok (.goto (-37), 3) := by decide +kernel
theorem dX9_writeCard_57 : decode cX9_writeCard 57 = .ok (.aload_n 0, 1) := by decide +kernel
theorem dX9_writeCard_58 : decode cX9_writeCard 58 = .ok (.bipush 32, 2) := by decide +kernel
theorem dX9_writeCard_60 : decode cX9_writeCard 60 = .ok (.invokevirtual 469, 3) := by decide +kernel
theorem dX9_writeCard_63 : decode cX9_writeCard 63 = .ok (.aload_n 0, 1) := by decide +kernel
theorem dX9_writeCard_64 : decode cX9_writeCard 64 = .ok (.bipush 97, 2) := by decide +kernel
theorem dX9_writeCard_66 : decode cX9_writeCard 66 = .ok (.aload_n 0, 1) := by decide +kernel
theorem dX9_writeCard_67 : decode cX9_writeCard 67 = .ok (.iload_n 1, 1) := by decide +kernel
theorem dX9_writeCard_68 : decode cX9_writeCard 68 = .ok (.iconst 1, 1) := by decide +kernel
theorem dX9_writeCard_69 : decode cX9_writeCard 69 = .ok (.invokevirtual 232, 3) := by decide +kernel
theorem dX9_writeCard_72 : decode cX9_writeCard 72 = .ok (.iadd, 1) := by decide +kernel
theorem dX9_writeCard_73 : decode cX9_writeCard 73 = .ok (.invokevirtual 469, 3) := by decide +kernel
theorem dX9_writeCard_76 : decode cX9_writeCard 76 = .ok (.aload_n 0, 1) := by decide +kernel
theorem dX9_writeCard_77 : decode cX9_writeCard 77 = .ok (.getfield 466, 3) := by decide +kernel
theorem dX9_writeCard_80 : decode cX9_writeCard 80 = .ok (.ireturn, 1) := by decide +kernel
theorem dX9_writesPart_0 : decode cX9_writesPart 0 = .ok (.iload_n 1, 1) := by decide +kernel
theorem dX9_writesPart_1 : decode cX9_writesPart 1 = .ok (.sipush 300, 3) := by decide +kernel
theorem dX9_writesPart_4 : decode cX9_writesPart 4 = .ok (.if_icmp .ne 10, 3) := by decide +kernel
theorem dX9_writesPart_7 : decode cX9_writesPart 7 = .ok (.aload_n 0, 1) := by decide +kernel
theorem dX9_writesPart_8 : decode cX9_writesPart 8 = .ok (.bipush 41, 2) := by decide +kernel
theorem dX9_writesPart_10 : decode cX9_writesPart 10 = .ok (.invokevirtual 469, 3) := by decide +kernel
theorem dX9_writesPart_13 : decode cX9_writesPart 13 = .ok (.return_, 1) := by decide +kernel
theorem dX9_writesPart_14 : decode cX9_writesPart 14 = .ok (.iload_n 1, 1) := by decide +kernel
theorem dX9_writesPart_15 : decode cX9_writesPart 15 = .ok (.bipush 100, 2) := by decide +kernel
theorem dX9_writesPart_17 : decode cX9_writesPart 17 = .ok (.if_icmp .ge 9, 3) := by decide +kernel
theorem dX9_writesPart_20 : decode cX9_writesPart 20 = .ok (.aload_n 0, 1) := by decide +kernel
theorem dX9_writesPart_21 : decode cX9_writesPart 21 = .ok (.iload_n 1, 1) := by decide +kernel
theorem dX9_writesPart_22 : decode cX9_writesPart 22 = .ok (.invokevirtual 472, 3) := by decide +kernel
theorem dX9_writesPart_25 : decode cX9_writesPart 25 = .ok (.return_, 1) := by decide +kernel
theorem dX9_writesPart_26 : decode cX9_writesPart 26 = .ok (.aload_n 0, 1) := by decide +kernel
theorem dX9_writesPart_27 : decode cX9_writesPart 27 = .ok (.iload_n 1, 1) := by decide +kernel
theorem dX9_writesPart_28 : decode cX9_writesPart 28 = .ok (.sipush 200, 3) := by decide +kernel
theorem dX9_writesPart_31 : decode cX9_writesPart 31 = .ok (.if_icmp .ne 8, 3) := by decide +kernel
theorem dX9_writesPart_34 : decode cX9_writesPart 34 = .ok (.bipush 109, 2) := by decide +kernel
theorem dX9_writesPart_36 : decode cX9_writesPart 36 = .ok (.goto 17, 3) := by decide +kernel
theorem dX9_writesPart_39 : decode cX9_writesPart 39 = .ok (.iload_n 1, 1) := by decide +kernel
theorem dX9_writesPart_40 : decode cX9_writesPart 40 = .ok (.sipush 201, 3) := by decide +kernel
theorem dX9_writesPart_43 : decode cX9_writesPart 43 = .ok (.if_icmp .ne 8, 3) := by decide +kernel
theorem dX9_writesPart_46 : decode cX9_writesPart 46 = .ok (.bipush 98, 2) := by decide +kernel
theorem dX9_writesPart_48 : decode cX9_writesPart 48 = .ok (.goto 5, 3) := by decide +kernel
theorem dX9_writesPart_51 : decode cX9_writesPart 51 = .ok (.bipush 114, 2) := by decide +kernel
theorem dX9_writesPart_53 : decode cX9_writesPart 53 = .ok (.invokevirtual 469, 3) := by decide +kernel
theorem dX9_writesPart_56 : decode cX9_writesPart 56 = .ok (.iload_n 1, 1) := by decide +kernel
theorem dX9_writesPart_57 : decode cX9_writesPart 57 = .ok (.sipush 200, 3) := by decide +kernel
theorem dX9_writesPart_60 : decode cX9_writesPart 60 = .ok (.if_icmp .ge 11, 3) := by decide +kernel
theorem dX9_writesPart_63 : decode cX9_writesPart 63 = .ok (.aload_n 0, 1) := by decide +kernel
theorem dX9_writesPart_64 : decode cX9_writesPart 64 = .ok (.iload_n 1, 1) := by decide +kernel
theorem dX9_writesPart_65 : decode cX9_writesPart 65 = .ok (.bipush 100, 2) := by decide +kernel
theorem dX9_writesPart_67 : decode cX9_writesPart 67 = .ok (.isub, 1) := by decide +kernel
theorem dX9_writesPart_68 : decode cX9_writesPart 68 = .ok (.invokevirtual 472, 3) := by decide +kernel
theorem dX9_writesPart_71 : decode cX9_writesPart 71 = .ok (.aload_n 0, 1) := by decide +kernel
theorem dX9_writesPart_72 : decode cX9_writesPart 72 = .ok (.bipush 40, 2) := by decide +kernel
theorem dX9_writesPart_74 : decode cX9_writesPart 74 = .ok (.invokevirtual 469, 3) := by decide +kernel
theorem dX9_writesPart_77 : decode cX9_writesPart 77 = .ok (.return_, 1) := by decide +kernel
theorem dX9_isApart_0 : decode cX9_isApart 0 = .ok (.iload_n 1, 1) := by decide +kernel
theorem dX9_isApart_1 : decode cX9_isApart 1 = .ok (.ifCond .eq 19, 3) := by decide +kernel
theorem dX9_isApart_4 : decode cX9_isApart 4 = .ok (.aload_n 0, 1) := by decide +kernel
theorem dX9_isApart_5 : decode cX9_isApart 5 = .ok (.getfield 9, 3) := by decide +kernel
theorem dX9_isApart_8 : decode cX9_isApart 8 = .ok (.sipush 1764, 3) := by decide +kernel
theorem dX9_isApart_11 : decode cX9_isApart 11 = .ok (.iload_n 1, 1) := by decide +kernel
theorem dX9_isApart_12 : decode cX9_isApart 12 = .ok (.iadd, 1) := by decide +kernel
theorem dX9_isApart_13 : decode cX9_isApart 13 = .ok (.iaload, 1) := by decide +kernel
theorem dX9_isApart_14 : decode cX9_isApart 14 = .ok (.sipush 300, 3) := by decide +kernel
theorem dX9_isApart_17 : decode cX9_isApart 17 = .ok (.if_icmp .ne 5, 3) := by decide +kernel
theorem dX9_isApart_20 : decode cX9_isApart 20 = .ok (.iconst 0, 1) := by decide +kernel
theorem dX9_isApart_21 : decode cX9_isApart 21 = .ok (.ireturn, 1) := by decide +kernel
theorem dX9_isApart_22 : decode cX9_isApart 22 = .ok (.aload_n 0, 1) := by decide +kernel
theorem dX9_isApart_23 : decode cX9_isApart 23 = .ok (.getfield 9, 3) := by decide +kernel
theorem dX9_isApart_26 : decode cX9_isApart 26 = .ok (.sipush 1764, 3) := by decide +kernel
theorem dX9_isApart_29 : decode cX9_isApart 29 = .ok (.iload_n 1, 1) := by decide +kernel
theorem dX9_isApart_30 : decode cX9_isApart 30 = .ok (.iadd, 1) := by decide +kernel
theorem dX9_isApart_31 : decode cX9_isApart 31 = .ok (.iconst 1, 1) := by decide +kernel
theorem dX9_isApart_32 : decode cX9_isApart 32 = .ok (.isub, 1) := by decide +kernel
theorem dX9_isApart_33 : decode cX9_isApart 33 = .ok (.iaload, 1) := by decide +kernel
theorem dX9_isApart_34 : decode cX9_isApart 34 = .ok (.bipush 100, 2) := by decide +kernel
theorem dX9_isApart_36 : decode cX9_isApart 36 = .ok (.if_icmp .lt 21, 3) := by decide +kernel
theorem dX9_isApart_39 : decode cX9_isApart 39 = .ok (.aload_n 0, 1) := by decide +kernel
theorem dX9_isApart_40 : decode cX9_isApart 40 = .ok (.getfield 9, 3) := by decide +kernel
theorem dX9_isApart_43 : decode cX9_isApart 43 = .ok (.sipush 1764, 3) := by decide +kernel
theorem dX9_isApart_46 : decode cX9_isApart 46 = .ok (.iload_n 1, 1) := by decide +kernel
theorem dX9_isApart_47 : decode cX9_isApart 47 = .ok (.iadd, 1) := by decide +kernel
theorem dX9_isApart_48 : decode cX9_isApart 48 = .ok (.iconst 1, 1) := by decide +kernel
theorem dX9_isApart_49 : decode cX9_isApart 49 = .ok (.isub, 1) := by decide +kernel
theorem dX9_isApart_50 : decode cX9_isApart 50 = .ok (.iaload, 1) := by decide +kernel
theorem dX9_isApart_51 : decode cX9_isApart 51 = .ok (.sipush 300, 3) := by decide +kernel
theorem dX9_isApart_54 : decode cX9_isApart 54 = .ok (.if_icmp .ne 7, 3) := by decide +kernel
theorem dX9_isApart_57 : decode cX9_isApart 57 = .ok (.iconst 1, 1) := by decide +kernel
theorem dX9_isApart_58 : decode cX9_isApart 58 = .ok (.goto 4, 3) := by decide +kernel
theorem dX9_isApart_61 : decode cX9_isApart 61 = .ok (.iconst 0, 1) := by decide +kernel
theorem dX9_isApart_62 : decode cX9_isApart 62 = .ok (.ireturn, 1) := by decide +kernel
theorem dX9_writeDeck_0 : decode cX9_writeDeck 0 = .ok (.aload_n 0, 1) := by decide +kernel
theorem dX9_writeDeck_1 : decode cX9_writeDeck 1 = .ok (.invokevirtual 409, 3) := by decide +kernel
theorem dX9_writeDeck_4 : decode cX9_writeDeck 4 = .ok (.ifCond .ne 5, 3) := by decide +kernel
theorem dX9_writeDeck_7 : decode cX9_writeDeck 7 = .ok (.iconst 0, 1) := by decide +kernel
theorem dX9_writeDeck_8 : decode cX9_writeDeck 8 = .ok (.ireturn, 1) := by decide +kernel
theorem dX9_writeDeck_9 : decode cX9_writeDeck 9 = .ok (.aload_n 0, 1) := by decide +kernel
theorem dX9_writeDeck_10 : decode cX9_writeDeck 10 = .ok (.iconst 0, 1) := by decide +kernel
theorem dX9_writeDeck_11 : decode cX9_writeDeck 11 = .ok (.putfield 466, 3) := by decide +kernel
theorem dX9_writeDeck_14 : decode cX9_writeDeck 14 = .ok (.iconst 0, 1) := by decide +kernel
theorem dX9_writeDeck_15 : decode cX9_writeDeck 15 = .ok (.istore_n 1, 1) := by decide +kernel
theorem dX9_writeDeck_16 : decode cX9_writeDeck 16 = .ok (.iload_n 1, 1) := by decide +kernel
theorem dX9_writeDeck_17 : decode cX9_writeDeck 17 = .ok (.aload_n 0, 1) := by decide +kernel
theorem dX9_writeDeck_18 : decode cX9_writeDeck 18 = .ok (.getfield 9, 3) := by decide +kernel
theorem dX9_writeDeck_21 : decode cX9_writeDeck 21 = .ok (.bipush 6, 2) := by decide +kernel
theorem dX9_writeDeck_23 : decode cX9_writeDeck 23 = .ok (.iaload, 1) := by decide +kernel
theorem dX9_writeDeck_24 : decode cX9_writeDeck 24 = .ok (.if_icmp .ge 37, 3) := by decide +kernel
theorem dX9_writeDeck_27 : decode cX9_writeDeck 27 = .ok (.aload_n 0, 1) := by decide +kernel
theorem dX9_writeDeck_28 : decode cX9_writeDeck 28 = .ok (.iload_n 1, 1) := by decide +kernel
theorem dX9_writeDeck_29 : decode cX9_writeDeck 29 = .ok (.invokevirtual 475, 3) := by decide +kernel
theorem dX9_writeDeck_32 : decode cX9_writeDeck 32 = .ok (.ifCond .eq 9, 3) := by decide +kernel
theorem dX9_writeDeck_35 : decode cX9_writeDeck 35 = .ok (.aload_n 0, 1) := by decide +kernel
theorem dX9_writeDeck_36 : decode cX9_writeDeck 36 = .ok (.bipush 32, 2) := by decide +kernel
theorem dX9_writeDeck_38 : decode cX9_writeDeck 38 = .ok (.invokevirtual 469, 3) := by decide +kernel
theorem dX9_writeDeck_41 : decode cX9_writeDeck 41 = .ok (.aload_n 0, 1) := by decide +kernel
theorem dX9_writeDeck_42 : decode cX9_writeDeck 42 = .ok (.aload_n 0, 1) := by decide +kernel
theorem dX9_writeDeck_43 : decode cX9_writeDeck 43 = .ok (.getfield 9, 3) := by decide +kernel
theorem dX9_writeDeck_46 : decode cX9_writeDeck 46 = .ok (.sipush 1764, 3) := by decide +kernel
theorem dX9_writeDeck_49 : decode cX9_writeDeck 49 = .ok (.iload_n 1, 1) := by decide +kernel
theorem dX9_writeDeck_50 : decode cX9_writeDeck 50 = .ok (.iadd, 1) := by decide +kernel
theorem dX9_writeDeck_51 : decode cX9_writeDeck 51 = .ok (.iaload, 1) := by decide +kernel
theorem dX9_writeDeck_52 : decode cX9_writeDeck 52 = .ok (.invokevirtual 478, 3) := by decide +kernel
theorem dX9_writeDeck_55 : decode cX9_writeDeck 55 = .ok (.iinc 1 1, 3) := by decide +kernel
theorem dX9_writeDeck_58 : decode cX9_writeDeck 58 = .ok (.goto (-42), 3) := by decide +kernel
theorem dX9_writeDeck_61 : decode cX9_writeDeck 61 = .ok (.aload_n 0, 1) := by decide +kernel
theorem dX9_writeDeck_62 : decode cX9_writeDeck 62 = .ok (.getfield 466, 3) := by decide +kernel
theorem dX9_writeDeck_65 : decode cX9_writeDeck 65 = .ok (.ifCond .ne 9, 3) := by decide +kernel
theorem dX9_writeDeck_68 : decode cX9_writeDeck 68 = .ok (.aload_n 0, 1) := by decide +kernel
theorem dX9_writeDeck_69 : decode cX9_writeDeck 69 = .ok (.bipush 45, 2) := by decide +kernel
theorem dX9_writeDeck_71 : decode cX9_writeDeck 71 = .ok (.invokevirtual 469, 3) := by decide +kernel
theorem dX9_writeDeck_74 : decode cX9_writeDeck 74 = .ok (.aload_n 0, 1) := by decide +kernel
theorem dX9_writeDeck_75 : decode cX9_writeDeck 75 = .ok (.getfield 466, 3) := by decide +kernel
theorem dX9_writeDeck_78 : decode cX9_writeDeck 78 = .ok (.ireturn, 1) := by decide +kernel
theorem dX9_outputByte_0 : decode cX9_outputByte 0 = .ok (.aload_n 0, 1) := by decide +kernel
theorem dX9_outputByte_1 : decode cX9_outputByte 1 = .ok (.iload_n 1, 1) := by decide +kernel
theorem dX9_outputByte_2 : decode cX9_outputByte 2 = .ok (.iconst 0, 1) := by decide +kernel
theorem dX9_outputByte_3 : decode cX9_outputByte 3 = .ok (.aload_n 0, 1) := by decide +kernel
theorem dX9_outputByte_4 : decode cX9_outputByte 4 = .ok (.getfield 466, 3) := by decide +kernel
theorem dX9_outputByte_7 : decode cX9_outputByte 7 = .ok (.iconst 1, 1) := by decide +kernel
theorem dX9_outputByte_8 : decode cX9_outputByte 8 = .ok (.isub, 1) := by decide +kernel
theorem dX9_outputByte_9 : decode cX9_outputByte 9 = .ok (.invokestatic 78, 3) := by decide +kernel
theorem dX9_outputByte_12 : decode cX9_outputByte 12 = .ok (.iconst 1, 1) := by decide +kernel
theorem dX9_outputByte_13 : decode cX9_outputByte 13 = .ok (.iconst 1, 1) := by decide +kernel
theorem dX9_outputByte_14 : decode cX9_outputByte 14 = .ok (.invokevirtual 49, 3) := by decide +kernel
theorem dX9_outputByte_17 : decode cX9_outputByte 17 = .ok (.ifCond .eq 12, 3) := by decide +kernel
theorem dX9_outputByte_20 : decode cX9_outputByte 20 = .ok (.aload_n 0, 1) := by decide +kernel
theorem dX9_outputByte_21 : decode cX9_outputByte 21 = .ok (.getfield 43, 3) := by decide +kernel
theorem dX9_outputByte_24 : decode cX9_outputByte 24 = .ok (.iload_n 1, 1) := by decide +kernel
theorem dX9_outputByte_25 : decode cX9_outputByte 25 = .ok (.baload, 1) := by decide +kernel
theorem dX9_outputByte_26 : decode cX9_outputByte 26 = .ok (.goto 4, 3) := by decide +kernel
theorem dX9_outputByte_29 : decode cX9_outputByte 29 = .ok (.iconst 0, 1) := by decide +kernel
theorem dX9_outputByte_30 : decode cX9_outputByte 30 = .ok (.ireturn, 1) := by decide +kernel
theorem dX9_remembers_0 : decode cX9_remembers 0 = .ok (.aload_n 0, 1) := by decide +kernel
theorem dX9_remembers_1 : decode cX9_remembers 1 = .ok (.getfield 321, 3) := by decide +kernel
theorem dX9_remembers_4 : decode cX9_remembers 4 = .ok (.bipush 8, 2) := by decide +kernel
theorem dX9_remembers_6 : decode cX9_remembers 6 = .ok (.if_icmp .ne 44, 3) := by decide +kernel
theorem dX9_remembers_9 : decode cX9_remembers 9 = .ok (.iconst 0, 1) := by decide +kernel
theorem dX9_remembers_10 : decode cX9_remembers 10 = .ok (.istore_n 1, 1) := by decide +kernel
theorem dX9_remembers_11 : decode cX9_remembers 11 = .ok (.iload_n 1, 1) := by decide +kernel
theorem dX9_remembers_12 : decode cX9_remembers 12 = .ok (.sipush 14210, 3) := by decide +kernel
theorem dX9_remembers_15 : decode cX9_remembers 15 = .ok (.if_icmp .ge 25, 3) := by decide +kernel
theorem dX9_remembers_18 : decode cX9_remembers 18 = .ok (.aload_n 0, 1) := by decide +kernel
theorem dX9_remembers_19 : decode cX9_remembers 19 = .ok (.getfield 16, 3) := by decide +kernel
theorem dX9_remembers_22 : decode cX9_remembers 22 = .ok (.iload_n 1, 1) := by decide +kernel
theorem dX9_remembers_23 : decode cX9_remembers 23 = .ok (.aload_n 0, 1) := by decide +kernel
theorem dX9_remembers_24 : decode cX9_remembers 24 = .ok (.getfield 16, 3) := by decide +kernel
theorem dX9_remembers_27 : decode cX9_remembers 27 = .ok (.iload_n 1, 1) := by decide +kernel
theorem dX9_remembers_28 : decode cX9_remembers 28 = .ok (.sipush 2030, 3) := by decide +kernel
theorem dX9_remembers_31 : decode cX9_remembers 31 = .ok (.iadd, 1) := by decide +kernel
theorem dX9_remembers_32 : decode cX9_remembers 32 = .ok (.iaload, 1) := by decide +kernel
theorem dX9_remembers_33 : decode cX9_remembers 33 = .ok (.iastore, 1) := by decide +kernel
theorem dX9_remembers_34 : decode cX9_remembers 34 = .ok (.iinc 1 1, 3) := by decide +kernel
theorem dX9_remembers_37 : decode cX9_remembers 37 = .ok (.goto (-26), 3) := by decide +kernel
theorem dX9_remembers_40 : decode cX9_remembers 40 = .ok (.aload_n 0, 1) := by decide +kernel
theorem dX9_remembers_41 : decode cX9_remembers 41 = .ok (.dup, 1) := by decide +kernel
theorem dX9_remembers_42 : decode cX9_remembers 42 = .ok (.getfield 321, 3) := by decide +kernel
theorem dX9_remembers_45 : decode cX9_remembers 45 = .ok (.iconst 1, 1) := by decide +kernel
theorem dX9_remembers_46 : decode cX9_remembers 46 = .ok (.isub, 1) := by decide +kernel
theorem dX9_remembers_47 : decode cX9_remembers 47 = .ok (.putfield 321, 3) := by decide +kernel
theorem dX9_remembers_50 : decode cX9_remembers 50 = .ok (.aload_n 0, 1) := by decide +kernel
theorem dX9_remembers_51 : decode cX9_remembers 51 = .ok (.getfield 9, 3) := by decide +kernel
theorem dX9_remembers_54 : decode cX9_remembers 54 = .ok (.iconst 0, 1) := by decide +kernel
theorem dX9_remembers_55 : decode cX9_remembers 55 = .ok (.aload_n 0, 1) := by decide +kernel
theorem dX9_remembers_56 : decode cX9_remembers 56 = .ok (.getfield 16, 3) := by decide +kernel
theorem dX9_remembers_59 : decode cX9_remembers 59 = .ok (.aload_n 0, 1) := by decide +kernel
theorem dX9_remembers_60 : decode cX9_remembers 60 = .ok (.getfield 321, 3) := by decide +kernel
theorem dX9_remembers_63 : decode cX9_remembers 63 = .ok (.sipush 2030, 3) := by decide +kernel
theorem dX9_remembers_66 : decode cX9_remembers 66 = .ok (.imul, 1) := by decide +kernel
theorem dX9_remembers_67 : decode cX9_remembers 67 = .ok (.invokestatic 57, 3) := by decide +kernel
theorem dX9_remembers_70 : decode cX9_remembers 70 = .ok (.aload_n 0, 1) := by decide +kernel
theorem dX9_remembers_71 : decode cX9_remembers 71 = .ok (.dup, 1) := by decide +kernel
theorem dX9_remembers_72 : decode cX9_remembers 72 = .ok (.getfield 321, 3) := by decide +kernel
theorem dX9_remembers_75 : decode cX9_remembers 75 = .ok (.iconst 1, 1) := by decide +kernel
theorem dX9_remembers_76 : decode cX9_remembers 76 = .ok (.iadd, 1) := by decide +kernel
theorem dX9_remembers_77 : decode cX9_remembers 77 = .ok (.putfield 321, 3) := by decide +kernel
theorem dX9_remembers_80 : decode cX9_remembers 80 = .ok (.return_, 1) := by decide +kernel
theorem dX9_weave_0 : decode cX9_weave 0 = .ok (.aload_n 0, 1) := by decide +kernel
theorem dX9_weave_1 : decode cX9_weave 1 = .ok (.aload_n 0, 1) := by decide +kernel
theorem dX9_weave_2 : decode cX9_weave 2 = .ok (.getfield 53, 3) := by decide +kernel
theorem dX9_weave_5 : decode cX9_weave 5 = .ok (.iload_n 1, 1) := by decide +kernel
theorem dX9_weave_6 : decode cX9_weave 6 = .ok (.iconst 1, 1) := by decide +kernel
theorem dX9_weave_7 : decode cX9_weave 7 = .ok (.bipush 60, 2) := by decide +kernel
theorem dX9_weave_9 : decode cX9_weave 9 = .ok (.invokestatic 78, 3) := by decide +kernel
theorem dX9_weave_12 : decode cX9_weave 12 = .ok (.invokevirtual 393, 3) := by decide +kernel
theorem dX9_weave_15 : decode cX9_weave 15 = .ok (.ifCond .ne 5, 3) := by decide +kernel
theorem dX9_weave_18 : decode cX9_weave 18 = .ok (.iconst 0, 1) := by decide +kernel
theorem dX9_weave_19 : decode cX9_weave 19 = .ok (.ireturn, 1) := by decide +kernel
theorem dX9_weave_20 : decode cX9_weave 20 = .ok (.aload_n 0, 1) := by decide +kernel
theorem dX9_weave_21 : decode cX9_weave 21 = .ok (.invokevirtual 481, 3) := by decide +kernel
theorem dX9_weave_24 : decode cX9_weave 24 = .ok (.aload_n 0, 1) := by decide +kernel
theorem dX9_weave_25 : decode cX9_weave 25 = .ok (.iload_n 1, 1) := by decide +kernel
theorem dX9_weave_26 : decode cX9_weave 26 = .ok (.invokevirtual 211, 3) := by decide +kernel
theorem dX9_weave_29 : decode cX9_weave 29 = .ok (.ireturn, 1) := by decide +kernel
theorem dX9_unweave_0 : decode cX9_unweave 0 = .ok (.aload_n 0, 1) := by decide +kernel
theorem dX9_unweave_1 : decode cX9_unweave 1 = .ok (.aload_n 0, 1) := by decide +kernel
theorem dX9_unweave_2 : decode cX9_unweave 2 = .ok (.getfield 53, 3) := by decide +kernel
theorem dX9_unweave_5 : decode cX9_unweave 5 = .ok (.aload_n 0, 1) := by decide +kernel
theorem dX9_unweave_6 : decode cX9_unweave 6 = .ok (.getfield 53, 3) := by decide +kernel
theorem dX9_unweave_9 : decode cX9_unweave 9 = .ok (.ifCond .eq 21, 3) := by decide +kernel
theorem dX9_unweave_12 : decode cX9_unweave 12 = .ok (.iload_n 1, 1) := by decide +kernel
theorem dX9_unweave_13 : decode cX9_unweave 13 = .ok (.iconst 1, 1) := by decide +kernel
theorem dX9_unweave_14 : decode cX9_unweave 14 = .ok (.aload_n 0, 1) := by decide +kernel
theorem dX9_unweave_15 : decode cX9_unweave 15 = .ok (.getfield 9, 3) := by decide +kernel
theorem dX9_unweave_18 : decode cX9_unweave 18 = .ok (.iconst 5, 1) := by decide +kernel
theorem dX9_unweave_19 : decode cX9_unweave 19 = .ok (.iaload, 1) := by decide +kernel
theorem dX9_unweave_20 : decode cX9_unweave 20 = .ok (.invokestatic 78, 3) := by decide +kernel
theorem dX9_unweave_23 : decode cX9_unweave 23 = .ok (.ifCond .eq 7, 3) := by decide +kernel
theorem dX9_unweave_26 : decode cX9_unweave 26 = .ok (.iconst 1, 1) := by decide +kernel
theorem dX9_unweave_27 : decode cX9_unweave 27 = .ok (.goto 4, 3) := by decide +kernel
theorem dX9_unweave_30 : decode cX9_unweave 30 = .ok (.iconst 0, 1) := by decide +kernel
theorem dX9_unweave_31 : decode cX9_unweave 31 = .ok (.invokevirtual 393, 3) := by decide +kernel
theorem dX9_unweave_34 : decode cX9_unweave 34 = .ok (.ifCond .ne 5, 3) := by decide +kernel
theorem dX9_unweave_37 : decode cX9_unweave 37 = .ok (.iconst 0, 1) := by decide +kernel
theorem dX9_unweave_38 : decode cX9_unweave 38 = .ok (.ireturn, 1) := by decide +kernel
theorem dX9_unweave_39 : decode cX9_unweave 39 = .ok (.aload_n 0, 1) := by decide +kernel
theorem dX9_unweave_40 : decode cX9_unweave 40 = .ok (.invokevirtual 481, 3) := by decide +kernel
theorem dX9_unweave_43 : decode cX9_unweave 43 = .ok (.aload_n 0, 1) := by decide +kernel
theorem dX9_unweave_44 : decode cX9_unweave 44 = .ok (.iload_n 1, 1) := by decide +kernel
theorem dX9_unweave_45 : decode cX9_unweave 45 = .ok (.invokevirtual 214, 3) := by decide +kernel
theorem dX9_unweave_48 : decode cX9_unweave 48 = .ok (.aload_n 0, 1) := by decide +kernel
theorem dX9_unweave_49 : decode cX9_unweave 49 = .ok (.getfield 9, 3) := by decide +kernel
theorem dX9_unweave_52 : decode cX9_unweave 52 = .ok (.iconst 5, 1) := by decide +kernel
theorem dX9_unweave_53 : decode cX9_unweave 53 = .ok (.iaload, 1) := by decide +kernel
theorem dX9_unweave_54 : decode cX9_unweave 54 = .ok (.ireturn, 1) := by decide +kernel
theorem dX9_swapCards_0 : decode cX9_swapCards 0 = .ok (.aload_n 0, 1) := by decide +kernel
theorem dX9_swapCards_1 : decode cX9_swapCards 1 = .ok (.iload_n 1, 1) := by decide +kernel
theorem dX9_swapCards_2 : decode cX9_swapCards 2 = .ok (.iload_n 2, 1) := by decide +kernel
theorem dX9_swapCards_3 : decode cX9_swapCards 3 = .ok (.invokevirtual 427, 3) := by decide +kernel
theorem dX9_swapCards_6 : decode cX9_swapCards 6 = .ok (.ifCond .ne 5, 3) := by decide +kernel
theorem dX9_swapCards_9 : decode cX9_swapCards 9 = .ok (.iconst 0, 1) := by decide +kernel
theorem dX9_swapCards_10 : decode cX9_swapCards 10 = .ok (.ireturn, 1) := by decide +kernel
theorem dX9_swapCards_11 : decode cX9_swapCards 11 = .ok (.aload_n 0, 1) := by decide +kernel
theorem dX9_swapCards_12 : decode cX9_swapCards 12 = .ok (.invokevirtual 481, 3) := by decide +kernel
theorem dX9_swapCards_15 : decode cX9_swapCards 15 = .ok (.aload_n 0, 1) := by decide +kernel
theorem dX9_swapCards_16 : decode cX9_swapCards 16 = .ok (.iload_n 1, 1) := by decide +kernel
theorem dX9_swapCards_17 : decode cX9_swapCards 17 = .ok (.iload_n 2, 1) := by decide +kernel
theorem dX9_swapCards_18 : decode cX9_swapCards 18 = .ok (.invokevirtual 220, 3) := by decide +kernel
theorem dX9_swapCards_21 : decode cX9_swapCards 21 = .ok (.aload_n 0, 1) := by decide +kernel
theorem dX9_swapCards_22 : decode cX9_swapCards 22 = .ok (.iload_n 1, 1) := by decide +kernel
theorem dX9_swapCards_23 : decode cX9_swapCards 23 = .ok (.iload_n 2, 1) := by decide +kernel
theorem dX9_swapCards_24 : decode cX9_swapCards 24 = .ok (.invokevirtual 433, 3) := by decide +kernel
theorem dX9_swapCards_27 : decode cX9_swapCards 27 = .ok (.ireturn, 1) := by decide +kernel
theorem dX9_punch_0 : decode cX9_punch 0 = .ok (.aload_n 0, 1) := by decide +kernel
theorem dX9_punch_1 : decode cX9_punch 1 = .ok (.aload_n 0, 1) := by decide +kernel
theorem dX9_punch_2 : decode cX9_punch 2 = .ok (.getfield 53, 3) := by decide +kernel
theorem dX9_punch_5 : decode cX9_punch 5 = .ok (.aload_n 0, 1) := by decide +kernel
theorem dX9_punch_6 : decode cX9_punch 6 = .ok (.iload_n 1, 1) := by decide +kernel
theorem dX9_punch_7 : decode cX9_punch 7 = .ok (.invokevirtual 400, 3) := by decide +kernel
theorem dX9_punch_10 : decode cX9_punch 10 = .ok (.ifCond .eq 15, 3) := by decide +kernel
theorem dX9_punch_13 : decode cX9_punch 13 = .ok (.aload_n 0, 1) := by decide +kernel
theorem dX9_punch_14 : decode cX9_punch 14 = .ok (.iload_n 2, 1) := by decide +kernel
theorem dX9_punch_15 : decode cX9_punch 15 = .ok (.invokevirtual 390, 3) := by decide +kernel
theorem dX9_punch_18 : decode cX9_punch 18 = .ok (.ifCond .eq 7, 3) := by decide +kernel
theorem dX9_punch_21 : decode cX9_punch 21 = .ok (.iconst 1, 1) := by decide +kernel
theorem dX9_punch_22 : decode cX9_punch 22 = .ok (.goto 4, 3) := by decide +kernel
theorem dX9_punch_25 : decode cX9_punch 25 = .ok (.iconst 0, 1) := by decide +kernel
theorem dX9_punch_26 : decode cX9_punch 26 = .ok (.invokevirtual 393, 3) := by decide +kernel
theorem dX9_punch_29 : decode cX9_punch 29 = .ok (.ifCond .ne 5, 3) := by decide +kernel
theorem dX9_punch_32 : decode cX9_punch 32 = .ok (.iconst 0, 1) := by decide +kernel
theorem dX9_punch_33 : decode cX9_punch 33 = .ok (.ireturn, 1) := by decide +kernel
theorem dX9_punch_34 : decode cX9_punch 34 = .ok (.aload_n 0, 1) := by decide +kernel
theorem dX9_punch_35 : decode cX9_punch 35 = .ok (.invokevirtual 481, 3) := by decide +kernel
theorem dX9_punch_38 : decode cX9_punch 38 = .ok (.aload_n 0, 1) := by decide +kernel
theorem dX9_punch_39 : decode cX9_punch 39 = .ok (.iload_n 1, 1) := by decide +kernel
theorem dX9_punch_40 : decode cX9_punch 40 = .ok (.iload_n 2, 1) := by decide +kernel
theorem dX9_punch_41 : decode cX9_punch 41 = .ok (.invokevirtual 223, 3) := by decide +kernel
theorem dX9_punch_44 : decode cX9_punch 44 = .ok (.aload_n 0, 1) := by decide +kernel
theorem dX9_punch_45 : decode cX9_punch 45 = .ok (.iload_n 1, 1) := by decide +kernel
theorem dX9_punch_46 : decode cX9_punch 46 = .ok (.iconst 0, 1) := by decide +kernel
theorem dX9_punch_47 : decode cX9_punch 47 = .ok (.invokevirtual 232, 3) := by decide +kernel
theorem dX9_punch_50 : decode cX9_punch 50 = .ok (.iload_n 2, 1) := by decide +kernel
theorem dX9_punch_51 : decode cX9_punch 51 = .ok (.invokestatic 147, 3) := by decide +kernel
theorem dX9_punch_54 : decode cX9_punch 54 = .ok (.ireturn, 1) := by decide +kernel
theorem dX9_setCardColour_0 : decode cX9_setCardColour 0 = .ok (.aload_n 0, 1) := by decide +kernel
theorem dX9_setCardColour_1 : decode cX9_setCardColour 1 = .ok (.aload_n 0, 1) := by decide +kernel
theorem dX9_setCardColour_2 : decode cX9_setCardColour 2 = .ok (.getfield 53, 3) := by decide +kernel
theorem dX9_setCardColour_5 : decode cX9_setCardColour 5 = .ok (.aload_n 0, 1) := by decide +kernel
theorem dX9_setCardColour_6 : decode cX9_setCardColour 6 = .ok (.iload_n 1, 1) := by decide +kernel
theorem dX9_setCardColour_7 : decode cX9_setCardColour 7 = .ok (.invokevirtual 400, 3) := by decide +kernel
theorem dX9_setCardColour_10 : decode cX9_setCardColour 10 = .ok (.iload_n 2, 1) := by decide +kernel
theorem dX9_setCardColour_11 : decode cX9_setCardColour 11 = .ok (.invokestatic 406, 3) := by decide +kernel
theorem dX9_setCardColour_14 : decode cX9_setCardColour 14 = .ok (.invokevirtual 49, 3) := by decide +kernel
theorem dX9_setCardColour_17 : decode cX9_setCardColour 17 = .ok (.ifCond .ne 5, 3) := by decide +kernel
theorem dX9_setCardColour_20 : decode cX9_setCardColour 20 = .ok (.iconst 0, 1) := by decide +kernel
theorem dX9_setCardColour_21 : decode cX9_setCardColour 21 = .ok (.ireturn, 1) := by decide +kernel
theorem dX9_setCardColour_22 : decode cX9_setCardColour 22 = .ok (.aload_n 0, 1) := by decide +kernel
theorem dX9_setCardColour_23 : decode cX9_setCardColour 23 = .ok (.invokevirtual 481, 3) := by decide +kernel
theorem dX9_setCardColour_26 : decode cX9_setCardColour 26 = .ok (.aload_n 0, 1) := by decide +kernel
theorem dX9_setCardColour_27 : decode cX9_setCardColour 27 = .ok (.iload_n 1, 1) := by decide +kernel
theorem dX9_setCardColour_28 : decode cX9_setCardColour 28 = .ok (.iconst 1, 1) := by decide +kernel
theorem dX9_setCardColour_29 : decode cX9_setCardColour 29 = .ok (.invokevirtual 232, 3) := by decide +kernel
theorem dX9_setCardColour_32 : decode cX9_setCardColour 32 = .ok (.istore_n 3, 1) := by decide +kernel
theorem dX9_setCardColour_33 : decode cX9_setCardColour 33 = .ok (.aload_n 0, 1) := by decide +kernel
theorem dX9_setCardColour_34 : decode cX9_setCardColour 34 = .ok (.iload_n 1, 1) := by decide +kernel
theorem dX9_setCardColour_35 : decode cX9_setCardColour 35 = .ok (.iload_n 2, 1) := by decide +kernel
theorem dX9_setCardColour_36 : decode cX9_setCardColour 36 = .ok (.invokevirtual 226, 3) := by decide +kernel
theorem dX9_setCardColour_39 : decode cX9_setCardColour 39 = .ok (.iload_n 3, 1) := by decide +kernel
theorem dX9_setCardColour_40 : decode cX9_setCardColour 40 = .ok (.ireturn, 1) := by decide +kernel
theorem dX9_bringYarn_0 : decode cX9_bringYarn 0 = .ok (.aload_n 0, 1) := by decide +kernel
theorem dX9_bringYarn_1 : decode cX9_bringYarn 1 = .ok (.aload_n 0, 1) := by decide +kernel
theorem dX9_bringYarn_2 : decode cX9_bringYarn 2 = .ok (.getfield 53, 3) := by decide +kernel
theorem dX9_bringYarn_5 : decode cX9_bringYarn 5 = .ok (.iload_n 1, 1) := by decide +kernel
theorem dX9_bringYarn_6 : decode cX9_bringYarn 6 = .ok (.invokestatic 406, 3) := by decide +kernel
theorem dX9_bringYarn_9 : decode cX9_bringYarn 9 = .ok (.ifCond .eq 18, 3) := by decide +kernel
theorem dX9_bringYarn_12 : decode cX9_bringYarn 12 = .ok (.iload_n 2, 1) := by decide +kernel
theorem dX9_bringYarn_13 : decode cX9_bringYarn 13 = .ok (.iconst 1, 1) := by decide +kernel
theorem dX9_bringYarn_14 : decode cX9_bringYarn 14 = .ok (.sipush 999, 3) := by decide +kernel
theorem dX9_bringYarn_17 : decode cX9_bringYarn 17 = .ok (.invokestatic 78, 3) := by decide +kernel
theorem dX9_bringYarn_20 : decode cX9_bringYarn 20 = .ok (.ifCond .eq 7, 3) := by decide +kernel
theorem dX9_bringYarn_23 : decode cX9_bringYarn 23 = .ok (.iconst 1, 1) := by decide +kernel
theorem dX9_bringYarn_24 : decode cX9_bringYarn 24 = .ok (.goto 4, 3) := by decide +kernel
theorem dX9_bringYarn_27 : decode cX9_bringYarn 27 = .ok (.iconst 0, 1) := by decide +kernel
theorem dX9_bringYarn_28 : decode cX9_bringYarn 28 = .ok (.invokevirtual 393, 3) := by decide +kernel
theorem dX9_bringYarn_31 : decode cX9_bringYarn 31 = .ok (.ifCond .ne 5, 3) := by decide +kernel
theorem dX9_bringYarn_34 : decode cX9_bringYarn 34 = .ok (.iconst 0, 1) := by decide +kernel
theorem dX9_bringYarn_35 : decode cX9_bringYarn 35 = .ok (.ireturn, 1) := by decide +kernel
theorem dX9_bringYarn_36 : decode cX9_bringYarn 36 = .ok (.aload_n 0, 1) := by decide +kernel
theorem dX9_bringYarn_37 : decode cX9_bringYarn 37 = .ok (.invokevirtual 481, 3) := by decide +kernel
theorem dX9_bringYarn_40 : decode cX9_bringYarn 40 = .ok (.aload_n 0, 1) := by decide +kernel
theorem dX9_bringYarn_41 : decode cX9_bringYarn 41 = .ok (.iload_n 1, 1) := by decide +kernel
theorem dX9_bringYarn_42 : decode cX9_bringYarn 42 = .ok (.iload_n 2, 1) := by decide +kernel
theorem dX9_bringYarn_43 : decode cX9_bringYarn 43 = .ok (.invokevirtual 208, 3) := by decide +kernel
theorem dX9_bringYarn_46 : decode cX9_bringYarn 46 = .ok (.aload_n 0, 1) := by decide +kernel
theorem dX9_bringYarn_47 : decode cX9_bringYarn 47 = .ok (.getfield 9, 3) := by decide +kernel
theorem dX9_bringYarn_50 : decode cX9_bringYarn 50 = .ok (.bipush 110, 2) := by decide +kernel
theorem dX9_bringYarn_52 : decode cX9_bringYarn 52 = .ok (.iload_n 1, 1) := by decide +kernel
theorem dX9_bringYarn_53 : decode cX9_bringYarn 53 = .ok (.iadd, 1) := by decide +kernel
theorem dX9_bringYarn_54 : decode cX9_bringYarn 54 = .ok (.iaload, 1) := by decide +kernel
theorem dX9_bringYarn_55 : decode cX9_bringYarn 55 = .ok (.ireturn, 1) := by decide +kernel
theorem dX9_oil_0 : decode cX9_oil 0 = .ok (.aload_n 0, 1) := by decide +kernel
theorem dX9_oil_1 : decode cX9_oil 1 = .ok (.iload_n 1, 1) := by decide +kernel
theorem dX9_oil_2 : decode cX9_oil 2 = .ok (.invokevirtual 418, 3) := by decide +kernel
theorem dX9_oil_5 : decode cX9_oil 5 = .ok (.ifCond .ne 5, 3) := by decide +kernel
theorem dX9_oil_8 : decode cX9_oil 8 = .ok (.iconst 0, 1) := by decide +kernel
theorem dX9_oil_9 : decode cX9_oil 9 = .ok (.ireturn, 1) := by decide +kernel
theorem dX9_oil_10 : decode cX9_oil 10 = .ok (.aload_n 0, 1) := by decide +kernel
theorem dX9_oil_11 : decode cX9_oil 11 = .ok (.invokevirtual 481, 3) := by decide +kernel
theorem dX9_oil_14 : decode cX9_oil 14 = .ok (.aload_n 0, 1) := by decide +kernel
theorem dX9_oil_15 : decode cX9_oil 15 = .ok (.iload_n 1, 1) := by decide +kernel
theorem dX9_oil_16 : decode cX9_oil 16 = .ok (.iconst 1, 1) := by decide +kernel
theorem dX9_oil_17 : decode cX9_oil 17 = .ok (.invokevirtual 346, 3) := by decide +kernel
theorem dX9_oil_20 : decode cX9_oil 20 = .ok (.istore_n 2, 1) := by decide +kernel
theorem dX9_oil_21 : decode cX9_oil 21 = .ok (.aload_n 0, 1) := by decide +kernel
theorem dX9_oil_22 : decode cX9_oil 22 = .ok (.iload_n 1, 1) := by decide +kernel
theorem dX9_oil_23 : decode cX9_oil 23 = .ok (.invokevirtual 229, 3) := by decide +kernel
theorem dX9_oil_26 : decode cX9_oil 26 = .ok (.iload_n 2, 1) := by decide +kernel
theorem dX9_oil_27 : decode cX9_oil 27 = .ok (.ireturn, 1) := by decide +kernel
theorem dX9_mend_0 : decode cX9_mend 0 = .ok (.aload_n 0, 1) := by decide +kernel
theorem dX9_mend_1 : decode cX9_mend 1 = .ok (.iload_n 1, 1) := by decide +kernel
theorem dX9_mend_2 : decode cX9_mend 2 = .ok (.invokevirtual 397, 3) := by decide +kernel
theorem dX9_mend_5 : decode cX9_mend 5 = .ok (.istore_n 2, 1) := by decide +kernel
theorem dX9_mend_6 : decode cX9_mend 6 = .ok (.aload_n 0, 1) := by decide +kernel
theorem dX9_mend_7 : decode cX9_mend 7 = .ok (.aload_n 0, 1) := by decide +kernel
theorem dX9_mend_8 : decode cX9_mend 8 = .ok (.getfield 53, 3) := by decide +kernel
theorem dX9_mend_11 : decode cX9_mend 11 = .ok (.iload_n 2, 1) := by decide +kernel
theorem dX9_mend_12 : decode cX9_mend 12 = .ok (.iload_n 2, 1) := by decide +kernel
theorem dX9_mend_13 : decode cX9_mend 13 = .ok (.ifCond .eq 15, 3) := by decide +kernel
theorem dX9_mend_16 : decode cX9_mend 16 = .ok (.aload_n 0, 1) := by decide +kernel
theorem dX9_mend_17 : decode cX9_mend 17 = .ok (.iload_n 1, 1) := by decide +kernel
theorem dX9_mend_18 : decode cX9_mend 18 = .ok (.invokevirtual 235, 3) := by decide +kernel
theorem dX9_mend_21 : decode cX9_mend 21 = .ok (.ifCond .eq 7, 3) := by decide +kernel
theorem dX9_mend_24 : decode cX9_mend 24 = .ok (.iconst 1, 1) := by decide +kernel
theorem dX9_mend_25 : decode cX9_mend 25 = .ok (.goto 4, 3) := by decide +kernel
theorem dX9_mend_28 : decode cX9_mend 28 = .ok (.iconst 0, 1) := by decide +kernel
theorem dX9_mend_29 : decode cX9_mend 29 = .ok (.invokevirtual 49, 3) := by decide +kernel
theorem dX9_mend_32 : decode cX9_mend 32 = .ok (.ifCond .ne 5, 3) := by decide +kernel
theorem dX9_mend_35 : decode cX9_mend 35 = .ok (.iconst 0, 1) := by decide +kernel
theorem dX9_mend_36 : decode cX9_mend 36 = .ok (.ireturn, 1) := by decide +kernel
theorem dX9_mend_37 : decode cX9_mend 37 = .ok (.aload_n 0, 1) := by decide +kernel
theorem dX9_mend_38 : decode cX9_mend 38 = .ok (.invokevirtual 481, 3) := by decide +kernel
theorem dX9_mend_41 : decode cX9_mend 41 = .ok (.aload_n 0, 1) := by decide +kernel
theorem dX9_mend_42 : decode cX9_mend 42 = .ok (.iload_n 1, 1) := by decide +kernel
theorem dX9_mend_43 : decode cX9_mend 43 = .ok (.iconst 2, 1) := by decide +kernel
theorem dX9_mend_44 : decode cX9_mend 44 = .ok (.iconst 0, 1) := by decide +kernel
theorem dX9_mend_45 : decode cX9_mend 45 = .ok (.invokevirtual 134, 3) := by decide +kernel
theorem dX9_mend_48 : decode cX9_mend 48 = .ok (.aload_n 0, 1) := by decide +kernel
theorem dX9_mend_49 : decode cX9_mend 49 = .ok (.invokevirtual 421, 3) := by decide +kernel
theorem dX9_mend_52 : decode cX9_mend 52 = .ok (.ireturn, 1) := by decide +kernel
theorem dX9_undo_0 : decode cX9_undo 0 = .ok (.aload_n 0, 1) := by decide +kernel
theorem dX9_undo_1 : decode cX9_undo 1 = .ok (.aload_n 0, 1) := by decide +kernel
theorem dX9_undo_2 : decode cX9_undo 2 = .ok (.getfield 321, 3) := by decide +kernel
theorem dX9_undo_5 : decode cX9_undo 5 = .ok (.ifCond .le 7, 3) := by decide +kernel
theorem dX9_undo_8 : decode cX9_undo 8 = .ok (.iconst 1, 1) := by decide +kernel
theorem dX9_undo_9 : decode cX9_undo 9 = .ok (.goto 4, 3) := by decide +kernel
theorem dX9_undo_12 : decode cX9_undo 12 = .ok (.iconst 0, 1) := by decide +kernel
theorem dX9_undo_13 : decode cX9_undo 13 = .ok (.iconst 1, 1) := by decide +kernel
theorem dX9_undo_14 : decode cX9_undo 14 = .ok (.iconst 1, 1) := by decide +kernel
theorem dX9_undo_15 : decode cX9_undo 15 = .ok (.invokevirtual 49, 3) := by decide +kernel
theorem dX9_undo_18 : decode cX9_undo 18 = .ok (.ifCond .ne 5, 3) := by decide +kernel
theorem dX9_undo_21 : decode cX9_undo 21 = .ok (.iconst 0, 1) := by decide +kernel
theorem dX9_undo_22 : decode cX9_undo 22 = .ok (.ireturn, 1) := by decide +kernel
theorem dX9_undo_23 : decode cX9_undo 23 = .ok (.aload_n 0, 1) := by decide +kernel
theorem dX9_undo_24 : decode cX9_undo 24 = .ok (.dup, 1) := by decide +kernel
theorem dX9_undo_25 : decode cX9_undo 25 = .ok (.getfield 321, 3) := by decide +kernel
theorem dX9_undo_28 : decode cX9_undo 28 = .ok (.iconst 1, 1) := by decide +kernel
theorem dX9_undo_29 : decode cX9_undo 29 = .ok (.isub, 1) := by decide +kernel
theorem dX9_undo_30 : decode cX9_undo 30 = .ok (.putfield 321, 3) := by decide +kernel
theorem dX9_undo_33 : decode cX9_undo 33 = .ok (.aload_n 0, 1) := by decide +kernel
theorem dX9_undo_34 : decode cX9_undo 34 = .ok (.getfield 16, 3) := by decide +kernel
theorem dX9_undo_37 : decode cX9_undo 37 = .ok (.aload_n 0, 1) := by decide +kernel
theorem dX9_undo_38 : decode cX9_undo 38 = .ok (.getfield 321, 3) := by decide +kernel
theorem dX9_undo_41 : decode cX9_undo 41 = .ok (.sipush 2030, 3) := by decide +kernel
theorem dX9_undo_44 : decode cX9_undo 44 = .ok (.imul, 1) := by decide +kernel
theorem dX9_undo_45 : decode cX9_undo 45 = .ok (.aload_n 0, 1) := by decide +kernel
theorem dX9_undo_46 : decode cX9_undo 46 = .ok (.getfield 9, 3) := by decide +kernel
theorem dX9_undo_49 : decode cX9_undo 49 = .ok (.iconst 0, 1) := by decide +kernel
theorem dX9_undo_50 : decode cX9_undo 50 = .ok (.invokestatic 57, 3) := by decide +kernel
theorem dX9_undo_53 : decode cX9_undo 53 = .ok (.aload_n 0, 1) := by decide +kernel
theorem dX9_undo_54 : decode cX9_undo 54 = .ok (.getfield 321, 3) := by decide +kernel
theorem dX9_undo_57 : decode cX9_undo 57 = .ok (.ireturn, 1) := by decide +kernel
theorem dX9_undoCount_0 : decode cX9_undoCount 0 = .ok (.aload_n 0, 1) := by decide +kernel
theorem dX9_undoCount_1 : decode cX9_undoCount 1 = .ok (.aload_n 0, 1) := by decide +kernel
theorem dX9_undoCount_2 : decode cX9_undoCount 2 = .ok (.getfield 321, 3) := by decide +kernel
theorem dX9_undoCount_5 : decode cX9_undoCount 5 = .ok (.invokevirtual 71, 3) := by decide +kernel
theorem dX9_undoCount_8 : decode cX9_undoCount 8 = .ok (.ireturn, 1) := by decide +kernel
theorem dX9_isSlot_0 : decode cX9_isSlot 0 = .ok (.iload_n 0, 1) := by decide +kernel
theorem dX9_isSlot_1 : decode cX9_isSlot 1 = .ok (.iconst 0, 1) := by decide +kernel
theorem dX9_isSlot_2 : decode cX9_isSlot 2 = .ok (.iconst 1, 1) := by decide +kernel
theorem dX9_isSlot_3 : decode cX9_isSlot 3 = .ok (.invokestatic 78, 3) := by decide +kernel
theorem dX9_isSlot_6 : decode cX9_isSlot 6 = .ok (.ireturn, 1) := by decide +kernel
theorem dX9_saveState_0 : decode cX9_saveState 0 = .ok (.aload_n 0, 1) := by decide +kernel
theorem dX9_saveState_1 : decode cX9_saveState 1 = .ok (.aload_n 0, 1) := by decide +kernel
theorem dX9_saveState_2 : decode cX9_saveState 2 = .ok (.getfield 53, 3) := by decide +kernel
theorem dX9_saveState_5 : decode cX9_saveState 5 = .ok (.iload_n 1, 1) := by decide +kernel
theorem dX9_saveState_6 : decode cX9_saveState 6 = .ok (.invokestatic 484, 3) := by decide +kernel
theorem dX9_saveState_9 : decode cX9_saveState 9 = .ok (.invokevirtual 393, 3) := by decide +kernel
theorem dX9_saveState_12 : decode cX9_saveState 12 = .ok (.ifCond .ne 5, 3) := by decide +kernel
theorem dX9_saveState_15 : decode cX9_saveState 15 = .ok (.iconst 0, 1) := by decide +kernel
theorem dX9_saveState_16 : decode cX9_saveState 16 = .ok (.ireturn, 1) := by decide +kernel
theorem dX9_saveState_17 : decode cX9_saveState 17 = .ok (.aload_n 0, 1) := by decide +kernel
theorem dX9_saveState_18 : decode cX9_saveState 18 = .ok (.getfield 9, 3) := by decide +kernel
theorem dX9_saveState_21 : decode cX9_saveState 21 = .ok (.iconst 0, 1) := by decide +kernel
theorem dX9_saveState_22 : decode cX9_saveState 22 = .ok (.aload_n 0, 1) := by decide +kernel
theorem dX9_saveState_23 : decode cX9_saveState 23 = .ok (.getfield 19, 3) := by decide +kernel
theorem dX9_saveState_26 : decode cX9_saveState 26 = .ok (.iload_n 1, 1) := by decide +kernel
theorem dX9_saveState_27 : decode cX9_saveState 27 = .ok (.sipush 2030, 3) := by decide +kernel
theorem dX9_saveState_30 : decode cX9_saveState 30 = .ok (.imul, 1) := by decide +kernel
theorem dX9_saveState_31 : decode cX9_saveState 31 = .ok (.invokestatic 57, 3) := by decide +kernel
theorem dX9_saveState_34 : decode cX9_saveState 34 = .ok (.aload_n 0, 1) := by decide +kernel
theorem dX9_saveState_35 : decode cX9_saveState 35 = .ok (.getfield 22, 3) := by decide +kernel
theorem dX9_saveState_38 : decode cX9_saveState 38 = .ok (.iload_n 1, 1) := by decide +kernel
theorem dX9_saveState_39 : decode cX9_saveState 39 = .ok (.iconst 1, 1) := by decide +kernel
theorem dX9_saveState_40 : decode cX9_saveState 40 = .ok (.bastore, 1) := by decide +kernel
theorem dX9_saveState_41 : decode cX9_saveState 41 = .ok (.aload_n 0, 1) := by decide +kernel
theorem dX9_saveState_42 : decode cX9_saveState 42 = .ok (.getfield 9, 3) := by decide +kernel
theorem dX9_saveState_45 : decode cX9_saveState 45 = .ok (.iconst 5, 1) := by decide +kernel
theorem dX9_saveState_46 : decode cX9_saveState 46 = .ok (.iaload, 1) := by decide +kernel
theorem dX9_saveState_47 : decode cX9_saveState 47 = .ok (.ireturn, 1) := by decide +kernel
theorem dX9_restoreState_0 : decode cX9_restoreState 0 = .ok (.iload_n 1, 1) := by decide +kernel
theorem dX9_restoreState_1 : decode cX9_restoreState 1 = .ok (.invokestatic 484, 3) := by decide +kernel
theorem dX9_restoreState_4 : decode cX9_restoreState 4 = .ok (.istore_n 2, 1) := by decide +kernel
theorem dX9_restoreState_5 : decode cX9_restoreState 5 = .ok (.aload_n 0, 1) := by decide +kernel
theorem dX9_restoreState_6 : decode cX9_restoreState 6 = .ok (.iload_n 2, 1) := by decide +kernel
theorem dX9_restoreState_7 : decode cX9_restoreState 7 = .ok (.iload_n 2, 1) := by decide +kernel
theorem dX9_restoreState_8 : decode cX9_restoreState 8 = .ok (.ifCond .eq 16, 3) := by decide +kernel
theorem dX9_restoreState_11 : decode cX9_restoreState 11 = .ok (.aload_n 0, 1) := by decide +kernel
theorem dX9_restoreState_12 : decode cX9_restoreState 12 = .ok (.getfield 22, 3) := by decide +kernel
theorem dX9_restoreState_15 : decode cX9_restoreState 15 = .ok (.iload_n 1, 1) := by decide +kernel
theorem dX9_restoreState_16 : decode cX9_restoreState 16 = .ok (.baload, 1) := by decide +kernel
theorem dX9_restoreState_17 : decode cX9_restoreState 17 = .ok (.ifCond .eq 7, 3) := by decide +kernel
theorem dX9_restoreState_20 : decode cX9_restoreState 20 = .ok (.iconst 1, 1) := by decide +kernel
theorem dX9_restoreState_21 : decode cX9_restoreState 21 = .ok (.goto 4, 3) := by decide +kernel
theorem dX9_restoreState_24 : decode cX9_restoreState 24 = .ok (.iconst 0, 1) := by decide +kernel
theorem dX9_restoreState_25 : decode cX9_restoreState 25 = .ok (.invokevirtual 393, 3) := by decide +kernel
theorem dX9_restoreState_28 : decode cX9_restoreState 28 = .ok (.ifCond .ne 5, 3) := by decide +kernel
theorem dX9_restoreState_31 : decode cX9_restoreState 31 = .ok (.iconst 0, 1) := by decide +kernel
theorem dX9_restoreState_32 : decode cX9_restoreState 32 = .ok (.ireturn, 1) := by decide +kernel
theorem dX9_restoreState_33 : decode cX9_restoreState 33 = .ok (.aload_n 0, 1) := by decide +kernel
theorem dX9_restoreState_34 : decode cX9_restoreState 34 = .ok (.getfield 19, 3) := by decide +kernel
theorem dX9_restoreState_37 : decode cX9_restoreState 37 = .ok (.iload_n 1, 1) := by decide +kernel
theorem dX9_restoreState_38 : decode cX9_restoreState 38 = .ok (.sipush 2030, 3) := by decide +kernel
theorem dX9_restoreState_41 : decode cX9_restoreState 41 = .ok (.imul, 1) := by decide +kernel
theorem dX9_restoreState_42 : decode cX9_restoreState 42 = .ok (.aload_n 0, 1) := by decide +kernel
theorem dX9_restoreState_43 : decode cX9_restoreState 43 = .ok (.getfield 9, 3) := by decide +kernel
theorem dX9_restoreState_46 : decode cX9_restoreState 46 = .ok (.iconst 0, 1) := by decide +kernel
theorem dX9_restoreState_47 : decode cX9_restoreState 47 = .ok (.invokestatic 57, 3) := by decide +kernel
theorem dX9_restoreState_50 : decode cX9_restoreState 50 = .ok (.aload_n 0, 1) := by decide +kernel
theorem dX9_restoreState_51 : decode cX9_restoreState 51 = .ok (.iconst 0, 1) := by decide +kernel
theorem dX9_restoreState_52 : decode cX9_restoreState 52 = .ok (.putfield 321, 3) := by decide +kernel
theorem dX9_restoreState_55 : decode cX9_restoreState 55 = .ok (.aload_n 0, 1) := by decide +kernel
theorem dX9_restoreState_56 : decode cX9_restoreState 56 = .ok (.getfield 9, 3) := by decide +kernel
theorem dX9_restoreState_59 : decode cX9_restoreState 59 = .ok (.iconst 5, 1) := by decide +kernel
theorem dX9_restoreState_60 : decode cX9_restoreState 60 = .ok (.iaload, 1) := by decide +kernel
theorem dX9_restoreState_61 : decode cX9_restoreState 61 = .ok (.ireturn, 1) := by decide +kernel
