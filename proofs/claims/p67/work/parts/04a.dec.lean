theorem dX0_init_0 : decode cX0_init 0 = .ok (.aload_n 0, 1) := by decide +kernel
theorem dX0_init_1 : decode cX0_init 1 = .ok (.invokespecial 3, 3) := by decide +kernel
theorem dX0_init_4 : decode cX0_init 4 = .ok (.aload_n 0, 1) := by decide +kernel
theorem dX0_init_5 : decode cX0_init 5 = .ok (.sipush 500, 3) := by decide +kernel
theorem dX0_init_8 : decode cX0_init 8 = .ok (.newarray .int, 2) := by decide +kernel
theorem dX0_init_10 : decode cX0_init 10 = .ok (.putfield 9, 3) := by decide +kernel
theorem dX0_init_13 : decode cX0_init 13 = .ok (.aload_n 0, 1) := by decide +kernel
theorem dX0_init_14 : decode cX0_init 14 = .ok (.iconst 0, 1) := by decide +kernel
theorem dX0_init_15 : decode cX0_init 15 = .ok (.putfield 15, 3) := by decide +kernel
theorem dX0_init_18 : decode cX0_init 18 = .ok (.aload_n 0, 1) := by decide +kernel
theorem dX0_init_19 : decode cX0_init 19 = .ok (.sipush 400, 3) := by decide +kernel
theorem dX0_init_22 : decode cX0_init 22 = .ok (.newarray .int, 2) := by decide +kernel
theorem dX0_init_24 : decode cX0_init 24 = .ok (.putfield 19, 3) := by decide +kernel
theorem dX0_init_27 : decode cX0_init 27 = .ok (.aload_n 0, 1) := by decide +kernel
theorem dX0_init_28 : decode cX0_init 28 = .ok (.iconst 0, 1) := by decide +kernel
theorem dX0_init_29 : decode cX0_init 29 = .ok (.putfield 22, 3) := by decide +kernel
theorem dX0_init_32 : decode cX0_init 32 = .ok (.aload_n 0, 1) := by decide +kernel
theorem dX0_init_33 : decode cX0_init 33 = .ok (.iconst 0, 1) := by decide +kernel
theorem dX0_init_34 : decode cX0_init 34 = .ok (.putfield 25, 3) := by decide +kernel
theorem dX0_init_37 : decode cX0_init 37 = .ok (.aload_n 0, 1) := by decide +kernel
theorem dX0_init_38 : decode cX0_init 38 = .ok (.iconst 3, 1) := by decide +kernel
theorem dX0_init_39 : decode cX0_init 39 = .ok (.newarray .int, 2) := by decide +kernel
theorem dX0_init_41 : decode cX0_init 41 = .ok (.putfield 28, 3) := by decide +kernel
theorem dX0_init_44 : decode cX0_init 44 = .ok (.aload_n 0, 1) := by decide +kernel
theorem dX0_init_45 : decode cX0_init 45 = .ok (.iconst 3, 1) := by decide +kernel
theorem dX0_init_46 : decode cX0_init 46 = .ok (.newarray .int, 2) := by decide +kernel
theorem dX0_init_48 : decode cX0_init 48 = .ok (.putfield 31, 3) := by decide +kernel
theorem dX0_init_51 : decode cX0_init 51 = .ok (.aload_n 0, 1) := by decide +kernel
theorem dX0_init_52 : decode cX0_init 52 = .ok (.iconst 0, 1) := by decide +kernel
theorem dX0_init_53 : decode cX0_init 53 = .ok (.putfield 34, 3) := by decide +kernel
theorem dX0_init_56 : decode cX0_init 56 = .ok (.return_, 1) := by decide +kernel
theorem dX0_clear_0 : decode cX0_clear 0 = .ok (.aload_n 0, 1) := by decide +kernel
theorem dX0_clear_1 : decode cX0_clear 1 = .ok (.iconst 0, 1) := by decide +kernel
theorem dX0_clear_2 : decode cX0_clear 2 = .ok (.putfield 15, 3) := by decide +kernel
theorem dX0_clear_5 : decode cX0_clear 5 = .ok (.aload_n 0, 1) := by decide +kernel
theorem dX0_clear_6 : decode cX0_clear 6 = .ok (.iconst 0, 1) := by decide +kernel
theorem dX0_clear_7 : decode cX0_clear 7 = .ok (.putfield 22, 3) := by decide +kernel
theorem dX0_clear_10 : decode cX0_clear 10 = .ok (.aload_n 0, 1) := by decide +kernel
theorem dX0_clear_11 : decode cX0_clear 11 = .ok (.iconst 0, 1) := by decide +kernel
theorem dX0_clear_12 : decode cX0_clear 12 = .ok (.putfield 25, 3) := by decide +kernel
theorem dX0_clear_15 : decode cX0_clear 15 = .ok (.aload_n 0, 1) := by decide +kernel
theorem dX0_clear_16 : decode cX0_clear 16 = .ok (.iconst 0, 1) := by decide +kernel
theorem dX0_clear_17 : decode cX0_clear 17 = .ok (.putfield 34, 3) := by decide +kernel
theorem dX0_clear_20 : decode cX0_clear 20 = .ok (.return_, 1) := by decide +kernel
theorem dX0_isNestingFull_0 : decode cX0_isNestingFull 0 = .ok (.aload_n 0, 1) := by decide +kernel
theorem dX0_isNestingFull_1 : decode cX0_isNestingFull 1 = .ok (.getfield 34, 3) := by decide +kernel
theorem dX0_isNestingFull_4 : decode cX0_isNestingFull 4 = .ok (.iconst 3, 1) := by decide +kernel
theorem dX0_isNestingFull_5 : decode cX0_isNestingFull 5 = .ok (.if_icmp .lt 7, 3) := by decide +kernel
theorem dX0_isNestingFull_8 : decode cX0_isNestingFull 8 = .ok (.iconst 1, 1) := by decide +kernel
theorem dX0_isNestingFull_9 : decode cX0_isNestingFull 9 = .ok (.goto 4, 3) := by decide +kernel
theorem dX0_isNestingFull_12 : decode cX0_isNestingFull 12 = .ok (.iconst 0, 1) := by decide +kernel
theorem dX0_isNestingFull_13 : decode cX0_isNestingFull 13 = .ok (.ireturn, 1) := by decide +kernel
theorem dX0_addCard_0 : decode cX0_addCard 0 = .ok (.aload_n 0, 1) := by decide +kernel
theorem dX0_addCard_1 : decode cX0_addCard 1 = .ok (.getfield 22, 3) := by decide +kernel
theorem dX0_addCard_4 : decode cX0_addCard 4 = .ok (.aload_n 0, 1) := by decide +kernel
theorem dX0_addCard_5 : decode cX0_addCard 5 = .ok (.aload_n 0, 1) := by decide +kernel
theorem dX0_addCard_6 : decode cX0_addCard 6 = .ok (.getfield 34, 3) := by decide +kernel
theorem dX0_addCard_9 : decode cX0_addCard 9 = .ok (.invokevirtual 37, 3) := by decide +kernel
theorem dX0_addCard_12 : decode cX0_addCard 12 = .ok (.isub, 1) := by decide +kernel
theorem dX0_addCard_13 : decode cX0_addCard 13 = .ok (.bipush 100, 2) := by decide +kernel
theorem dX0_addCard_15 : decode cX0_addCard 15 = .ok (.if_icmp .lt 5, 3) := by decide +kernel
theorem dX0_addCard_18 : decode cX0_addCard 18 = .ok (.iconst 0, 1) := by decide +kernel
theorem dX0_addCard_19 : decode cX0_addCard 19 = .ok (.ireturn, 1) := by decide +kernel
theorem dX0_addCard_20 : decode cX0_addCard 20 = .ok (.aload_n 0, 1) := by decide +kernel
theorem dX0_addCard_21 : decode cX0_addCard 21 = .ok (.iload_n 1, 1) := by decide +kernel
theorem dX0_addCard_22 : decode cX0_addCard 22 = .ok (.invokevirtual 41, 3) := by decide +kernel
theorem dX0_addCard_25 : decode cX0_addCard 25 = .ok (.aload_n 0, 1) := by decide +kernel
theorem dX0_addCard_26 : decode cX0_addCard 26 = .ok (.getfield 19, 3) := by decide +kernel
theorem dX0_addCard_29 : decode cX0_addCard 29 = .ok (.aload_n 0, 1) := by decide +kernel
theorem dX0_addCard_30 : decode cX0_addCard 30 = .ok (.getfield 22, 3) := by decide +kernel
theorem dX0_addCard_33 : decode cX0_addCard 33 = .ok (.iload_n 1, 1) := by decide +kernel
theorem dX0_addCard_34 : decode cX0_addCard 34 = .ok (.invokestatic 45, 3) := by decide +kernel
theorem dX0_addCard_37 : decode cX0_addCard 37 = .ok (.aload_n 0, 1) := by decide +kernel
theorem dX0_addCard_38 : decode cX0_addCard 38 = .ok (.dup, 1) := by decide +kernel
theorem dX0_addCard_39 : decode cX0_addCard 39 = .ok (.getfield 22, 3) := by decide +kernel
theorem dX0_addCard_42 : decode cX0_addCard 42 = .ok (.iconst 1, 1) := by decide +kernel
theorem dX0_addCard_43 : decode cX0_addCard 43 = .ok (.iadd, 1) := by decide +kernel
theorem dX0_addCard_44 : decode cX0_addCard 44 = .ok (.putfield 22, 3) := by decide +kernel
theorem dX0_addCard_47 : decode cX0_addCard 47 = .ok (.aload_n 0, 1) := by decide +kernel
theorem dX0_addCard_48 : decode cX0_addCard 48 = .ok (.aload_n 0, 1) := by decide +kernel
theorem dX0_addCard_49 : decode cX0_addCard 49 = .ok (.getfield 25, 3) := by decide +kernel
theorem dX0_addCard_52 : decode cX0_addCard 52 = .ok (.iconst 1, 1) := by decide +kernel
theorem dX0_addCard_53 : decode cX0_addCard 53 = .ok (.invokestatic 49, 3) := by decide +kernel
theorem dX0_addCard_56 : decode cX0_addCard 56 = .ok (.putfield 25, 3) := by decide +kernel
theorem dX0_addCard_59 : decode cX0_addCard 59 = .ok (.iconst 1, 1) := by decide +kernel
theorem dX0_addCard_60 : decode cX0_addCard 60 = .ok (.ireturn, 1) := by decide +kernel
theorem dX0_openPart_0 : decode cX0_openPart 0 = .ok (.aload_n 0, 1) := by decide +kernel
theorem dX0_openPart_1 : decode cX0_openPart 1 = .ok (.iload_n 1, 1) := by decide +kernel
theorem dX0_openPart_2 : decode cX0_openPart 2 = .ok (.invokevirtual 41, 3) := by decide +kernel
theorem dX0_openPart_5 : decode cX0_openPart 5 = .ok (.aload_n 0, 1) := by decide +kernel
theorem dX0_openPart_6 : decode cX0_openPart 6 = .ok (.getfield 28, 3) := by decide +kernel
theorem dX0_openPart_9 : decode cX0_openPart 9 = .ok (.aload_n 0, 1) := by decide +kernel
theorem dX0_openPart_10 : decode cX0_openPart 10 = .ok (.getfield 34, 3) := by decide +kernel
theorem dX0_openPart_13 : decode cX0_openPart 13 = .ok (.iload_n 1, 1) := by decide +kernel
theorem dX0_openPart_14 : decode cX0_openPart 14 = .ok (.invokestatic 45, 3) := by decide +kernel
theorem dX0_openPart_17 : decode cX0_openPart 17 = .ok (.aload_n 0, 1) := by decide +kernel
theorem dX0_openPart_18 : decode cX0_openPart 18 = .ok (.getfield 31, 3) := by decide +kernel
theorem dX0_openPart_21 : decode cX0_openPart 21 = .ok (.aload_n 0, 1) := by decide +kernel
theorem dX0_openPart_22 : decode cX0_openPart 22 = .ok (.getfield 34, 3) := by decide +kernel
theorem dX0_openPart_25 : decode cX0_openPart 25 = .ok (.aload_n 0, 1) := by decide +kernel
theorem dX0_openPart_26 : decode cX0_openPart 26 = .ok (.getfield 22, 3) := by decide +kernel
theorem dX0_openPart_29 : decode cX0_openPart 29 = .ok (.invokestatic 45, 3) := by decide +kernel
theorem dX0_openPart_32 : decode cX0_openPart 32 = .ok (.aload_n 0, 1) := by decide +kernel
theorem dX0_openPart_33 : decode cX0_openPart 33 = .ok (.dup, 1) := by decide +kernel
theorem dX0_openPart_34 : decode cX0_openPart 34 = .ok (.getfield 34, 3) := by decide +kernel
theorem dX0_openPart_37 : decode cX0_openPart 37 = .ok (.iconst 1, 1) := by decide +kernel
theorem dX0_openPart_38 : decode cX0_openPart 38 = .ok (.iadd, 1) := by decide +kernel
theorem dX0_openPart_39 : decode cX0_openPart 39 = .ok (.putfield 34, 3) := by decide +kernel
theorem dX0_openPart_42 : decode cX0_openPart 42 = .ok (.aload_n 0, 1) := by decide +kernel
theorem dX0_openPart_43 : decode cX0_openPart 43 = .ok (.aload_n 0, 1) := by decide +kernel
theorem dX0_openPart_44 : decode cX0_openPart 44 = .ok (.getfield 25, 3) := by decide +kernel
theorem dX0_openPart_47 : decode cX0_openPart 47 = .ok (.aload_n 0, 1) := by decide +kernel
theorem dX0_openPart_48 : decode cX0_openPart 48 = .ok (.getfield 34, 3) := by decide +kernel
theorem dX0_openPart_51 : decode cX0_openPart 51 = .ok (.iconst 1, 1) := by decide +kernel
theorem dX0_openPart_52 : decode cX0_openPart 52 = .ok (.iadd, 1) := by decide +kernel
theorem dX0_openPart_53 : decode cX0_openPart 53 = .ok (.invokestatic 49, 3) := by decide +kernel
theorem dX0_openPart_56 : decode cX0_openPart 56 = .ok (.putfield 25, 3) := by decide +kernel
theorem dX0_openPart_59 : decode cX0_openPart 59 = .ok (.return_, 1) := by decide +kernel
theorem dX0_closePart_0 : decode cX0_closePart 0 = .ok (.aload_n 0, 1) := by decide +kernel
theorem dX0_closePart_1 : decode cX0_closePart 1 = .ok (.aload_n 0, 1) := by decide +kernel
theorem dX0_closePart_2 : decode cX0_closePart 2 = .ok (.getfield 34, 3) := by decide +kernel
theorem dX0_closePart_5 : decode cX0_closePart 5 = .ok (.invokevirtual 37, 3) := by decide +kernel
theorem dX0_closePart_8 : decode cX0_closePart 8 = .ok (.istore_n 1, 1) := by decide +kernel
theorem dX0_closePart_9 : decode cX0_closePart 9 = .ok (.aload_n 0, 1) := by decide +kernel
theorem dX0_closePart_10 : decode cX0_closePart 10 = .ok (.getfield 28, 3) := by decide +kernel
theorem dX0_closePart_13 : decode cX0_closePart 13 = .ok (.aload_n 0, 1) := by decide +kernel
theorem dX0_closePart_14 : decode cX0_closePart 14 = .ok (.getfield 34, 3) := by decide +kernel
theorem dX0_closePart_17 : decode cX0_closePart 17 = .ok (.iconst 1, 1) := by decide +kernel
theorem dX0_closePart_18 : decode cX0_closePart 18 = .ok (.isub, 1) := by decide +kernel
theorem dX0_closePart_19 : decode cX0_closePart 19 = .ok (.invokestatic 55, 3) := by decide +kernel
theorem dX0_closePart_22 : decode cX0_closePart 22 = .ok (.istore_n 2, 1) := by decide +kernel
theorem dX0_closePart_23 : decode cX0_closePart 23 = .ok (.iload_n 1, 1) := by decide +kernel
theorem dX0_closePart_24 : decode cX0_closePart 24 = .ok (.aload_n 0, 1) := by decide +kernel
theorem dX0_closePart_25 : decode cX0_closePart 25 = .ok (.aload_n 0, 1) := by decide +kernel
theorem dX0_closePart_26 : decode cX0_closePart 26 = .ok (.getfield 34, 3) := by decide +kernel
theorem dX0_closePart_29 : decode cX0_closePart 29 = .ok (.iconst 1, 1) := by decide +kernel
theorem dX0_closePart_30 : decode cX0_closePart 30 = .ok (.isub, 1) := by decide +kernel
theorem dX0_closePart_31 : decode cX0_closePart 31 = .ok (.invokevirtual 37, 3) := by decide +kernel
theorem dX0_closePart_34 : decode cX0_closePart 34 = .ok (.isub, 1) := by decide +kernel
theorem dX0_closePart_35 : decode cX0_closePart 35 = .ok (.istore_n 3, 1) := by decide +kernel
theorem dX0_closePart_36 : decode cX0_closePart 36 = .ok (.iload_n 3, 1) := by decide +kernel
theorem dX0_closePart_37 : decode cX0_closePart 37 = .ok (.iload_n 2, 1) := by decide +kernel
theorem dX0_closePart_38 : decode cX0_closePart 38 = .ok (.aload_n 0, 1) := by decide +kernel
theorem dX0_closePart_39 : decode cX0_closePart 39 = .ok (.getfield 22, 3) := by decide +kernel
theorem dX0_closePart_42 : decode cX0_closePart 42 = .ok (.iload_n 1, 1) := by decide +kernel
theorem dX0_closePart_43 : decode cX0_closePart 43 = .ok (.isub, 1) := by decide +kernel
theorem dX0_closePart_44 : decode cX0_closePart 44 = .ok (.invokestatic 59, 3) := by decide +kernel
theorem dX0_closePart_47 : decode cX0_closePart 47 = .ok (.iadd, 1) := by decide +kernel
theorem dX0_closePart_48 : decode cX0_closePart 48 = .ok (.bipush 100, 2) := by decide +kernel
theorem dX0_closePart_50 : decode cX0_closePart 50 = .ok (.if_icmp .le 5, 3) := by decide +kernel
theorem dX0_closePart_53 : decode cX0_closePart 53 = .ok (.iconst 0, 1) := by decide +kernel
theorem dX0_closePart_54 : decode cX0_closePart 54 = .ok (.ireturn, 1) := by decide +kernel
theorem dX0_closePart_55 : decode cX0_closePart 55 = .ok (.iload_n 2, 1) := by decide +kernel
theorem dX0_closePart_56 : decode cX0_closePart 56 = .ok (.bipush 101, 2) := by decide +kernel
theorem dX0_closePart_58 : decode cX0_closePart 58 = .ok (.if_icmp .ne 17, 3) := by decide +kernel
theorem dX0_closePart_61 : decode cX0_closePart 61 = .ok (.aload_n 0, 1) := by decide +kernel
theorem dX0_closePart_62 : decode cX0_closePart 62 = .ok (.iload_n 1, 1) := by decide +kernel
theorem dX0_closePart_63 : decode cX0_closePart 63 = .ok (.aload_n 0, 1) := by decide +kernel
theorem dX0_closePart_64 : decode cX0_closePart 64 = .ok (.getfield 22, 3) := by decide +kernel
theorem dX0_closePart_67 : decode cX0_closePart 67 = .ok (.iconst 2, 1) := by decide +kernel
theorem dX0_closePart_68 : decode cX0_closePart 68 = .ok (.isub, 1) := by decide +kernel
theorem dX0_closePart_69 : decode cX0_closePart 69 = .ok (.invokevirtual 62, 3) := by decide +kernel
theorem dX0_closePart_72 : decode cX0_closePart 72 = .ok (.goto 42, 3) := by decide +kernel
theorem dX0_closePart_75 : decode cX0_closePart 75 = .ok (.iload_n 2, 1) := by decide +kernel
theorem dX0_closePart_76 : decode cX0_closePart 76 = .ok (.bipush 102, 2) := by decide +kernel
theorem dX0_closePart_78 : decode cX0_closePart 78 = .ok (.if_icmp .ne 17, 3) := by decide +kernel
theorem dX0_closePart_81 : decode cX0_closePart 81 = .ok (.aload_n 0, 1) := by decide +kernel
theorem dX0_closePart_82 : decode cX0_closePart 82 = .ok (.iload_n 1, 1) := by decide +kernel
theorem dX0_closePart_83 : decode cX0_closePart 83 = .ok (.aload_n 0, 1) := by decide +kernel
theorem dX0_closePart_84 : decode cX0_closePart 84 = .ok (.getfield 22, 3) := by decide +kernel
theorem dX0_closePart_87 : decode cX0_closePart 87 = .ok (.iconst 1, 1) := by decide +kernel
theorem dX0_closePart_88 : decode cX0_closePart 88 = .ok (.isub, 1) := by decide +kernel
theorem dX0_closePart_89 : decode cX0_closePart 89 = .ok (.invokevirtual 66, 3) := by decide +kernel
theorem dX0_closePart_92 : decode cX0_closePart 92 = .ok (.goto 22, 3) := by decide +kernel
theorem dX0_closePart_95 : decode cX0_closePart 95 = .ok (.aload_n 0, 1) := by decide +kernel
theorem dX0_closePart_96 : decode cX0_closePart 96 = .ok (.iload_n 1, 1) := by decide +kernel
theorem dX0_closePart_97 : decode cX0_closePart 97 = .ok (.aload_n 0, 1) := by decide +kernel
theorem dX0_closePart_98 : decode cX0_closePart 98 = .ok (.getfield 22, 3) := by decide +kernel
theorem dX0_closePart_101 : decode cX0_closePart 101 = .ok (.iload_n 1, 1) := by decide +kernel
theorem dX0_closePart_102 : decode cX0_closePart 102 = .ok (.isub, 1) := by decide +kernel
theorem dX0_closePart_103 : decode cX0_closePart 103 = .ok (.iload_n 2, 1) := by decide +kernel
theorem dX0_closePart_104 : decode cX0_closePart 104 = .ok (.sipush 200, 3) := by decide +kernel
theorem dX0_closePart_107 : decode cX0_closePart 107 = .ok (.isub, 1) := by decide +kernel
theorem dX0_closePart_108 : decode cX0_closePart 108 = .ok (.iconst 1, 1) := by decide +kernel
theorem dX0_closePart_109 : decode cX0_closePart 109 = .ok (.isub, 1) := by decide +kernel
theorem dX0_closePart_110 : decode cX0_closePart 110 = .ok (.imul, 1) := by decide +kernel
theorem dX0_closePart_111 : decode cX0_closePart 111 = .ok (.invokevirtual 69, 3) := by decide +kernel
theorem dX0_closePart_114 : decode cX0_closePart 114 = .ok (.aload_n 0, 1) := by decide +kernel
theorem dX0_closePart_115 : decode cX0_closePart 115 = .ok (.bipush 100, 2) := by decide +kernel
theorem dX0_closePart_117 : decode cX0_closePart 117 = .ok (.invokevirtual 41, 3) := by decide +kernel
theorem dX0_closePart_120 : decode cX0_closePart 120 = .ok (.aload_n 0, 1) := by decide +kernel
theorem dX0_closePart_121 : decode cX0_closePart 121 = .ok (.dup, 1) := by decide +kernel
theorem dX0_closePart_122 : decode cX0_closePart 122 = .ok (.getfield 34, 3) := by decide +kernel
theorem dX0_closePart_125 : decode cX0_closePart 125 = .ok (.iconst 1, 1) := by decide +kernel
theorem dX0_closePart_126 : decode cX0_closePart 126 = .ok (.isub, 1) := by decide +kernel
theorem dX0_closePart_127 : decode cX0_closePart 127 = .ok (.putfield 34, 3) := by decide +kernel
theorem dX0_closePart_130 : decode cX0_closePart 130 = .ok (.iconst 1, 1) := by decide +kernel
theorem dX0_closePart_131 : decode cX0_closePart 131 = .ok (.ireturn, 1) := by decide +kernel
theorem dX0_startOfList_0 : decode cX0_startOfList 0 = .ok (.iload_n 1, 1) := by decide +kernel
theorem dX0_startOfList_1 : decode cX0_startOfList 1 = .ok (.ifCond .gt 7, 3) := by decide +kernel
theorem dX0_startOfList_4 : decode cX0_startOfList 4 = .ok (.iconst 0, 1) := by decide +kernel
theorem dX0_startOfList_5 : decode cX0_startOfList 5 = .ok (.goto 13, 3) := by decide +kernel
theorem dX0_startOfList_8 : decode cX0_startOfList 8 = .ok (.aload_n 0, 1) := by decide +kernel
theorem dX0_startOfList_9 : decode cX0_startOfList 9 = .ok (.getfield 31, 3) := by decide +kernel
theorem dX0_startOfList_12 : decode cX0_startOfList 12 = .ok (.iload_n 1, 1) := by decide +kernel
theorem dX0_startOfList_13 : decode cX0_startOfList 13 = .ok (.iconst 1, 1) := by decide +kernel
theorem dX0_startOfList_14 : decode cX0_startOfList 14 = .ok (.isub, 1) := by decide +kernel
theorem dX0_startOfList_15 : decode cX0_startOfList 15 = .ok (.invokestatic 55, 3) := by decide +kernel
theorem dX0_startOfList_18 : decode cX0_startOfList 18 = .ok (.ireturn, 1) := by decide +kernel
theorem dX0_picksWhenClosed_0 : decode cX0_picksWhenClosed 0 = .ok (.iload_n 0, 1) := by decide +kernel
theorem dX0_picksWhenClosed_1 : decode cX0_picksWhenClosed 1 = .ok (.bipush 101, 2) := by decide +kernel
theorem dX0_picksWhenClosed_3 : decode cX0_picksWhenClosed 3 = .ok (.if_icmp .ne 9, 3) := by decide +kernel
theorem dX0_picksWhenClosed_6 : decode cX0_picksWhenClosed 6 = .ok (.iconst 2, 1) := by decide +kernel
theorem dX0_picksWhenClosed_7 : decode cX0_picksWhenClosed 7 = .ok (.iload_n 1, 1) := by decide +kernel
theorem dX0_picksWhenClosed_8 : decode cX0_picksWhenClosed 8 = .ok (.imul, 1) := by decide +kernel
theorem dX0_picksWhenClosed_9 : decode cX0_picksWhenClosed 9 = .ok (.iconst 1, 1) := by decide +kernel
theorem dX0_picksWhenClosed_10 : decode cX0_picksWhenClosed 10 = .ok (.isub, 1) := by decide +kernel
theorem dX0_picksWhenClosed_11 : decode cX0_picksWhenClosed 11 = .ok (.ireturn, 1) := by decide +kernel
theorem dX0_picksWhenClosed_12 : decode cX0_picksWhenClosed 12 = .ok (.iload_n 0, 1) := by decide +kernel
theorem dX0_picksWhenClosed_13 : decode cX0_picksWhenClosed 13 = .ok (.bipush 102, 2) := by decide +kernel
theorem dX0_picksWhenClosed_15 : decode cX0_picksWhenClosed 15 = .ok (.if_icmp .ne 7, 3) := by decide +kernel
theorem dX0_picksWhenClosed_18 : decode cX0_picksWhenClosed 18 = .ok (.iload_n 1, 1) := by decide +kernel
theorem dX0_picksWhenClosed_19 : decode cX0_picksWhenClosed 19 = .ok (.goto 10, 3) := by decide +kernel
theorem dX0_picksWhenClosed_22 : decode cX0_picksWhenClosed 22 = .ok (.iload_n 1, 1) := by decide +kernel
theorem dX0_picksWhenClosed_23 : decode cX0_picksWhenClosed 23 = .ok (.iload_n 0, 1) := by decide +kernel
theorem dX0_picksWhenClosed_24 : decode cX0_picksWhenClosed 24 = .ok (.sipush 200, 3) := by decide +kernel
theorem dX0_picksWhenClosed_27 : decode cX0_picksWhenClosed 27 = .ok (.isub, 1) := by decide +kernel
theorem dX0_picksWhenClosed_28 : decode cX0_picksWhenClosed 28 = .ok (.imul, 1) := by decide +kernel
theorem dX0_picksWhenClosed_29 : decode cX0_picksWhenClosed 29 = .ok (.ireturn, 1) := by decide +kernel
theorem dX0_mirrorPicks_0 : decode cX0_mirrorPicks 0 = .ok (.iload_n 2, 1) := by decide +kernel
theorem dX0_mirrorPicks_1 : decode cX0_mirrorPicks 1 = .ok (.istore_n 3, 1) := by decide +kernel
theorem dX0_mirrorPicks_2 : decode cX0_mirrorPicks 2 = .ok (.iload_n 3, 1) := by decide +kernel
theorem dX0_mirrorPicks_3 : decode cX0_mirrorPicks 3 = .ok (.iload_n 1, 1) := by decide +kernel
theorem dX0_mirrorPicks_4 : decode cX0_mirrorPicks 4 = .ok (.if_icmp .lt 38, 3) := by decide +kernel
theorem dX0_mirrorPicks_7 : decode cX0_mirrorPicks 7 = .ok (.aload_n 0, 1) := by decide +kernel
theorem dX0_mirrorPicks_8 : decode cX0_mirrorPicks 8 = .ok (.getfield 19, 3) := by decide +kernel
theorem dX0_mirrorPicks_11 : decode cX0_mirrorPicks 11 = .ok (.aload_n 0, 1) := by decide +kernel
theorem dX0_mirrorPicks_12 : decode cX0_mirrorPicks 12 = .ok (.getfield 22, 3) := by decide +kernel
theorem dX0_mirrorPicks_15 : decode cX0_mirrorPicks 15 = .ok (.aload_n 0, 1) := by decide +kernel
theorem dX0_mirrorPicks_16 : decode cX0_mirrorPicks 16 = .ok (.getfield 19, 3) := by decide +kernel
theorem dX0_mirrorPicks_19 : decode cX0_mirrorPicks 19 = .ok (.iload_n 3, 1) := by decide +kernel
theorem dX0_mirrorPicks_20 : decode cX0_mirrorPicks 20 = .ok (.invokestatic 55, 3) := by decide +kernel
theorem dX0_mirrorPicks_23 : decode cX0_mirrorPicks 23 = .ok (.invokestatic 45, 3) := by decide +kernel
theorem dX0_mirrorPicks_26 : decode cX0_mirrorPicks 26 = .ok (.aload_n 0, 1) := by decide +kernel
theorem dX0_mirrorPicks_27 : decode cX0_mirrorPicks 27 = .ok (.dup, 1) := by decide +kernel
theorem dX0_mirrorPicks_28 : decode cX0_mirrorPicks 28 = .ok (.getfield 22, 3) := by decide +kernel
theorem dX0_mirrorPicks_31 : decode cX0_mirrorPicks 31 = .ok (.iconst 1, 1) := by decide +kernel
theorem dX0_mirrorPicks_32 : decode cX0_mirrorPicks 32 = .ok (.iadd, 1) := by decide +kernel
theorem dX0_mirrorPicks_33 : decode cX0_mirrorPicks 33 = .ok (.putfield 22, 3) := by decide +kernel
theorem dX0_mirrorPicks_36 : decode cX0_mirrorPicks 36 = .ok (.iinc 3 (-1), 3) := by decide +kernel
theorem dX0_mirrorPicks_39 : decode cX0_mirrorPicks 39 = .ok (.goto (-37), 3) := by decide +kernel
theorem dX0_mirrorPicks_42 : decode cX0_mirrorPicks 42 = .ok (.return_, 1) := by decide +kernel
theorem dX0_reversePicks_0 : decode cX0_reversePicks 0 = .ok (.iload_n 2, 1) := by decide +kernel
theorem dX0_reversePicks_1 : decode cX0_reversePicks 1 = .ok (.istore_n 3, 1) := by decide +kernel
theorem dX0_reversePicks_2 : decode cX0_reversePicks 2 = .ok (.iload_n 1, 1) := by decide +kernel
theorem dX0_reversePicks_3 : decode cX0_reversePicks 3 = .ok (.istore 4, 2) := by decide +kernel
theorem dX0_reversePicks_5 : decode cX0_reversePicks 5 = .ok (.iload 4, 2) := by decide +kernel
theorem dX0_reversePicks_7 : decode cX0_reversePicks 7 = .ok (.iload_n 3, 1) := by decide +kernel
theorem dX0_reversePicks_8 : decode cX0_reversePicks 8 = .ok (.if_icmp .ge 50, 3) := by decide +kernel
theorem dX0_reversePicks_11 : decode cX0_reversePicks 11 = .ok (.aload_n 0, 1) := by decide +kernel
theorem dX0_reversePicks_12 : decode cX0_reversePicks 12 = .ok (.getfield 19, 3) := by decide +kernel
theorem dX0_reversePicks_15 : decode cX0_reversePicks 15 = .ok (.iload 4, 2) := by decide +kernel
theorem dX0_reversePicks_17 : decode cX0_reversePicks 17 = .ok (.invokestatic 55, 3) := by decide +kernel
theorem dX0_reversePicks_20 : decode cX0_reversePicks 20 = .ok (.istore 5, 2) := by decide +kernel
theorem dX0_reversePicks_22 : decode cX0_reversePicks 22 = .ok (.aload_n 0, 1) := by decide +kernel
theorem dX0_reversePicks_23 : decode cX0_reversePicks 23 = .ok (.getfield 19, 3) := by decide +kernel
theorem dX0_reversePicks_26 : decode cX0_reversePicks 26 = .ok (.iload 4, 2) := by decide +kernel
theorem dX0_reversePicks_28 : decode cX0_reversePicks 28 = .ok (.aload_n 0, 1) := by decide +kernel
theorem dX0_reversePicks_29 : decode cX0_reversePicks 29 = .ok (.getfield 19, 3) := by decide +kernel
theorem dX0_reversePicks_32 : decode cX0_reversePicks 32 = .ok (.iload_n 3, 1) := by decide +kernel
theorem dX0_reversePicks_33 : decode cX0_reversePicks 33 = .ok (.invokestatic 55, 3) := by decide +kernel
theorem dX0_reversePicks_36 : decode cX0_reversePicks 36 = .ok (.invokestatic 45, 3) := by decide +kernel
theorem dX0_reversePicks_39 : decode cX0_reversePicks 39 = .ok (.aload_n 0, 1) := by decide +kernel
theorem dX0_reversePicks_40 : decode cX0_reversePicks 40 = .ok (.getfield 19, 3) := by decide +kernel
theorem dX0_reversePicks_43 : decode cX0_reversePicks 43 = .ok (.iload_n 3, 1) := by decide +kernel
theorem dX0_reversePicks_44 : decode cX0_reversePicks 44 = .ok (.iload 5, 2) := by decide +kernel
theorem dX0_reversePicks_46 : decode cX0_reversePicks 46 = .ok (.invokestatic 45, 3) := by decide +kernel
theorem dX0_reversePicks_49 : decode cX0_reversePicks 49 = .ok (.iinc 3 (-1), 3) := by decide +kernel
theorem dX0_reversePicks_52 : decode cX0_reversePicks 52 = .ok (.iinc 4 1, 3) := by decide +kernel
theorem dX0_reversePicks_55 : decode cX0_reversePicks 55 = .ok (.goto (-50), 3) := by decide +kernel
theorem dX0_reversePicks_58 : decode cX0_reversePicks 58 = .ok (.return_, 1) := by decide +kernel
theorem dX0_repeatPicks_0 : decode cX0_repeatPicks 0 = .ok (.iconst 0, 1) := by decide +kernel
theorem dX0_repeatPicks_1 : decode cX0_repeatPicks 1 = .ok (.istore_n 3, 1) := by decide +kernel
theorem dX0_repeatPicks_2 : decode cX0_repeatPicks 2 = .ok (.iload_n 3, 1) := by decide +kernel
theorem dX0_repeatPicks_3 : decode cX0_repeatPicks 3 = .ok (.iload_n 2, 1) := by decide +kernel
theorem dX0_repeatPicks_4 : decode cX0_repeatPicks 4 = .ok (.if_icmp .ge 40, 3) := by decide +kernel
theorem dX0_repeatPicks_7 : decode cX0_repeatPicks 7 = .ok (.aload_n 0, 1) := by decide +kernel
theorem dX0_repeatPicks_8 : decode cX0_repeatPicks 8 = .ok (.getfield 19, 3) := by decide +kernel
theorem dX0_repeatPicks_11 : decode cX0_repeatPicks 11 = .ok (.aload_n 0, 1) := by decide +kernel
theorem dX0_repeatPicks_12 : decode cX0_repeatPicks 12 = .ok (.getfield 22, 3) := by decide +kernel
theorem dX0_repeatPicks_15 : decode cX0_repeatPicks 15 = .ok (.aload_n 0, 1) := by decide +kernel
theorem dX0_repeatPicks_16 : decode cX0_repeatPicks 16 = .ok (.getfield 19, 3) := by decide +kernel
theorem dX0_repeatPicks_19 : decode cX0_repeatPicks 19 = .ok (.iload_n 1, 1) := by decide +kernel
theorem dX0_repeatPicks_20 : decode cX0_repeatPicks 20 = .ok (.iload_n 3, 1) := by decide +kernel
theorem dX0_repeatPicks_21 : decode cX0_repeatPicks 21 = .ok (.iadd, 1) := by decide +kernel
theorem dX0_repeatPicks_22 : decode cX0_repeatPicks 22 = .ok (.invokestatic 55, 3) := by decide +kernel
theorem dX0_repeatPicks_25 : decode cX0_repeatPicks 25 = .ok (.invokestatic 45, 3) := by decide +kernel
theorem dX0_repeatPicks_28 : decode cX0_repeatPicks 28 = .ok (.aload_n 0, 1) := by decide +kernel
theorem dX0_repeatPicks_29 : decode cX0_repeatPicks 29 = .ok (.dup, 1) := by decide +kernel
theorem dX0_repeatPicks_30 : decode cX0_repeatPicks 30 = .ok (.getfield 22, 3) := by decide +kernel
theorem dX0_repeatPicks_33 : decode cX0_repeatPicks 33 = .ok (.iconst 1, 1) := by decide +kernel
theorem dX0_repeatPicks_34 : decode cX0_repeatPicks 34 = .ok (.iadd, 1) := by decide +kernel
theorem dX0_repeatPicks_35 : decode cX0_repeatPicks 35 = .ok (.putfield 22, 3) := by decide +kernel
theorem dX0_repeatPicks_38 : decode cX0_repeatPicks 38 = .ok (.iinc 3 1, 3) := by decide +kernel
theorem dX0_repeatPicks_41 : decode cX0_repeatPicks 41 = .ok (.goto (-39), 3) := by decide +kernel
theorem dX0_repeatPicks_44 : decode cX0_repeatPicks 44 = .ok (.return_, 1) := by decide +kernel
theorem dX0_addPart_0 : decode cX0_addPart 0 = .ok (.aload_n 0, 1) := by decide +kernel
theorem dX0_addPart_1 : decode cX0_addPart 1 = .ok (.getfield 9, 3) := by decide +kernel
theorem dX0_addPart_4 : decode cX0_addPart 4 = .ok (.aload_n 0, 1) := by decide +kernel
theorem dX0_addPart_5 : decode cX0_addPart 5 = .ok (.getfield 15, 3) := by decide +kernel
theorem dX0_addPart_8 : decode cX0_addPart 8 = .ok (.iload_n 1, 1) := by decide +kernel
theorem dX0_addPart_9 : decode cX0_addPart 9 = .ok (.invokestatic 45, 3) := by decide +kernel
theorem dX0_addPart_12 : decode cX0_addPart 12 = .ok (.aload_n 0, 1) := by decide +kernel
theorem dX0_addPart_13 : decode cX0_addPart 13 = .ok (.dup, 1) := by decide +kernel
theorem dX0_addPart_14 : decode cX0_addPart 14 = .ok (.getfield 15, 3) := by decide +kernel
theorem dX0_addPart_17 : decode cX0_addPart 17 = .ok (.iconst 1, 1) := by decide +kernel
theorem dX0_addPart_18 : decode cX0_addPart 18 = .ok (.iadd, 1) := by decide +kernel
theorem dX0_addPart_19 : decode cX0_addPart 19 = .ok (.putfield 15, 3) := by decide +kernel
theorem dX0_addPart_22 : decode cX0_addPart 22 = .ok (.return_, 1) := by decide +kernel
theorem dX0_cardForRow_0 : decode cX0_cardForRow 0 = .ok (.aload_n 0, 1) := by decide +kernel
theorem dX0_cardForRow_1 : decode cX0_cardForRow 1 = .ok (.getfield 22, 3) := by decide +kernel
theorem dX0_cardForRow_4 : decode cX0_cardForRow 4 = .ok (.ifCond .gt 7, 3) := by decide +kernel
theorem dX0_cardForRow_7 : decode cX0_cardForRow 7 = .ok (.iconst (-1), 1) := by decide +kernel
theorem dX0_cardForRow_8 : decode cX0_cardForRow 8 = .ok (.goto 16, 3) := by decide +kernel
theorem dX0_cardForRow_11 : decode cX0_cardForRow 11 = .ok (.aload_n 0, 1) := by decide +kernel
theorem dX0_cardForRow_12 : decode cX0_cardForRow 12 = .ok (.getfield 19, 3) := by decide +kernel
theorem dX0_cardForRow_15 : decode cX0_cardForRow 15 = .ok (.iload_n 1, 1) := by decide +kernel
theorem dX0_cardForRow_16 : decode cX0_cardForRow 16 = .ok (.aload_n 0, 1) := by decide +kernel
theorem dX0_cardForRow_17 : decode cX0_cardForRow 17 = .ok (.getfield 22, 3) := by decide +kernel
theorem dX0_cardForRow_20 : decode cX0_cardForRow 20 = .ok (.irem, 1) := by decide +kernel
theorem dX0_cardForRow_21 : decode cX0_cardForRow 21 = .ok (.invokestatic 55, 3) := by decide +kernel
theorem dX0_cardForRow_24 : decode cX0_cardForRow 24 = .ok (.ireturn, 1) := by decide +kernel
theorem dX0_countPicks_0 : decode cX0_countPicks 0 = .ok (.iconst 0, 1) := by decide +kernel
theorem dX0_countPicks_1 : decode cX0_countPicks 1 = .ok (.istore_n 2, 1) := by decide +kernel
theorem dX0_countPicks_2 : decode cX0_countPicks 2 = .ok (.iconst 0, 1) := by decide +kernel
theorem dX0_countPicks_3 : decode cX0_countPicks 3 = .ok (.istore_n 3, 1) := by decide +kernel
theorem dX0_countPicks_4 : decode cX0_countPicks 4 = .ok (.iload_n 3, 1) := by decide +kernel
theorem dX0_countPicks_5 : decode cX0_countPicks 5 = .ok (.aload_n 0, 1) := by decide +kernel
theorem dX0_countPicks_6 : decode cX0_countPicks 6 = .ok (.getfield 22, 3) := by decide +kernel
theorem dX0_countPicks_9 : decode cX0_countPicks 9 = .ok (.if_icmp .ge 24, 3) := by decide +kernel
theorem dX0_countPicks_12 : decode cX0_countPicks 12 = .ok (.aload_n 0, 1) := by decide +kernel
theorem dX0_countPicks_13 : decode cX0_countPicks 13 = .ok (.getfield 19, 3) := by decide +kernel
theorem dX0_countPicks_16 : decode cX0_countPicks 16 = .ok (.iload_n 3, 1) := by decide +kernel
theorem dX0_countPicks_17 : decode cX0_countPicks 17 = .ok (.invokestatic 55, 3) := by decide +kernel
theorem dX0_countPicks_20 : decode cX0_countPicks 20 = .ok (.iload_n 1, 1) := by decide +kernel
theorem dX0_countPicks_21 : decode cX0_countPicks 21 = .ok (.if_icmp .ne 6, 3) := by decide +kernel
theorem dX0_countPicks_24 : decode cX0_countPicks 24 = .ok (.iinc 2 1, 3) := by decide +kernel
theorem dX0_countPicks_27 : decode cX0_countPicks 27 = .ok (.iinc 3 1, 3) := by decide +kernel
theorem dX0_countPicks_30 : decode cX0_countPicks 30 = .ok (.goto (-26), 3) := by decide +kernel
theorem dX0_countPicks_33 : decode cX0_countPicks 33 = .ok (.iload_n 2, 1) := by decide +kernel
theorem dX0_countPicks_34 : decode cX0_countPicks 34 = .ok (.ireturn, 1) := by decide +kernel
theorem dX1_init_0 : decode cX1_init 0 = .ok (.aload_n 0, 1) := by decide +kernel
theorem dX1_init_1 : decode cX1_init 1 = .ok (.invokespecial 3, 3) := by decide +kernel
theorem dX1_init_4 : decode cX1_init 4 = .ok (.aload_n 0, 1) := by decide +kernel
theorem dX1_init_5 : decode cX1_init 5 = .ok (.bipush 8, 2) := by decide +kernel
theorem dX1_init_7 : decode cX1_init 7 = .ok (.anewarray 9, 3) := by decide +kernel
theorem dX1_init_10 : decode cX1_init 10 = .ok (.putfield 11, 3) := by decide +kernel
theorem dX1_init_13 : decode cX1_init 13 = .ok (.aload_n 0, 1) := by decide +kernel
theorem dX1_init_14 : decode cX1_init 14 = .ok (.iconst 0, 1) := by decide +kernel
theorem dX1_init_15 : decode cX1_init 15 = .ok (.putfield 17, 3) := by decide +kernel
theorem dX1_init_18 : decode cX1_init 18 = .ok (.aload_n 0, 1) := by decide +kernel
theorem dX1_init_19 : decode cX1_init 19 = .ok (.iconst 0, 1) := by decide +kernel
theorem dX1_init_20 : decode cX1_init 20 = .ok (.putfield 21, 3) := by decide +kernel
theorem dX1_init_23 : decode cX1_init 23 = .ok (.iconst 0, 1) := by decide +kernel
theorem dX1_init_24 : decode cX1_init 24 = .ok (.istore_n 1, 1) := by decide +kernel
theorem dX1_init_25 : decode cX1_init 25 = .ok (.iload_n 1, 1) := by decide +kernel
theorem dX1_init_26 : decode cX1_init 26 = .ok (.aload_n 0, 1) := by decide +kernel
theorem dX1_init_27 : decode cX1_init 27 = .ok (.getfield 11, 3) := by decide +kernel
theorem dX1_init_30 : decode cX1_init 30 = .ok (.arraylength, 1) := by decide +kernel
theorem dX1_init_31 : decode cX1_init 31 = .ok (.if_icmp .ge 22, 3) := by decide +kernel
theorem dX1_init_34 : decode cX1_init 34 = .ok (.aload_n 0, 1) := by decide +kernel
theorem dX1_init_35 : decode cX1_init 35 = .ok (.getfield 11, 3) := by decide +kernel
theorem dX1_init_38 : decode cX1_init 38 = .ok (.iload_n 1, 1) := by decide +kernel
theorem dX1_init_39 : decode cX1_init 39 = .ok (.new 9, 3) := by decide +kernel
theorem dX1_init_42 : decode cX1_init 42 = .ok (.dup, 1) := by decide +kernel
theorem dX1_init_43 : decode cX1_init 43 = .ok (.invokespecial 24, 3) := by decide +kernel
theorem dX1_init_46 : decode cX1_init 46 = .ok (.aastore, 1) := by decide +kernel
theorem dX1_init_47 : decode cX1_init 47 = .ok (.iinc 1 1, 3) := by decide +kernel
theorem dX1_init_50 : decode cX1_init 50 = .ok (.goto (-25), 3) := by decide +kernel
theorem dX1_init_53 : decode cX1_init 53 = .ok (.return_, 1) := by decide +kernel
theorem dX1_forgetAll_0 : decode cX1_forgetAll 0 = .ok (.aload_n 0, 1) := by decide +kernel
theorem dX1_forgetAll_1 : decode cX1_forgetAll 1 = .ok (.iconst 0, 1) := by decide +kernel
theorem dX1_forgetAll_2 : decode cX1_forgetAll 2 = .ok (.putfield 21, 3) := by decide +kernel
theorem dX1_forgetAll_5 : decode cX1_forgetAll 5 = .ok (.return_, 1) := by decide +kernel
theorem dX1_remember_0 : decode cX1_remember 0 = .ok (.aload_n 0, 1) := by decide +kernel
theorem dX1_remember_1 : decode cX1_remember 1 = .ok (.aload_n 0, 1) := by decide +kernel
theorem dX1_remember_2 : decode cX1_remember 2 = .ok (.getfield 17, 3) := by decide +kernel
theorem dX1_remember_5 : decode cX1_remember 5 = .ok (.invokevirtual 25, 3) := by decide +kernel
theorem dX1_remember_8 : decode cX1_remember 8 = .ok (.astore_n 2, 1) := by decide +kernel
theorem dX1_remember_9 : decode cX1_remember 9 = .ok (.aload_n 2, 1) := by decide +kernel
theorem dX1_remember_10 : decode cX1_remember 10 = .ok (.ifnonnull 4, 3) := by decide +kernel
theorem dX1_remember_13 : decode cX1_remember 13 = .ok (.return_, 1) := by decide +kernel
theorem dX1_remember_14 : decode cX1_remember 14 = .ok (.aload_n 2, 1) := by decide +kernel
theorem dX1_remember_15 : decode cX1_remember 15 = .ok (.aload_n 1, 1) := by decide +kernel
theorem dX1_remember_16 : decode cX1_remember 16 = .ok (.invokevirtual 29, 3) := by decide +kernel
theorem dX1_remember_19 : decode cX1_remember 19 = .ok (.aload_n 0, 1) := by decide +kernel
theorem dX1_remember_20 : decode cX1_remember 20 = .ok (.aload_n 0, 1) := by decide +kernel
theorem dX1_remember_21 : decode cX1_remember 21 = .ok (.getfield 17, 3) := by decide +kernel
theorem dX1_remember_24 : decode cX1_remember 24 = .ok (.iconst 1, 1) := by decide +kernel
theorem dX1_remember_25 : decode cX1_remember 25 = .ok (.iadd, 1) := by decide +kernel
theorem dX1_remember_26 : decode cX1_remember 26 = .ok (.bipush 8, 2) := by decide +kernel
theorem dX1_remember_28 : decode cX1_remember 28 = .ok (.irem, 1) := by decide +kernel
theorem dX1_remember_29 : decode cX1_remember 29 = .ok (.putfield 17, 3) := by decide +kernel
theorem dX1_remember_32 : decode cX1_remember 32 = .ok (.aload_n 0, 1) := by decide +kernel
theorem dX1_remember_33 : decode cX1_remember 33 = .ok (.aload_n 0, 1) := by decide +kernel
theorem dX1_remember_34 : decode cX1_remember 34 = .ok (.getfield 21, 3) := by decide +kernel
theorem dX1_remember_37 : decode cX1_remember 37 = .ok (.iconst 1, 1) := by decide +kernel
theorem dX1_remember_38 : decode cX1_remember 38 = .ok (.iadd, 1) := by decide +kernel
theorem dX1_remember_39 : decode cX1_remember 39 = .ok (.bipush 8, 2) := by decide +kernel
theorem dX1_remember_41 : decode cX1_remember 41 = .ok (.invokestatic 33, 3) := by decide +kernel
theorem dX1_remember_44 : decode cX1_remember 44 = .ok (.putfield 21, 3) := by decide +kernel
theorem dX1_remember_47 : decode cX1_remember 47 = .ok (.return_, 1) := by decide +kernel
theorem dX1_stateAt_0 : decode cX1_stateAt 0 = .ok (.iload_n 1, 1) := by decide +kernel
theorem dX1_stateAt_1 : decode cX1_stateAt 1 = .ok (.ifCond .lt 21, 3) := by decide +kernel
theorem dX1_stateAt_4 : decode cX1_stateAt 4 = .ok (.iload_n 1, 1) := by decide +kernel
theorem dX1_stateAt_5 : decode cX1_stateAt 5 = .ok (.aload_n 0, 1) := by decide +kernel
theorem dX1_stateAt_6 : decode cX1_stateAt 6 = .ok (.getfield 11, 3) := by decide +kernel
theorem dX1_stateAt_9 : decode cX1_stateAt 9 = .ok (.arraylength, 1) := by decide +kernel
theorem dX1_stateAt_10 : decode cX1_stateAt 10 = .ok (.if_icmp .ge 12, 3) := by decide +kernel
theorem dX1_stateAt_13 : decode cX1_stateAt 13 = .ok (.aload_n 0, 1) := by decide +kernel
theorem dX1_stateAt_14 : decode cX1_stateAt 14 = .ok (.getfield 11, 3) := by decide +kernel
theorem dX1_stateAt_17 : decode cX1_stateAt 17 = .ok (.iload_n 1, 1) := by decide +kernel
theorem dX1_stateAt_18 : decode cX1_stateAt 18 = .ok (.aaload, 1) := by decide +kernel
theorem dX1_stateAt_19 : decode cX1_stateAt 19 = .ok (.goto 4, 3) := by decide +kernel
theorem dX1_stateAt_22 : decode cX1_stateAt 22 = .ok (.aconst_null, 1) := by decide +kernel
theorem dX1_stateAt_23 : decode cX1_stateAt 23 = .ok (.areturn, 1) := by decide +kernel
theorem dX2_init_0 : decode cX2_init 0 = .ok (.aload_n 0, 1) := by decide +kernel
theorem dX2_init_1 : decode cX2_init 1 = .ok (.invokespecial 3, 3) := by decide +kernel
theorem dX2_init_4 : decode cX2_init 4 = .ok (.aload_n 0, 1) := by decide +kernel
theorem dX2_init_5 : decode cX2_init 5 = .ok (.sipush 500, 3) := by decide +kernel
theorem dX2_init_8 : decode cX2_init 8 = .ok (.newarray .int, 2) := by decide +kernel
theorem dX2_init_10 : decode cX2_init 10 = .ok (.putfield 9, 3) := by decide +kernel
theorem dX2_init_13 : decode cX2_init 13 = .ok (.aload_n 0, 1) := by decide +kernel
theorem dX2_init_14 : decode cX2_init 14 = .ok (.iconst 0, 1) := by decide +kernel
theorem dX2_init_15 : decode cX2_init 15 = .ok (.putfield 15, 3) := by decide +kernel
theorem dX2_init_18 : decode cX2_init 18 = .ok (.aload_n 0, 1) := by decide +kernel
theorem dX2_init_19 : decode cX2_init 19 = .ok (.iconst 0, 1) := by decide +kernel
theorem dX2_init_20 : decode cX2_init 20 = .ok (.putfield 19, 3) := by decide +kernel
theorem dX2_init_23 : decode cX2_init 23 = .ok (.aload_n 0, 1) := by decide +kernel
theorem dX2_init_24 : decode cX2_init 24 = .ok (.iconst 0, 1) := by decide +kernel
theorem dX2_init_25 : decode cX2_init 25 = .ok (.putfield 22, 3) := by decide +kernel
theorem dX2_init_28 : decode cX2_init 28 = .ok (.aload_n 0, 1) := by decide +kernel
theorem dX2_init_29 : decode cX2_init 29 = .ok (.iconst 0, 1) := by decide +kernel
theorem dX2_init_30 : decode cX2_init 30 = .ok (.putfield 25, 3) := by decide +kernel
theorem dX2_init_33 : decode cX2_init 33 = .ok (.aload_n 0, 1) := by decide +kernel
theorem dX2_init_34 : decode cX2_init 34 = .ok (.iconst 0, 1) := by decide +kernel
theorem dX2_init_35 : decode cX2_init 35 = .ok (.putfield 28, 3) := by decide +kernel
theorem dX2_init_38 : decode cX2_init 38 = .ok (.aload_n 0, 1) := by decide +kernel
theorem dX2_init_39 : decode cX2_init 39 = .ok (.iconst 0, 1) := by decide +kernel
theorem dX2_init_40 : decode cX2_init 40 = .ok (.putfield 31, 3) := by decide +kernel
theorem dX2_init_43 : decode cX2_init 43 = .ok (.return_, 1) := by decide +kernel
theorem dX2_addFourBytes_0 : decode cX2_addFourBytes 0 = .ok (.bipush 24, 2) := by decide +kernel
theorem dX2_addFourBytes_2 : decode cX2_addFourBytes 2 = .ok (.istore_n 2, 1) := by decide +kernel
theorem dX2_addFourBytes_3 : decode cX2_addFourBytes 3 = .ok (.iload_n 2, 1) := by decide +kernel
theorem dX2_addFourBytes_4 : decode cX2_addFourBytes 4 = .ok (.ifCond .lt 37, 3) := by decide +kernel
theorem dX2_addFourBytes_7 : decode cX2_addFourBytes 7 = .ok (.aload_n 0, 1) := by decide +kernel
theorem dX2_addFourBytes_8 : decode cX2_addFourBytes 8 = .ok (.getfield 9, 3) := by decide +kernel
theorem dX2_addFourBytes_11 : decode cX2_addFourBytes 11 = .ok (.aload_n 0, 1) := by decide +kernel
theorem dX2_addFourBytes_12 : decode cX2_addFourBytes 12 = .ok (.getfield 15, 3) := by decide +kernel
theorem dX2_addFourBytes_15 : decode cX2_addFourBytes 15 = .ok (.iload_n 1, 1) := by decide +kernel
theorem dX2_addFourBytes_16 : decode cX2_addFourBytes 16 = .ok (.iload_n 2, 1) := by decide +kernel
theorem dX2_addFourBytes_17 : decode cX2_addFourBytes 17 = .ok (.ishr, 1) := by decide +kernel
theorem dX2_addFourBytes_18 : decode cX2_addFourBytes 18 = .ok (.sipush 255, 3) := by decide +kernel
theorem dX2_addFourBytes_21 : decode cX2_addFourBytes 21 = .ok (.iand, 1) := by decide +kernel
theorem dX2_addFourBytes_22 : decode cX2_addFourBytes 22 = .ok (.invokestatic 34, 3) := by decide +kernel
theorem dX2_addFourBytes_25 : decode cX2_addFourBytes 25 = .ok (.aload_n 0, 1) := by decide +kernel
theorem dX2_addFourBytes_26 : decode cX2_addFourBytes 26 = .ok (.dup, 1) := by decide +kernel
theorem dX2_addFourBytes_27 : decode cX2_addFourBytes 27 = .ok (.getfield 15, 3) := by decide +kernel
theorem dX2_addFourBytes_30 : decode cX2_addFourBytes 30 = .ok (.iconst 1, 1) := by decide +kernel
theorem dX2_addFourBytes_31 : decode cX2_addFourBytes 31 = .ok (.iadd, 1) := by decide +kernel
theorem dX2_addFourBytes_32 : decode cX2_addFourBytes 32 = .ok (.putfield 15, 3) := by decide +kernel
theorem dX2_addFourBytes_35 : decode cX2_addFourBytes 35 = .ok (.iinc 2 (-8), 3) := by decide +kernel
theorem dX2_addFourBytes_38 : decode cX2_addFourBytes 38 = .ok (.goto (-35), 3) := by decide +kernel
theorem dX2_addFourBytes_41 : decode cX2_addFourBytes 41 = .ok (.return_, 1) := by decide +kernel
theorem dX2_startReading_0 : decode cX2_startReading 0 = .ok (.aload_n 0, 1) := by decide +kernel
theorem dX2_startReading_1 : decode cX2_startReading 1 = .ok (.iload_n 1, 1) := by decide +kernel
theorem dX2_startReading_2 : decode cX2_startReading 2 = .ok (.aload_n 0, 1) := by decide +kernel
theorem dX2_startReading_3 : decode cX2_startReading 3 = .ok (.getfield 9, 3) := by decide +kernel
theorem dX2_startReading_6 : decode cX2_startReading 6 = .ok (.arraylength, 1) := by decide +kernel
theorem dX2_startReading_7 : decode cX2_startReading 7 = .ok (.invokestatic 38, 3) := by decide +kernel
theorem dX2_startReading_10 : decode cX2_startReading 10 = .ok (.putfield 19, 3) := by decide +kernel
theorem dX2_startReading_13 : decode cX2_startReading 13 = .ok (.aload_n 0, 1) := by decide +kernel
theorem dX2_startReading_14 : decode cX2_startReading 14 = .ok (.iconst 0, 1) := by decide +kernel
theorem dX2_startReading_15 : decode cX2_startReading 15 = .ok (.putfield 22, 3) := by decide +kernel
theorem dX2_startReading_18 : decode cX2_startReading 18 = .ok (.aload_n 0, 1) := by decide +kernel
theorem dX2_startReading_19 : decode cX2_startReading 19 = .ok (.invokevirtual 44, 3) := by decide +kernel
theorem dX2_startReading_22 : decode cX2_startReading 22 = .ok (.return_, 1) := by decide +kernel
theorem dX2_advance_0 : decode cX2_advance 0 = .ok (.aload_n 0, 1) := by decide +kernel
theorem dX2_advance_1 : decode cX2_advance 1 = .ok (.getfield 22, 3) := by decide +kernel
theorem dX2_advance_4 : decode cX2_advance 4 = .ok (.aload_n 0, 1) := by decide +kernel
theorem dX2_advance_5 : decode cX2_advance 5 = .ok (.getfield 19, 3) := by decide +kernel
theorem dX2_advance_8 : decode cX2_advance 8 = .ok (.if_icmp .ge 32, 3) := by decide +kernel
theorem dX2_advance_11 : decode cX2_advance 11 = .ok (.aload_n 0, 1) := by decide +kernel
theorem dX2_advance_12 : decode cX2_advance 12 = .ok (.getfield 9, 3) := by decide +kernel
theorem dX2_advance_15 : decode cX2_advance 15 = .ok (.aload_n 0, 1) := by decide +kernel
theorem dX2_advance_16 : decode cX2_advance 16 = .ok (.getfield 22, 3) := by decide +kernel
theorem dX2_advance_19 : decode cX2_advance 19 = .ok (.invokestatic 47, 3) := by decide +kernel
theorem dX2_advance_22 : decode cX2_advance 22 = .ok (.bipush 32, 2) := by decide +kernel
theorem dX2_advance_24 : decode cX2_advance 24 = .ok (.if_icmp .ne 16, 3) := by decide +kernel
theorem dX2_advance_27 : decode cX2_advance 27 = .ok (.aload_n 0, 1) := by decide +kernel
theorem dX2_advance_28 : decode cX2_advance 28 = .ok (.dup, 1) := by decide +kernel
theorem dX2_advance_29 : decode cX2_advance 29 = .ok (.getfield 22, 3) := by decide +kernel
theorem dX2_advance_32 : decode cX2_advance 32 = .ok (.iconst 1, 1) := by decide +kernel
theorem dX2_advance_33 : decode cX2_advance 33 = .ok (.iadd, 1) := by decide +kernel
theorem dX2_advance_34 : decode cX2_advance 34 = .ok (.putfield 22, 3) := by decide +kernel
theorem dX2_advance_37 : decode cX2_advance 37 = .ok (.goto (-37), 3) := by decide +kernel
theorem dX2_advance_40 : decode cX2_advance 40 = .ok (.aload_n 0, 1) := by decide +kernel
theorem dX2_advance_41 : decode cX2_advance 41 = .ok (.aload_n 0, 1) := by decide +kernel
theorem dX2_advance_42 : decode cX2_advance 42 = .ok (.getfield 22, 3) := by decide +kernel
theorem dX2_advance_45 : decode cX2_advance 45 = .ok (.putfield 28, 3) := by decide +kernel
theorem dX2_advance_48 : decode cX2_advance 48 = .ok (.aload_n 0, 1) := by decide +kernel
theorem dX2_advance_49 : decode cX2_advance 49 = .ok (.getfield 22, 3) := by decide +kernel
theorem dX2_advance_52 : decode cX2_advance 52 = .ok (.aload_n 0, 1) := by decide +kernel
theorem dX2_advance_53 : decode cX2_advance 53 = .ok (.getfield 19, 3) := by decide +kernel
theorem dX2_advance_56 : decode cX2_advance 56 = .ok (.if_icmp .lt 11, 3) := by decide +kernel
theorem dX2_advance_59 : decode cX2_advance 59 = .ok (.aload_n 0, 1) := by decide +kernel
theorem dX2_advance_60 : decode cX2_advance 60 = .ok (.iconst 0, 1) := by decide +kernel
theorem dX2_advance_61 : decode cX2_advance 61 = .ok (.putfield 25, 3) := by decide +kernel
theorem dX2_advance_64 : decode cX2_advance 64 = .ok (.goto 79, 3) := by decide +kernel
theorem dX2_advance_67 : decode cX2_advance 67 = .ok (.aload_n 0, 1) := by decide +kernel
theorem dX2_advance_68 : decode cX2_advance 68 = .ok (.getfield 9, 3) := by decide +kernel
theorem dX2_advance_71 : decode cX2_advance 71 = .ok (.aload_n 0, 1) := by decide +kernel
theorem dX2_advance_72 : decode cX2_advance 72 = .ok (.getfield 22, 3) := by decide +kernel
theorem dX2_advance_75 : decode cX2_advance 75 = .ok (.invokestatic 47, 3) := by decide +kernel
theorem dX2_advance_78 : decode cX2_advance 78 = .ok (.invokestatic 51, 3) := by decide +kernel
theorem dX2_advance_81 : decode cX2_advance 81 = .ok (.ifCond .eq 10, 3) := by decide +kernel
theorem dX2_advance_84 : decode cX2_advance 84 = .ok (.aload_n 0, 1) := by decide +kernel
theorem dX2_advance_85 : decode cX2_advance 85 = .ok (.invokevirtual 55, 3) := by decide +kernel
theorem dX2_advance_88 : decode cX2_advance 88 = .ok (.goto 55, 3) := by decide +kernel
theorem dX2_advance_91 : decode cX2_advance 91 = .ok (.aload_n 0, 1) := by decide +kernel
theorem dX2_advance_92 : decode cX2_advance 92 = .ok (.getfield 9, 3) := by decide +kernel
theorem dX2_advance_95 : decode cX2_advance 95 = .ok (.aload_n 0, 1) := by decide +kernel
theorem dX2_advance_96 : decode cX2_advance 96 = .ok (.getfield 22, 3) := by decide +kernel
theorem dX2_advance_99 : decode cX2_advance 99 = .ok (.invokestatic 47, 3) := by decide +kernel
theorem dX2_advance_102 : decode cX2_advance 102 = .ok (.invokestatic 58, 3) := by decide +kernel
theorem dX2_advance_105 : decode cX2_advance 105 = .ok (.ifCond .eq 10, 3) := by decide +kernel
theorem dX2_advance_108 : decode cX2_advance 108 = .ok (.aload_n 0, 1) := by decide +kernel
theorem dX2_advance_109 : decode cX2_advance 109 = .ok (.invokevirtual 61, 3) := by decide +kernel
theorem dX2_advance_112 : decode cX2_advance 112 = .ok (.goto 31, 3) := by decide +kernel
theorem dX2_advance_115 : decode cX2_advance 115 = .ok (.aload_n 0, 1) := by decide +kernel
theorem dX2_advance_116 : decode cX2_advance 116 = .ok (.aload_n 0, 1) := by decide +kernel
theorem dX2_advance_117 : decode cX2_advance 117 = .ok (.getfield 9, 3) := by decide +kernel
theorem dX2_advance_120 : decode cX2_advance 120 = .ok (.aload_n 0, 1) := by decide +kernel
theorem dX2_advance_121 : decode cX2_advance 121 = .ok (.getfield 22, 3) := by decide +kernel
theorem dX2_advance_124 : decode cX2_advance 124 = .ok (.invokestatic 47, 3) := by decide +kernel
theorem dX2_advance_127 : decode cX2_advance 127 = .ok (.invokestatic 64, 3) := by decide +kernel
theorem dX2_advance_130 : decode cX2_advance 130 = .ok (.putfield 25, 3) := by decide +kernel
theorem dX2_advance_133 : decode cX2_advance 133 = .ok (.aload_n 0, 1) := by decide +kernel
theorem dX2_advance_134 : decode cX2_advance 134 = .ok (.dup, 1) := by decide +kernel
theorem dX2_advance_135 : decode cX2_advance 135 = .ok (.getfield 22, 3) := by decide +kernel
theorem dX2_advance_138 : decode cX2_advance 138 = .ok (.iconst 1, 1) := by decide +kernel
theorem dX2_advance_139 : decode cX2_advance 139 = .ok (.iadd, 1) := by decide +kernel
theorem dX2_advance_140 : decode cX2_advance 140 = .ok (.putfield 22, 3) := by decide +kernel
theorem dX2_advance_143 : decode cX2_advance 143 = .ok (.return_, 1) := by decide +kernel
theorem dX2_readWord_0 : decode cX2_readWord 0 = .ok (.aload_n 0, 1) := by decide +kernel
theorem dX2_readWord_1 : decode cX2_readWord 1 = .ok (.getfield 22, 3) := by decide +kernel
theorem dX2_readWord_4 : decode cX2_readWord 4 = .ok (.aload_n 0, 1) := by decide +kernel
theorem dX2_readWord_5 : decode cX2_readWord 5 = .ok (.getfield 19, 3) := by decide +kernel
theorem dX2_readWord_8 : decode cX2_readWord 8 = .ok (.if_icmp .ge 33, 3) := by decide +kernel
theorem dX2_readWord_11 : decode cX2_readWord 11 = .ok (.aload_n 0, 1) := by decide +kernel
theorem dX2_readWord_12 : decode cX2_readWord 12 = .ok (.getfield 9, 3) := by decide +kernel
theorem dX2_readWord_15 : decode cX2_readWord 15 = .ok (.aload_n 0, 1) := by decide +kernel
theorem dX2_readWord_16 : decode cX2_readWord 16 = .ok (.getfield 22, 3) := by decide +kernel
theorem dX2_readWord_19 : decode cX2_readWord 19 = .ok (.invokestatic 47, 3) := by decide +kernel
theorem dX2_readWord_22 : decode cX2_readWord 22 = .ok (.invokestatic 51, 3) := by decide +kernel
theorem dX2_readWord_25 : decode cX2_readWord 25 = .ok (.ifCond .eq 16, 3) := by decide +kernel
theorem dX2_readWord_28 : decode cX2_readWord 28 = .ok (.aload_n 0, 1) := by decide +kernel
theorem dX2_readWord_29 : decode cX2_readWord 29 = .ok (.dup, 1) := by decide +kernel
theorem dX2_readWord_30 : decode cX2_readWord 30 = .ok (.getfield 22, 3) := by decide +kernel
theorem dX2_readWord_33 : decode cX2_readWord 33 = .ok (.iconst 1, 1) := by decide +kernel
theorem dX2_readWord_34 : decode cX2_readWord 34 = .ok (.iadd, 1) := by decide +kernel
theorem dX2_readWord_35 : decode cX2_readWord 35 = .ok (.putfield 22, 3) := by decide +kernel
theorem dX2_readWord_38 : decode cX2_readWord 38 = .ok (.goto (-38), 3) := by decide +kernel
theorem dX2_readWord_41 : decode cX2_readWord 41 = .ok (.aload_n 0, 1) := by decide +kernel
theorem dX2_readWord_42 : decode cX2_readWord 42 = .ok (.aload_n 0, 1) := by decide +kernel
theorem dX2_readWord_43 : decode cX2_readWord 43 = .ok (.getfield 22, 3) := by decide +kernel
theorem dX2_readWord_46 : decode cX2_readWord 46 = .ok (.aload_n 0, 1) := by decide +kernel
theorem dX2_readWord_47 : decode cX2_readWord 47 = .ok (.getfield 28, 3) := by decide +kernel
theorem dX2_readWord_50 : decode cX2_readWord 50 = .ok (.isub, 1) := by decide +kernel
theorem dX2_readWord_51 : decode cX2_readWord 51 = .ok (.bipush 7, 2) := by decide +kernel
theorem dX2_readWord_53 : decode cX2_readWord 53 = .ok (.if_icmp .le 8, 3) := by decide +kernel
theorem dX2_readWord_56 : decode cX2_readWord 56 = .ok (.bipush 6, 2) := by decide +kernel
theorem dX2_readWord_58 : decode cX2_readWord 58 = .ok (.goto 4, 3) := by decide +kernel
theorem dX2_readWord_61 : decode cX2_readWord 61 = .ok (.iconst 1, 1) := by decide +kernel
theorem dX2_readWord_62 : decode cX2_readWord 62 = .ok (.putfield 25, 3) := by decide +kernel
theorem dX2_readWord_65 : decode cX2_readWord 65 = .ok (.return_, 1) := by decide +kernel
theorem dX2_readNumber_0 : decode cX2_readNumber 0 = .ok (.aload_n 0, 1) := by decide +kernel
theorem dX2_readNumber_1 : decode cX2_readNumber 1 = .ok (.iconst 0, 1) := by decide +kernel
theorem dX2_readNumber_2 : decode cX2_readNumber 2 = .ok (.putfield 31, 3) := by decide +kernel
theorem dX2_readNumber_5 : decode cX2_readNumber 5 = .ok (.aload_n 0, 1) := by decide +kernel
theorem dX2_readNumber_6 : decode cX2_readNumber 6 = .ok (.getfield 22, 3) := by decide +kernel
theorem dX2_readNumber_9 : decode cX2_readNumber 9 = .ok (.aload_n 0, 1) := by decide +kernel
theorem dX2_readNumber_10 : decode cX2_readNumber 10 = .ok (.getfield 19, 3) := by decide +kernel
theorem dX2_readNumber_13 : decode cX2_readNumber 13 = .ok (.if_icmp .ge 59, 3) := by decide +kernel
theorem dX2_readNumber_16 : decode cX2_readNumber 16 = .ok (.aload_n 0, 1) := by decide +kernel
theorem dX2_readNumber_17 : decode cX2_readNumber 17 = .ok (.getfield 9, 3) := by decide +kernel
theorem dX2_readNumber_20 : decode cX2_readNumber 20 = .ok (.aload_n 0, 1) := by decide +kernel
theorem dX2_readNumber_21 : decode cX2_readNumber 21 = .ok (.getfield 22, 3) := by decide +kernel
theorem dX2_readNumber_24 : decode cX2_readNumber 24 = .ok (.invokestatic 47, 3) := by decide +kernel
theorem dX2_readNumber_27 : decode cX2_readNumber 27 = .ok (.invokestatic 58, 3) := by decide +kernel
theorem dX2_readNumber_30 : decode cX2_readNumber 30 = .ok (.ifCond .eq 42, 3) := by decide +kernel
theorem dX2_readNumber_33 : decode cX2_readNumber 33 = .ok (.aload_n 0, 1) := by decide +kernel
theorem dX2_readNumber_34 : decode cX2_readNumber 34 = .ok (.aload_n 0, 1) := by decide +kernel
theorem dX2_readNumber_35 : decode cX2_readNumber 35 = .ok (.getfield 31, 3) := by decide +kernel
theorem dX2_readNumber_38 : decode cX2_readNumber 38 = .ok (.bipush 10, 2) := by decide +kernel
theorem dX2_readNumber_40 : decode cX2_readNumber 40 = .ok (.imul, 1) := by decide +kernel
theorem dX2_readNumber_41 : decode cX2_readNumber 41 = .ok (.aload_n 0, 1) := by decide +kernel
theorem dX2_readNumber_42 : decode cX2_readNumber 42 = .ok (.getfield 9, 3) := by decide +kernel
theorem dX2_readNumber_45 : decode cX2_readNumber 45 = .ok (.aload_n 0, 1) := by decide +kernel
theorem dX2_readNumber_46 : decode cX2_readNumber 46 = .ok (.getfield 22, 3) := by decide +kernel
theorem dX2_readNumber_49 : decode cX2_readNumber 49 = .ok (.invokestatic 47, 3) := by decide +kernel
theorem dX2_readNumber_52 : decode cX2_readNumber 52 = .ok (.iadd, 1) := by decide +kernel
theorem dX2_readNumber_53 : decode cX2_readNumber 53 = .ok (.bipush 48, 2) := by decide +kernel
theorem dX2_readNumber_55 : decode cX2_readNumber 55 = .ok (.isub, 1) := by decide +kernel
theorem dX2_readNumber_56 : decode cX2_readNumber 56 = .ok (.putfield 31, 3) := by decide +kernel
theorem dX2_readNumber_59 : decode cX2_readNumber 59 = .ok (.aload_n 0, 1) := by decide +kernel
theorem dX2_readNumber_60 : decode cX2_readNumber 60 = .ok (.dup, 1) := by decide +kernel
theorem dX2_readNumber_61 : decode cX2_readNumber 61 = .ok (.getfield 22, 3) := by decide +kernel
theorem dX2_readNumber_64 : decode cX2_readNumber 64 = .ok (.iconst 1, 1) := by decide +kernel
theorem dX2_readNumber_65 : decode cX2_readNumber 65 = .ok (.iadd, 1) := by decide +kernel
theorem dX2_readNumber_66 : decode cX2_readNumber 66 = .ok (.putfield 22, 3) := by decide +kernel
theorem dX2_readNumber_69 : decode cX2_readNumber 69 = .ok (.goto (-64), 3) := by decide +kernel
theorem dX2_readNumber_72 : decode cX2_readNumber 72 = .ok (.aload_n 0, 1) := by decide +kernel
theorem dX2_readNumber_73 : decode cX2_readNumber 73 = .ok (.aload_n 0, 1) := by decide +kernel
theorem dX2_readNumber_74 : decode cX2_readNumber 74 = .ok (.getfield 22, 3) := by decide +kernel
theorem dX2_readNumber_77 : decode cX2_readNumber 77 = .ok (.aload_n 0, 1) := by decide +kernel
theorem dX2_readNumber_78 : decode cX2_readNumber 78 = .ok (.getfield 28, 3) := by decide +kernel
theorem dX2_readNumber_81 : decode cX2_readNumber 81 = .ok (.isub, 1) := by decide +kernel
theorem dX2_readNumber_82 : decode cX2_readNumber 82 = .ok (.iconst 3, 1) := by decide +kernel
theorem dX2_readNumber_83 : decode cX2_readNumber 83 = .ok (.if_icmp .le 8, 3) := by decide +kernel
theorem dX2_readNumber_86 : decode cX2_readNumber 86 = .ok (.bipush 6, 2) := by decide +kernel
theorem dX2_readNumber_88 : decode cX2_readNumber 88 = .ok (.goto 4, 3) := by decide +kernel
theorem dX2_readNumber_91 : decode cX2_readNumber 91 = .ok (.iconst 2, 1) := by decide +kernel
theorem dX2_readNumber_92 : decode cX2_readNumber 92 = .ok (.putfield 25, 3) := by decide +kernel
theorem dX2_readNumber_95 : decode cX2_readNumber 95 = .ok (.return_, 1) := by decide +kernel
theorem dX2_isLetter_0 : decode cX2_isLetter 0 = .ok (.iload_n 0, 1) := by decide +kernel
theorem dX2_isLetter_1 : decode cX2_isLetter 1 = .ok (.bipush 97, 2) := by decide +kernel
theorem dX2_isLetter_3 : decode cX2_isLetter 3 = .ok (.if_icmp .lt 13, 3) := by decide +kernel
theorem dX2_isLetter_6 : decode cX2_isLetter 6 = .ok (.iload_n 0, 1) := by decide +kernel
theorem dX2_isLetter_7 : decode cX2_isLetter 7 = .ok (.bipush 122, 2) := by decide +kernel
theorem dX2_isLetter_9 : decode cX2_isLetter 9 = .ok (.if_icmp .gt 7, 3) := by decide +kernel
theorem dX2_isLetter_12 : decode cX2_isLetter 12 = .ok (.iconst 1, 1) := by decide +kernel
theorem dX2_isLetter_13 : decode cX2_isLetter 13 = .ok (.goto 4, 3) := by decide +kernel
theorem dX2_isLetter_16 : decode cX2_isLetter 16 = .ok (.iconst 0, 1) := by decide +kernel
theorem dX2_isLetter_17 : decode cX2_isLetter 17 = .ok (.ireturn, 1) := by decide +kernel
theorem dX2_isDigit_0 : decode cX2_isDigit 0 = .ok (.iload_n 0, 1) := by decide +kernel
theorem dX2_isDigit_1 : decode cX2_isDigit 1 = .ok (.bipush 48, 2) := by decide +kernel
theorem dX2_isDigit_3 : decode cX2_isDigit 3 = .ok (.if_icmp .lt 13, 3) := by decide +kernel
theorem dX2_isDigit_6 : decode cX2_isDigit 6 = .ok (.iload_n 0, 1) := by decide +kernel
theorem dX2_isDigit_7 : decode cX2_isDigit 7 = .ok (.bipush 57, 2) := by decide +kernel
theorem dX2_isDigit_9 : decode cX2_isDigit 9 = .ok (.if_icmp .gt 7, 3) := by decide +kernel
theorem dX2_isDigit_12 : decode cX2_isDigit 12 = .ok (.iconst 1, 1) := by decide +kernel
theorem dX2_isDigit_13 : decode cX2_isDigit 13 = .ok (.goto 4, 3) := by decide +kernel
theorem dX2_isDigit_16 : decode cX2_isDigit 16 = .ok (.iconst 0, 1) := by decide +kernel
theorem dX2_isDigit_17 : decode cX2_isDigit 17 = .ok (.ireturn, 1) := by decide +kernel
theorem dX2_kindOfSign_0 : decode cX2_kindOfSign 0 = .ok (.iload_n 0, 1) := by decide +kernel
theorem dX2_kindOfSign_1 : decode cX2_kindOfSign 1 = .ok (.lookupswitch 41 #[(40, 37), (41, 39), (59, 35)], 35) := by decide +kernel
theorem dX2_kindOfSign_36 : decode cX2_kindOfSign 36 = .ok (.iconst 3, 1) := by decide +kernel
theorem dX2_kindOfSign_37 : decode cX2_kindOfSign 37 = .ok (.ireturn, 1) := by decide +kernel
theorem dX2_kindOfSign_38 : decode cX2_kindOfSign 38 = .ok (.iconst 4, 1) := by decide +kernel
theorem dX2_kindOfSign_39 : decode cX2_kindOfSign 39 = .ok (.ireturn, 1) := by decide +kernel
theorem dX2_kindOfSign_40 : decode cX2_kindOfSign 40 = .ok (.iconst 5, 1) := by decide +kernel
theorem dX2_kindOfSign_41 : decode cX2_kindOfSign 41 = .ok (.ireturn, 1) := by decide +kernel
theorem dX2_kindOfSign_42 : decode cX2_kindOfSign 42 = .ok (.bipush 6, 2) := by decide +kernel
theorem dX2_kindOfSign_44 : decode cX2_kindOfSign 44 = .ok (.ireturn, 1) := by decide +kernel
theorem dX2_isWord_0 : decode cX2_isWord 0 = .ok (.aload_n 0, 1) := by decide +kernel
theorem dX2_isWord_1 : decode cX2_isWord 1 = .ok (.getfield 25, 3) := by decide +kernel
theorem dX2_isWord_4 : decode cX2_isWord 4 = .ok (.iconst 1, 1) := by decide +kernel
theorem dX2_isWord_5 : decode cX2_isWord 5 = .ok (.if_icmp .ne 19, 3) := by decide +kernel
theorem dX2_isWord_8 : decode cX2_isWord 8 = .ok (.aload_n 0, 1) := by decide +kernel
theorem dX2_isWord_9 : decode cX2_isWord 9 = .ok (.getfield 22, 3) := by decide +kernel
theorem dX2_isWord_12 : decode cX2_isWord 12 = .ok (.aload_n 0, 1) := by decide +kernel
theorem dX2_isWord_13 : decode cX2_isWord 13 = .ok (.getfield 28, 3) := by decide +kernel
theorem dX2_isWord_16 : decode cX2_isWord 16 = .ok (.isub, 1) := by decide +kernel
theorem dX2_isWord_17 : decode cX2_isWord 17 = .ok (.aload_n 1, 1) := by decide +kernel
theorem dX2_isWord_18 : decode cX2_isWord 18 = .ok (.invokevirtual 68, 3) := by decide +kernel
theorem dX2_isWord_21 : decode cX2_isWord 21 = .ok (.if_icmp .eq 5, 3) := by decide +kernel
theorem dX2_isWord_24 : decode cX2_isWord 24 = .ok (.iconst 0, 1) := by decide +kernel
theorem dX2_isWord_25 : decode cX2_isWord 25 = .ok (.ireturn, 1) := by decide +kernel
theorem dX2_isWord_26 : decode cX2_isWord 26 = .ok (.iconst 0, 1) := by decide +kernel
theorem dX2_isWord_27 : decode cX2_isWord 27 = .ok (.istore_n 2, 1) := by decide +kernel
theorem dX2_isWord_28 : decode cX2_isWord 28 = .ok (.iload_n 2, 1) := by decide +kernel
theorem dX2_isWord_29 : decode cX2_isWord 29 = .ok (.aload_n 1, 1) := by decide +kernel
theorem dX2_isWord_30 : decode cX2_isWord 30 = .ok (.invokevirtual 68, 3) := by decide +kernel
theorem dX2_isWord_33 : decode cX2_isWord 33 = .ok (.if_icmp .ge 32, 3) := by decide +kernel
theorem dX2_isWord_36 : decode cX2_isWord 36 = .ok (.aload_n 0, 1) := by decide +kernel
theorem dX2_isWord_37 : decode cX2_isWord 37 = .ok (.getfield 9, 3) := by decide +kernel
theorem dX2_isWord_40 : decode cX2_isWord 40 = .ok (.aload_n 0, 1) := by decide +kernel
theorem dX2_isWord_41 : decode cX2_isWord 41 = .ok (.getfield 28, 3) := by decide +kernel
theorem dX2_isWord_44 : decode cX2_isWord 44 = .ok (.iload_n 2, 1) := by decide +kernel
theorem dX2_isWord_45 : decode cX2_isWord 45 = .ok (.iadd, 1) := by decide +kernel
theorem dX2_isWord_46 : decode cX2_isWord 46 = .ok (.invokestatic 47, 3) := by decide +kernel
theorem dX2_isWord_49 : decode cX2_isWord 49 = .ok (.aload_n 1, 1) := by decide +kernel
theorem dX2_isWord_50 : decode cX2_isWord 50 = .ok (.iload_n 2, 1) := by decide +kernel
theorem dX2_isWord_51 : decode cX2_isWord 51 = .ok (.invokevirtual 74, 3) := by decide +kernel
theorem dX2_isWord_54 : decode cX2_isWord 54 = .ok (.if_icmp .eq 5, 3) := by decide +kernel
theorem dX2_isWord_57 : decode cX2_isWord 57 = .ok (.iconst 0, 1) := by decide +kernel
theorem dX2_isWord_58 : decode cX2_isWord 58 = .ok (.ireturn, 1) := by decide +kernel
theorem dX2_isWord_59 : decode cX2_isWord 59 = .ok (.iinc 2 1, 3) := by decide +kernel
theorem dX2_isWord_62 : decode cX2_isWord 62 = .ok (.goto (-34), 3) := by decide +kernel
theorem dX2_isWord_65 : decode cX2_isWord 65 = .ok (.iconst 1, 1) := by decide +kernel
theorem dX2_isWord_66 : decode cX2_isWord 66 = .ok (.ireturn, 1) := by decide +kernel
theorem dX2_colour_0 : decode cX2_colour 0 = .ok (.aload_n 0, 1) := by decide +kernel
theorem dX2_colour_1 : decode cX2_colour 1 = .ok (.getfield 25, 3) := by decide +kernel
theorem dX2_colour_4 : decode cX2_colour 4 = .ok (.iconst 1, 1) := by decide +kernel
theorem dX2_colour_5 : decode cX2_colour 5 = .ok (.if_icmp .ne 16, 3) := by decide +kernel
theorem dX2_colour_8 : decode cX2_colour 8 = .ok (.aload_n 0, 1) := by decide +kernel
theorem dX2_colour_9 : decode cX2_colour 9 = .ok (.getfield 22, 3) := by decide +kernel
theorem dX2_colour_12 : decode cX2_colour 12 = .ok (.aload_n 0, 1) := by decide +kernel
theorem dX2_colour_13 : decode cX2_colour 13 = .ok (.getfield 28, 3) := by decide +kernel
theorem dX2_colour_16 : decode cX2_colour 16 = .ok (.isub, 1) := by decide +kernel
theorem dX2_colour_17 : decode cX2_colour 17 = .ok (.iconst 1, 1) := by decide +kernel
theorem dX2_colour_18 : decode cX2_colour 18 = .ok (.if_icmp .eq 5, 3) := by decide +kernel
theorem dX2_colour_21 : decode cX2_colour 21 = .ok (.iconst (-1), 1) := by decide +kernel
theorem dX2_colour_22 : decode cX2_colour 22 = .ok (.ireturn, 1) := by decide +kernel
theorem dX2_colour_23 : decode cX2_colour 23 = .ok (.aload_n 0, 1) := by decide +kernel
theorem dX2_colour_24 : decode cX2_colour 24 = .ok (.getfield 9, 3) := by decide +kernel
theorem dX2_colour_27 : decode cX2_colour 27 = .ok (.aload_n 0, 1) := by decide +kernel
theorem dX2_colour_28 : decode cX2_colour 28 = .ok (.getfield 28, 3) := by decide +kernel
theorem dX2_colour_31 : decode cX2_colour 31 = .ok (.invokestatic 47, 3) := by decide +kernel
theorem dX2_colour_34 : decode cX2_colour 34 = .ok (.bipush 97, 2) := by decide +kernel
theorem dX2_colour_36 : decode cX2_colour 36 = .ok (.isub, 1) := by decide +kernel
theorem dX2_colour_37 : decode cX2_colour 37 = .ok (.istore_n 1, 1) := by decide +kernel
theorem dX2_colour_38 : decode cX2_colour 38 = .ok (.iload_n 1, 1) := by decide +kernel
theorem dX2_colour_39 : decode cX2_colour 39 = .ok (.bipush 6, 2) := by decide +kernel
theorem dX2_colour_41 : decode cX2_colour 41 = .ok (.if_icmp .ge 7, 3) := by decide +kernel
theorem dX2_colour_44 : decode cX2_colour 44 = .ok (.iload_n 1, 1) := by decide +kernel
theorem dX2_colour_45 : decode cX2_colour 45 = .ok (.goto 4, 3) := by decide +kernel
theorem dX2_colour_48 : decode cX2_colour 48 = .ok (.iconst (-1), 1) := by decide +kernel
theorem dX2_colour_49 : decode cX2_colour 49 = .ok (.ireturn, 1) := by decide +kernel
theorem dX3_init_0 : decode cX3_init 0 = .ok (.aload_n 0, 1) := by decide +kernel
theorem dX3_init_1 : decode cX3_init 1 = .ok (.invokespecial 3, 3) := by decide +kernel
theorem dX3_init_4 : decode cX3_init 4 = .ok (.aload_n 0, 1) := by decide +kernel
theorem dX3_init_5 : decode cX3_init 5 = .ok (.iconst 0, 1) := by decide +kernel
theorem dX3_init_6 : decode cX3_init 6 = .ok (.putfield 9, 3) := by decide +kernel
theorem dX3_init_9 : decode cX3_init 9 = .ok (.aload_n 0, 1) := by decide +kernel
theorem dX3_init_10 : decode cX3_init 10 = .ok (.iconst 0, 1) := by decide +kernel
theorem dX3_init_11 : decode cX3_init 11 = .ok (.putfield 15, 3) := by decide +kernel
theorem dX3_init_14 : decode cX3_init 14 = .ok (.aload_n 0, 1) := by decide +kernel
theorem dX3_init_15 : decode cX3_init 15 = .ok (.iconst 0, 1) := by decide +kernel
theorem dX3_init_16 : decode cX3_init 16 = .ok (.putfield 18, 3) := by decide +kernel
theorem dX3_init_19 : decode cX3_init 19 = .ok (.aload_n 0, 1) := by decide +kernel
theorem dX3_init_20 : decode cX3_init 20 = .ok (.bipush 24, 2) := by decide +kernel
theorem dX3_init_22 : decode cX3_init 22 = .ok (.putfield 21, 3) := by decide +kernel
theorem dX3_init_25 : decode cX3_init 25 = .ok (.aload_n 0, 1) := by decide +kernel
theorem dX3_init_26 : decode cX3_init 26 = .ok (.iconst 0, 1) := by decide +kernel
theorem dX3_init_27 : decode cX3_init 27 = .ok (.putfield 24, 3) := by decide +kernel
theorem dX3_init_30 : decode cX3_init 30 = .ok (.aload_n 0, 1) := by decide +kernel
theorem dX3_init_31 : decode cX3_init 31 = .ok (.bipush 24, 2) := by decide +kernel
theorem dX3_init_33 : decode cX3_init 33 = .ok (.newarray .int, 2) := by decide +kernel
theorem dX3_init_35 : decode cX3_init 35 = .ok (.putfield 27, 3) := by decide +kernel
theorem dX3_init_38 : decode cX3_init 38 = .ok (.aload_n 0, 1) := by decide +kernel
theorem dX3_init_39 : decode cX3_init 39 = .ok (.bipush 24, 2) := by decide +kernel
theorem dX3_init_41 : decode cX3_init 41 = .ok (.newarray .int, 2) := by decide +kernel
theorem dX3_init_43 : decode cX3_init 43 = .ok (.putfield 31, 3) := by decide +kernel
theorem dX3_init_46 : decode cX3_init 46 = .ok (.aload_n 0, 1) := by decide +kernel
theorem dX3_init_47 : decode cX3_init 47 = .ok (.iconst 0, 1) := by decide +kernel
theorem dX3_init_48 : decode cX3_init 48 = .ok (.putfield 34, 3) := by decide +kernel
theorem dX3_init_51 : decode cX3_init 51 = .ok (.aload_n 0, 1) := by decide +kernel
theorem dX3_init_52 : decode cX3_init 52 = .ok (.bipush 12, 2) := by decide +kernel
theorem dX3_init_54 : decode cX3_init 54 = .ok (.newarray .int, 2) := by decide +kernel
theorem dX3_init_56 : decode cX3_init 56 = .ok (.putfield 37, 3) := by decide +kernel
theorem dX3_init_59 : decode cX3_init 59 = .ok (.aload_n 0, 1) := by decide +kernel
theorem dX3_init_60 : decode cX3_init 60 = .ok (.bipush 12, 2) := by decide +kernel
theorem dX3_init_62 : decode cX3_init 62 = .ok (.newarray .int, 2) := by decide +kernel
theorem dX3_init_64 : decode cX3_init 64 = .ok (.putfield 40, 3) := by decide +kernel
theorem dX3_init_67 : decode cX3_init 67 = .ok (.aload_n 0, 1) := by decide +kernel
theorem dX3_init_68 : decode cX3_init 68 = .ok (.new 43, 3) := by decide +kernel
theorem dX3_init_71 : decode cX3_init 71 = .ok (.dup, 1) := by decide +kernel
theorem dX3_init_72 : decode cX3_init 72 = .ok (.invokespecial 45, 3) := by decide +kernel
theorem dX3_init_75 : decode cX3_init 75 = .ok (.putfield 46, 3) := by decide +kernel
theorem dX3_init_78 : decode cX3_init 78 = .ok (.aload_n 0, 1) := by decide +kernel
theorem dX3_init_79 : decode cX3_init 79 = .ok (.new 50, 3) := by decide +kernel
theorem dX3_init_82 : decode cX3_init 82 = .ok (.dup, 1) := by decide +kernel
theorem dX3_init_83 : decode cX3_init 83 = .ok (.invokespecial 52, 3) := by decide +kernel
theorem dX3_init_86 : decode cX3_init 86 = .ok (.putfield 53, 3) := by decide +kernel
theorem dX3_init_89 : decode cX3_init 89 = .ok (.aload_n 0, 1) := by decide +kernel
theorem dX3_init_90 : decode cX3_init 90 = .ok (.new 50, 3) := by decide +kernel
theorem dX3_init_93 : decode cX3_init 93 = .ok (.dup, 1) := by decide +kernel
theorem dX3_init_94 : decode cX3_init 94 = .ok (.invokespecial 52, 3) := by decide +kernel
theorem dX3_init_97 : decode cX3_init 97 = .ok (.putfield 57, 3) := by decide +kernel
theorem dX3_init_100 : decode cX3_init 100 = .ok (.return_, 1) := by decide +kernel
theorem dX3_clear_0 : decode cX3_clear 0 = .ok (.aload_n 0, 1) := by decide +kernel
theorem dX3_clear_1 : decode cX3_clear 1 = .ok (.iconst 0, 1) := by decide +kernel
theorem dX3_clear_2 : decode cX3_clear 2 = .ok (.putfield 9, 3) := by decide +kernel
theorem dX3_clear_5 : decode cX3_clear 5 = .ok (.aload_n 0, 1) := by decide +kernel
theorem dX3_clear_6 : decode cX3_clear 6 = .ok (.iconst 0, 1) := by decide +kernel
theorem dX3_clear_7 : decode cX3_clear 7 = .ok (.putfield 15, 3) := by decide +kernel
theorem dX3_clear_10 : decode cX3_clear 10 = .ok (.aload_n 0, 1) := by decide +kernel
theorem dX3_clear_11 : decode cX3_clear 11 = .ok (.iconst 0, 1) := by decide +kernel
theorem dX3_clear_12 : decode cX3_clear 12 = .ok (.putfield 18, 3) := by decide +kernel
theorem dX3_clear_15 : decode cX3_clear 15 = .ok (.aload_n 0, 1) := by decide +kernel
theorem dX3_clear_16 : decode cX3_clear 16 = .ok (.bipush 24, 2) := by decide +kernel
theorem dX3_clear_18 : decode cX3_clear 18 = .ok (.putfield 21, 3) := by decide +kernel
theorem dX3_clear_21 : decode cX3_clear 21 = .ok (.aload_n 0, 1) := by decide +kernel
theorem dX3_clear_22 : decode cX3_clear 22 = .ok (.iconst 0, 1) := by decide +kernel
theorem dX3_clear_23 : decode cX3_clear 23 = .ok (.putfield 24, 3) := by decide +kernel
theorem dX3_clear_26 : decode cX3_clear 26 = .ok (.aload_n 0, 1) := by decide +kernel
theorem dX3_clear_27 : decode cX3_clear 27 = .ok (.iconst 0, 1) := by decide +kernel
theorem dX3_clear_28 : decode cX3_clear 28 = .ok (.putfield 34, 3) := by decide +kernel
theorem dX3_clear_31 : decode cX3_clear 31 = .ok (.aload_n 0, 1) := by decide +kernel
theorem dX3_clear_32 : decode cX3_clear 32 = .ok (.getfield 46, 3) := by decide +kernel
theorem dX3_clear_35 : decode cX3_clear 35 = .ok (.invokevirtual 60, 3) := by decide +kernel
theorem dX3_clear_38 : decode cX3_clear 38 = .ok (.aload_n 0, 1) := by decide +kernel
theorem dX3_clear_39 : decode cX3_clear 39 = .ok (.getfield 53, 3) := by decide +kernel
theorem dX3_clear_42 : decode cX3_clear 42 = .ok (.invokevirtual 63, 3) := by decide +kernel
theorem dX3_clear_45 : decode cX3_clear 45 = .ok (.return_, 1) := by decide +kernel
theorem dX3_addWarp_0 : decode cX3_addWarp 0 = .ok (.aload_n 0, 1) := by decide +kernel
theorem dX3_addWarp_1 : decode cX3_addWarp 1 = .ok (.getfield 24, 3) := by decide +kernel
theorem dX3_addWarp_4 : decode cX3_addWarp 4 = .ok (.bipush 24, 2) := by decide +kernel
theorem dX3_addWarp_6 : decode cX3_addWarp 6 = .ok (.if_icmp .lt 5, 3) := by decide +kernel
theorem dX3_addWarp_9 : decode cX3_addWarp 9 = .ok (.iconst 0, 1) := by decide +kernel
theorem dX3_addWarp_10 : decode cX3_addWarp 10 = .ok (.ireturn, 1) := by decide +kernel
theorem dX3_addWarp_11 : decode cX3_addWarp 11 = .ok (.aload_n 0, 1) := by decide +kernel
theorem dX3_addWarp_12 : decode cX3_addWarp 12 = .ok (.getfield 27, 3) := by decide +kernel
theorem dX3_addWarp_15 : decode cX3_addWarp 15 = .ok (.aload_n 0, 1) := by decide +kernel
theorem dX3_addWarp_16 : decode cX3_addWarp 16 = .ok (.getfield 24, 3) := by decide +kernel
theorem dX3_addWarp_19 : decode cX3_addWarp 19 = .ok (.iload_n 1, 1) := by decide +kernel
theorem dX3_addWarp_20 : decode cX3_addWarp 20 = .ok (.invokestatic 64, 3) := by decide +kernel
theorem dX3_addWarp_23 : decode cX3_addWarp 23 = .ok (.aload_n 0, 1) := by decide +kernel
theorem dX3_addWarp_24 : decode cX3_addWarp 24 = .ok (.getfield 31, 3) := by decide +kernel
theorem dX3_addWarp_27 : decode cX3_addWarp 27 = .ok (.aload_n 0, 1) := by decide +kernel
theorem dX3_addWarp_28 : decode cX3_addWarp 28 = .ok (.getfield 24, 3) := by decide +kernel
theorem dX3_addWarp_31 : decode cX3_addWarp 31 = .ok (.iload_n 2, 1) := by decide +kernel
theorem dX3_addWarp_32 : decode cX3_addWarp 32 = .ok (.invokestatic 64, 3) := by decide +kernel
theorem dX3_addWarp_35 : decode cX3_addWarp 35 = .ok (.aload_n 0, 1) := by decide +kernel
theorem dX3_addWarp_36 : decode cX3_addWarp 36 = .ok (.dup, 1) := by decide +kernel
theorem dX3_addWarp_37 : decode cX3_addWarp 37 = .ok (.getfield 24, 3) := by decide +kernel
theorem dX3_addWarp_40 : decode cX3_addWarp 40 = .ok (.iconst 1, 1) := by decide +kernel
theorem dX3_addWarp_41 : decode cX3_addWarp 41 = .ok (.iadd, 1) := by decide +kernel
theorem dX3_addWarp_42 : decode cX3_addWarp 42 = .ok (.putfield 24, 3) := by decide +kernel
theorem dX3_addWarp_45 : decode cX3_addWarp 45 = .ok (.iconst 1, 1) := by decide +kernel
theorem dX3_addWarp_46 : decode cX3_addWarp 46 = .ok (.ireturn, 1) := by decide +kernel
theorem dX3_addCard_0 : decode cX3_addCard 0 = .ok (.aload_n 0, 1) := by decide +kernel
theorem dX3_addCard_1 : decode cX3_addCard 1 = .ok (.getfield 37, 3) := by decide +kernel
theorem dX3_addCard_4 : decode cX3_addCard 4 = .ok (.aload_n 0, 1) := by decide +kernel
theorem dX3_addCard_5 : decode cX3_addCard 5 = .ok (.getfield 34, 3) := by decide +kernel
theorem dX3_addCard_8 : decode cX3_addCard 8 = .ok (.iload_n 1, 1) := by decide +kernel
theorem dX3_addCard_9 : decode cX3_addCard 9 = .ok (.invokestatic 64, 3) := by decide +kernel
theorem dX3_addCard_12 : decode cX3_addCard 12 = .ok (.aload_n 0, 1) := by decide +kernel
theorem dX3_addCard_13 : decode cX3_addCard 13 = .ok (.getfield 40, 3) := by decide +kernel
theorem dX3_addCard_16 : decode cX3_addCard 16 = .ok (.aload_n 0, 1) := by decide +kernel
theorem dX3_addCard_17 : decode cX3_addCard 17 = .ok (.getfield 34, 3) := by decide +kernel
theorem dX3_addCard_20 : decode cX3_addCard 20 = .ok (.iload_n 2, 1) := by decide +kernel
theorem dX3_addCard_21 : decode cX3_addCard 21 = .ok (.invokestatic 64, 3) := by decide +kernel
theorem dX3_addCard_24 : decode cX3_addCard 24 = .ok (.aload_n 0, 1) := by decide +kernel
theorem dX3_addCard_25 : decode cX3_addCard 25 = .ok (.getfield 53, 3) := by decide +kernel
theorem dX3_addCard_28 : decode cX3_addCard 28 = .ok (.getfield 68, 3) := by decide +kernel
theorem dX3_addCard_31 : decode cX3_addCard 31 = .ok (.aload_n 0, 1) := by decide +kernel
theorem dX3_addCard_32 : decode cX3_addCard 32 = .ok (.getfield 34, 3) := by decide +kernel
theorem dX3_addCard_35 : decode cX3_addCard 35 = .ok (.iload_n 1, 1) := by decide +kernel
theorem dX3_addCard_36 : decode cX3_addCard 36 = .ok (.invokestatic 64, 3) := by decide +kernel
theorem dX3_addCard_39 : decode cX3_addCard 39 = .ok (.aload_n 0, 1) := by decide +kernel
theorem dX3_addCard_40 : decode cX3_addCard 40 = .ok (.getfield 53, 3) := by decide +kernel
theorem dX3_addCard_43 : decode cX3_addCard 43 = .ok (.getfield 71, 3) := by decide +kernel
theorem dX3_addCard_46 : decode cX3_addCard 46 = .ok (.aload_n 0, 1) := by decide +kernel
theorem dX3_addCard_47 : decode cX3_addCard 47 = .ok (.getfield 34, 3) := by decide +kernel
theorem dX3_addCard_50 : decode cX3_addCard 50 = .ok (.iload_n 2, 1) := by decide +kernel
theorem dX3_addCard_51 : decode cX3_addCard 51 = .ok (.invokestatic 64, 3) := by decide +kernel
theorem dX3_addCard_54 : decode cX3_addCard 54 = .ok (.aload_n 0, 1) := by decide +kernel
theorem dX3_addCard_55 : decode cX3_addCard 55 = .ok (.dup, 1) := by decide +kernel
theorem dX3_addCard_56 : decode cX3_addCard 56 = .ok (.getfield 34, 3) := by decide +kernel
theorem dX3_addCard_59 : decode cX3_addCard 59 = .ok (.iconst 1, 1) := by decide +kernel
theorem dX3_addCard_60 : decode cX3_addCard 60 = .ok (.iadd, 1) := by decide +kernel
theorem dX3_addCard_61 : decode cX3_addCard 61 = .ok (.putfield 34, 3) := by decide +kernel
theorem dX3_addCard_64 : decode cX3_addCard 64 = .ok (.return_, 1) := by decide +kernel
theorem dX3_otherHarnesses_0 : decode cX3_otherHarnesses 0 = .ok (.iconst 1, 1) := by decide +kernel
theorem dX3_otherHarnesses_1 : decode cX3_otherHarnesses 1 = .ok (.aload_n 0, 1) := by decide +kernel
theorem dX3_otherHarnesses_2 : decode cX3_otherHarnesses 2 = .ok (.getfield 9, 3) := by decide +kernel
theorem dX3_otherHarnesses_5 : decode cX3_otherHarnesses 5 = .ok (.ishl, 1) := by decide +kernel
theorem dX3_otherHarnesses_6 : decode cX3_otherHarnesses 6 = .ok (.iconst 1, 1) := by decide +kernel
theorem dX3_otherHarnesses_7 : decode cX3_otherHarnesses 7 = .ok (.isub, 1) := by decide +kernel
theorem dX3_otherHarnesses_8 : decode cX3_otherHarnesses 8 = .ok (.iload_n 1, 1) := by decide +kernel
theorem dX3_otherHarnesses_9 : decode cX3_otherHarnesses 9 = .ok (.iconst (-1), 1) := by decide +kernel
theorem dX3_otherHarnesses_10 : decode cX3_otherHarnesses 10 = .ok (.ixor, 1) := by decide +kernel
theorem dX3_otherHarnesses_11 : decode cX3_otherHarnesses 11 = .ok (.iand, 1) := by decide +kernel
theorem dX3_otherHarnesses_12 : decode cX3_otherHarnesses 12 = .ok (.ireturn, 1) := by decide +kernel
theorem dX3_warpsOfHarnesses_0 : decode cX3_warpsOfHarnesses 0 = .ok (.iconst 0, 1) := by decide +kernel
theorem dX3_warpsOfHarnesses_1 : decode cX3_warpsOfHarnesses 1 = .ok (.istore_n 2, 1) := by decide +kernel
theorem dX3_warpsOfHarnesses_2 : decode cX3_warpsOfHarnesses 2 = .ok (.iconst 0, 1) := by decide +kernel
theorem dX3_warpsOfHarnesses_3 : decode cX3_warpsOfHarnesses 3 = .ok (.istore_n 3, 1) := by decide +kernel
theorem dX3_warpsOfHarnesses_4 : decode cX3_warpsOfHarnesses 4 = .ok (.iload_n 3, 1) := by decide +kernel
theorem dX3_warpsOfHarnesses_5 : decode cX3_warpsOfHarnesses 5 = .ok (.aload_n 0, 1) := by decide +kernel
theorem dX3_warpsOfHarnesses_6 : decode cX3_warpsOfHarnesses 6 = .ok (.getfield 24, 3) := by decide +kernel
theorem dX3_warpsOfHarnesses_9 : decode cX3_warpsOfHarnesses 9 = .ok (.if_icmp .ge 30, 3) := by decide +kernel
theorem dX3_warpsOfHarnesses_12 : decode cX3_warpsOfHarnesses 12 = .ok (.iload_n 1, 1) := by decide +kernel
theorem dX3_warpsOfHarnesses_13 : decode cX3_warpsOfHarnesses 13 = .ok (.aload_n 0, 1) := by decide +kernel
theorem dX3_warpsOfHarnesses_14 : decode cX3_warpsOfHarnesses 14 = .ok (.getfield 27, 3) := by decide +kernel
theorem dX3_warpsOfHarnesses_17 : decode cX3_warpsOfHarnesses 17 = .ok (.iload_n 3, 1) := by decide +kernel
theorem dX3_warpsOfHarnesses_18 : decode cX3_warpsOfHarnesses 18 = .ok (.invokestatic 74, 3) := by decide +kernel
theorem dX3_warpsOfHarnesses_21 : decode cX3_warpsOfHarnesses 21 = .ok (.invokestatic 78, 3) := by decide +kernel
theorem dX3_warpsOfHarnesses_24 : decode cX3_warpsOfHarnesses 24 = .ok (.ifCond .eq 9, 3) := by decide +kernel
theorem dX3_warpsOfHarnesses_27 : decode cX3_warpsOfHarnesses 27 = .ok (.iload_n 2, 1) := by decide +kernel
theorem dX3_warpsOfHarnesses_28 : decode cX3_warpsOfHarnesses 28 = .ok (.iconst 1, 1) := by decide +kernel
theorem dX3_warpsOfHarnesses_29 : decode cX3_warpsOfHarnesses 29 = .ok (.iload_n 3, 1) := by decide +kernel
theorem dX3_warpsOfHarnesses_30 : decode cX3_warpsOfHarnesses 30 = .ok (.ishl, 1) := by decide +kernel
theorem dX3_warpsOfHarnesses_31 : decode cX3_warpsOfHarnesses 31 = .ok (.ior, 1) := by decide +kernel
theorem dX3_warpsOfHarnesses_32 : decode cX3_warpsOfHarnesses 32 = .ok (.istore_n 2, 1) := by decide +kernel
theorem dX3_warpsOfHarnesses_33 : decode cX3_warpsOfHarnesses 33 = .ok (.iinc 3 1, 3) := by decide +kernel
theorem dX3_warpsOfHarnesses_36 : decode cX3_warpsOfHarnesses 36 = .ok (.goto (-32), 3) := by decide +kernel
theorem dX3_warpsOfHarnesses_39 : decode cX3_warpsOfHarnesses 39 = .ok (.iload_n 2, 1) := by decide +kernel
theorem dX3_warpsOfHarnesses_40 : decode cX3_warpsOfHarnesses 40 = .ok (.ireturn, 1) := by decide +kernel
theorem dX3_obstacle_0 : decode cX3_obstacle 0 = .ok (.aload_n 0, 1) := by decide +kernel
theorem dX3_obstacle_1 : decode cX3_obstacle 1 = .ok (.getfield 46, 3) := by decide +kernel
theorem dX3_obstacle_4 : decode cX3_obstacle 4 = .ok (.getfield 82, 3) := by decide +kernel
theorem dX3_obstacle_7 : decode cX3_obstacle 7 = .ok (.ifCond .ne 5, 3) := by decide +kernel
theorem dX3_obstacle_10 : decode cX3_obstacle 10 = .ok (.iconst 1, 1) := by decide +kernel
theorem dX3_obstacle_11 : decode cX3_obstacle 11 = .ok (.ireturn, 1) := by decide +kernel
theorem dX3_obstacle_12 : decode cX3_obstacle 12 = .ok (.aload_n 1, 1) := by decide +kernel
theorem dX3_obstacle_13 : decode cX3_obstacle 13 = .ok (.getfield 85, 3) := by decide +kernel
theorem dX3_obstacle_16 : decode cX3_obstacle 16 = .ok (.bipush 60, 2) := by decide +kernel
theorem dX3_obstacle_18 : decode cX3_obstacle 18 = .ok (.if_icmp .lt 5, 3) := by decide +kernel
theorem dX3_obstacle_21 : decode cX3_obstacle 21 = .ok (.iconst 2, 1) := by decide +kernel
theorem dX3_obstacle_22 : decode cX3_obstacle 22 = .ok (.ireturn, 1) := by decide +kernel
theorem dX3_obstacle_23 : decode cX3_obstacle 23 = .ok (.aload_n 0, 1) := by decide +kernel
theorem dX3_obstacle_24 : decode cX3_obstacle 24 = .ok (.getfield 46, 3) := by decide +kernel
theorem dX3_obstacle_27 : decode cX3_obstacle 27 = .ok (.aload_n 1, 1) := by decide +kernel
theorem dX3_obstacle_28 : decode cX3_obstacle 28 = .ok (.getfield 85, 3) := by decide +kernel
theorem dX3_obstacle_31 : decode cX3_obstacle 31 = .ok (.invokevirtual 88, 3) := by decide +kernel
theorem dX3_obstacle_34 : decode cX3_obstacle 34 = .ok (.istore_n 2, 1) := by decide +kernel
theorem dX3_obstacle_35 : decode cX3_obstacle 35 = .ok (.aload_n 1, 1) := by decide +kernel
theorem dX3_obstacle_36 : decode cX3_obstacle 36 = .ok (.getfield 92, 3) := by decide +kernel
theorem dX3_obstacle_39 : decode cX3_obstacle 39 = .ok (.aload_n 1, 1) := by decide +kernel
theorem dX3_obstacle_40 : decode cX3_obstacle 40 = .ok (.getfield 71, 3) := by decide +kernel
theorem dX3_obstacle_43 : decode cX3_obstacle 43 = .ok (.iload_n 2, 1) := by decide +kernel
theorem dX3_obstacle_44 : decode cX3_obstacle 44 = .ok (.invokestatic 74, 3) := by decide +kernel
theorem dX3_obstacle_47 : decode cX3_obstacle 47 = .ok (.invokestatic 74, 3) := by decide +kernel
theorem dX3_obstacle_50 : decode cX3_obstacle 50 = .ok (.aload_n 0, 1) := by decide +kernel
theorem dX3_obstacle_51 : decode cX3_obstacle 51 = .ok (.getfield 24, 3) := by decide +kernel
theorem dX3_obstacle_54 : decode cX3_obstacle 54 = .ok (.if_icmp .ge 5, 3) := by decide +kernel
theorem dX3_obstacle_57 : decode cX3_obstacle 57 = .ok (.iconst 3, 1) := by decide +kernel
theorem dX3_obstacle_58 : decode cX3_obstacle 58 = .ok (.ireturn, 1) := by decide +kernel
theorem dX3_obstacle_59 : decode cX3_obstacle 59 = .ok (.aload_n 0, 1) := by decide +kernel
theorem dX3_obstacle_60 : decode cX3_obstacle 60 = .ok (.aload_n 1, 1) := by decide +kernel
theorem dX3_obstacle_61 : decode cX3_obstacle 61 = .ok (.getfield 68, 3) := by decide +kernel
theorem dX3_obstacle_64 : decode cX3_obstacle 64 = .ok (.iload_n 2, 1) := by decide +kernel
theorem dX3_obstacle_65 : decode cX3_obstacle 65 = .ok (.invokestatic 74, 3) := by decide +kernel
theorem dX3_obstacle_68 : decode cX3_obstacle 68 = .ok (.invokevirtual 95, 3) := by decide +kernel
theorem dX3_obstacle_71 : decode cX3_obstacle 71 = .ok (.invokestatic 98, 3) := by decide +kernel
theorem dX3_obstacle_74 : decode cX3_obstacle 74 = .ok (.istore_n 3, 1) := by decide +kernel
theorem dX3_obstacle_75 : decode cX3_obstacle 75 = .ok (.iload_n 3, 1) := by decide +kernel
theorem dX3_obstacle_76 : decode cX3_obstacle 76 = .ok (.aload_n 0, 1) := by decide +kernel
theorem dX3_obstacle_77 : decode cX3_obstacle 77 = .ok (.getfield 21, 3) := by decide +kernel
theorem dX3_obstacle_80 : decode cX3_obstacle 80 = .ok (.if_icmp .le 7, 3) := by decide +kernel
theorem dX3_obstacle_83 : decode cX3_obstacle 83 = .ok (.iconst 4, 1) := by decide +kernel
theorem dX3_obstacle_84 : decode cX3_obstacle 84 = .ok (.goto 4, 3) := by decide +kernel
theorem dX3_obstacle_87 : decode cX3_obstacle 87 = .ok (.iconst 0, 1) := by decide +kernel
theorem dX3_obstacle_88 : decode cX3_obstacle 88 = .ok (.ireturn, 1) := by decide +kernel
theorem dX3_weaveUpTo_0 : decode cX3_weaveUpTo 0 = .ok (.iconst 0, 1) := by decide +kernel
theorem dX3_weaveUpTo_1 : decode cX3_weaveUpTo 1 = .ok (.istore_n 3, 1) := by decide +kernel
theorem dX3_weaveUpTo_2 : decode cX3_weaveUpTo 2 = .ok (.iload_n 3, 1) := by decide +kernel
theorem dX3_weaveUpTo_3 : decode cX3_weaveUpTo 3 = .ok (.iload_n 2, 1) := by decide +kernel
theorem dX3_weaveUpTo_4 : decode cX3_weaveUpTo 4 = .ok (.if_icmp .ge 22, 3) := by decide +kernel
theorem dX3_weaveUpTo_7 : decode cX3_weaveUpTo 7 = .ok (.aload_n 0, 1) := by decide +kernel
theorem dX3_weaveUpTo_8 : decode cX3_weaveUpTo 8 = .ok (.aload_n 1, 1) := by decide +kernel
theorem dX3_weaveUpTo_9 : decode cX3_weaveUpTo 9 = .ok (.invokevirtual 103, 3) := by decide +kernel
theorem dX3_weaveUpTo_12 : decode cX3_weaveUpTo 12 = .ok (.ifCond .ne 14, 3) := by decide +kernel
theorem dX3_weaveUpTo_15 : decode cX3_weaveUpTo 15 = .ok (.aload_n 0, 1) := by decide +kernel
theorem dX3_weaveUpTo_16 : decode cX3_weaveUpTo 16 = .ok (.aload_n 1, 1) := by decide +kernel
theorem dX3_weaveUpTo_17 : decode cX3_weaveUpTo 17 = .ok (.invokevirtual 107, 3) := by decide +kernel
theorem dX3_weaveUpTo_20 : decode cX3_weaveUpTo 20 = .ok (.iinc 3 1, 3) := by decide +kernel
theorem dX3_weaveUpTo_23 : decode cX3_weaveUpTo 23 = .ok (.goto (-21), 3) := by decide +kernel
theorem dX3_weaveUpTo_26 : decode cX3_weaveUpTo 26 = .ok (.iload_n 3, 1) := by decide +kernel
theorem dX3_weaveUpTo_27 : decode cX3_weaveUpTo 27 = .ok (.ireturn, 1) := by decide +kernel
theorem dX3_weaveNext_0 : decode cX3_weaveNext 0 = .ok (.aload_n 0, 1) := by decide +kernel
theorem dX3_weaveNext_1 : decode cX3_weaveNext 1 = .ok (.getfield 46, 3) := by decide +kernel
theorem dX3_weaveNext_4 : decode cX3_weaveNext 4 = .ok (.aload_n 1, 1) := by decide +kernel
theorem dX3_weaveNext_5 : decode cX3_weaveNext 5 = .ok (.getfield 85, 3) := by decide +kernel
theorem dX3_weaveNext_8 : decode cX3_weaveNext 8 = .ok (.invokevirtual 88, 3) := by decide +kernel
theorem dX3_weaveNext_11 : decode cX3_weaveNext 11 = .ok (.istore_n 2, 1) := by decide +kernel
theorem dX3_weaveNext_12 : decode cX3_weaveNext 12 = .ok (.aload_n 1, 1) := by decide +kernel
theorem dX3_weaveNext_13 : decode cX3_weaveNext 13 = .ok (.getfield 71, 3) := by decide +kernel
theorem dX3_weaveNext_16 : decode cX3_weaveNext 16 = .ok (.iload_n 2, 1) := by decide +kernel
theorem dX3_weaveNext_17 : decode cX3_weaveNext 17 = .ok (.invokestatic 74, 3) := by decide +kernel
theorem dX3_weaveNext_20 : decode cX3_weaveNext 20 = .ok (.istore_n 3, 1) := by decide +kernel
theorem dX3_weaveNext_21 : decode cX3_weaveNext 21 = .ok (.aload_n 1, 1) := by decide +kernel
theorem dX3_weaveNext_22 : decode cX3_weaveNext 22 = .ok (.iload_n 3, 1) := by decide +kernel
theorem dX3_weaveNext_23 : decode cX3_weaveNext 23 = .ok (.aload_n 0, 1) := by decide +kernel
theorem dX3_weaveNext_24 : decode cX3_weaveNext 24 = .ok (.getfield 24, 3) := by decide +kernel
theorem dX3_weaveNext_27 : decode cX3_weaveNext 27 = .ok (.ineg, 1) := by decide +kernel
theorem dX3_weaveNext_28 : decode cX3_weaveNext 28 = .ok (.invokevirtual 111, 3) := by decide +kernel
theorem dX3_weaveNext_31 : decode cX3_weaveNext 31 = .ok (.aload_n 0, 1) := by decide +kernel
theorem dX3_weaveNext_32 : decode cX3_weaveNext 32 = .ok (.aload_n 1, 1) := by decide +kernel
theorem dX3_weaveNext_33 : decode cX3_weaveNext 33 = .ok (.aload_n 1, 1) := by decide +kernel
theorem dX3_weaveNext_34 : decode cX3_weaveNext 34 = .ok (.getfield 68, 3) := by decide +kernel
theorem dX3_weaveNext_37 : decode cX3_weaveNext 37 = .ok (.iload_n 2, 1) := by decide +kernel
theorem dX3_weaveNext_38 : decode cX3_weaveNext 38 = .ok (.invokestatic 74, 3) := by decide +kernel
theorem dX3_weaveNext_41 : decode cX3_weaveNext 41 = .ok (.invokevirtual 115, 3) := by decide +kernel
theorem dX3_weaveNext_44 : decode cX3_weaveNext 44 = .ok (.aload_n 1, 1) := by decide +kernel
theorem dX3_weaveNext_45 : decode cX3_weaveNext 45 = .ok (.aload_n 0, 1) := by decide +kernel
theorem dX3_weaveNext_46 : decode cX3_weaveNext 46 = .ok (.aload_n 1, 1) := by decide +kernel
theorem dX3_weaveNext_47 : decode cX3_weaveNext 47 = .ok (.getfield 119, 3) := by decide +kernel
theorem dX3_weaveNext_50 : decode cX3_weaveNext 50 = .ok (.invokevirtual 95, 3) := by decide +kernel
theorem dX3_weaveNext_53 : decode cX3_weaveNext 53 = .ok (.aload_n 1, 1) := by decide +kernel
theorem dX3_weaveNext_54 : decode cX3_weaveNext 54 = .ok (.getfield 122, 3) := by decide +kernel
theorem dX3_weaveNext_57 : decode cX3_weaveNext 57 = .ok (.iconst (-1), 1) := by decide +kernel
theorem dX3_weaveNext_58 : decode cX3_weaveNext 58 = .ok (.ixor, 1) := by decide +kernel
theorem dX3_weaveNext_59 : decode cX3_weaveNext 59 = .ok (.iand, 1) := by decide +kernel
theorem dX3_weaveNext_60 : decode cX3_weaveNext 60 = .ok (.iload_n 3, 1) := by decide +kernel
theorem dX3_weaveNext_61 : decode cX3_weaveNext 61 = .ok (.invokevirtual 125, 3) := by decide +kernel
theorem dX3_weaveNext_64 : decode cX3_weaveNext 64 = .ok (.aload_n 0, 1) := by decide +kernel
theorem dX3_weaveNext_65 : decode cX3_weaveNext 65 = .ok (.aload_n 1, 1) := by decide +kernel
theorem dX3_weaveNext_66 : decode cX3_weaveNext 66 = .ok (.invokevirtual 128, 3) := by decide +kernel
theorem dX3_weaveNext_69 : decode cX3_weaveNext 69 = .ok (.return_, 1) := by decide +kernel
theorem dX3_moveHarnesses_0 : decode cX3_moveHarnesses 0 = .ok (.aload_n 1, 1) := by decide +kernel
theorem dX3_moveHarnesses_1 : decode cX3_moveHarnesses 1 = .ok (.getfield 119, 3) := by decide +kernel
theorem dX3_moveHarnesses_4 : decode cX3_moveHarnesses 4 = .ok (.iload_n 2, 1) := by decide +kernel
theorem dX3_moveHarnesses_5 : decode cX3_moveHarnesses 5 = .ok (.ixor, 1) := by decide +kernel
theorem dX3_moveHarnesses_6 : decode cX3_moveHarnesses 6 = .ok (.aload_n 1, 1) := by decide +kernel
theorem dX3_moveHarnesses_7 : decode cX3_moveHarnesses 7 = .ok (.getfield 131, 3) := by decide +kernel
theorem dX3_moveHarnesses_10 : decode cX3_moveHarnesses 10 = .ok (.iconst (-1), 1) := by decide +kernel
theorem dX3_moveHarnesses_11 : decode cX3_moveHarnesses 11 = .ok (.ixor, 1) := by decide +kernel
theorem dX3_moveHarnesses_12 : decode cX3_moveHarnesses 12 = .ok (.iand, 1) := by decide +kernel
theorem dX3_moveHarnesses_13 : decode cX3_moveHarnesses 13 = .ok (.istore_n 3, 1) := by decide +kernel
theorem dX3_moveHarnesses_14 : decode cX3_moveHarnesses 14 = .ok (.aload_n 1, 1) := by decide +kernel
theorem dX3_moveHarnesses_15 : decode cX3_moveHarnesses 15 = .ok (.dup, 1) := by decide +kernel
theorem dX3_moveHarnesses_16 : decode cX3_moveHarnesses 16 = .ok (.getfield 119, 3) := by decide +kernel
theorem dX3_moveHarnesses_19 : decode cX3_moveHarnesses 19 = .ok (.iload_n 3, 1) := by decide +kernel
theorem dX3_moveHarnesses_20 : decode cX3_moveHarnesses 20 = .ok (.ixor, 1) := by decide +kernel
theorem dX3_moveHarnesses_21 : decode cX3_moveHarnesses 21 = .ok (.putfield 119, 3) := by decide +kernel
theorem dX3_moveHarnesses_24 : decode cX3_moveHarnesses 24 = .ok (.iconst 0, 1) := by decide +kernel
theorem dX3_moveHarnesses_25 : decode cX3_moveHarnesses 25 = .ok (.istore 4, 2) := by decide +kernel
theorem dX3_moveHarnesses_27 : decode cX3_moveHarnesses 27 = .ok (.iload 4, 2) := by decide +kernel
theorem dX3_moveHarnesses_29 : decode cX3_moveHarnesses 29 = .ok (.aload_n 0, 1) := by decide +kernel
theorem dX3_moveHarnesses_30 : decode cX3_moveHarnesses 30 = .ok (.getfield 9, 3) := by decide +kernel
theorem dX3_moveHarnesses_33 : decode cX3_moveHarnesses 33 = .ok (.if_icmp .ge 69, 3) := by decide +kernel
theorem dX3_moveHarnesses_36 : decode cX3_moveHarnesses 36 = .ok (.iload_n 3, 1) := by decide +kernel
theorem dX3_moveHarnesses_37 : decode cX3_moveHarnesses 37 = .ok (.iload 4, 2) := by decide +kernel
theorem dX3_moveHarnesses_39 : decode cX3_moveHarnesses 39 = .ok (.invokestatic 78, 3) := by decide +kernel
theorem dX3_moveHarnesses_42 : decode cX3_moveHarnesses 42 = .ok (.ifCond .eq 54, 3) := by decide +kernel
theorem dX3_moveHarnesses_45 : decode cX3_moveHarnesses 45 = .ok (.aload_n 1, 1) := by decide +kernel
theorem dX3_moveHarnesses_46 : decode cX3_moveHarnesses 46 = .ok (.getfield 134, 3) := by decide +kernel
theorem dX3_moveHarnesses_49 : decode cX3_moveHarnesses 49 = .ok (.iload 4, 2) := by decide +kernel
theorem dX3_moveHarnesses_51 : decode cX3_moveHarnesses 51 = .ok (.invokestatic 74, 3) := by decide +kernel
theorem dX3_moveHarnesses_54 : decode cX3_moveHarnesses 54 = .ok (.iconst 1, 1) := by decide +kernel
theorem dX3_moveHarnesses_55 : decode cX3_moveHarnesses 55 = .ok (.iadd, 1) := by decide +kernel
theorem dX3_moveHarnesses_56 : decode cX3_moveHarnesses 56 = .ok (.istore 5, 2) := by decide +kernel
theorem dX3_moveHarnesses_58 : decode cX3_moveHarnesses 58 = .ok (.aload_n 1, 1) := by decide +kernel
theorem dX3_moveHarnesses_59 : decode cX3_moveHarnesses 59 = .ok (.getfield 134, 3) := by decide +kernel
theorem dX3_moveHarnesses_62 : decode cX3_moveHarnesses 62 = .ok (.iload 4, 2) := by decide +kernel
theorem dX3_moveHarnesses_64 : decode cX3_moveHarnesses 64 = .ok (.iload 5, 2) := by decide +kernel
theorem dX3_moveHarnesses_66 : decode cX3_moveHarnesses 66 = .ok (.invokestatic 64, 3) := by decide +kernel
theorem dX3_moveHarnesses_69 : decode cX3_moveHarnesses 69 = .ok (.iload 5, 2) := by decide +kernel
theorem dX3_moveHarnesses_71 : decode cX3_moveHarnesses 71 = .ok (.aload_n 0, 1) := by decide +kernel
theorem dX3_moveHarnesses_72 : decode cX3_moveHarnesses 72 = .ok (.getfield 15, 3) := by decide +kernel
theorem dX3_moveHarnesses_75 : decode cX3_moveHarnesses 75 = .ok (.if_icmp .ne 21, 3) := by decide +kernel
theorem dX3_moveHarnesses_78 : decode cX3_moveHarnesses 78 = .ok (.aload_n 1, 1) := by decide +kernel
theorem dX3_moveHarnesses_79 : decode cX3_moveHarnesses 79 = .ok (.dup, 1) := by decide +kernel
theorem dX3_moveHarnesses_80 : decode cX3_moveHarnesses 80 = .ok (.getfield 131, 3) := by decide +kernel
theorem dX3_moveHarnesses_83 : decode cX3_moveHarnesses 83 = .ok (.iconst 1, 1) := by decide +kernel
theorem dX3_moveHarnesses_84 : decode cX3_moveHarnesses 84 = .ok (.iload 4, 2) := by decide +kernel
theorem dX3_moveHarnesses_86 : decode cX3_moveHarnesses 86 = .ok (.ishl, 1) := by decide +kernel
theorem dX3_moveHarnesses_87 : decode cX3_moveHarnesses 87 = .ok (.ior, 1) := by decide +kernel
theorem dX3_moveHarnesses_88 : decode cX3_moveHarnesses 88 = .ok (.putfield 131, 3) := by decide +kernel
theorem dX3_moveHarnesses_91 : decode cX3_moveHarnesses 91 = .ok (.aload_n 1, 1) := by decide +kernel
theorem dX3_moveHarnesses_92 : decode cX3_moveHarnesses 92 = .ok (.iconst 1, 1) := by decide +kernel
theorem dX3_moveHarnesses_93 : decode cX3_moveHarnesses 93 = .ok (.putfield 137, 3) := by decide +kernel
theorem dX3_moveHarnesses_96 : decode cX3_moveHarnesses 96 = .ok (.iinc 4 1, 3) := by decide +kernel
theorem dX3_moveHarnesses_99 : decode cX3_moveHarnesses 99 = .ok (.goto (-72), 3) := by decide +kernel
theorem dX3_moveHarnesses_102 : decode cX3_moveHarnesses 102 = .ok (.return_, 1) := by decide +kernel
theorem dX3_breakWarps_0 : decode cX3_breakWarps 0 = .ok (.aload_n 0, 1) := by decide +kernel
theorem dX3_breakWarps_1 : decode cX3_breakWarps 1 = .ok (.getfield 18, 3) := by decide +kernel
theorem dX3_breakWarps_4 : decode cX3_breakWarps 4 = .ok (.ifCond .eq 14, 3) := by decide +kernel
theorem dX3_breakWarps_7 : decode cX3_breakWarps 7 = .ok (.aload_n 1, 1) := by decide +kernel
theorem dX3_breakWarps_8 : decode cX3_breakWarps 8 = .ok (.getfield 85, 3) := by decide +kernel
theorem dX3_breakWarps_11 : decode cX3_breakWarps 11 = .ok (.aload_n 0, 1) := by decide +kernel
theorem dX3_breakWarps_12 : decode cX3_breakWarps 12 = .ok (.getfield 18, 3) := by decide +kernel
theorem dX3_breakWarps_15 : decode cX3_breakWarps 15 = .ok (.if_icmp .ge 4, 3) := by decide +kernel
theorem dX3_breakWarps_18 : decode cX3_breakWarps 18 = .ok (.return_, 1) := by decide +kernel
theorem dX3_breakWarps_19 : decode cX3_breakWarps 19 = .ok (.aload_n 1, 1) := by decide +kernel
theorem dX3_breakWarps_20 : decode cX3_breakWarps 20 = .ok (.getfield 141, 3) := by decide +kernel
theorem dX3_breakWarps_23 : decode cX3_breakWarps 23 = .ok (.aload_n 1, 1) := by decide +kernel
theorem dX3_breakWarps_24 : decode cX3_breakWarps 24 = .ok (.getfield 85, 3) := by decide +kernel
theorem dX3_breakWarps_27 : decode cX3_breakWarps 27 = .ok (.iconst 1, 1) := by decide +kernel
theorem dX3_breakWarps_28 : decode cX3_breakWarps 28 = .ok (.isub, 1) := by decide +kernel
theorem dX3_breakWarps_29 : decode cX3_breakWarps 29 = .ok (.invokestatic 74, 3) := by decide +kernel
theorem dX3_breakWarps_32 : decode cX3_breakWarps 32 = .ok (.istore_n 2, 1) := by decide +kernel
theorem dX3_breakWarps_33 : decode cX3_breakWarps 33 = .ok (.aload_n 1, 1) := by decide +kernel
theorem dX3_breakWarps_34 : decode cX3_breakWarps 34 = .ok (.getfield 85, 3) := by decide +kernel
theorem dX3_breakWarps_37 : decode cX3_breakWarps 37 = .ok (.aload_n 0, 1) := by decide +kernel
theorem dX3_breakWarps_38 : decode cX3_breakWarps 38 = .ok (.getfield 18, 3) := by decide +kernel
theorem dX3_breakWarps_41 : decode cX3_breakWarps 41 = .ok (.isub, 1) := by decide +kernel
theorem dX3_breakWarps_42 : decode cX3_breakWarps 42 = .ok (.istore_n 3, 1) := by decide +kernel
theorem dX3_breakWarps_43 : decode cX3_breakWarps 43 = .ok (.iload_n 3, 1) := by decide +kernel
theorem dX3_breakWarps_44 : decode cX3_breakWarps 44 = .ok (.aload_n 1, 1) := by decide +kernel
theorem dX3_breakWarps_45 : decode cX3_breakWarps 45 = .ok (.getfield 85, 3) := by decide +kernel
theorem dX3_breakWarps_48 : decode cX3_breakWarps 48 = .ok (.if_icmp .ge 20, 3) := by decide +kernel
theorem dX3_breakWarps_51 : decode cX3_breakWarps 51 = .ok (.iload_n 2, 1) := by decide +kernel
theorem dX3_breakWarps_52 : decode cX3_breakWarps 52 = .ok (.aload_n 1, 1) := by decide +kernel
theorem dX3_breakWarps_53 : decode cX3_breakWarps 53 = .ok (.getfield 141, 3) := by decide +kernel
theorem dX3_breakWarps_56 : decode cX3_breakWarps 56 = .ok (.iload_n 3, 1) := by decide +kernel
theorem dX3_breakWarps_57 : decode cX3_breakWarps 57 = .ok (.invokestatic 74, 3) := by decide +kernel
theorem dX3_breakWarps_60 : decode cX3_breakWarps 60 = .ok (.iand, 1) := by decide +kernel
theorem dX3_breakWarps_61 : decode cX3_breakWarps 61 = .ok (.istore_n 2, 1) := by decide +kernel
theorem dX3_breakWarps_62 : decode cX3_breakWarps 62 = .ok (.iinc 3 1, 3) := by decide +kernel
theorem dX3_breakWarps_65 : decode cX3_breakWarps 65 = .ok (.goto (-22), 3) := by decide +kernel
theorem dX3_breakWarps_68 : decode cX3_breakWarps 68 = .ok (.iload_n 2, 1) := by decide +kernel
theorem dX3_breakWarps_69 : decode cX3_breakWarps 69 = .ok (.ifCond .eq 18, 3) := by decide +kernel
theorem dX3_breakWarps_72 : decode cX3_breakWarps 72 = .ok (.aload_n 1, 1) := by decide +kernel
theorem dX3_breakWarps_73 : decode cX3_breakWarps 73 = .ok (.dup, 1) := by decide +kernel
theorem dX3_breakWarps_74 : decode cX3_breakWarps 74 = .ok (.getfield 122, 3) := by decide +kernel
theorem dX3_breakWarps_77 : decode cX3_breakWarps 77 = .ok (.iload_n 2, 1) := by decide +kernel
theorem dX3_breakWarps_78 : decode cX3_breakWarps 78 = .ok (.ior, 1) := by decide +kernel
theorem dX3_breakWarps_79 : decode cX3_breakWarps 79 = .ok (.putfield 122, 3) := by decide +kernel
theorem dX3_breakWarps_82 : decode cX3_breakWarps 82 = .ok (.aload_n 1, 1) := by decide +kernel
theorem dX3_breakWarps_83 : decode cX3_breakWarps 83 = .ok (.iconst 1, 1) := by decide +kernel
theorem dX3_breakWarps_84 : decode cX3_breakWarps 84 = .ok (.putfield 137, 3) := by decide +kernel
theorem dX3_breakWarps_87 : decode cX3_breakWarps 87 = .ok (.return_, 1) := by decide +kernel
theorem dX3_removeRows_0 : decode cX3_removeRows 0 = .ok (.iconst 0, 1) := by decide +kernel
theorem dX3_removeRows_1 : decode cX3_removeRows 1 = .ok (.istore_n 2, 1) := by decide +kernel
theorem dX3_removeRows_2 : decode cX3_removeRows 2 = .ok (.iload_n 2, 1) := by decide +kernel
theorem dX3_removeRows_3 : decode cX3_removeRows 3 = .ok (.iload_n 1, 1) := by decide +kernel
theorem dX3_removeRows_4 : decode cX3_removeRows 4 = .ok (.if_icmp .ge 60, 3) := by decide +kernel
theorem dX3_removeRows_7 : decode cX3_removeRows 7 = .ok (.aload_n 0, 1) := by decide +kernel
theorem dX3_removeRows_8 : decode cX3_removeRows 8 = .ok (.getfield 53, 3) := by decide +kernel
theorem dX3_removeRows_11 : decode cX3_removeRows 11 = .ok (.getfield 85, 3) := by decide +kernel
theorem dX3_removeRows_14 : decode cX3_removeRows 14 = .ok (.ifCond .le 50, 3) := by decide +kernel
theorem dX3_removeRows_17 : decode cX3_removeRows 17 = .ok (.aload_n 0, 1) := by decide +kernel
theorem dX3_removeRows_18 : decode cX3_removeRows 18 = .ok (.getfield 53, 3) := by decide +kernel
theorem dX3_removeRows_21 : decode cX3_removeRows 21 = .ok (.dup, 1) := by decide +kernel
theorem dX3_removeRows_22 : decode cX3_removeRows 22 = .ok (.getfield 85, 3) := by decide +kernel
theorem dX3_removeRows_25 : decode cX3_removeRows 25 = .ok (.iconst 1, 1) := by decide +kernel
theorem dX3_removeRows_26 : decode cX3_removeRows 26 = .ok (.isub, 1) := by decide +kernel
theorem dX3_removeRows_27 : decode cX3_removeRows 27 = .ok (.putfield 85, 3) := by decide +kernel
theorem dX3_removeRows_30 : decode cX3_removeRows 30 = .ok (.aload_n 0, 1) := by decide +kernel
theorem dX3_removeRows_31 : decode cX3_removeRows 31 = .ok (.getfield 53, 3) := by decide +kernel
theorem dX3_removeRows_34 : decode cX3_removeRows 34 = .ok (.aload_n 0, 1) := by decide +kernel
theorem dX3_removeRows_35 : decode cX3_removeRows 35 = .ok (.getfield 53, 3) := by decide +kernel
theorem dX3_removeRows_38 : decode cX3_removeRows 38 = .ok (.getfield 144, 3) := by decide +kernel
theorem dX3_removeRows_41 : decode cX3_removeRows 41 = .ok (.aload_n 0, 1) := by decide +kernel
theorem dX3_removeRows_42 : decode cX3_removeRows 42 = .ok (.getfield 53, 3) := by decide +kernel
theorem dX3_removeRows_45 : decode cX3_removeRows 45 = .ok (.getfield 85, 3) := by decide +kernel
theorem dX3_removeRows_48 : decode cX3_removeRows 48 = .ok (.invokestatic 74, 3) := by decide +kernel
theorem dX3_removeRows_51 : decode cX3_removeRows 51 = .ok (.aload_n 0, 1) := by decide +kernel
theorem dX3_removeRows_52 : decode cX3_removeRows 52 = .ok (.getfield 24, 3) := by decide +kernel
theorem dX3_removeRows_55 : decode cX3_removeRows 55 = .ok (.invokevirtual 111, 3) := by decide +kernel
theorem dX3_removeRows_58 : decode cX3_removeRows 58 = .ok (.iinc 2 1, 3) := by decide +kernel
theorem dX3_removeRows_61 : decode cX3_removeRows 61 = .ok (.goto (-59), 3) := by decide +kernel
theorem dX3_removeRows_64 : decode cX3_removeRows 64 = .ok (.return_, 1) := by decide +kernel
theorem dX3_cellCount_0 : decode cX3_cellCount 0 = .ok (.aload_n 0, 1) := by decide +kernel
theorem dX3_cellCount_1 : decode cX3_cellCount 1 = .ok (.getfield 53, 3) := by decide +kernel
theorem dX3_cellCount_4 : decode cX3_cellCount 4 = .ok (.getfield 85, 3) := by decide +kernel
theorem dX3_cellCount_7 : decode cX3_cellCount 7 = .ok (.aload_n 0, 1) := by decide +kernel
theorem dX3_cellCount_8 : decode cX3_cellCount 8 = .ok (.getfield 24, 3) := by decide +kernel
theorem dX3_cellCount_11 : decode cX3_cellCount 11 = .ok (.imul, 1) := by decide +kernel
theorem dX3_cellCount_12 : decode cX3_cellCount 12 = .ok (.ireturn, 1) := by decide +kernel
theorem dX3_colourOfCell_0 : decode cX3_colourOfCell 0 = .ok (.aload_n 0, 1) := by decide +kernel
theorem dX3_colourOfCell_1 : decode cX3_colourOfCell 1 = .ok (.getfield 53, 3) := by decide +kernel
theorem dX3_colourOfCell_4 : decode cX3_colourOfCell 4 = .ok (.getfield 141, 3) := by decide +kernel
theorem dX3_colourOfCell_7 : decode cX3_colourOfCell 7 = .ok (.iload_n 1, 1) := by decide +kernel
theorem dX3_colourOfCell_8 : decode cX3_colourOfCell 8 = .ok (.invokestatic 74, 3) := by decide +kernel
theorem dX3_colourOfCell_11 : decode cX3_colourOfCell 11 = .ok (.iload_n 2, 1) := by decide +kernel
theorem dX3_colourOfCell_12 : decode cX3_colourOfCell 12 = .ok (.invokestatic 78, 3) := by decide +kernel
theorem dX3_colourOfCell_15 : decode cX3_colourOfCell 15 = .ok (.ifCond .eq 14, 3) := by decide +kernel
theorem dX3_colourOfCell_18 : decode cX3_colourOfCell 18 = .ok (.aload_n 0, 1) := by decide +kernel
theorem dX3_colourOfCell_19 : decode cX3_colourOfCell 19 = .ok (.getfield 31, 3) := by decide +kernel
theorem dX3_colourOfCell_22 : decode cX3_colourOfCell 22 = .ok (.iload_n 2, 1) := by decide +kernel
theorem dX3_colourOfCell_23 : decode cX3_colourOfCell 23 = .ok (.invokestatic 74, 3) := by decide +kernel
theorem dX3_colourOfCell_26 : decode cX3_colourOfCell 26 = .ok (.goto 14, 3) := by decide +kernel
theorem dX3_colourOfCell_29 : decode cX3_colourOfCell 29 = .ok (.aload_n 0, 1) := by decide +kernel
theorem dX3_colourOfCell_30 : decode cX3_colourOfCell 30 = .ok (.getfield 53, 3) := by decide +kernel
theorem dX3_colourOfCell_33 : decode cX3_colourOfCell 33 = .ok (.getfield 144, 3) := by decide +kernel
theorem dX3_colourOfCell_36 : decode cX3_colourOfCell 36 = .ok (.iload_n 1, 1) := by decide +kernel
theorem dX3_colourOfCell_37 : decode cX3_colourOfCell 37 = .ok (.invokestatic 74, 3) := by decide +kernel
theorem dX3_colourOfCell_40 : decode cX3_colourOfCell 40 = .ok (.ireturn, 1) := by decide +kernel
theorem dX3_countCells_0 : decode cX3_countCells 0 = .ok (.iconst 0, 1) := by decide +kernel
theorem dX3_countCells_1 : decode cX3_countCells 1 = .ok (.istore_n 2, 1) := by decide +kernel
theorem dX3_countCells_2 : decode cX3_countCells 2 = .ok (.iconst 0, 1) := by decide +kernel
theorem dX3_countCells_3 : decode cX3_countCells 3 = .ok (.istore_n 3, 1) := by decide +kernel
theorem dX3_countCells_4 : decode cX3_countCells 4 = .ok (.iload_n 3, 1) := by decide +kernel
theorem dX3_countCells_5 : decode cX3_countCells 5 = .ok (.aload_n 0, 1) := by decide +kernel
theorem dX3_countCells_6 : decode cX3_countCells 6 = .ok (.getfield 53, 3) := by decide +kernel
theorem dX3_countCells_9 : decode cX3_countCells 9 = .ok (.getfield 85, 3) := by decide +kernel
theorem dX3_countCells_12 : decode cX3_countCells 12 = .ok (.if_icmp .ge 41, 3) := by decide +kernel
theorem dX3_countCells_15 : decode cX3_countCells 15 = .ok (.iconst 0, 1) := by decide +kernel
theorem dX3_countCells_16 : decode cX3_countCells 16 = .ok (.istore 4, 2) := by decide +kernel
theorem dX3_countCells_18 : decode cX3_countCells 18 = .ok (.iload 4, 2) := by decide +kernel
theorem dX3_countCells_20 : decode cX3_countCells 20 = .ok (.aload_n 0, 1) := by decide +kernel
theorem dX3_countCells_21 : decode cX3_countCells 21 = .ok (.getfield 24, 3) := by decide +kernel
theorem dX3_countCells_24 : decode cX3_countCells 24 = .ok (.if_icmp .ge 23, 3) := by decide +kernel
theorem dX3_countCells_27 : decode cX3_countCells 27 = .ok (.aload_n 0, 1) := by decide +kernel
theorem dX3_countCells_28 : decode cX3_countCells 28 = .ok (.iload_n 3, 1) := by decide +kernel
theorem dX3_countCells_29 : decode cX3_countCells 29 = .ok (.iload 4, 2) := by decide +kernel
theorem dX3_countCells_31 : decode cX3_countCells 31 = .ok (.invokevirtual 147, 3) := by decide +kernel
theorem dX3_countCells_34 : decode cX3_countCells 34 = .ok (.iload_n 1, 1) := by decide +kernel
theorem dX3_countCells_35 : decode cX3_countCells 35 = .ok (.if_icmp .ne 6, 3) := by decide +kernel
theorem dX3_countCells_38 : decode cX3_countCells 38 = .ok (.iinc 2 1, 3) := by decide +kernel
theorem dX3_countCells_41 : decode cX3_countCells 41 = .ok (.iinc 4 1, 3) := by decide +kernel
theorem dX3_countCells_44 : decode cX3_countCells 44 = .ok (.goto (-26), 3) := by decide +kernel
theorem dX3_countCells_47 : decode cX3_countCells 47 = .ok (.iinc 3 1, 3) := by decide +kernel
theorem dX3_countCells_50 : decode cX3_countCells 50 = .ok (.goto (-46), 3) := by decide +kernel
theorem dX3_countCells_53 : decode cX3_countCells 53 = .ok (.iload_n 2, 1) := by decide +kernel
theorem dX3_countCells_54 : decode cX3_countCells 54 = .ok (.ireturn, 1) := by decide +kernel
theorem dX3_leastRowDistance_0 : decode cX3_leastRowDistance 0 = .ok (.iconst 1, 1) := by decide +kernel
theorem dX3_leastRowDistance_1 : decode cX3_leastRowDistance 1 = .ok (.istore_n 1, 1) := by decide +kernel
theorem dX3_leastRowDistance_2 : decode cX3_leastRowDistance 2 = .ok (.iload_n 1, 1) := by decide +kernel
theorem dX3_leastRowDistance_3 : decode cX3_leastRowDistance 3 = .ok (.aload_n 0, 1) := by decide +kernel
theorem dX3_leastRowDistance_4 : decode cX3_leastRowDistance 4 = .ok (.getfield 53, 3) := by decide +kernel
theorem dX3_leastRowDistance_7 : decode cX3_leastRowDistance 7 = .ok (.getfield 85, 3) := by decide +kernel
theorem dX3_leastRowDistance_10 : decode cX3_leastRowDistance 10 = .ok (.if_icmp .ge 19, 3) := by decide +kernel
theorem dX3_leastRowDistance_13 : decode cX3_leastRowDistance 13 = .ok (.aload_n 0, 1) := by decide +kernel
theorem dX3_leastRowDistance_14 : decode cX3_leastRowDistance 14 = .ok (.iload_n 1, 1) := by decide +kernel
theorem dX3_leastRowDistance_15 : decode cX3_leastRowDistance 15 = .ok (.invokevirtual 156, 3) := by decide +kernel
theorem dX3_leastRowDistance_18 : decode cX3_leastRowDistance 18 = .ok (.ifCond .eq 5, 3) := by decide +kernel
theorem dX3_leastRowDistance_21 : decode cX3_leastRowDistance 21 = .ok (.iload_n 1, 1) := by decide +kernel
theorem dX3_leastRowDistance_22 : decode cX3_leastRowDistance 22 = .ok (.ireturn, 1) := by decide +kernel
theorem dX3_leastRowDistance_23 : decode cX3_leastRowDistance 23 = .ok (.iinc 1 1, 3) := by decide +kernel
theorem dX3_leastRowDistance_26 : decode cX3_leastRowDistance 26 = .ok (.goto (-24), 3) := by decide +kernel
theorem dX3_leastRowDistance_29 : decode cX3_leastRowDistance 29 = .ok (.aload_n 0, 1) := by decide +kernel
theorem dX3_leastRowDistance_30 : decode cX3_leastRowDistance 30 = .ok (.getfield 53, 3) := by decide +kernel
theorem dX3_leastRowDistance_33 : decode cX3_leastRowDistance 33 = .ok (.getfield 85, 3) := by decide +kernel
theorem dX3_leastRowDistance_36 : decode cX3_leastRowDistance 36 = .ok (.ireturn, 1) := by decide +kernel
theorem dX3_coloursRepeatAfter_0 : decode cX3_coloursRepeatAfter 0 = .ok (.iload_n 1, 1) := by decide +kernel
theorem dX3_coloursRepeatAfter_1 : decode cX3_coloursRepeatAfter 1 = .ok (.istore_n 2, 1) := by decide +kernel
theorem dX3_coloursRepeatAfter_2 : decode cX3_coloursRepeatAfter 2 = .ok (.iload_n 2, 1) := by decide +kernel
theorem dX3_coloursRepeatAfter_3 : decode cX3_coloursRepeatAfter 3 = .ok (.aload_n 0, 1) := by decide +kernel
theorem dX3_coloursRepeatAfter_4 : decode cX3_coloursRepeatAfter 4 = .ok (.getfield 53, 3) := by decide +kernel
theorem dX3_coloursRepeatAfter_7 : decode cX3_coloursRepeatAfter 7 = .ok (.getfield 85, 3) := by decide +kernel
theorem dX3_coloursRepeatAfter_10 : decode cX3_coloursRepeatAfter 10 = .ok (.if_icmp .ge 44, 3) := by decide +kernel
theorem dX3_coloursRepeatAfter_13 : decode cX3_coloursRepeatAfter 13 = .ok (.iconst 0, 1) := by decide +kernel
theorem dX3_coloursRepeatAfter_14 : decode cX3_coloursRepeatAfter 14 = .ok (.istore_n 3, 1) := by decide +kernel
theorem dX3_coloursRepeatAfter_15 : decode cX3_coloursRepeatAfter 15 = .ok (.iload_n 3, 1) := by decide +kernel
theorem dX3_coloursRepeatAfter_16 : decode cX3_coloursRepeatAfter 16 = .ok (.aload_n 0, 1) := by decide +kernel
theorem dX3_coloursRepeatAfter_17 : decode cX3_coloursRepeatAfter 17 = .ok (.getfield 24, 3) := by decide +kernel
theorem dX3_coloursRepeatAfter_20 : decode cX3_coloursRepeatAfter 20 = .ok (.if_icmp .ge 28, 3) := by decide +kernel
theorem dX3_coloursRepeatAfter_23 : decode cX3_coloursRepeatAfter 23 = .ok (.aload_n 0, 1) := by decide +kernel
theorem dX3_coloursRepeatAfter_24 : decode cX3_coloursRepeatAfter 24 = .ok (.iload_n 2, 1) := by decide +kernel
theorem dX3_coloursRepeatAfter_25 : decode cX3_coloursRepeatAfter 25 = .ok (.iload_n 3, 1) := by decide +kernel
theorem dX3_coloursRepeatAfter_26 : decode cX3_coloursRepeatAfter 26 = .ok (.invokevirtual 147, 3) := by decide +kernel
theorem dX3_coloursRepeatAfter_29 : decode cX3_coloursRepeatAfter 29 = .ok (.aload_n 0, 1) := by decide +kernel
theorem dX3_coloursRepeatAfter_30 : decode cX3_coloursRepeatAfter 30 = .ok (.iload_n 2, 1) := by decide +kernel
theorem dX3_coloursRepeatAfter_31 : decode cX3_coloursRepeatAfter 31 = .ok (.iload_n 1, 1) := by decide +kernel
theorem dX3_coloursRepeatAfter_32 : decode cX3_coloursRepeatAfter 32 = .ok (.isub, 1) := by decide +kernel
theorem dX3_coloursRepeatAfter_33 : decode cX3_coloursRepeatAfter 33 = .ok (.iload_n 3, 1) := by decide +kernel
theorem dX3_coloursRepeatAfter_34 : decode cX3_coloursRepeatAfter 34 = .ok (.invokevirtual 147, 3) := by decide +kernel
theorem dX3_coloursRepeatAfter_37 : decode cX3_coloursRepeatAfter 37 = .ok (.if_icmp .eq 5, 3) := by decide +kernel
theorem dX3_coloursRepeatAfter_40 : decode cX3_coloursRepeatAfter 40 = .ok (.iconst 0, 1) := by decide +kernel
theorem dX3_coloursRepeatAfter_41 : decode cX3_coloursRepeatAfter 41 = .ok (.ireturn, 1) := by decide +kernel
theorem dX3_coloursRepeatAfter_42 : decode cX3_coloursRepeatAfter 42 = .ok (.iinc 3 1, 3) := by decide +kernel
theorem dX3_coloursRepeatAfter_45 : decode cX3_coloursRepeatAfter 45 = .ok (.goto (-30), 3) := by decide +kernel
theorem dX3_coloursRepeatAfter_48 : decode cX3_coloursRepeatAfter 48 = .ok (.iinc 2 1, 3) := by decide +kernel
theorem dX3_coloursRepeatAfter_51 : decode cX3_coloursRepeatAfter 51 = .ok (.goto (-49), 3) := by decide +kernel
theorem dX3_coloursRepeatAfter_54 : decode cX3_coloursRepeatAfter 54 = .ok (.iconst 1, 1) := by decide +kernel
theorem dX3_coloursRepeatAfter_55 : decode cX3_coloursRepeatAfter 55 = .ok (.ireturn, 1) := by decide +kernel
theorem dX3_differsFromDesign_0 : decode cX3_differsFromDesign 0 = .ok (.aload_n 0, 1) := by decide +kernel
theorem dX3_differsFromDesign_1 : decode cX3_differsFromDesign 1 = .ok (.iload_n 1, 1) := by decide +kernel
theorem dX3_differsFromDesign_2 : decode cX3_differsFromDesign 2 = .ok (.aload_n 0, 1) := by decide +kernel
theorem dX3_differsFromDesign_3 : decode cX3_differsFromDesign 3 = .ok (.getfield 46, 3) := by decide +kernel
theorem dX3_differsFromDesign_6 : decode cX3_differsFromDesign 6 = .ok (.iload_n 1, 1) := by decide +kernel
theorem dX3_differsFromDesign_7 : decode cX3_differsFromDesign 7 = .ok (.invokevirtual 88, 3) := by decide +kernel
theorem dX3_differsFromDesign_10 : decode cX3_differsFromDesign 10 = .ok (.invokevirtual 160, 3) := by decide +kernel
theorem dX3_differsFromDesign_13 : decode cX3_differsFromDesign 13 = .ok (.ifCond .ne 7, 3) := by decide +kernel
theorem dX3_differsFromDesign_16 : decode cX3_differsFromDesign 16 = .ok (.iconst 1, 1) := by decide +kernel
theorem dX3_differsFromDesign_17 : decode cX3_differsFromDesign 17 = .ok (.goto 4, 3) := by decide +kernel
theorem dX3_differsFromDesign_20 : decode cX3_differsFromDesign 20 = .ok (.iconst 0, 1) := by decide +kernel
theorem dX3_differsFromDesign_21 : decode cX3_differsFromDesign 21 = .ok (.ireturn, 1) := by decide +kernel
theorem dX3_equalsDesign_0 : decode cX3_equalsDesign 0 = .ok (.aload_n 0, 1) := by decide +kernel
theorem dX3_equalsDesign_1 : decode cX3_equalsDesign 1 = .ok (.getfield 53, 3) := by decide +kernel
theorem dX3_equalsDesign_4 : decode cX3_equalsDesign 4 = .ok (.getfield 141, 3) := by decide +kernel
theorem dX3_equalsDesign_7 : decode cX3_equalsDesign 7 = .ok (.iload_n 1, 1) := by decide +kernel
theorem dX3_equalsDesign_8 : decode cX3_equalsDesign 8 = .ok (.invokestatic 74, 3) := by decide +kernel
theorem dX3_equalsDesign_11 : decode cX3_equalsDesign 11 = .ok (.istore_n 3, 1) := by decide +kernel
theorem dX3_equalsDesign_12 : decode cX3_equalsDesign 12 = .ok (.iload_n 3, 1) := by decide +kernel
theorem dX3_equalsDesign_13 : decode cX3_equalsDesign 13 = .ok (.aload_n 0, 1) := by decide +kernel
theorem dX3_equalsDesign_14 : decode cX3_equalsDesign 14 = .ok (.aload_n 0, 1) := by decide +kernel
theorem dX3_equalsDesign_15 : decode cX3_equalsDesign 15 = .ok (.getfield 37, 3) := by decide +kernel
theorem dX3_equalsDesign_18 : decode cX3_equalsDesign 18 = .ok (.iload_n 2, 1) := by decide +kernel
theorem dX3_equalsDesign_19 : decode cX3_equalsDesign 19 = .ok (.invokestatic 74, 3) := by decide +kernel
theorem dX3_equalsDesign_22 : decode cX3_equalsDesign 22 = .ok (.invokevirtual 95, 3) := by decide +kernel
theorem dX3_equalsDesign_25 : decode cX3_equalsDesign 25 = .ok (.if_icmp .eq 5, 3) := by decide +kernel
theorem dX3_equalsDesign_28 : decode cX3_equalsDesign 28 = .ok (.iconst 0, 1) := by decide +kernel
theorem dX3_equalsDesign_29 : decode cX3_equalsDesign 29 = .ok (.ireturn, 1) := by decide +kernel
theorem dX3_equalsDesign_30 : decode cX3_equalsDesign 30 = .ok (.iload_n 3, 1) := by decide +kernel
theorem dX3_equalsDesign_31 : decode cX3_equalsDesign 31 = .ok (.invokestatic 98, 3) := by decide +kernel
theorem dX3_equalsDesign_34 : decode cX3_equalsDesign 34 = .ok (.aload_n 0, 1) := by decide +kernel
theorem dX3_equalsDesign_35 : decode cX3_equalsDesign 35 = .ok (.getfield 24, 3) := by decide +kernel
theorem dX3_equalsDesign_38 : decode cX3_equalsDesign 38 = .ok (.if_icmp .ne 7, 3) := by decide +kernel
theorem dX3_equalsDesign_41 : decode cX3_equalsDesign 41 = .ok (.iconst 1, 1) := by decide +kernel
theorem dX3_equalsDesign_42 : decode cX3_equalsDesign 42 = .ok (.goto 4, 3) := by decide +kernel
theorem dX3_equalsDesign_45 : decode cX3_equalsDesign 45 = .ok (.iconst 0, 1) := by decide +kernel
theorem dX3_equalsDesign_46 : decode cX3_equalsDesign 46 = .ok (.istore 4, 2) := by decide +kernel
theorem dX3_equalsDesign_48 : decode cX3_equalsDesign 48 = .ok (.iload 4, 2) := by decide +kernel
theorem dX3_equalsDesign_50 : decode cX3_equalsDesign 50 = .ok (.ifCond .ne 25, 3) := by decide +kernel
theorem dX3_equalsDesign_53 : decode cX3_equalsDesign 53 = .ok (.aload_n 0, 1) := by decide +kernel
theorem dX3_equalsDesign_54 : decode cX3_equalsDesign 54 = .ok (.getfield 53, 3) := by decide +kernel
theorem dX3_equalsDesign_57 : decode cX3_equalsDesign 57 = .ok (.getfield 144, 3) := by decide +kernel
theorem dX3_equalsDesign_60 : decode cX3_equalsDesign 60 = .ok (.iload_n 1, 1) := by decide +kernel
theorem dX3_equalsDesign_61 : decode cX3_equalsDesign 61 = .ok (.invokestatic 74, 3) := by decide +kernel
theorem dX3_equalsDesign_64 : decode cX3_equalsDesign 64 = .ok (.aload_n 0, 1) := by decide +kernel
theorem dX3_equalsDesign_65 : decode cX3_equalsDesign 65 = .ok (.getfield 40, 3) := by decide +kernel
theorem dX3_equalsDesign_68 : decode cX3_equalsDesign 68 = .ok (.iload_n 2, 1) := by decide +kernel
theorem dX3_equalsDesign_69 : decode cX3_equalsDesign 69 = .ok (.invokestatic 74, 3) := by decide +kernel
theorem dX3_equalsDesign_72 : decode cX3_equalsDesign 72 = .ok (.if_icmp .ne 7, 3) := by decide +kernel
theorem dX3_equalsDesign_75 : decode cX3_equalsDesign 75 = .ok (.iconst 1, 1) := by decide +kernel
theorem dX3_equalsDesign_76 : decode cX3_equalsDesign 76 = .ok (.goto 4, 3) := by decide +kernel
theorem dX3_equalsDesign_79 : decode cX3_equalsDesign 79 = .ok (.iconst 0, 1) := by decide +kernel
theorem dX3_equalsDesign_80 : decode cX3_equalsDesign 80 = .ok (.ireturn, 1) := by decide +kernel
theorem dX3_countWrong_0 : decode cX3_countWrong 0 = .ok (.iconst 0, 1) := by decide +kernel
theorem dX3_countWrong_1 : decode cX3_countWrong 1 = .ok (.istore_n 1, 1) := by decide +kernel
theorem dX3_countWrong_2 : decode cX3_countWrong 2 = .ok (.iconst 0, 1) := by decide +kernel
theorem dX3_countWrong_3 : decode cX3_countWrong 3 = .ok (.istore_n 2, 1) := by decide +kernel
theorem dX3_countWrong_4 : decode cX3_countWrong 4 = .ok (.iload_n 2, 1) := by decide +kernel
theorem dX3_countWrong_5 : decode cX3_countWrong 5 = .ok (.aload_n 0, 1) := by decide +kernel
theorem dX3_countWrong_6 : decode cX3_countWrong 6 = .ok (.getfield 53, 3) := by decide +kernel
theorem dX3_countWrong_9 : decode cX3_countWrong 9 = .ok (.getfield 85, 3) := by decide +kernel
theorem dX3_countWrong_12 : decode cX3_countWrong 12 = .ok (.if_icmp .ge 20, 3) := by decide +kernel
theorem dX3_countWrong_15 : decode cX3_countWrong 15 = .ok (.aload_n 0, 1) := by decide +kernel
theorem dX3_countWrong_16 : decode cX3_countWrong 16 = .ok (.iload_n 2, 1) := by decide +kernel
theorem dX3_countWrong_17 : decode cX3_countWrong 17 = .ok (.invokevirtual 163, 3) := by decide +kernel
theorem dX3_countWrong_20 : decode cX3_countWrong 20 = .ok (.ifCond .eq 6, 3) := by decide +kernel
theorem dX3_countWrong_23 : decode cX3_countWrong 23 = .ok (.iinc 1 1, 3) := by decide +kernel
theorem dX3_countWrong_26 : decode cX3_countWrong 26 = .ok (.iinc 2 1, 3) := by decide +kernel
theorem dX3_countWrong_29 : decode cX3_countWrong 29 = .ok (.goto (-25), 3) := by decide +kernel
theorem dX3_countWrong_32 : decode cX3_countWrong 32 = .ok (.iload_n 1, 1) := by decide +kernel
theorem dX3_countWrong_33 : decode cX3_countWrong 33 = .ok (.ireturn, 1) := by decide +kernel
theorem dX3_firstWrong_0 : decode cX3_firstWrong 0 = .ok (.iconst 0, 1) := by decide +kernel
theorem dX3_firstWrong_1 : decode cX3_firstWrong 1 = .ok (.istore_n 1, 1) := by decide +kernel
theorem dX3_firstWrong_2 : decode cX3_firstWrong 2 = .ok (.iload_n 1, 1) := by decide +kernel
theorem dX3_firstWrong_3 : decode cX3_firstWrong 3 = .ok (.aload_n 0, 1) := by decide +kernel
theorem dX3_firstWrong_4 : decode cX3_firstWrong 4 = .ok (.getfield 53, 3) := by decide +kernel
theorem dX3_firstWrong_7 : decode cX3_firstWrong 7 = .ok (.getfield 85, 3) := by decide +kernel
theorem dX3_firstWrong_10 : decode cX3_firstWrong 10 = .ok (.if_icmp .ge 19, 3) := by decide +kernel
theorem dX3_firstWrong_13 : decode cX3_firstWrong 13 = .ok (.aload_n 0, 1) := by decide +kernel
theorem dX3_firstWrong_14 : decode cX3_firstWrong 14 = .ok (.iload_n 1, 1) := by decide +kernel
theorem dX3_firstWrong_15 : decode cX3_firstWrong 15 = .ok (.invokevirtual 163, 3) := by decide +kernel
theorem dX3_firstWrong_18 : decode cX3_firstWrong 18 = .ok (.ifCond .eq 5, 3) := by decide +kernel
theorem dX3_firstWrong_21 : decode cX3_firstWrong 21 = .ok (.iload_n 1, 1) := by decide +kernel
theorem dX3_firstWrong_22 : decode cX3_firstWrong 22 = .ok (.ireturn, 1) := by decide +kernel
theorem dX3_firstWrong_23 : decode cX3_firstWrong 23 = .ok (.iinc 1 1, 3) := by decide +kernel
theorem dX3_firstWrong_26 : decode cX3_firstWrong 26 = .ok (.goto (-24), 3) := by decide +kernel
theorem dX3_firstWrong_29 : decode cX3_firstWrong 29 = .ok (.iconst (-1), 1) := by decide +kernel
theorem dX3_firstWrong_30 : decode cX3_firstWrong 30 = .ok (.ireturn, 1) := by decide +kernel
theorem dX3_suspectedPair_0 : decode cX3_suspectedPair 0 = .ok (.aload_n 0, 1) := by decide +kernel
theorem dX3_suspectedPair_1 : decode cX3_suspectedPair 1 = .ok (.invokevirtual 166, 3) := by decide +kernel
theorem dX3_suspectedPair_4 : decode cX3_suspectedPair 4 = .ok (.iconst (-1), 1) := by decide +kernel
theorem dX3_suspectedPair_5 : decode cX3_suspectedPair 5 = .ok (.if_icmp .ne 5, 3) := by decide +kernel
theorem dX3_suspectedPair_8 : decode cX3_suspectedPair 8 = .ok (.iconst (-1), 1) := by decide +kernel
theorem dX3_suspectedPair_9 : decode cX3_suspectedPair 9 = .ok (.ireturn, 1) := by decide +kernel
theorem dX3_suspectedPair_10 : decode cX3_suspectedPair 10 = .ok (.iconst 0, 1) := by decide +kernel
theorem dX3_suspectedPair_11 : decode cX3_suspectedPair 11 = .ok (.istore_n 1, 1) := by decide +kernel
theorem dX3_suspectedPair_12 : decode cX3_suspectedPair 12 = .ok (.iload_n 1, 1) := by decide +kernel
theorem dX3_suspectedPair_13 : decode cX3_suspectedPair 13 = .ok (.aload_n 0, 1) := by decide +kernel
theorem dX3_suspectedPair_14 : decode cX3_suspectedPair 14 = .ok (.getfield 34, 3) := by decide +kernel
theorem dX3_suspectedPair_17 : decode cX3_suspectedPair 17 = .ok (.if_icmp .ge 43, 3) := by decide +kernel
theorem dX3_suspectedPair_20 : decode cX3_suspectedPair 20 = .ok (.iload_n 1, 1) := by decide +kernel
theorem dX3_suspectedPair_21 : decode cX3_suspectedPair 21 = .ok (.iconst 1, 1) := by decide +kernel
theorem dX3_suspectedPair_22 : decode cX3_suspectedPair 22 = .ok (.iadd, 1) := by decide +kernel
theorem dX3_suspectedPair_23 : decode cX3_suspectedPair 23 = .ok (.istore_n 2, 1) := by decide +kernel
theorem dX3_suspectedPair_24 : decode cX3_suspectedPair 24 = .ok (.iload_n 2, 1) := by decide +kernel
theorem dX3_suspectedPair_25 : decode cX3_suspectedPair 25 = .ok (.aload_n 0, 1) := by decide +kernel
theorem dX3_suspectedPair_26 : decode cX3_suspectedPair 26 = .ok (.getfield 34, 3) := by decide +kernel
theorem dX3_suspectedPair_29 : decode cX3_suspectedPair 29 = .ok (.if_icmp .ge 25, 3) := by decide +kernel
theorem dX3_suspectedPair_32 : decode cX3_suspectedPair 32 = .ok (.aload_n 0, 1) := by decide +kernel
theorem dX3_suspectedPair_33 : decode cX3_suspectedPair 33 = .ok (.iload_n 1, 1) := by decide +kernel
theorem dX3_suspectedPair_34 : decode cX3_suspectedPair 34 = .ok (.iload_n 2, 1) := by decide +kernel
theorem dX3_suspectedPair_35 : decode cX3_suspectedPair 35 = .ok (.invokevirtual 170, 3) := by decide +kernel
theorem dX3_suspectedPair_38 : decode cX3_suspectedPair 38 = .ok (.ifCond .eq 10, 3) := by decide +kernel
theorem dX3_suspectedPair_41 : decode cX3_suspectedPair 41 = .ok (.iload_n 1, 1) := by decide +kernel
theorem dX3_suspectedPair_42 : decode cX3_suspectedPair 42 = .ok (.bipush 12, 2) := by decide +kernel
theorem dX3_suspectedPair_44 : decode cX3_suspectedPair 44 = .ok (.imul, 1) := by decide +kernel
theorem dX3_suspectedPair_45 : decode cX3_suspectedPair 45 = .ok (.iload_n 2, 1) := by decide +kernel
theorem dX3_suspectedPair_46 : decode cX3_suspectedPair 46 = .ok (.iadd, 1) := by decide +kernel
theorem dX3_suspectedPair_47 : decode cX3_suspectedPair 47 = .ok (.ireturn, 1) := by decide +kernel
theorem dX3_suspectedPair_48 : decode cX3_suspectedPair 48 = .ok (.iinc 2 1, 3) := by decide +kernel
theorem dX3_suspectedPair_51 : decode cX3_suspectedPair 51 = .ok (.goto (-27), 3) := by decide +kernel
theorem dX3_suspectedPair_54 : decode cX3_suspectedPair 54 = .ok (.iinc 1 1, 3) := by decide +kernel
theorem dX3_suspectedPair_57 : decode cX3_suspectedPair 57 = .ok (.goto (-45), 3) := by decide +kernel
theorem dX3_suspectedPair_60 : decode cX3_suspectedPair 60 = .ok (.iconst (-1), 1) := by decide +kernel
theorem dX3_suspectedPair_61 : decode cX3_suspectedPair 61 = .ok (.ireturn, 1) := by decide +kernel
theorem dX3_exchangeExplainsCloth_0 : decode cX3_exchangeExplainsCloth 0 = .ok (.iconst 0, 1) := by decide +kernel
theorem dX3_exchangeExplainsCloth_1 : decode cX3_exchangeExplainsCloth 1 = .ok (.istore_n 3, 1) := by decide +kernel
theorem dX3_exchangeExplainsCloth_2 : decode cX3_exchangeExplainsCloth 2 = .ok (.iload_n 3, 1) := by decide +kernel
theorem dX3_exchangeExplainsCloth_3 : decode cX3_exchangeExplainsCloth 3 = .ok (.aload_n 0, 1) := by decide +kernel
theorem dX3_exchangeExplainsCloth_4 : decode cX3_exchangeExplainsCloth 4 = .ok (.getfield 53, 3) := by decide +kernel
theorem dX3_exchangeExplainsCloth_7 : decode cX3_exchangeExplainsCloth 7 = .ok (.getfield 85, 3) := by decide +kernel
theorem dX3_exchangeExplainsCloth_10 : decode cX3_exchangeExplainsCloth 10 = .ok (.if_icmp .ge 52, 3) := by decide +kernel
theorem dX3_exchangeExplainsCloth_13 : decode cX3_exchangeExplainsCloth 13 = .ok (.aload_n 0, 1) := by decide +kernel
theorem dX3_exchangeExplainsCloth_14 : decode cX3_exchangeExplainsCloth 14 = .ok (.getfield 46, 3) := by decide +kernel
theorem dX3_exchangeExplainsCloth_17 : decode cX3_exchangeExplainsCloth 17 = .ok (.iload_n 3, 1) := by decide +kernel
theorem dX3_exchangeExplainsCloth_18 : decode cX3_exchangeExplainsCloth 18 = .ok (.invokevirtual 88, 3) := by decide +kernel
theorem dX3_exchangeExplainsCloth_21 : decode cX3_exchangeExplainsCloth 21 = .ok (.istore 4, 2) := by decide +kernel
theorem dX3_exchangeExplainsCloth_23 : decode cX3_exchangeExplainsCloth 23 = .ok (.iload 4, 2) := by decide +kernel
theorem dX3_exchangeExplainsCloth_25 : decode cX3_exchangeExplainsCloth 25 = .ok (.iload_n 1, 1) := by decide +kernel
theorem dX3_exchangeExplainsCloth_26 : decode cX3_exchangeExplainsCloth 26 = .ok (.if_icmp .ne 9, 3) := by decide +kernel
theorem dX3_exchangeExplainsCloth_29 : decode cX3_exchangeExplainsCloth 29 = .ok (.iload_n 2, 1) := by decide +kernel
theorem dX3_exchangeExplainsCloth_30 : decode cX3_exchangeExplainsCloth 30 = .ok (.istore 4, 2) := by decide +kernel
theorem dX3_exchangeExplainsCloth_32 : decode cX3_exchangeExplainsCloth 32 = .ok (.goto 12, 3) := by decide +kernel
theorem dX3_exchangeExplainsCloth_35 : decode cX3_exchangeExplainsCloth 35 = .ok (.iload 4, 2) := by decide +kernel
theorem dX3_exchangeExplainsCloth_37 : decode cX3_exchangeExplainsCloth 37 = .ok (.iload_n 2, 1) := by decide +kernel
theorem dX3_exchangeExplainsCloth_38 : decode cX3_exchangeExplainsCloth 38 = .ok (.if_icmp .ne 6, 3) := by decide +kernel
theorem dX3_exchangeExplainsCloth_41 : decode cX3_exchangeExplainsCloth 41 = .ok (.iload_n 1, 1) := by decide +kernel
theorem dX3_exchangeExplainsCloth_42 : decode cX3_exchangeExplainsCloth 42 = .ok (.istore 4, 2) := by decide +kernel
theorem dX3_exchangeExplainsCloth_44 : decode cX3_exchangeExplainsCloth 44 = .ok (.aload_n 0, 1) := by decide +kernel
theorem dX3_exchangeExplainsCloth_45 : decode cX3_exchangeExplainsCloth 45 = .ok (.iload_n 3, 1) := by decide +kernel
theorem dX3_exchangeExplainsCloth_46 : decode cX3_exchangeExplainsCloth 46 = .ok (.iload 4, 2) := by decide +kernel
theorem dX3_exchangeExplainsCloth_48 : decode cX3_exchangeExplainsCloth 48 = .ok (.invokevirtual 160, 3) := by decide +kernel
theorem dX3_exchangeExplainsCloth_51 : decode cX3_exchangeExplainsCloth 51 = .ok (.ifCond .ne 5, 3) := by decide +kernel
theorem dX3_exchangeExplainsCloth_54 : decode cX3_exchangeExplainsCloth 54 = .ok (.iconst 0, 1) := by decide +kernel
theorem dX3_exchangeExplainsCloth_55 : decode cX3_exchangeExplainsCloth 55 = .ok (.ireturn, 1) := by decide +kernel
theorem dX3_exchangeExplainsCloth_56 : decode cX3_exchangeExplainsCloth 56 = .ok (.iinc 3 1, 3) := by decide +kernel
theorem dX3_exchangeExplainsCloth_59 : decode cX3_exchangeExplainsCloth 59 = .ok (.goto (-57), 3) := by decide +kernel
theorem dX3_exchangeExplainsCloth_62 : decode cX3_exchangeExplainsCloth 62 = .ok (.iconst 1, 1) := by decide +kernel
theorem dX3_exchangeExplainsCloth_63 : decode cX3_exchangeExplainsCloth 63 = .ok (.ireturn, 1) := by decide +kernel
theorem dX4_init_0 : decode cX4_init 0 = .ok (.aload_n 0, 1) := by decide +kernel
theorem dX4_init_1 : decode cX4_init 1 = .ok (.invokespecial 3, 3) := by decide +kernel
theorem dX4_init_4 : decode cX4_init 4 = .ok (.aload_n 0, 1) := by decide +kernel
theorem dX4_init_5 : decode cX4_init 5 = .ok (.sipush 500, 3) := by decide +kernel
theorem dX4_init_8 : decode cX4_init 8 = .ok (.newarray .int, 2) := by decide +kernel
theorem dX4_init_10 : decode cX4_init 10 = .ok (.putfield 9, 3) := by decide +kernel
theorem dX4_init_13 : decode cX4_init 13 = .ok (.aload_n 0, 1) := by decide +kernel
theorem dX4_init_14 : decode cX4_init 14 = .ok (.iconst 0, 1) := by decide +kernel
theorem dX4_init_15 : decode cX4_init 15 = .ok (.putfield 15, 3) := by decide +kernel
theorem dX4_init_18 : decode cX4_init 18 = .ok (.return_, 1) := by decide +kernel
theorem dX5_init_0 : decode cX5_init 0 = .ok (.aload_n 0, 1) := by decide +kernel
theorem dX5_init_1 : decode cX5_init 1 = .ok (.invokespecial 3, 3) := by decide +kernel
theorem dX5_init_4 : decode cX5_init 4 = .ok (.aload_n 0, 1) := by decide +kernel
theorem dX5_init_5 : decode cX5_init 5 = .ok (.new 9, 3) := by decide +kernel
theorem dX5_init_8 : decode cX5_init 8 = .ok (.dup, 1) := by decide +kernel
theorem dX5_init_9 : decode cX5_init 9 = .ok (.invokespecial 11, 3) := by decide +kernel
theorem dX5_init_12 : decode cX5_init 12 = .ok (.putfield 12, 3) := by decide +kernel
theorem dX5_init_15 : decode cX5_init 15 = .ok (.aload_n 0, 1) := by decide +kernel
theorem dX5_init_16 : decode cX5_init 16 = .ok (.new 18, 3) := by decide +kernel
theorem dX5_init_19 : decode cX5_init 19 = .ok (.dup, 1) := by decide +kernel
theorem dX5_init_20 : decode cX5_init 20 = .ok (.invokespecial 20, 3) := by decide +kernel
theorem dX5_init_23 : decode cX5_init 23 = .ok (.putfield 21, 3) := by decide +kernel
theorem dX5_init_26 : decode cX5_init 26 = .ok (.aload_n 0, 1) := by decide +kernel
theorem dX5_init_27 : decode cX5_init 27 = .ok (.iconst 0, 1) := by decide +kernel
theorem dX5_init_28 : decode cX5_init 28 = .ok (.putfield 25, 3) := by decide +kernel
theorem dX5_init_31 : decode cX5_init 31 = .ok (.aload_n 0, 1) := by decide +kernel
theorem dX5_init_32 : decode cX5_init 32 = .ok (.iconst (-1), 1) := by decide +kernel
theorem dX5_init_33 : decode cX5_init 33 = .ok (.putfield 29, 3) := by decide +kernel
theorem dX5_init_36 : decode cX5_init 36 = .ok (.aload_n 0, 1) := by decide +kernel
theorem dX5_init_37 : decode cX5_init 37 = .ok (.iconst 0, 1) := by decide +kernel
theorem dX5_init_38 : decode cX5_init 38 = .ok (.putfield 32, 3) := by decide +kernel
theorem dX5_init_41 : decode cX5_init 41 = .ok (.return_, 1) := by decide +kernel
theorem dX5_parse_0 : decode cX5_parse 0 = .ok (.aload_n 0, 1) := by decide +kernel
theorem dX5_parse_1 : decode cX5_parse 1 = .ok (.iconst 0, 1) := by decide +kernel
theorem dX5_parse_2 : decode cX5_parse 2 = .ok (.putfield 25, 3) := by decide +kernel
theorem dX5_parse_5 : decode cX5_parse 5 = .ok (.aload_n 0, 1) := by decide +kernel
theorem dX5_parse_6 : decode cX5_parse 6 = .ok (.iconst (-1), 1) := by decide +kernel
theorem dX5_parse_7 : decode cX5_parse 7 = .ok (.putfield 29, 3) := by decide +kernel
theorem dX5_parse_10 : decode cX5_parse 10 = .ok (.aload_n 0, 1) := by decide +kernel
theorem dX5_parse_11 : decode cX5_parse 11 = .ok (.getfield 21, 3) := by decide +kernel
theorem dX5_parse_14 : decode cX5_parse 14 = .ok (.invokevirtual 35, 3) := by decide +kernel
theorem dX5_parse_17 : decode cX5_parse 17 = .ok (.aload_n 0, 1) := by decide +kernel
theorem dX5_parse_18 : decode cX5_parse 18 = .ok (.getfield 12, 3) := by decide +kernel
theorem dX5_parse_21 : decode cX5_parse 21 = .ok (.iconst 0, 1) := by decide +kernel
theorem dX5_parse_22 : decode cX5_parse 22 = .ok (.putfield 38, 3) := by decide +kernel
theorem dX5_parse_25 : decode cX5_parse 25 = .ok (.aload_n 0, 1) := by decide +kernel
theorem dX5_parse_26 : decode cX5_parse 26 = .ok (.getfield 12, 3) := by decide +kernel
theorem dX5_parse_29 : decode cX5_parse 29 = .ok (.iload_n 1, 1) := by decide +kernel
theorem dX5_parse_30 : decode cX5_parse 30 = .ok (.invokevirtual 41, 3) := by decide +kernel
theorem dX5_parse_33 : decode cX5_parse 33 = .ok (.aload_n 0, 1) := by decide +kernel
theorem dX5_parse_34 : decode cX5_parse 34 = .ok (.invokevirtual 45, 3) := by decide +kernel
theorem dX5_parse_37 : decode cX5_parse 37 = .ok (.ifCond .ne 5, 3) := by decide +kernel
theorem dX5_parse_40 : decode cX5_parse 40 = .ok (.iconst 0, 1) := by decide +kernel
theorem dX5_parse_41 : decode cX5_parse 41 = .ok (.ireturn, 1) := by decide +kernel
theorem dX5_parse_42 : decode cX5_parse 42 = .ok (.iconst 0, 1) := by decide +kernel
theorem dX5_parse_43 : decode cX5_parse 43 = .ok (.istore_n 2, 1) := by decide +kernel
theorem dX5_parse_44 : decode cX5_parse 44 = .ok (.iload_n 2, 1) := by decide +kernel
theorem dX5_parse_45 : decode cX5_parse 45 = .ok (.sipush 500, 3) := by decide +kernel
theorem dX5_parse_48 : decode cX5_parse 48 = .ok (.if_icmp .ge 52, 3) := by decide +kernel
theorem dX5_parse_51 : decode cX5_parse 51 = .ok (.aload_n 0, 1) := by decide +kernel
theorem dX5_parse_52 : decode cX5_parse 52 = .ok (.getfield 12, 3) := by decide +kernel
theorem dX5_parse_55 : decode cX5_parse 55 = .ok (.getfield 49, 3) := by decide +kernel
theorem dX5_parse_58 : decode cX5_parse 58 = .ok (.ifCond .eq 42, 3) := by decide +kernel
theorem dX5_parse_61 : decode cX5_parse 61 = .ok (.aload_n 0, 1) := by decide +kernel
theorem dX5_parse_62 : decode cX5_parse 62 = .ok (.getfield 12, 3) := by decide +kernel
theorem dX5_parse_65 : decode cX5_parse 65 = .ok (.getfield 49, 3) := by decide +kernel
theorem dX5_parse_68 : decode cX5_parse 68 = .ok (.iconst 3, 1) := by decide +kernel
theorem dX5_parse_69 : decode cX5_parse 69 = .ok (.if_icmp .eq 9, 3) := by decide +kernel
theorem dX5_parse_72 : decode cX5_parse 72 = .ok (.aload_n 0, 1) := by decide +kernel
theorem dX5_parse_73 : decode cX5_parse 73 = .ok (.iconst 1, 1) := by decide +kernel
theorem dX5_parse_74 : decode cX5_parse 74 = .ok (.invokevirtual 52, 3) := by decide +kernel
theorem dX5_parse_77 : decode cX5_parse 77 = .ok (.ireturn, 1) := by decide +kernel
theorem dX5_parse_78 : decode cX5_parse 78 = .ok (.aload_n 0, 1) := by decide +kernel
theorem dX5_parse_79 : decode cX5_parse 79 = .ok (.getfield 12, 3) := by decide +kernel
theorem dX5_parse_82 : decode cX5_parse 82 = .ok (.invokevirtual 56, 3) := by decide +kernel
theorem dX5_parse_85 : decode cX5_parse 85 = .ok (.aload_n 0, 1) := by decide +kernel
theorem dX5_parse_86 : decode cX5_parse 86 = .ok (.invokevirtual 59, 3) := by decide +kernel
theorem dX5_parse_89 : decode cX5_parse 89 = .ok (.ifCond .ne 5, 3) := by decide +kernel
theorem dX5_parse_92 : decode cX5_parse 92 = .ok (.iconst 0, 1) := by decide +kernel
theorem dX5_parse_93 : decode cX5_parse 93 = .ok (.ireturn, 1) := by decide +kernel
theorem dX5_parse_94 : decode cX5_parse 94 = .ok (.iinc 2 1, 3) := by decide +kernel
theorem dX5_parse_97 : decode cX5_parse 97 = .ok (.goto (-53), 3) := by decide +kernel
theorem dX5_parse_100 : decode cX5_parse 100 = .ok (.aload_n 0, 1) := by decide +kernel
theorem dX5_parse_101 : decode cX5_parse 101 = .ok (.getfield 21, 3) := by decide +kernel
theorem dX5_parse_104 : decode cX5_parse 104 = .ok (.getfield 62, 3) := by decide +kernel
theorem dX5_parse_107 : decode cX5_parse 107 = .ok (.ifCond .gt 11, 3) := by decide +kernel
theorem dX5_parse_110 : decode cX5_parse 110 = .ok (.aload_n 0, 1) := by decide +kernel
theorem dX5_parse_111 : decode cX5_parse 111 = .ok (.iconst 4, 1) := by decide +kernel
theorem dX5_parse_112 : decode cX5_parse 112 = .ok (.invokevirtual 52, 3) := by decide +kernel
theorem dX5_parse_115 : decode cX5_parse 115 = .ok (.ifCond .eq 7, 3) := by decide +kernel
theorem dX5_parse_118 : decode cX5_parse 118 = .ok (.iconst 1, 1) := by decide +kernel
theorem dX5_parse_119 : decode cX5_parse 119 = .ok (.goto 4, 3) := by decide +kernel
theorem dX5_parse_122 : decode cX5_parse 122 = .ok (.iconst 0, 1) := by decide +kernel
theorem dX5_parse_123 : decode cX5_parse 123 = .ok (.ireturn, 1) := by decide +kernel
theorem dX5_fail_0 : decode cX5_fail 0 = .ok (.aload_n 0, 1) := by decide +kernel
theorem dX5_fail_1 : decode cX5_fail 1 = .ok (.iload_n 1, 1) := by decide +kernel
theorem dX5_fail_2 : decode cX5_fail 2 = .ok (.putfield 25, 3) := by decide +kernel
theorem dX5_fail_5 : decode cX5_fail 5 = .ok (.aload_n 0, 1) := by decide +kernel
theorem dX5_fail_6 : decode cX5_fail 6 = .ok (.aload_n 0, 1) := by decide +kernel
theorem dX5_fail_7 : decode cX5_fail 7 = .ok (.getfield 12, 3) := by decide +kernel
theorem dX5_fail_10 : decode cX5_fail 10 = .ok (.getfield 65, 3) := by decide +kernel
theorem dX5_fail_13 : decode cX5_fail 13 = .ok (.putfield 29, 3) := by decide +kernel
theorem dX5_fail_16 : decode cX5_fail 16 = .ok (.iconst 0, 1) := by decide +kernel
theorem dX5_fail_17 : decode cX5_fail 17 = .ok (.ireturn, 1) := by decide +kernel
theorem dX5_seeNumber_0 : decode cX5_seeNumber 0 = .ok (.aload_n 0, 1) := by decide +kernel
theorem dX5_seeNumber_1 : decode cX5_seeNumber 1 = .ok (.getfield 12, 3) := by decide +kernel
theorem dX5_seeNumber_4 : decode cX5_seeNumber 4 = .ok (.getfield 49, 3) := by decide +kernel
theorem dX5_seeNumber_7 : decode cX5_seeNumber 7 = .ok (.iconst 2, 1) := by decide +kernel
theorem dX5_seeNumber_8 : decode cX5_seeNumber 8 = .ok (.if_icmp .eq 9, 3) := by decide +kernel
theorem dX5_seeNumber_11 : decode cX5_seeNumber 11 = .ok (.aload_n 0, 1) := by decide +kernel
theorem dX5_seeNumber_12 : decode cX5_seeNumber 12 = .ok (.iconst 1, 1) := by decide +kernel
theorem dX5_seeNumber_13 : decode cX5_seeNumber 13 = .ok (.invokevirtual 52, 3) := by decide +kernel
theorem dX5_seeNumber_16 : decode cX5_seeNumber 16 = .ok (.ireturn, 1) := by decide +kernel
theorem dX5_seeNumber_17 : decode cX5_seeNumber 17 = .ok (.aload_n 0, 1) := by decide +kernel
theorem dX5_seeNumber_18 : decode cX5_seeNumber 18 = .ok (.aload_n 0, 1) := by decide +kernel
theorem dX5_seeNumber_19 : decode cX5_seeNumber 19 = .ok (.getfield 12, 3) := by decide +kernel
theorem dX5_seeNumber_22 : decode cX5_seeNumber 22 = .ok (.getfield 68, 3) := by decide +kernel
theorem dX5_seeNumber_25 : decode cX5_seeNumber 25 = .ok (.putfield 32, 3) := by decide +kernel
theorem dX5_seeNumber_28 : decode cX5_seeNumber 28 = .ok (.aload_n 0, 1) := by decide +kernel
theorem dX5_seeNumber_29 : decode cX5_seeNumber 29 = .ok (.getfield 32, 3) := by decide +kernel
theorem dX5_seeNumber_32 : decode cX5_seeNumber 32 = .ok (.iload_n 1, 1) := by decide +kernel
theorem dX5_seeNumber_33 : decode cX5_seeNumber 33 = .ok (.if_icmp .lt 11, 3) := by decide +kernel
theorem dX5_seeNumber_36 : decode cX5_seeNumber 36 = .ok (.aload_n 0, 1) := by decide +kernel
theorem dX5_seeNumber_37 : decode cX5_seeNumber 37 = .ok (.getfield 32, 3) := by decide +kernel
theorem dX5_seeNumber_40 : decode cX5_seeNumber 40 = .ok (.iload_n 2, 1) := by decide +kernel
theorem dX5_seeNumber_41 : decode cX5_seeNumber 41 = .ok (.if_icmp .le 11, 3) := by decide +kernel
theorem dX5_seeNumber_44 : decode cX5_seeNumber 44 = .ok (.aload_n 0, 1) := by decide +kernel
theorem dX5_seeNumber_45 : decode cX5_seeNumber 45 = .ok (.iconst 2, 1) := by decide +kernel
theorem dX5_seeNumber_46 : decode cX5_seeNumber 46 = .ok (.invokevirtual 52, 3) := by decide +kernel
theorem dX5_seeNumber_49 : decode cX5_seeNumber 49 = .ok (.ifCond .eq 7, 3) := by decide +kernel
theorem dX5_seeNumber_52 : decode cX5_seeNumber 52 = .ok (.iconst 1, 1) := by decide +kernel
theorem dX5_seeNumber_53 : decode cX5_seeNumber 53 = .ok (.goto 4, 3) := by decide +kernel
theorem dX5_seeNumber_56 : decode cX5_seeNumber 56 = .ok (.iconst 0, 1) := by decide +kernel
theorem dX5_seeNumber_57 : decode cX5_seeNumber 57 = .ok (.ireturn, 1) := by decide +kernel
theorem dX5_takeNumber_0 : decode cX5_takeNumber 0 = .ok (.aload_n 0, 1) := by decide +kernel
theorem dX5_takeNumber_1 : decode cX5_takeNumber 1 = .ok (.iload_n 1, 1) := by decide +kernel
theorem dX5_takeNumber_2 : decode cX5_takeNumber 2 = .ok (.iload_n 2, 1) := by decide +kernel
theorem dX5_takeNumber_3 : decode cX5_takeNumber 3 = .ok (.invokevirtual 71, 3) := by decide +kernel
theorem dX5_takeNumber_6 : decode cX5_takeNumber 6 = .ok (.ifCond .ne 5, 3) := by decide +kernel
theorem dX5_takeNumber_9 : decode cX5_takeNumber 9 = .ok (.iconst 0, 1) := by decide +kernel
theorem dX5_takeNumber_10 : decode cX5_takeNumber 10 = .ok (.ireturn, 1) := by decide +kernel
theorem dX5_takeNumber_11 : decode cX5_takeNumber 11 = .ok (.aload_n 0, 1) := by decide +kernel
theorem dX5_takeNumber_12 : decode cX5_takeNumber 12 = .ok (.getfield 12, 3) := by decide +kernel
theorem dX5_takeNumber_15 : decode cX5_takeNumber 15 = .ok (.invokevirtual 56, 3) := by decide +kernel
theorem dX5_takeNumber_18 : decode cX5_takeNumber 18 = .ok (.iconst 1, 1) := by decide +kernel
theorem dX5_takeNumber_19 : decode cX5_takeNumber 19 = .ok (.ireturn, 1) := by decide +kernel
theorem dX5_seeCard_0 : decode cX5_seeCard 0 = .ok (.aload_n 0, 1) := by decide +kernel
theorem dX5_seeCard_1 : decode cX5_seeCard 1 = .ok (.iconst 0, 1) := by decide +kernel
theorem dX5_seeCard_2 : decode cX5_seeCard 2 = .ok (.aload_n 0, 1) := by decide +kernel
theorem dX5_seeCard_3 : decode cX5_seeCard 3 = .ok (.getfield 21, 3) := by decide +kernel
theorem dX5_seeCard_6 : decode cX5_seeCard 6 = .ok (.getfield 75, 3) := by decide +kernel
theorem dX5_seeCard_9 : decode cX5_seeCard 9 = .ok (.iconst 1, 1) := by decide +kernel
theorem dX5_seeCard_10 : decode cX5_seeCard 10 = .ok (.isub, 1) := by decide +kernel
theorem dX5_seeCard_11 : decode cX5_seeCard 11 = .ok (.invokevirtual 71, 3) := by decide +kernel
theorem dX5_seeCard_14 : decode cX5_seeCard 14 = .ok (.ireturn, 1) := by decide +kernel
theorem dX5_takeCard_0 : decode cX5_takeCard 0 = .ok (.aload_n 0, 1) := by decide +kernel
theorem dX5_takeCard_1 : decode cX5_takeCard 1 = .ok (.invokevirtual 78, 3) := by decide +kernel
theorem dX5_takeCard_4 : decode cX5_takeCard 4 = .ok (.ifCond .ne 5, 3) := by decide +kernel
theorem dX5_takeCard_7 : decode cX5_takeCard 7 = .ok (.iconst 0, 1) := by decide +kernel
theorem dX5_takeCard_8 : decode cX5_takeCard 8 = .ok (.ireturn, 1) := by decide +kernel
theorem dX5_takeCard_9 : decode cX5_takeCard 9 = .ok (.aload_n 0, 1) := by decide +kernel
theorem dX5_takeCard_10 : decode cX5_takeCard 10 = .ok (.getfield 12, 3) := by decide +kernel
theorem dX5_takeCard_13 : decode cX5_takeCard 13 = .ok (.invokevirtual 56, 3) := by decide +kernel
theorem dX5_takeCard_16 : decode cX5_takeCard 16 = .ok (.iconst 1, 1) := by decide +kernel
theorem dX5_takeCard_17 : decode cX5_takeCard 17 = .ok (.ireturn, 1) := by decide +kernel
theorem dX5_seeHarness_0 : decode cX5_seeHarness 0 = .ok (.aload_n 0, 1) := by decide +kernel
theorem dX5_seeHarness_1 : decode cX5_seeHarness 1 = .ok (.iconst 0, 1) := by decide +kernel
theorem dX5_seeHarness_2 : decode cX5_seeHarness 2 = .ok (.aload_n 0, 1) := by decide +kernel
theorem dX5_seeHarness_3 : decode cX5_seeHarness 3 = .ok (.getfield 21, 3) := by decide +kernel
theorem dX5_seeHarness_6 : decode cX5_seeHarness 6 = .ok (.getfield 81, 3) := by decide +kernel
theorem dX5_seeHarness_9 : decode cX5_seeHarness 9 = .ok (.iconst 1, 1) := by decide +kernel
theorem dX5_seeHarness_10 : decode cX5_seeHarness 10 = .ok (.isub, 1) := by decide +kernel
theorem dX5_seeHarness_11 : decode cX5_seeHarness 11 = .ok (.invokevirtual 71, 3) := by decide +kernel
theorem dX5_seeHarness_14 : decode cX5_seeHarness 14 = .ok (.ireturn, 1) := by decide +kernel
theorem dX5_takeHarness_0 : decode cX5_takeHarness 0 = .ok (.aload_n 0, 1) := by decide +kernel
theorem dX5_takeHarness_1 : decode cX5_takeHarness 1 = .ok (.invokevirtual 84, 3) := by decide +kernel
theorem dX5_takeHarness_4 : decode cX5_takeHarness 4 = .ok (.ifCond .ne 5, 3) := by decide +kernel
theorem dX5_takeHarness_7 : decode cX5_takeHarness 7 = .ok (.iconst 0, 1) := by decide +kernel
theorem dX5_takeHarness_8 : decode cX5_takeHarness 8 = .ok (.ireturn, 1) := by decide +kernel
theorem dX5_takeHarness_9 : decode cX5_takeHarness 9 = .ok (.aload_n 0, 1) := by decide +kernel
theorem dX5_takeHarness_10 : decode cX5_takeHarness 10 = .ok (.getfield 12, 3) := by decide +kernel
theorem dX5_takeHarness_13 : decode cX5_takeHarness 13 = .ok (.invokevirtual 56, 3) := by decide +kernel
theorem dX5_takeHarness_16 : decode cX5_takeHarness 16 = .ok (.iconst 1, 1) := by decide +kernel
theorem dX5_takeHarness_17 : decode cX5_takeHarness 17 = .ok (.ireturn, 1) := by decide +kernel
theorem dX5_takeColour_0 : decode cX5_takeColour 0 = .ok (.aload_n 0, 1) := by decide +kernel
theorem dX5_takeColour_1 : decode cX5_takeColour 1 = .ok (.aload_n 0, 1) := by decide +kernel
theorem dX5_takeColour_2 : decode cX5_takeColour 2 = .ok (.getfield 12, 3) := by decide +kernel
theorem dX5_takeColour_5 : decode cX5_takeColour 5 = .ok (.invokevirtual 87, 3) := by decide +kernel
theorem dX5_takeColour_8 : decode cX5_takeColour 8 = .ok (.putfield 32, 3) := by decide +kernel
theorem dX5_takeColour_11 : decode cX5_takeColour 11 = .ok (.aload_n 0, 1) := by decide +kernel
theorem dX5_takeColour_12 : decode cX5_takeColour 12 = .ok (.getfield 32, 3) := by decide +kernel
theorem dX5_takeColour_15 : decode cX5_takeColour 15 = .ok (.iconst (-1), 1) := by decide +kernel
theorem dX5_takeColour_16 : decode cX5_takeColour 16 = .ok (.if_icmp .ne 9, 3) := by decide +kernel
theorem dX5_takeColour_19 : decode cX5_takeColour 19 = .ok (.aload_n 0, 1) := by decide +kernel
theorem dX5_takeColour_20 : decode cX5_takeColour 20 = .ok (.iconst 1, 1) := by decide +kernel
theorem dX5_takeColour_21 : decode cX5_takeColour 21 = .ok (.invokevirtual 52, 3) := by decide +kernel
theorem dX5_takeColour_24 : decode cX5_takeColour 24 = .ok (.ireturn, 1) := by decide +kernel
theorem dX5_takeColour_25 : decode cX5_takeColour 25 = .ok (.aload_n 0, 1) := by decide +kernel
theorem dX5_takeColour_26 : decode cX5_takeColour 26 = .ok (.getfield 12, 3) := by decide +kernel
theorem dX5_takeColour_29 : decode cX5_takeColour 29 = .ok (.invokevirtual 56, 3) := by decide +kernel
theorem dX5_takeColour_32 : decode cX5_takeColour 32 = .ok (.iconst 1, 1) := by decide +kernel
theorem dX5_takeColour_33 : decode cX5_takeColour 33 = .ok (.ireturn, 1) := by decide +kernel
theorem dX5_readHeader_0 : decode cX5_readHeader 0 = .ok (.aload_n 0, 1) := by decide +kernel
theorem dX5_readHeader_1 : decode cX5_readHeader 1 = .ok (.getfield 12, 3) := by decide +kernel
theorem dX5_readHeader_4 : decode cX5_readHeader 4 = .ok (.ldc 91, 2) := by decide +kernel
theorem dX5_readHeader_6 : decode cX5_readHeader 6 = .ok (.invokevirtual 92, 3) := by decide +kernel
theorem dX5_readHeader_9 : decode cX5_readHeader 9 = .ok (.ifCond .ne 9, 3) := by decide +kernel
theorem dX5_readHeader_12 : decode cX5_readHeader 12 = .ok (.aload_n 0, 1) := by decide +kernel
theorem dX5_readHeader_13 : decode cX5_readHeader 13 = .ok (.iconst 1, 1) := by decide +kernel
theorem dX5_readHeader_14 : decode cX5_readHeader 14 = .ok (.invokevirtual 52, 3) := by decide +kernel
theorem dX5_readHeader_17 : decode cX5_readHeader 17 = .ok (.ireturn, 1) := by decide +kernel
theorem dX5_readHeader_18 : decode cX5_readHeader 18 = .ok (.aload_n 0, 1) := by decide +kernel
theorem dX5_readHeader_19 : decode cX5_readHeader 19 = .ok (.getfield 12, 3) := by decide +kernel
theorem dX5_readHeader_22 : decode cX5_readHeader 22 = .ok (.invokevirtual 56, 3) := by decide +kernel
theorem dX5_readHeader_25 : decode cX5_readHeader 25 = .ok (.aload_n 0, 1) := by decide +kernel
theorem dX5_readHeader_26 : decode cX5_readHeader 26 = .ok (.iconst 2, 1) := by decide +kernel
theorem dX5_readHeader_27 : decode cX5_readHeader 27 = .ok (.bipush 8, 2) := by decide +kernel
theorem dX5_readHeader_29 : decode cX5_readHeader 29 = .ok (.invokevirtual 96, 3) := by decide +kernel
theorem dX5_readHeader_32 : decode cX5_readHeader 32 = .ok (.ifCond .ne 5, 3) := by decide +kernel
theorem dX5_readHeader_35 : decode cX5_readHeader 35 = .ok (.iconst 0, 1) := by decide +kernel
theorem dX5_readHeader_36 : decode cX5_readHeader 36 = .ok (.ireturn, 1) := by decide +kernel
theorem dX5_readHeader_37 : decode cX5_readHeader 37 = .ok (.aload_n 0, 1) := by decide +kernel
theorem dX5_readHeader_38 : decode cX5_readHeader 38 = .ok (.getfield 21, 3) := by decide +kernel
theorem dX5_readHeader_41 : decode cX5_readHeader 41 = .ok (.aload_n 0, 1) := by decide +kernel
theorem dX5_readHeader_42 : decode cX5_readHeader 42 = .ok (.getfield 32, 3) := by decide +kernel
theorem dX5_readHeader_45 : decode cX5_readHeader 45 = .ok (.putfield 81, 3) := by decide +kernel
theorem dX5_readHeader_48 : decode cX5_readHeader 48 = .ok (.aload_n 0, 1) := by decide +kernel
theorem dX5_readHeader_49 : decode cX5_readHeader 49 = .ok (.iconst 1, 1) := by decide +kernel
theorem dX5_readHeader_50 : decode cX5_readHeader 50 = .ok (.sipush 200, 3) := by decide +kernel
theorem dX5_readHeader_53 : decode cX5_readHeader 53 = .ok (.invokevirtual 96, 3) := by decide +kernel
theorem dX5_readHeader_56 : decode cX5_readHeader 56 = .ok (.ifCond .ne 5, 3) := by decide +kernel
theorem dX5_readHeader_59 : decode cX5_readHeader 59 = .ok (.iconst 0, 1) := by decide +kernel
theorem dX5_readHeader_60 : decode cX5_readHeader 60 = .ok (.ireturn, 1) := by decide +kernel
theorem dX5_readHeader_61 : decode cX5_readHeader 61 = .ok (.aload_n 0, 1) := by decide +kernel
theorem dX5_readHeader_62 : decode cX5_readHeader 62 = .ok (.getfield 21, 3) := by decide +kernel
theorem dX5_readHeader_65 : decode cX5_readHeader 65 = .ok (.aload_n 0, 1) := by decide +kernel
theorem dX5_readHeader_66 : decode cX5_readHeader 66 = .ok (.getfield 32, 3) := by decide +kernel
theorem dX5_readHeader_69 : decode cX5_readHeader 69 = .ok (.putfield 99, 3) := by decide +kernel
theorem dX5_readHeader_72 : decode cX5_readHeader 72 = .ok (.iconst 1, 1) := by decide +kernel
theorem dX5_readHeader_73 : decode cX5_readHeader 73 = .ok (.ireturn, 1) := by decide +kernel
theorem dX5_readItem_0 : decode cX5_readItem 0 = .ok (.aload_n 0, 1) := by decide +kernel
theorem dX5_readItem_1 : decode cX5_readItem 1 = .ok (.getfield 12, 3) := by decide +kernel
theorem dX5_readItem_4 : decode cX5_readItem 4 = .ok (.ldc 102, 2) := by decide +kernel
theorem dX5_readItem_6 : decode cX5_readItem 6 = .ok (.invokevirtual 92, 3) := by decide +kernel
theorem dX5_readItem_9 : decode cX5_readItem 9 = .ok (.ifCond .eq 8, 3) := by decide +kernel
theorem dX5_readItem_12 : decode cX5_readItem 12 = .ok (.aload_n 0, 1) := by decide +kernel
theorem dX5_readItem_13 : decode cX5_readItem 13 = .ok (.invokevirtual 104, 3) := by decide +kernel
theorem dX5_readItem_16 : decode cX5_readItem 16 = .ok (.ireturn, 1) := by decide +kernel
theorem dX5_readItem_17 : decode cX5_readItem 17 = .ok (.aload_n 0, 1) := by decide +kernel
theorem dX5_readItem_18 : decode cX5_readItem 18 = .ok (.getfield 12, 3) := by decide +kernel
theorem dX5_readItem_21 : decode cX5_readItem 21 = .ok (.ldc 107, 2) := by decide +kernel
theorem dX5_readItem_23 : decode cX5_readItem 23 = .ok (.invokevirtual 92, 3) := by decide +kernel
theorem dX5_readItem_26 : decode cX5_readItem 26 = .ok (.ifCond .eq 8, 3) := by decide +kernel
theorem dX5_readItem_29 : decode cX5_readItem 29 = .ok (.aload_n 0, 1) := by decide +kernel
theorem dX5_readItem_30 : decode cX5_readItem 30 = .ok (.invokevirtual 109, 3) := by decide +kernel
theorem dX5_readItem_33 : decode cX5_readItem 33 = .ok (.ireturn, 1) := by decide +kernel
theorem dX5_readItem_34 : decode cX5_readItem 34 = .ok (.aload_n 0, 1) := by decide +kernel
theorem dX5_readItem_35 : decode cX5_readItem 35 = .ok (.getfield 12, 3) := by decide +kernel
theorem dX5_readItem_38 : decode cX5_readItem 38 = .ok (.ldc 112, 2) := by decide +kernel
theorem dX5_readItem_40 : decode cX5_readItem 40 = .ok (.invokevirtual 92, 3) := by decide +kernel
theorem dX5_readItem_43 : decode cX5_readItem 43 = .ok (.ifCond .eq 8, 3) := by decide +kernel
theorem dX5_readItem_46 : decode cX5_readItem 46 = .ok (.aload_n 0, 1) := by decide +kernel
theorem dX5_readItem_47 : decode cX5_readItem 47 = .ok (.invokevirtual 114, 3) := by decide +kernel
theorem dX5_readItem_50 : decode cX5_readItem 50 = .ok (.ireturn, 1) := by decide +kernel
theorem dX5_readItem_51 : decode cX5_readItem 51 = .ok (.aload_n 0, 1) := by decide +kernel
theorem dX5_readItem_52 : decode cX5_readItem 52 = .ok (.getfield 12, 3) := by decide +kernel
theorem dX5_readItem_55 : decode cX5_readItem 55 = .ok (.ldc 117, 2) := by decide +kernel
theorem dX5_readItem_57 : decode cX5_readItem 57 = .ok (.invokevirtual 92, 3) := by decide +kernel
theorem dX5_readItem_60 : decode cX5_readItem 60 = .ok (.ifCond .eq 8, 3) := by decide +kernel
theorem dX5_readItem_63 : decode cX5_readItem 63 = .ok (.aload_n 0, 1) := by decide +kernel
theorem dX5_readItem_64 : decode cX5_readItem 64 = .ok (.invokevirtual 119, 3) := by decide +kernel
theorem dX5_readItem_67 : decode cX5_readItem 67 = .ok (.ireturn, 1) := by decide +kernel
theorem dX5_readItem_68 : decode cX5_readItem 68 = .ok (.aload_n 0, 1) := by decide +kernel
theorem dX5_readItem_69 : decode cX5_readItem 69 = .ok (.getfield 12, 3) := by decide +kernel
theorem dX5_readItem_72 : decode cX5_readItem 72 = .ok (.ldc 122, 2) := by decide +kernel
theorem dX5_readItem_74 : decode cX5_readItem 74 = .ok (.invokevirtual 92, 3) := by decide +kernel
theorem dX5_readItem_77 : decode cX5_readItem 77 = .ok (.ifCond .eq 8, 3) := by decide +kernel
theorem dX5_readItem_80 : decode cX5_readItem 80 = .ok (.aload_n 0, 1) := by decide +kernel
theorem dX5_readItem_81 : decode cX5_readItem 81 = .ok (.invokevirtual 124, 3) := by decide +kernel
theorem dX5_readItem_84 : decode cX5_readItem 84 = .ok (.ireturn, 1) := by decide +kernel
theorem dX5_readItem_85 : decode cX5_readItem 85 = .ok (.aload_n 0, 1) := by decide +kernel
theorem dX5_readItem_86 : decode cX5_readItem 86 = .ok (.getfield 12, 3) := by decide +kernel
theorem dX5_readItem_89 : decode cX5_readItem 89 = .ok (.ldc 127, 2) := by decide +kernel
theorem dX5_readItem_91 : decode cX5_readItem 91 = .ok (.invokevirtual 92, 3) := by decide +kernel
theorem dX5_readItem_94 : decode cX5_readItem 94 = .ok (.ifCond .eq 8, 3) := by decide +kernel
theorem dX5_readItem_97 : decode cX5_readItem 97 = .ok (.aload_n 0, 1) := by decide +kernel
theorem dX5_readItem_98 : decode cX5_readItem 98 = .ok (.invokevirtual 129, 3) := by decide +kernel
theorem dX5_readItem_101 : decode cX5_readItem 101 = .ok (.ireturn, 1) := by decide +kernel
theorem dX5_readItem_102 : decode cX5_readItem 102 = .ok (.aload_n 0, 1) := by decide +kernel
theorem dX5_readItem_103 : decode cX5_readItem 103 = .ok (.getfield 12, 3) := by decide +kernel
theorem dX5_readItem_106 : decode cX5_readItem 106 = .ok (.ldc 132, 2) := by decide +kernel
theorem dX5_readItem_108 : decode cX5_readItem 108 = .ok (.invokevirtual 92, 3) := by decide +kernel
theorem dX5_readItem_111 : decode cX5_readItem 111 = .ok (.ifCond .eq 8, 3) := by decide +kernel
theorem dX5_readItem_114 : decode cX5_readItem 114 = .ok (.aload_n 0, 1) := by decide +kernel
theorem dX5_readItem_115 : decode cX5_readItem 115 = .ok (.invokevirtual 134, 3) := by decide +kernel
theorem dX5_readItem_118 : decode cX5_readItem 118 = .ok (.ireturn, 1) := by decide +kernel
theorem dX5_readItem_119 : decode cX5_readItem 119 = .ok (.aload_n 0, 1) := by decide +kernel
theorem dX5_readItem_120 : decode cX5_readItem 120 = .ok (.getfield 12, 3) := by decide +kernel
theorem dX5_readItem_123 : decode cX5_readItem 123 = .ok (.ldc 137, 2) := by decide +kernel
theorem dX5_readItem_125 : decode cX5_readItem 125 = .ok (.invokevirtual 92, 3) := by decide +kernel
theorem dX5_readItem_128 : decode cX5_readItem 128 = .ok (.ifCond .eq 8, 3) := by decide +kernel
theorem dX5_readItem_131 : decode cX5_readItem 131 = .ok (.aload_n 0, 1) := by decide +kernel
theorem dX5_readItem_132 : decode cX5_readItem 132 = .ok (.invokevirtual 139, 3) := by decide +kernel
theorem dX5_readItem_135 : decode cX5_readItem 135 = .ok (.ireturn, 1) := by decide +kernel
theorem dX5_readItem_136 : decode cX5_readItem 136 = .ok (.aload_n 0, 1) := by decide +kernel
theorem dX5_readItem_137 : decode cX5_readItem 137 = .ok (.getfield 12, 3) := by decide +kernel
theorem dX5_readItem_140 : decode cX5_readItem 140 = .ok (.ldc 142, 2) := by decide +kernel
theorem dX5_readItem_142 : decode cX5_readItem 142 = .ok (.invokevirtual 92, 3) := by decide +kernel
theorem dX5_readItem_145 : decode cX5_readItem 145 = .ok (.ifCond .eq 8, 3) := by decide +kernel
theorem dX5_readItem_148 : decode cX5_readItem 148 = .ok (.aload_n 0, 1) := by decide +kernel
theorem dX5_readItem_149 : decode cX5_readItem 149 = .ok (.invokevirtual 144, 3) := by decide +kernel
theorem dX5_readItem_152 : decode cX5_readItem 152 = .ok (.ireturn, 1) := by decide +kernel
theorem dX5_readItem_153 : decode cX5_readItem 153 = .ok (.aload_n 0, 1) := by decide +kernel
theorem dX5_readItem_154 : decode cX5_readItem 154 = .ok (.getfield 12, 3) := by decide +kernel
theorem dX5_readItem_157 : decode cX5_readItem 157 = .ok (.ldc 147, 2) := by decide +kernel
theorem dX5_readItem_159 : decode cX5_readItem 159 = .ok (.invokevirtual 92, 3) := by decide +kernel
theorem dX5_readItem_162 : decode cX5_readItem 162 = .ok (.ifCond .eq 8, 3) := by decide +kernel
theorem dX5_readItem_165 : decode cX5_readItem 165 = .ok (.aload_n 0, 1) := by decide +kernel
theorem dX5_readItem_166 : decode cX5_readItem 166 = .ok (.invokevirtual 149, 3) := by decide +kernel
theorem dX5_readItem_169 : decode cX5_readItem 169 = .ok (.ireturn, 1) := by decide +kernel
theorem dX5_readItem_170 : decode cX5_readItem 170 = .ok (.aload_n 0, 1) := by decide +kernel
theorem dX5_readItem_171 : decode cX5_readItem 171 = .ok (.getfield 12, 3) := by decide +kernel
theorem dX5_readItem_174 : decode cX5_readItem 174 = .ok (.ldc 152, 2) := by decide +kernel
theorem dX5_readItem_176 : decode cX5_readItem 176 = .ok (.invokevirtual 92, 3) := by decide +kernel
theorem dX5_readItem_179 : decode cX5_readItem 179 = .ok (.ifCond .eq 8, 3) := by decide +kernel
theorem dX5_readItem_182 : decode cX5_readItem 182 = .ok (.aload_n 0, 1) := by decide +kernel
theorem dX5_readItem_183 : decode cX5_readItem 183 = .ok (.invokevirtual 154, 3) := by decide +kernel
theorem dX5_readItem_186 : decode cX5_readItem 186 = .ok (.ireturn, 1) := by decide +kernel
theorem dX5_readItem_187 : decode cX5_readItem 187 = .ok (.aload_n 0, 1) := by decide +kernel
theorem dX5_readItem_188 : decode cX5_readItem 188 = .ok (.getfield 12, 3) := by decide +kernel
theorem dX5_readItem_191 : decode cX5_readItem 191 = .ok (.ldc 157, 2) := by decide +kernel
theorem dX5_readItem_193 : decode cX5_readItem 193 = .ok (.invokevirtual 92, 3) := by decide +kernel
theorem dX5_readItem_196 : decode cX5_readItem 196 = .ok (.ifCond .eq 8, 3) := by decide +kernel
theorem dX5_readItem_199 : decode cX5_readItem 199 = .ok (.aload_n 0, 1) := by decide +kernel
theorem dX5_readItem_200 : decode cX5_readItem 200 = .ok (.invokevirtual 159, 3) := by decide +kernel
theorem dX5_readItem_203 : decode cX5_readItem 203 = .ok (.ireturn, 1) := by decide +kernel
theorem dX5_readItem_204 : decode cX5_readItem 204 = .ok (.aload_n 0, 1) := by decide +kernel
theorem dX5_readItem_205 : decode cX5_readItem 205 = .ok (.getfield 12, 3) := by decide +kernel
theorem dX5_readItem_208 : decode cX5_readItem 208 = .ok (.ldc 162, 2) := by decide +kernel
theorem dX5_readItem_210 : decode cX5_readItem 210 = .ok (.invokevirtual 92, 3) := by decide +kernel
theorem dX5_readItem_213 : decode cX5_readItem 213 = .ok (.ifCond .eq 8, 3) := by decide +kernel
theorem dX5_readItem_216 : decode cX5_readItem 216 = .ok (.aload_n 0, 1) := by decide +kernel
theorem dX5_readItem_217 : decode cX5_readItem 217 = .ok (.invokevirtual 164, 3) := by decide +kernel
theorem dX5_readItem_220 : decode cX5_readItem 220 = .ok (.ireturn, 1) := by decide +kernel
theorem dX5_readItem_221 : decode cX5_readItem 221 = .ok (.aload_n 0, 1) := by decide +kernel
theorem dX5_readItem_222 : decode cX5_readItem 222 = .ok (.getfield 12, 3) := by decide +kernel
theorem dX5_readItem_225 : decode cX5_readItem 225 = .ok (.ldc 167, 2) := by decide +kernel
