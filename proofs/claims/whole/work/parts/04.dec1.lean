theorem dX0_init_0 : decode cX0_init 0 = .ok (.aload_n 0, 1) := by decide +kernel
theorem dX0_init_1 : decode cX0_init 1 = .ok (.invokespecial 3, 3) := by decide +kernel
theorem dX0_init_4 : decode cX0_init 4 = .ok (.aload_n 0, 1) := by decide +kernel
theorem dX0_init_5 : decode cX0_init 5 = .ok (.sipush 500, 3) := by decide +kernel
theorem dX0_init_8 : decode cX0_init 8 = .ok (.newarray .int, 2) := by decide +kernel
theorem dX0_init_10 : decode cX0_init 10 = .ok (.putfield 9, 3) := by decide +kernel
theorem dX0_init_13 : decode cX0_init 13 = .ok (.aload_n 0, 1) := by decide +kernel
theorem dX0_init_14 : decode cX0_init 14 = .ok (.iconst 0, 1) := by decide +kernel
theorem dX0_init_15 : decode cX0_init 15 = .ok (.putfield 15, 3) := by decide +kernel
theorem dX0_init_18 : decode cX0_init 18 = .ok (.aload_n 0, 1) := by decide +kernel
theorem dX0_init_19 : decode cX0_init 19 = .ok (.sipush 400, 3) := by decide +kernel
theorem dX0_init_22 : decode cX0_init 22 = .ok (.newarray .int, 2) := by decide +kernel
theorem dX0_init_24 : decode cX0_init 24 = .ok (.putfield 19, 3) := by decide +kernel
theorem dX0_init_27 : decode cX0_init 27 = .ok (.aload_n 0, 1) := by decide +kernel
theorem dX0_init_28 : decode cX0_init 28 = .ok (.iconst 0, 1) := by decide +kernel
theorem dX0_init_29 : decode cX0_init 29 = .ok (.putfield 22, 3) := by decide +kernel
theorem dX0_init_32 : decode cX0_init 32 = .ok (.aload_n 0, 1) := by decide +kernel
theorem dX0_init_33 : decode cX0_init 33 = .ok (.iconst 0, 1) := by decide +kernel
theorem dX0_init_34 : decode cX0_init 34 = .ok (.putfield 25, 3) := by decide +kernel
theorem dX0_init_37 : decode cX0_init 37 = .ok (.aload_n 0, 1) := by decide +kernel
theorem dX0_init_38 : decode cX0_init 38 = .ok (.iconst 3, 1) := by decide +kernel
theorem dX0_init_39 : decode cX0_init 39 = .ok (.newarray .int, 2) := by decide +kernel
theorem dX0_init_41 : decode cX0_init 41 = .ok (.putfield 28, 3) := by decide +kernel
theorem dX0_init_44 : decode cX0_init 44 = .ok (.aload_n 0, 1) := by decide +kernel
theorem dX0_init_45 : decode cX0_init 45 = .ok (.iconst 3, 1) := by decide +kernel
theorem dX0_init_46 : decode cX0_init 46 = .ok (.newarray .int, 2) := by decide +kernel
theorem dX0_init_48 : decode cX0_init 48 = .ok (.putfield 31, 3) := by decide +kernel
theorem dX0_init_51 : decode cX0_init 51 = .ok (.aload_n 0, 1) := by decide +kernel
theorem dX0_init_52 : decode cX0_init 52 = .ok (.iconst 0, 1) := by decide +kernel
theorem dX0_init_53 : decode cX0_init 53 = .ok (.putfield 34, 3) := by decide +kernel
theorem dX0_init_56 : decode cX0_init 56 = .ok (.return_, 1) := by decide +kernel
theorem dX0_clear_0 : decode cX0_clear 0 = .ok (.aload_n 0, 1) := by decide +kernel
theorem dX0_clear_1 : decode cX0_clear 1 = .ok (.iconst 0, 1) := by decide +kernel
theorem dX0_clear_2 : decode cX0_clear 2 = .ok (.putfield 15, 3) := by decide +kernel
theorem dX0_clear_5 : decode cX0_clear 5 = .ok (.aload_n 0, 1) := by decide +kernel
theorem dX0_clear_6 : decode cX0_clear 6 = .ok (.iconst 0, 1) := by decide +kernel
theorem dX0_clear_7 : decode cX0_clear 7 = .ok (.putfield 22, 3) := by decide +kernel
theorem dX0_clear_10 : decode cX0_clear 10 = .ok (.aload_n 0, 1) := by decide +kernel
theorem dX0_clear_11 : decode cX0_clear 11 = .ok (.iconst 0, 1) := by decide +kernel
theorem dX0_clear_12 : decode cX0_clear 12 = .ok (.putfield 25, 3) := by decide +kernel
theorem dX0_clear_15 : decode cX0_clear 15 = .ok (.aload_n 0, 1) := by decide +kernel
theorem dX0_clear_16 : decode cX0_clear 16 = .ok (.iconst 0, 1) := by decide +kernel
theorem dX0_clear_17 : decode cX0_clear 17 = .ok (.putfield 34, 3) := by decide +kernel
theorem dX0_clear_20 : decode cX0_clear 20 = .ok (.return_, 1) := by decide +kernel
theorem dX0_isOpening_0 : decode cX0_isOpening 0 = .ok (.iload_n 0, 1) := by decide +kernel
theorem dX0_isOpening_1 : decode cX0_isOpening 1 = .ok (.bipush 101, 2) := by decide +kernel
theorem dX0_isOpening_3 : decode cX0_isOpening 3 = .ok (.if_icmp .eq 16, 3) := by decide +kernel
theorem dX0_isOpening_6 : decode cX0_isOpening 6 = .ok (.iload_n 0, 1) := by decide +kernel
theorem dX0_isOpening_7 : decode cX0_isOpening 7 = .ok (.bipush 102, 2) := by decide +kernel
theorem dX0_isOpening_9 : decode cX0_isOpening 9 = .ok (.if_icmp .eq 10, 3) := by decide +kernel
theorem dX0_isOpening_12 : decode cX0_isOpening 12 = .ok (.iload_n 0, 1) := by decide +kernel
theorem dX0_isOpening_13 : decode cX0_isOpening 13 = .ok (.sipush 200, 3) := by decide +kernel
theorem dX0_isOpening_16 : decode cX0_isOpening 16 = .ok (.if_icmp .lt 7, 3) := by decide +kernel
theorem dX0_isOpening_19 : decode cX0_isOpening 19 = .ok (.iconst 1, 1) := by decide +kernel
theorem dX0_isOpening_20 : decode cX0_isOpening 20 = .ok (.goto 4, 3) := by decide +kernel
theorem dX0_isOpening_23 : decode cX0_isOpening 23 = .ok (.iconst 0, 1) := by decide +kernel
theorem dX0_isOpening_24 : decode cX0_isOpening 24 = .ok (.ireturn, 1) := by decide +kernel
theorem dX0_isNestingFull_0 : decode cX0_isNestingFull 0 = .ok (.aload_n 0, 1) := by decide +kernel
theorem dX0_isNestingFull_1 : decode cX0_isNestingFull 1 = .ok (.getfield 34, 3) := by decide +kernel
theorem dX0_isNestingFull_4 : decode cX0_isNestingFull 4 = .ok (.iconst 3, 1) := by decide +kernel
theorem dX0_isNestingFull_5 : decode cX0_isNestingFull 5 = .ok (.if_icmp .lt 7, 3) := by decide +kernel
theorem dX0_isNestingFull_8 : decode cX0_isNestingFull 8 = .ok (.iconst 1, 1) := by decide +kernel
theorem dX0_isNestingFull_9 : decode cX0_isNestingFull 9 = .ok (.goto 4, 3) := by decide +kernel
theorem dX0_isNestingFull_12 : decode cX0_isNestingFull 12 = .ok (.iconst 0, 1) := by decide +kernel
theorem dX0_isNestingFull_13 : decode cX0_isNestingFull 13 = .ok (.ireturn, 1) := by decide +kernel
theorem dX0_addCard_0 : decode cX0_addCard 0 = .ok (.aload_n 0, 1) := by decide +kernel
theorem dX0_addCard_1 : decode cX0_addCard 1 = .ok (.getfield 22, 3) := by decide +kernel
theorem dX0_addCard_4 : decode cX0_addCard 4 = .ok (.aload_n 0, 1) := by decide +kernel
theorem dX0_addCard_5 : decode cX0_addCard 5 = .ok (.aload_n 0, 1) := by decide +kernel
theorem dX0_addCard_6 : decode cX0_addCard 6 = .ok (.getfield 34, 3) := by decide +kernel
theorem dX0_addCard_9 : decode cX0_addCard 9 = .ok (.invokevirtual 37, 3) := by decide +kernel
theorem dX0_addCard_12 : decode cX0_addCard 12 = .ok (.isub, 1) := by decide +kernel
theorem dX0_addCard_13 : decode cX0_addCard 13 = .ok (.bipush 100, 2) := by decide +kernel
theorem dX0_addCard_15 : decode cX0_addCard 15 = .ok (.if_icmp .lt 5, 3) := by decide +kernel
theorem dX0_addCard_18 : decode cX0_addCard 18 = .ok (.iconst 0, 1) := by decide +kernel
theorem dX0_addCard_19 : decode cX0_addCard 19 = .ok (.ireturn, 1) := by decide +kernel
theorem dX0_addCard_20 : decode cX0_addCard 20 = .ok (.aload_n 0, 1) := by decide +kernel
theorem dX0_addCard_21 : decode cX0_addCard 21 = .ok (.iload_n 1, 1) := by decide +kernel
theorem dX0_addCard_22 : decode cX0_addCard 22 = .ok (.invokevirtual 41, 3) := by decide +kernel
theorem dX0_addCard_25 : decode cX0_addCard 25 = .ok (.aload_n 0, 1) := by decide +kernel
theorem dX0_addCard_26 : decode cX0_addCard 26 = .ok (.getfield 19, 3) := by decide +kernel
theorem dX0_addCard_29 : decode cX0_addCard 29 = .ok (.aload_n 0, 1) := by decide +kernel
theorem dX0_addCard_30 : decode cX0_addCard 30 = .ok (.getfield 22, 3) := by decide +kernel
theorem dX0_addCard_33 : decode cX0_addCard 33 = .ok (.iload_n 1, 1) := by decide +kernel
theorem dX0_addCard_34 : decode cX0_addCard 34 = .ok (.invokestatic 45, 3) := by decide +kernel
theorem dX0_addCard_37 : decode cX0_addCard 37 = .ok (.aload_n 0, 1) := by decide +kernel
theorem dX0_addCard_38 : decode cX0_addCard 38 = .ok (.dup, 1) := by decide +kernel
theorem dX0_addCard_39 : decode cX0_addCard 39 = .ok (.getfield 22, 3) := by decide +kernel
theorem dX0_addCard_42 : decode cX0_addCard 42 = .ok (.iconst 1, 1) := by decide +kernel
theorem dX0_addCard_43 : decode cX0_addCard 43 = .ok (.iadd, 1) := by decide +kernel
theorem dX0_addCard_44 : decode cX0_addCard 44 = .ok (.putfield 22, 3) := by decide +kernel
theorem dX0_addCard_47 : decode cX0_addCard 47 = .ok (.aload_n 0, 1) := by decide +kernel
theorem dX0_addCard_48 : decode cX0_addCard 48 = .ok (.aload_n 0, 1) := by decide +kernel
theorem dX0_addCard_49 : decode cX0_addCard 49 = .ok (.getfield 25, 3) := by decide +kernel
theorem dX0_addCard_52 : decode cX0_addCard 52 = .ok (.iconst 1, 1) := by decide +kernel
theorem dX0_addCard_53 : decode cX0_addCard 53 = .ok (.invokestatic 49, 3) := by decide +kernel
theorem dX0_addCard_56 : decode cX0_addCard 56 = .ok (.putfield 25, 3) := by decide +kernel
theorem dX0_addCard_59 : decode cX0_addCard 59 = .ok (.iconst 1, 1) := by decide +kernel
theorem dX0_addCard_60 : decode cX0_addCard 60 = .ok (.ireturn, 1) := by decide +kernel
theorem dX0_openPart_0 : decode cX0_openPart 0 = .ok (.aload_n 0, 1) := by decide +kernel
theorem dX0_openPart_1 : decode cX0_openPart 1 = .ok (.iload_n 1, 1) := by decide +kernel
theorem dX0_openPart_2 : decode cX0_openPart 2 = .ok (.invokevirtual 41, 3) := by decide +kernel
theorem dX0_openPart_5 : decode cX0_openPart 5 = .ok (.aload_n 0, 1) := by decide +kernel
theorem dX0_openPart_6 : decode cX0_openPart 6 = .ok (.getfield 28, 3) := by decide +kernel
theorem dX0_openPart_9 : decode cX0_openPart 9 = .ok (.aload_n 0, 1) := by decide +kernel
theorem dX0_openPart_10 : decode cX0_openPart 10 = .ok (.getfield 34, 3) := by decide +kernel
theorem dX0_openPart_13 : decode cX0_openPart 13 = .ok (.iload_n 1, 1) := by decide +kernel
theorem dX0_openPart_14 : decode cX0_openPart 14 = .ok (.invokestatic 45, 3) := by decide +kernel
theorem dX0_openPart_17 : decode cX0_openPart 17 = .ok (.aload_n 0, 1) := by decide +kernel
theorem dX0_openPart_18 : decode cX0_openPart 18 = .ok (.getfield 31, 3) := by decide +kernel
theorem dX0_openPart_21 : decode cX0_openPart 21 = .ok (.aload_n 0, 1) := by decide +kernel
theorem dX0_openPart_22 : decode cX0_openPart 22 = .ok (.getfield 34, 3) := by decide +kernel
theorem dX0_openPart_25 : decode cX0_openPart 25 = .ok (.aload_n 0, 1) := by decide +kernel
theorem dX0_openPart_26 : decode cX0_openPart 26 = .ok (.getfield 22, 3) := by decide +kernel
theorem dX0_openPart_29 : decode cX0_openPart 29 = .ok (.invokestatic 45, 3) := by decide +kernel
theorem dX0_openPart_32 : decode cX0_openPart 32 = .ok (.aload_n 0, 1) := by decide +kernel
theorem dX0_openPart_33 : decode cX0_openPart 33 = .ok (.dup, 1) := by decide +kernel
theorem dX0_openPart_34 : decode cX0_openPart 34 = .ok (.getfield 34, 3) := by decide +kernel
theorem dX0_openPart_37 : decode cX0_openPart 37 = .ok (.iconst 1, 1) := by decide +kernel
theorem dX0_openPart_38 : decode cX0_openPart 38 = .ok (.iadd, 1) := by decide +kernel
theorem dX0_openPart_39 : decode cX0_openPart 39 = .ok (.putfield 34, 3) := by decide +kernel
theorem dX0_openPart_42 : decode cX0_openPart 42 = .ok (.aload_n 0, 1) := by decide +kernel
theorem dX0_openPart_43 : decode cX0_openPart 43 = .ok (.aload_n 0, 1) := by decide +kernel
theorem dX0_openPart_44 : decode cX0_openPart 44 = .ok (.getfield 25, 3) := by decide +kernel
theorem dX0_openPart_47 : decode cX0_openPart 47 = .ok (.aload_n 0, 1) := by decide +kernel
theorem dX0_openPart_48 : decode cX0_openPart 48 = .ok (.getfield 34, 3) := by decide +kernel
theorem dX0_openPart_51 : decode cX0_openPart 51 = .ok (.iconst 1, 1) := by decide +kernel
theorem dX0_openPart_52 : decode cX0_openPart 52 = .ok (.iadd, 1) := by decide +kernel
theorem dX0_openPart_53 : decode cX0_openPart 53 = .ok (.invokestatic 49, 3) := by decide +kernel
theorem dX0_openPart_56 : decode cX0_openPart 56 = .ok (.putfield 25, 3) := by decide +kernel
theorem dX0_openPart_59 : decode cX0_openPart 59 = .ok (.return_, 1) := by decide +kernel
theorem dX0_closePart_0 : decode cX0_closePart 0 = .ok (.aload_n 0, 1) := by decide +kernel
theorem dX0_closePart_1 : decode cX0_closePart 1 = .ok (.aload_n 0, 1) := by decide +kernel
theorem dX0_closePart_2 : decode cX0_closePart 2 = .ok (.getfield 34, 3) := by decide +kernel
theorem dX0_closePart_5 : decode cX0_closePart 5 = .ok (.invokevirtual 37, 3) := by decide +kernel
theorem dX0_closePart_8 : decode cX0_closePart 8 = .ok (.istore_n 1, 1) := by decide +kernel
theorem dX0_closePart_9 : decode cX0_closePart 9 = .ok (.aload_n 0, 1) := by decide +kernel
theorem dX0_closePart_10 : decode cX0_closePart 10 = .ok (.getfield 28, 3) := by decide +kernel
theorem dX0_closePart_13 : decode cX0_closePart 13 = .ok (.aload_n 0, 1) := by decide +kernel
theorem dX0_closePart_14 : decode cX0_closePart 14 = .ok (.getfield 34, 3) := by decide +kernel
theorem dX0_closePart_17 : decode cX0_closePart 17 = .ok (.iconst 1, 1) := by decide +kernel
theorem dX0_closePart_18 : decode cX0_closePart 18 = .ok (.isub, 1) := by decide +kernel
theorem dX0_closePart_19 : decode cX0_closePart 19 = .ok (.invokestatic 55, 3) := by decide +kernel
theorem dX0_closePart_22 : decode cX0_closePart 22 = .ok (.istore_n 2, 1) := by decide +kernel
theorem dX0_closePart_23 : decode cX0_closePart 23 = .ok (.iload_n 1, 1) := by decide +kernel
theorem dX0_closePart_24 : decode cX0_closePart 24 = .ok (.aload_n 0, 1) := by decide +kernel
theorem dX0_closePart_25 : decode cX0_closePart 25 = .ok (.aload_n 0, 1) := by decide +kernel
theorem dX0_closePart_26 : decode cX0_closePart 26 = .ok (.getfield 34, 3) := by decide +kernel
theorem dX0_closePart_29 : decode cX0_closePart 29 = .ok (.iconst 1, 1) := by decide +kernel
theorem dX0_closePart_30 : decode cX0_closePart 30 = .ok (.isub, 1) := by decide +kernel
theorem dX0_closePart_31 : decode cX0_closePart 31 = .ok (.invokevirtual 37, 3) := by decide +kernel
theorem dX0_closePart_34 : decode cX0_closePart 34 = .ok (.isub, 1) := by decide +kernel
theorem dX0_closePart_35 : decode cX0_closePart 35 = .ok (.istore_n 3, 1) := by decide +kernel
theorem dX0_closePart_36 : decode cX0_closePart 36 = .ok (.iload_n 3, 1) := by decide +kernel
theorem dX0_closePart_37 : decode cX0_closePart 37 = .ok (.iload_n 2, 1) := by decide +kernel
theorem dX0_closePart_38 : decode cX0_closePart 38 = .ok (.aload_n 0, 1) := by decide +kernel
theorem dX0_closePart_39 : decode cX0_closePart 39 = .ok (.getfield 22, 3) := by decide +kernel
theorem dX0_closePart_42 : decode cX0_closePart 42 = .ok (.iload_n 1, 1) := by decide +kernel
theorem dX0_closePart_43 : decode cX0_closePart 43 = .ok (.isub, 1) := by decide +kernel
theorem dX0_closePart_44 : decode cX0_closePart 44 = .ok (.invokestatic 59, 3) := by decide +kernel
theorem dX0_closePart_47 : decode cX0_closePart 47 = .ok (.iadd, 1) := by decide +kernel
theorem dX0_closePart_48 : decode cX0_closePart 48 = .ok (.bipush 100, 2) := by decide +kernel
theorem dX0_closePart_50 : decode cX0_closePart 50 = .ok (.if_icmp .le 5, 3) := by decide +kernel
theorem dX0_closePart_53 : decode cX0_closePart 53 = .ok (.iconst 0, 1) := by decide +kernel
theorem dX0_closePart_54 : decode cX0_closePart 54 = .ok (.ireturn, 1) := by decide +kernel
theorem dX0_closePart_55 : decode cX0_closePart 55 = .ok (.iload_n 2, 1) := by decide +kernel
theorem dX0_closePart_56 : decode cX0_closePart 56 = .ok (.bipush 101, 2) := by decide +kernel
theorem dX0_closePart_58 : decode cX0_closePart 58 = .ok (.if_icmp .ne 17, 3) := by decide +kernel
theorem dX0_closePart_61 : decode cX0_closePart 61 = .ok (.aload_n 0, 1) := by decide +kernel
theorem dX0_closePart_62 : decode cX0_closePart 62 = .ok (.iload_n 1, 1) := by decide +kernel
theorem dX0_closePart_63 : decode cX0_closePart 63 = .ok (.aload_n 0, 1) := by decide +kernel
theorem dX0_closePart_64 : decode cX0_closePart 64 = .ok (.getfield 22, 3) := by decide +kernel
theorem dX0_closePart_67 : decode cX0_closePart 67 = .ok (.iconst 2, 1) := by decide +kernel
theorem dX0_closePart_68 : decode cX0_closePart 68 = .ok (.isub, 1) := by decide +kernel
theorem dX0_closePart_69 : decode cX0_closePart 69 = .ok (.invokevirtual 62, 3) := by decide +kernel
theorem dX0_closePart_72 : decode cX0_closePart 72 = .ok (.goto 42, 3) := by decide +kernel
theorem dX0_closePart_75 : decode cX0_closePart 75 = .ok (.iload_n 2, 1) := by decide +kernel
theorem dX0_closePart_76 : decode cX0_closePart 76 = .ok (.bipush 102, 2) := by decide +kernel
theorem dX0_closePart_78 : decode cX0_closePart 78 = .ok (.if_icmp .ne 17, 3) := by decide +kernel
theorem dX0_closePart_81 : decode cX0_closePart 81 = .ok (.aload_n 0, 1) := by decide +kernel
theorem dX0_closePart_82 : decode cX0_closePart 82 = .ok (.iload_n 1, 1) := by decide +kernel
theorem dX0_closePart_83 : decode cX0_closePart 83 = .ok (.aload_n 0, 1) := by decide +kernel
theorem dX0_closePart_84 : decode cX0_closePart 84 = .ok (.getfield 22, 3) := by decide +kernel
theorem dX0_closePart_87 : decode cX0_closePart 87 = .ok (.iconst 1, 1) := by decide +kernel
theorem dX0_closePart_88 : decode cX0_closePart 88 = .ok (.isub, 1) := by decide +kernel
theorem dX0_closePart_89 : decode cX0_closePart 89 = .ok (.invokevirtual 66, 3) := by decide +kernel
theorem dX0_closePart_92 : decode cX0_closePart 92 = .ok (.goto 22, 3) := by decide +kernel
theorem dX0_closePart_95 : decode cX0_closePart 95 = .ok (.aload_n 0, 1) := by decide +kernel
theorem dX0_closePart_96 : decode cX0_closePart 96 = .ok (.iload_n 1, 1) := by decide +kernel
theorem dX0_closePart_97 : decode cX0_closePart 97 = .ok (.aload_n 0, 1) := by decide +kernel
theorem dX0_closePart_98 : decode cX0_closePart 98 = .ok (.getfield 22, 3) := by decide +kernel
theorem dX0_closePart_101 : decode cX0_closePart 101 = .ok (.iload_n 1, 1) := by decide +kernel
theorem dX0_closePart_102 : decode cX0_closePart 102 = .ok (.isub, 1) := by decide +kernel
theorem dX0_closePart_103 : decode cX0_closePart 103 = .ok (.iload_n 2, 1) := by decide +kernel
theorem dX0_closePart_104 : decode cX0_closePart 104 = .ok (.sipush 200, 3) := by decide +kernel
theorem dX0_closePart_107 : decode cX0_closePart 107 = .ok (.isub, 1) := by decide +kernel
theorem dX0_closePart_108 : decode cX0_closePart 108 = .ok (.iconst 1, 1) := by decide +kernel
theorem dX0_closePart_109 : decode cX0_closePart 109 = .ok (.isub, 1) := by decide +kernel
theorem dX0_closePart_110 : decode cX0_closePart 110 = .ok (.imul, 1) := by decide +kernel
theorem dX0_closePart_111 : decode cX0_closePart 111 = .ok (.invokevirtual 69, 3) := by decide +kernel
theorem dX0_closePart_114 : decode cX0_closePart 114 = .ok (.aload_n 0, 1) := by decide +kernel
theorem dX0_closePart_115 : decode cX0_closePart 115 = .ok (.bipush 100, 2) := by decide +kernel
theorem dX0_closePart_117 : decode cX0_closePart 117 = .ok (.invokevirtual 41, 3) := by decide +kernel
theorem dX0_closePart_120 : decode cX0_closePart 120 = .ok (.aload_n 0, 1) := by decide +kernel
theorem dX0_closePart_121 : decode cX0_closePart 121 = .ok (.dup, 1) := by decide +kernel
theorem dX0_closePart_122 : decode cX0_closePart 122 = .ok (.getfield 34, 3) := by decide +kernel
theorem dX0_closePart_125 : decode cX0_closePart 125 = .ok (.iconst 1, 1) := by decide +kernel
theorem dX0_closePart_126 : decode cX0_closePart 126 = .ok (.isub, 1) := by decide +kernel
theorem dX0_closePart_127 : decode cX0_closePart 127 = .ok (.putfield 34, 3) := by decide +kernel
theorem dX0_closePart_130 : decode cX0_closePart 130 = .ok (.iconst 1, 1) := by decide +kernel
theorem dX0_closePart_131 : decode cX0_closePart 131 = .ok (.ireturn, 1) := by decide +kernel
theorem dX0_startOfList_0 : decode cX0_startOfList 0 = .ok (.iload_n 1, 1) := by decide +kernel
theorem dX0_startOfList_1 : decode cX0_startOfList 1 = .ok (.ifCond .gt 7, 3) := by decide +kernel
theorem dX0_startOfList_4 : decode cX0_startOfList 4 = .ok (.iconst 0, 1) := by decide +kernel
theorem dX0_startOfList_5 : decode cX0_startOfList 5 = .ok (.goto 13, 3) := by decide +kernel
theorem dX0_startOfList_8 : decode cX0_startOfList 8 = .ok (.aload_n 0, 1) := by decide +kernel
theorem dX0_startOfList_9 : decode cX0_startOfList 9 = .ok (.getfield 31, 3) := by decide +kernel
theorem dX0_startOfList_12 : decode cX0_startOfList 12 = .ok (.iload_n 1, 1) := by decide +kernel
theorem dX0_startOfList_13 : decode cX0_startOfList 13 = .ok (.iconst 1, 1) := by decide +kernel
theorem dX0_startOfList_14 : decode cX0_startOfList 14 = .ok (.isub, 1) := by decide +kernel
theorem dX0_startOfList_15 : decode cX0_startOfList 15 = .ok (.invokestatic 55, 3) := by decide +kernel
theorem dX0_startOfList_18 : decode cX0_startOfList 18 = .ok (.ireturn, 1) := by decide +kernel
theorem dX0_picksWhenClosed_0 : decode cX0_picksWhenClosed 0 = .ok (.iload_n 0, 1) := by decide +kernel
theorem dX0_picksWhenClosed_1 : decode cX0_picksWhenClosed 1 = .ok (.bipush 101, 2) := by decide +kernel
theorem dX0_picksWhenClosed_3 : decode cX0_picksWhenClosed 3 = .ok (.if_icmp .ne 9, 3) := by decide +kernel
theorem dX0_picksWhenClosed_6 : decode cX0_picksWhenClosed 6 = .ok (.iconst 2, 1) := by decide +kernel
theorem dX0_picksWhenClosed_7 : decode cX0_picksWhenClosed 7 = .ok (.iload_n 1, 1) := by decide +kernel
theorem dX0_picksWhenClosed_8 : decode cX0_picksWhenClosed 8 = .ok (.imul, 1) := by decide +kernel
theorem dX0_picksWhenClosed_9 : decode cX0_picksWhenClosed 9 = .ok (.iconst 1, 1) := by decide +kernel
theorem dX0_picksWhenClosed_10 : decode cX0_picksWhenClosed 10 = .ok (.isub, 1) := by decide +kernel
theorem dX0_picksWhenClosed_11 : decode cX0_picksWhenClosed 11 = .ok (.ireturn, 1) := by decide +kernel
theorem dX0_picksWhenClosed_12 : decode cX0_picksWhenClosed 12 = .ok (.iload_n 0, 1) := by decide +kernel
theorem dX0_picksWhenClosed_13 : decode cX0_picksWhenClosed 13 = .ok (.bipush 102, 2) := by decide +kernel
theorem dX0_picksWhenClosed_15 : decode cX0_picksWhenClosed 15 = .ok (.if_icmp .ne 7, 3) := by decide +kernel
theorem dX0_picksWhenClosed_18 : decode cX0_picksWhenClosed 18 = .ok (.iload_n 1, 1) := by decide +kernel
theorem dX0_picksWhenClosed_19 : decode cX0_picksWhenClosed 19 = .ok (.goto 10, 3) := by decide +kernel
theorem dX0_picksWhenClosed_22 : decode cX0_picksWhenClosed 22 = .ok (.iload_n 1, 1) := by decide +kernel
theorem dX0_picksWhenClosed_23 : decode cX0_picksWhenClosed 23 = .ok (.iload_n 0, 1) := by decide +kernel
theorem dX0_picksWhenClosed_24 : decode cX0_picksWhenClosed 24 = .ok (.sipush 200, 3) := by decide +kernel
theorem dX0_picksWhenClosed_27 : decode cX0_picksWhenClosed 27 = .ok (.isub, 1) := by decide +kernel
theorem dX0_picksWhenClosed_28 : decode cX0_picksWhenClosed 28 = .ok (.imul, 1) := by decide +kernel
theorem dX0_picksWhenClosed_29 : decode cX0_picksWhenClosed 29 = .ok (.ireturn, 1) := by decide +kernel
theorem dX0_mirrorPicks_0 : decode cX0_mirrorPicks 0 = .ok (.iload_n 2, 1) := by decide +kernel
theorem dX0_mirrorPicks_1 : decode cX0_mirrorPicks 1 = .ok (.istore_n 3, 1) := by decide +kernel
theorem dX0_mirrorPicks_2 : decode cX0_mirrorPicks 2 = .ok (.iload_n 3, 1) := by decide +kernel
theorem dX0_mirrorPicks_3 : decode cX0_mirrorPicks 3 = .ok (.iload_n 1, 1) := by decide +kernel
theorem dX0_mirrorPicks_4 : decode cX0_mirrorPicks 4 = .ok (.if_icmp .lt 38, 3) := by decide +kernel
theorem dX0_mirrorPicks_7 : decode cX0_mirrorPicks 7 = .ok (.aload_n 0, 1) := by decide +kernel
theorem dX0_mirrorPicks_8 : decode cX0_mirrorPicks 8 = .ok (.getfield 19, 3) := by decide +kernel
theorem dX0_mirrorPicks_11 : decode cX0_mirrorPicks 11 = .ok (.aload_n 0, 1) := by decide +kernel
theorem dX0_mirrorPicks_12 : decode cX0_mirrorPicks 12 = .ok (.getfield 22, 3) := by decide +kernel
theorem dX0_mirrorPicks_15 : decode cX0_mirrorPicks 15 = .ok (.aload_n 0, 1) := by decide +kernel
theorem dX0_mirrorPicks_16 : decode cX0_mirrorPicks 16 = .ok (.getfield 19, 3) := by decide +kernel
theorem dX0_mirrorPicks_19 : decode cX0_mirrorPicks 19 = .ok (.iload_n 3, 1) := by decide +kernel
theorem dX0_mirrorPicks_20 : decode cX0_mirrorPicks 20 = .ok (.invokestatic 55, 3) := by decide +kernel
theorem dX0_mirrorPicks_23 : decode cX0_mirrorPicks 23 = .ok (.invokestatic 45, 3) := by decide +kernel
theorem dX0_mirrorPicks_26 : decode cX0_mirrorPicks 26 = .ok (.aload_n 0, 1) := by decide +kernel
theorem dX0_mirrorPicks_27 : decode cX0_mirrorPicks 27 = .ok (.dup, 1) := by decide +kernel
theorem dX0_mirrorPicks_28 : decode cX0_mirrorPicks 28 = .ok (.getfield 22, 3) := by decide +kernel
theorem dX0_mirrorPicks_31 : decode cX0_mirrorPicks 31 = .ok (.iconst 1, 1) := by decide +kernel
theorem dX0_mirrorPicks_32 : decode cX0_mirrorPicks 32 = .ok (.iadd, 1) := by decide +kernel
theorem dX0_mirrorPicks_33 : decode cX0_mirrorPicks 33 = .ok (.putfield 22, 3) := by decide +kernel
theorem dX0_mirrorPicks_36 : decode cX0_mirrorPicks 36 = .ok (.iinc 3 (-1), 3) := by decide +kernel
theorem dX0_mirrorPicks_39 : decode cX0_mirrorPicks 39 = .ok (.goto (-37), 3) := by decide +kernel
theorem dX0_mirrorPicks_42 : decode cX0_mirrorPicks 42 = .ok (.return_, 1) := by decide +kernel
theorem dX0_reversePicks_0 : decode cX0_reversePicks 0 = .ok (.iload_n 2, 1) := by decide +kernel
theorem dX0_reversePicks_1 : decode cX0_reversePicks 1 = .ok (.istore_n 3, 1) := by decide +kernel
theorem dX0_reversePicks_2 : decode cX0_reversePicks 2 = .ok (.iload_n 1, 1) := by decide +kernel
theorem dX0_reversePicks_3 : decode cX0_reversePicks 3 = .ok (.istore 4, 2) := by decide +kernel
theorem dX0_reversePicks_5 : decode cX0_reversePicks 5 = .ok (.iload 4, 2) := by decide +kernel
theorem dX0_reversePicks_7 : decode cX0_reversePicks 7 = .ok (.iload_n 3, 1) := by decide +kernel
theorem dX0_reversePicks_8 : decode cX0_reversePicks 8 = .ok (.if_icmp .ge 50, 3) := by decide +kernel
theorem dX0_reversePicks_11 : decode cX0_reversePicks 11 = .ok (.aload_n 0, 1) := by decide +kernel
theorem dX0_reversePicks_12 : decode cX0_reversePicks 12 = .ok (.getfield 19, 3) := by decide +kernel
theorem dX0_reversePicks_15 : decode cX0_reversePicks 15 = .ok (.iload 4, 2) := by decide +kernel
theorem dX0_reversePicks_17 : decode cX0_reversePicks 17 = .ok (.invokestatic 55, 3) := by decide +kernel
theorem dX0_reversePicks_20 : decode cX0_reversePicks 20 = .ok (.istore 5, 2) := by decide +kernel
theorem dX0_reversePicks_22 : decode cX0_reversePicks 22 = .ok (.aload_n 0, 1) := by decide +kernel
theorem dX0_reversePicks_23 : decode cX0_reversePicks 23 = .ok (.getfield 19, 3) := by decide +kernel
theorem dX0_reversePicks_26 : decode cX0_reversePicks 26 = .ok (.iload 4, 2) := by decide +kernel
theorem dX0_reversePicks_28 : decode cX0_reversePicks 28 = .ok (.aload_n 0, 1) := by decide +kernel
theorem dX0_reversePicks_29 : decode cX0_reversePicks 29 = .ok (.getfield 19, 3) := by decide +kernel
theorem dX0_reversePicks_32 : decode cX0_reversePicks 32 = .ok (.iload_n 3, 1) := by decide +kernel
theorem dX0_reversePicks_33 : decode cX0_reversePicks 33 = .ok (.invokestatic 55, 3) := by decide +kernel
theorem dX0_reversePicks_36 : decode cX0_reversePicks 36 = .ok (.invokestatic 45, 3) := by decide +kernel
theorem dX0_reversePicks_39 : decode cX0_reversePicks 39 = .ok (.aload_n 0, 1) := by decide +kernel
theorem dX0_reversePicks_40 : decode cX0_reversePicks 40 = .ok (.getfield 19, 3) := by decide +kernel
theorem dX0_reversePicks_43 : decode cX0_reversePicks 43 = .ok (.iload_n 3, 1) := by decide +kernel
theorem dX0_reversePicks_44 : decode cX0_reversePicks 44 = .ok (.iload 5, 2) := by decide +kernel
theorem dX0_reversePicks_46 : decode cX0_reversePicks 46 = .ok (.invokestatic 45, 3) := by decide +kernel
theorem dX0_reversePicks_49 : decode cX0_reversePicks 49 = .ok (.iinc 3 (-1), 3) := by decide +kernel
theorem dX0_reversePicks_52 : decode cX0_reversePicks 52 = .ok (.iinc 4 1, 3) := by decide +kernel
theorem dX0_reversePicks_55 : decode cX0_reversePicks 55 = .ok (.goto (-50), 3) := by decide +kernel
theorem dX0_reversePicks_58 : decode cX0_reversePicks 58 = .ok (.return_, 1) := by decide +kernel
theorem dX0_repeatPicks_0 : decode cX0_repeatPicks 0 = .ok (.iconst 0, 1) := by decide +kernel
theorem dX0_repeatPicks_1 : decode cX0_repeatPicks 1 = .ok (.istore_n 3, 1) := by decide +kernel
theorem dX0_repeatPicks_2 : decode cX0_repeatPicks 2 = .ok (.iload_n 3, 1) := by decide +kernel
theorem dX0_repeatPicks_3 : decode cX0_repeatPicks 3 = .ok (.iload_n 2, 1) := by decide +kernel
theorem dX0_repeatPicks_4 : decode cX0_repeatPicks 4 = .ok (.if_icmp .ge 40, 3) := by decide +kernel
theorem dX0_repeatPicks_7 : decode cX0_repeatPicks 7 = .ok (.aload_n 0, 1) := by decide +kernel
theorem dX0_repeatPicks_8 : decode cX0_repeatPicks 8 = .ok (.getfield 19, 3) := by decide +kernel
theorem dX0_repeatPicks_11 : decode cX0_repeatPicks 11 = .ok (.aload_n 0, 1) := by decide +kernel
theorem dX0_repeatPicks_12 : decode cX0_repeatPicks 12 = .ok (.getfield 22, 3) := by decide +kernel
theorem dX0_repeatPicks_15 : decode cX0_repeatPicks 15 = .ok (.aload_n 0, 1) := by decide +kernel
theorem dX0_repeatPicks_16 : decode cX0_repeatPicks 16 = .ok (.getfield 19, 3) := by decide +kernel
theorem dX0_repeatPicks_19 : decode cX0_repeatPicks 19 = .ok (.iload_n 1, 1) := by decide +kernel
theorem dX0_repeatPicks_20 : decode cX0_repeatPicks 20 = .ok (.iload_n 3, 1) := by decide +kernel
theorem dX0_repeatPicks_21 : decode cX0_repeatPicks 21 = .ok (.iadd, 1) := by decide +kernel
theorem dX0_repeatPicks_22 : decode cX0_repeatPicks 22 = .ok (.invokestatic 55, 3) := by decide +kernel
theorem dX0_repeatPicks_25 : decode cX0_repeatPicks 25 = .ok (.invokestatic 45, 3) := by decide +kernel
theorem dX0_repeatPicks_28 : decode cX0_repeatPicks 28 = .ok (.aload_n 0, 1) := by decide +kernel
theorem dX0_repeatPicks_29 : decode cX0_repeatPicks 29 = .ok (.dup, 1) := by decide +kernel
theorem dX0_repeatPicks_30 : decode cX0_repeatPicks 30 = .ok (.getfield 22, 3) := by decide +kernel
theorem dX0_repeatPicks_33 : decode cX0_repeatPicks 33 = .ok (.iconst 1, 1) := by decide +kernel
theorem dX0_repeatPicks_34 : decode cX0_repeatPicks 34 = .ok (.iadd, 1) := by decide +kernel
theorem dX0_repeatPicks_35 : decode cX0_repeatPicks 35 = .ok (.putfield 22, 3) := by decide +kernel
theorem dX0_repeatPicks_38 : decode cX0_repeatPicks 38 = .ok (.iinc 3 1, 3) := by decide +kernel
theorem dX0_repeatPicks_41 : decode cX0_repeatPicks 41 = .ok (.goto (-39), 3) := by decide +kernel
theorem dX0_repeatPicks_44 : decode cX0_repeatPicks 44 = .ok (.return_, 1) := by decide +kernel
theorem dX0_addPart_0 : decode cX0_addPart 0 = .ok (.aload_n 0, 1) := by decide +kernel
theorem dX0_addPart_1 : decode cX0_addPart 1 = .ok (.getfield 9, 3) := by decide +kernel
theorem dX0_addPart_4 : decode cX0_addPart 4 = .ok (.aload_n 0, 1) := by decide +kernel
theorem dX0_addPart_5 : decode cX0_addPart 5 = .ok (.getfield 15, 3) := by decide +kernel
theorem dX0_addPart_8 : decode cX0_addPart 8 = .ok (.iload_n 1, 1) := by decide +kernel
theorem dX0_addPart_9 : decode cX0_addPart 9 = .ok (.invokestatic 45, 3) := by decide +kernel
theorem dX0_addPart_12 : decode cX0_addPart 12 = .ok (.aload_n 0, 1) := by decide +kernel
theorem dX0_addPart_13 : decode cX0_addPart 13 = .ok (.dup, 1) := by decide +kernel
theorem dX0_addPart_14 : decode cX0_addPart 14 = .ok (.getfield 15, 3) := by decide +kernel
theorem dX0_addPart_17 : decode cX0_addPart 17 = .ok (.iconst 1, 1) := by decide +kernel
theorem dX0_addPart_18 : decode cX0_addPart 18 = .ok (.iadd, 1) := by decide +kernel
theorem dX0_addPart_19 : decode cX0_addPart 19 = .ok (.putfield 15, 3) := by decide +kernel
theorem dX0_addPart_22 : decode cX0_addPart 22 = .ok (.return_, 1) := by decide +kernel
theorem dX0_cardForRow_0 : decode cX0_cardForRow 0 = .ok (.aload_n 0, 1) := by decide +kernel
theorem dX0_cardForRow_1 : decode cX0_cardForRow 1 = .ok (.getfield 22, 3) := by decide +kernel
theorem dX0_cardForRow_4 : decode cX0_cardForRow 4 = .ok (.ifCond .gt 7, 3) := by decide +kernel
theorem dX0_cardForRow_7 : decode cX0_cardForRow 7 = .ok (.iconst (-1), 1) := by decide +kernel
theorem dX0_cardForRow_8 : decode cX0_cardForRow 8 = .ok (.goto 16, 3) := by decide +kernel
theorem dX0_cardForRow_11 : decode cX0_cardForRow 11 = .ok (.aload_n 0, 1) := by decide +kernel
theorem dX0_cardForRow_12 : decode cX0_cardForRow 12 = .ok (.getfield 19, 3) := by decide +kernel
theorem dX0_cardForRow_15 : decode cX0_cardForRow 15 = .ok (.iload_n 1, 1) := by decide +kernel
theorem dX0_cardForRow_16 : decode cX0_cardForRow 16 = .ok (.aload_n 0, 1) := by decide +kernel
theorem dX0_cardForRow_17 : decode cX0_cardForRow 17 = .ok (.getfield 22, 3) := by decide +kernel
theorem dX0_cardForRow_20 : decode cX0_cardForRow 20 = .ok (.irem, 1) := by decide +kernel
theorem dX0_cardForRow_21 : decode cX0_cardForRow 21 = .ok (.invokestatic 55, 3) := by decide +kernel
theorem dX0_cardForRow_24 : decode cX0_cardForRow 24 = .ok (.ireturn, 1) := by decide +kernel
theorem dX0_countPicks_0 : decode cX0_countPicks 0 = .ok (.iconst 0, 1) := by decide +kernel
theorem dX0_countPicks_1 : decode cX0_countPicks 1 = .ok (.istore_n 2, 1) := by decide +kernel
theorem dX0_countPicks_2 : decode cX0_countPicks 2 = .ok (.iconst 0, 1) := by decide +kernel
theorem dX0_countPicks_3 : decode cX0_countPicks 3 = .ok (.istore_n 3, 1) := by decide +kernel
theorem dX0_countPicks_4 : decode cX0_countPicks 4 = .ok (.iload_n 3, 1) := by decide +kernel
theorem dX0_countPicks_5 : decode cX0_countPicks 5 = .ok (.aload_n 0, 1) := by decide +kernel
theorem dX0_countPicks_6 : decode cX0_countPicks 6 = .ok (.getfield 22, 3) := by decide +kernel
theorem dX0_countPicks_9 : decode cX0_countPicks 9 = .ok (.if_icmp .ge 24, 3) := by decide +kernel
theorem dX0_countPicks_12 : decode cX0_countPicks 12 = .ok (.aload_n 0, 1) := by decide +kernel
theorem dX0_countPicks_13 : decode cX0_countPicks 13 = .ok (.getfield 19, 3) := by decide +kernel
theorem dX0_countPicks_16 : decode cX0_countPicks 16 = .ok (.iload_n 3, 1) := by decide +kernel
theorem dX0_countPicks_17 : decode cX0_countPicks 17 = .ok (.invokestatic 55, 3) := by decide +kernel
theorem dX0_countPicks_20 : decode cX0_countPicks 20 = .ok (.iload_n 1, 1) := by decide +kernel
theorem dX0_countPicks_21 : decode cX0_countPicks 21 = .ok (.if_icmp .ne 6, 3) := by decide +kernel
theorem dX0_countPicks_24 : decode cX0_countPicks 24 = .ok (.iinc 2 1, 3) := by decide +kernel
theorem dX0_countPicks_27 : decode cX0_countPicks 27 = .ok (.iinc 3 1, 3) := by decide +kernel
theorem dX0_countPicks_30 : decode cX0_countPicks 30 = .ok (.goto (-26), 3) := by decide +kernel
theorem dX0_countPicks_33 : decode cX0_countPicks 33 = .ok (.iload_n 2, 1) := by decide +kernel
theorem dX0_countPicks_34 : decode cX0_countPicks 34 = .ok (.ireturn, 1) := by decide +kernel
theorem dX0_leastPeriod_0 : decode cX0_leastPeriod 0 = .ok (.iconst 1, 1) := by decide +kernel
theorem dX0_leastPeriod_1 : decode cX0_leastPeriod 1 = .ok (.istore_n 1, 1) := by decide +kernel
theorem dX0_leastPeriod_2 : decode cX0_leastPeriod 2 = .ok (.iload_n 1, 1) := by decide +kernel
theorem dX0_leastPeriod_3 : decode cX0_leastPeriod 3 = .ok (.aload_n 0, 1) := by decide +kernel
theorem dX0_leastPeriod_4 : decode cX0_leastPeriod 4 = .ok (.getfield 22, 3) := by decide +kernel
theorem dX0_leastPeriod_7 : decode cX0_leastPeriod 7 = .ok (.if_icmp .gt 28, 3) := by decide +kernel
theorem dX0_leastPeriod_10 : decode cX0_leastPeriod 10 = .ok (.aload_n 0, 1) := by decide +kernel
theorem dX0_leastPeriod_11 : decode cX0_leastPeriod 11 = .ok (.getfield 22, 3) := by decide +kernel
theorem dX0_leastPeriod_14 : decode cX0_leastPeriod 14 = .ok (.iload_n 1, 1) := by decide +kernel
theorem dX0_leastPeriod_15 : decode cX0_leastPeriod 15 = .ok (.irem, 1) := by decide +kernel
theorem dX0_leastPeriod_16 : decode cX0_leastPeriod 16 = .ok (.ifCond .ne 13, 3) := by decide +kernel
theorem dX0_leastPeriod_19 : decode cX0_leastPeriod 19 = .ok (.aload_n 0, 1) := by decide +kernel
theorem dX0_leastPeriod_20 : decode cX0_leastPeriod 20 = .ok (.iload_n 1, 1) := by decide +kernel
theorem dX0_leastPeriod_21 : decode cX0_leastPeriod 21 = .ok (.invokevirtual 72, 3) := by decide +kernel
theorem dX0_leastPeriod_24 : decode cX0_leastPeriod 24 = .ok (.ifCond .eq 5, 3) := by decide +kernel
theorem dX0_leastPeriod_27 : decode cX0_leastPeriod 27 = .ok (.iload_n 1, 1) := by decide +kernel
theorem dX0_leastPeriod_28 : decode cX0_leastPeriod 28 = .ok (.ireturn, 1) := by decide +kernel
theorem dX0_leastPeriod_29 : decode cX0_leastPeriod 29 = .ok (.iinc 1 1, 3) := by decide +kernel
theorem dX0_leastPeriod_32 : decode cX0_leastPeriod 32 = .ok (.goto (-30), 3) := by decide +kernel
theorem dX0_leastPeriod_35 : decode cX0_leastPeriod 35 = .ok (.iconst 0, 1) := by decide +kernel
theorem dX0_leastPeriod_36 : decode cX0_leastPeriod 36 = .ok (.ireturn, 1) := by decide +kernel
theorem dX0_repeatsAfter_0 : decode cX0_repeatsAfter 0 = .ok (.iload_n 1, 1) := by decide +kernel
theorem dX0_repeatsAfter_1 : decode cX0_repeatsAfter 1 = .ok (.istore_n 2, 1) := by decide +kernel
theorem dX0_repeatsAfter_2 : decode cX0_repeatsAfter 2 = .ok (.iload_n 2, 1) := by decide +kernel
theorem dX0_repeatsAfter_3 : decode cX0_repeatsAfter 3 = .ok (.aload_n 0, 1) := by decide +kernel
theorem dX0_repeatsAfter_4 : decode cX0_repeatsAfter 4 = .ok (.getfield 22, 3) := by decide +kernel
theorem dX0_repeatsAfter_7 : decode cX0_repeatsAfter 7 = .ok (.if_icmp .ge 32, 3) := by decide +kernel
theorem dX0_repeatsAfter_10 : decode cX0_repeatsAfter 10 = .ok (.aload_n 0, 1) := by decide +kernel
theorem dX0_repeatsAfter_11 : decode cX0_repeatsAfter 11 = .ok (.getfield 19, 3) := by decide +kernel
theorem dX0_repeatsAfter_14 : decode cX0_repeatsAfter 14 = .ok (.iload_n 2, 1) := by decide +kernel
theorem dX0_repeatsAfter_15 : decode cX0_repeatsAfter 15 = .ok (.invokestatic 55, 3) := by decide +kernel
theorem dX0_repeatsAfter_18 : decode cX0_repeatsAfter 18 = .ok (.aload_n 0, 1) := by decide +kernel
theorem dX0_repeatsAfter_19 : decode cX0_repeatsAfter 19 = .ok (.getfield 19, 3) := by decide +kernel
theorem dX0_repeatsAfter_22 : decode cX0_repeatsAfter 22 = .ok (.iload_n 2, 1) := by decide +kernel
theorem dX0_repeatsAfter_23 : decode cX0_repeatsAfter 23 = .ok (.iload_n 1, 1) := by decide +kernel
theorem dX0_repeatsAfter_24 : decode cX0_repeatsAfter 24 = .ok (.isub, 1) := by decide +kernel
theorem dX0_repeatsAfter_25 : decode cX0_repeatsAfter 25 = .ok (.invokestatic 55, 3) := by decide +kernel
theorem dX0_repeatsAfter_28 : decode cX0_repeatsAfter 28 = .ok (.if_icmp .eq 5, 3) := by decide +kernel
theorem dX0_repeatsAfter_31 : decode cX0_repeatsAfter 31 = .ok (.iconst 0, 1) := by decide +kernel
theorem dX0_repeatsAfter_32 : decode cX0_repeatsAfter 32 = .ok (.ireturn, 1) := by decide +kernel
theorem dX0_repeatsAfter_33 : decode cX0_repeatsAfter 33 = .ok (.iinc 2 1, 3) := by decide +kernel
theorem dX0_repeatsAfter_36 : decode cX0_repeatsAfter 36 = .ok (.goto (-34), 3) := by decide +kernel
theorem dX0_repeatsAfter_39 : decode cX0_repeatsAfter 39 = .ok (.iconst 1, 1) := by decide +kernel
theorem dX0_repeatsAfter_40 : decode cX0_repeatsAfter 40 = .ok (.ireturn, 1) := by decide +kernel
theorem dX0_readsSameBackwards_0 : decode cX0_readsSameBackwards 0 = .ok (.iconst 0, 1) := by decide +kernel
theorem dX0_readsSameBackwards_1 : decode cX0_readsSameBackwards 1 = .ok (.istore_n 1, 1) := by decide +kernel
theorem dX0_readsSameBackwards_2 : decode cX0_readsSameBackwards 2 = .ok (.iload_n 1, 1) := by decide +kernel
theorem dX0_readsSameBackwards_3 : decode cX0_readsSameBackwards 3 = .ok (.aload_n 0, 1) := by decide +kernel
theorem dX0_readsSameBackwards_4 : decode cX0_readsSameBackwards 4 = .ok (.getfield 22, 3) := by decide +kernel
theorem dX0_readsSameBackwards_7 : decode cX0_readsSameBackwards 7 = .ok (.if_icmp .ge 37, 3) := by decide +kernel
theorem dX0_readsSameBackwards_10 : decode cX0_readsSameBackwards 10 = .ok (.aload_n 0, 1) := by decide +kernel
theorem dX0_readsSameBackwards_11 : decode cX0_readsSameBackwards 11 = .ok (.getfield 19, 3) := by decide +kernel
theorem dX0_readsSameBackwards_14 : decode cX0_readsSameBackwards 14 = .ok (.iload_n 1, 1) := by decide +kernel
theorem dX0_readsSameBackwards_15 : decode cX0_readsSameBackwards 15 = .ok (.invokestatic 55, 3) := by decide +kernel
theorem dX0_readsSameBackwards_18 : decode cX0_readsSameBackwards 18 = .ok (.aload_n 0, 1) := by decide +kernel
theorem dX0_readsSameBackwards_19 : decode cX0_readsSameBackwards 19 = .ok (.getfield 19, 3) := by decide +kernel
theorem dX0_readsSameBackwards_22 : decode cX0_readsSameBackwards 22 = .ok (.aload_n 0, 1) := by decide +kernel
theorem dX0_readsSameBackwards_23 : decode cX0_readsSameBackwards 23 = .ok (.getfield 22, 3) := by decide +kernel
theorem dX0_readsSameBackwards_26 : decode cX0_readsSameBackwards 26 = .ok (.iconst 1, 1) := by decide +kernel
theorem dX0_readsSameBackwards_27 : decode cX0_readsSameBackwards 27 = .ok (.isub, 1) := by decide +kernel
theorem dX0_readsSameBackwards_28 : decode cX0_readsSameBackwards 28 = .ok (.iload_n 1, 1) := by decide +kernel
theorem dX0_readsSameBackwards_29 : decode cX0_readsSameBackwards 29 = .ok (.isub, 1) := by decide +kernel
theorem dX0_readsSameBackwards_30 : decode cX0_readsSameBackwards 30 = .ok (.invokestatic 55, 3) := by decide +kernel
theorem dX0_readsSameBackwards_33 : decode cX0_readsSameBackwards 33 = .ok (.if_icmp .eq 5, 3) := by decide +kernel
theorem dX0_readsSameBackwards_36 : decode cX0_readsSameBackwards 36 = .ok (.iconst 0, 1) := by decide +kernel
theorem dX0_readsSameBackwards_37 : decode cX0_readsSameBackwards 37 = .ok (.ireturn, 1) := by decide +kernel
theorem dX0_readsSameBackwards_38 : decode cX0_readsSameBackwards 38 = .ok (.iinc 1 1, 3) := by decide +kernel
theorem dX0_readsSameBackwards_41 : decode cX0_readsSameBackwards 41 = .ok (.goto (-39), 3) := by decide +kernel
theorem dX0_readsSameBackwards_44 : decode cX0_readsSameBackwards 44 = .ok (.iconst 1, 1) := by decide +kernel
theorem dX0_readsSameBackwards_45 : decode cX0_readsSameBackwards 45 = .ok (.ireturn, 1) := by decide +kernel
theorem dX1_init_0 : decode cX1_init 0 = .ok (.aload_n 0, 1) := by decide +kernel
theorem dX1_init_1 : decode cX1_init 1 = .ok (.invokespecial 3, 3) := by decide +kernel
theorem dX1_init_4 : decode cX1_init 4 = .ok (.aload_n 0, 1) := by decide +kernel
theorem dX1_init_5 : decode cX1_init 5 = .ok (.bipush 8, 2) := by decide +kernel
theorem dX1_init_7 : decode cX1_init 7 = .ok (.anewarray 9, 3) := by decide +kernel
theorem dX1_init_10 : decode cX1_init 10 = .ok (.putfield 11, 3) := by decide +kernel
theorem dX1_init_13 : decode cX1_init 13 = .ok (.aload_n 0, 1) := by decide +kernel
theorem dX1_init_14 : decode cX1_init 14 = .ok (.iconst 0, 1) := by decide +kernel
theorem dX1_init_15 : decode cX1_init 15 = .ok (.putfield 17, 3) := by decide +kernel
theorem dX1_init_18 : decode cX1_init 18 = .ok (.aload_n 0, 1) := by decide +kernel
theorem dX1_init_19 : decode cX1_init 19 = .ok (.iconst 0, 1) := by decide +kernel
theorem dX1_init_20 : decode cX1_init 20 = .ok (.putfield 21, 3) := by decide +kernel
theorem dX1_init_23 : decode cX1_init 23 = .ok (.iconst 0, 1) := by decide +kernel
theorem dX1_init_24 : decode cX1_init 24 = .ok (.istore_n 1, 1) := by decide +kernel
theorem dX1_init_25 : decode cX1_init 25 = .ok (.iload_n 1, 1) := by decide +kernel
theorem dX1_init_26 : decode cX1_init 26 = .ok (.aload_n 0, 1) := by decide +kernel
theorem dX1_init_27 : decode cX1_init 27 = .ok (.getfield 11, 3) := by decide +kernel
theorem dX1_init_30 : decode cX1_init 30 = .ok (.arraylength, 1) := by decide +kernel
theorem dX1_init_31 : decode cX1_init 31 = .ok (.if_icmp .ge 22, 3) := by decide +kernel
theorem dX1_init_34 : decode cX1_init 34 = .ok (.aload_n 0, 1) := by decide +kernel
theorem dX1_init_35 : decode cX1_init 35 = .ok (.getfield 11, 3) := by decide +kernel
theorem dX1_init_38 : decode cX1_init 38 = .ok (.iload_n 1, 1) := by decide +kernel
theorem dX1_init_39 : decode cX1_init 39 = .ok (.new 9, 3) := by decide +kernel
theorem dX1_init_42 : decode cX1_init 42 = .ok (.dup, 1) := by decide +kernel
theorem dX1_init_43 : decode cX1_init 43 = .ok (.invokespecial 24, 3) := by decide +kernel
theorem dX1_init_46 : decode cX1_init 46 = .ok (.aastore, 1) := by decide +kernel
theorem dX1_init_47 : decode cX1_init 47 = .ok (.iinc 1 1, 3) := by decide +kernel
theorem dX1_init_50 : decode cX1_init 50 = .ok (.goto (-25), 3) := by decide +kernel
theorem dX1_init_53 : decode cX1_init 53 = .ok (.return_, 1) := by decide +kernel
theorem dX1_forgetAll_0 : decode cX1_forgetAll 0 = .ok (.aload_n 0, 1) := by decide +kernel
theorem dX1_forgetAll_1 : decode cX1_forgetAll 1 = .ok (.iconst 0, 1) := by decide +kernel
theorem dX1_forgetAll_2 : decode cX1_forgetAll 2 = .ok (.putfield 21, 3) := by decide +kernel
theorem dX1_forgetAll_5 : decode cX1_forgetAll 5 = .ok (.return_, 1) := by decide +kernel
theorem dX1_remember_0 : decode cX1_remember 0 = .ok (.aload_n 0, 1) := by decide +kernel
theorem dX1_remember_1 : decode cX1_remember 1 = .ok (.aload_n 0, 1) := by decide +kernel
theorem dX1_remember_2 : decode cX1_remember 2 = .ok (.getfield 17, 3) := by decide +kernel
theorem dX1_remember_5 : decode cX1_remember 5 = .ok (.invokevirtual 25, 3) := by decide +kernel
theorem dX1_remember_8 : decode cX1_remember 8 = .ok (.astore_n 2, 1) := by decide +kernel
theorem dX1_remember_9 : decode cX1_remember 9 = .ok (.aload_n 2, 1) := by decide +kernel
theorem dX1_remember_10 : decode cX1_remember 10 = .ok (.ifnonnull 4, 3) := by decide +kernel
theorem dX1_remember_13 : decode cX1_remember 13 = .ok (.return_, 1) := by decide +kernel
theorem dX1_remember_14 : decode cX1_remember 14 = .ok (.aload_n 2, 1) := by decide +kernel
theorem dX1_remember_15 : decode cX1_remember 15 = .ok (.aload_n 1, 1) := by decide +kernel
theorem dX1_remember_16 : decode cX1_remember 16 = .ok (.invokevirtual 29, 3) := by decide +kernel
theorem dX1_remember_19 : decode cX1_remember 19 = .ok (.aload_n 0, 1) := by decide +kernel
theorem dX1_remember_20 : decode cX1_remember 20 = .ok (.aload_n 0, 1) := by decide +kernel
theorem dX1_remember_21 : decode cX1_remember 21 = .ok (.getfield 17, 3) := by decide +kernel
theorem dX1_remember_24 : decode cX1_remember 24 = .ok (.iconst 1, 1) := by decide +kernel
theorem dX1_remember_25 : decode cX1_remember 25 = .ok (.iadd, 1) := by decide +kernel
theorem dX1_remember_26 : decode cX1_remember 26 = .ok (.bipush 8, 2) := by decide +kernel
theorem dX1_remember_28 : decode cX1_remember 28 = .ok (.irem, 1) := by decide +kernel
theorem dX1_remember_29 : decode cX1_remember 29 = .ok (.putfield 17, 3) := by decide +kernel
theorem dX1_remember_32 : decode cX1_remember 32 = .ok (.aload_n 0, 1) := by decide +kernel
theorem dX1_remember_33 : decode cX1_remember 33 = .ok (.aload_n 0, 1) := by decide +kernel
theorem dX1_remember_34 : decode cX1_remember 34 = .ok (.getfield 21, 3) := by decide +kernel
theorem dX1_remember_37 : decode cX1_remember 37 = .ok (.iconst 1, 1) := by decide +kernel
theorem dX1_remember_38 : decode cX1_remember 38 = .ok (.iadd, 1) := by decide +kernel
theorem dX1_remember_39 : decode cX1_remember 39 = .ok (.bipush 8, 2) := by decide +kernel
theorem dX1_remember_41 : decode cX1_remember 41 = .ok (.invokestatic 33, 3) := by decide +kernel
theorem dX1_remember_44 : decode cX1_remember 44 = .ok (.putfield 21, 3) := by decide +kernel
theorem dX1_remember_47 : decode cX1_remember 47 = .ok (.return_, 1) := by decide +kernel
theorem dX1_bringBack_0 : decode cX1_bringBack 0 = .ok (.aload_n 0, 1) := by decide +kernel
theorem dX1_bringBack_1 : decode cX1_bringBack 1 = .ok (.getfield 17, 3) := by decide +kernel
theorem dX1_bringBack_4 : decode cX1_bringBack 4 = .ok (.bipush 8, 2) := by decide +kernel
theorem dX1_bringBack_6 : decode cX1_bringBack 6 = .ok (.iadd, 1) := by decide +kernel
theorem dX1_bringBack_7 : decode cX1_bringBack 7 = .ok (.iconst 1, 1) := by decide +kernel
theorem dX1_bringBack_8 : decode cX1_bringBack 8 = .ok (.isub, 1) := by decide +kernel
theorem dX1_bringBack_9 : decode cX1_bringBack 9 = .ok (.bipush 8, 2) := by decide +kernel
theorem dX1_bringBack_11 : decode cX1_bringBack 11 = .ok (.irem, 1) := by decide +kernel
theorem dX1_bringBack_12 : decode cX1_bringBack 12 = .ok (.istore_n 2, 1) := by decide +kernel
theorem dX1_bringBack_13 : decode cX1_bringBack 13 = .ok (.aload_n 0, 1) := by decide +kernel
theorem dX1_bringBack_14 : decode cX1_bringBack 14 = .ok (.iload_n 2, 1) := by decide +kernel
theorem dX1_bringBack_15 : decode cX1_bringBack 15 = .ok (.invokevirtual 25, 3) := by decide +kernel
theorem dX1_bringBack_18 : decode cX1_bringBack 18 = .ok (.astore_n 3, 1) := by decide +kernel
theorem dX1_bringBack_19 : decode cX1_bringBack 19 = .ok (.aload_n 0, 1) := by decide +kernel
theorem dX1_bringBack_20 : decode cX1_bringBack 20 = .ok (.getfield 21, 3) := by decide +kernel
theorem dX1_bringBack_23 : decode cX1_bringBack 23 = .ok (.ifCond .eq 7, 3) := by decide +kernel
theorem dX1_bringBack_26 : decode cX1_bringBack 26 = .ok (.aload_n 3, 1) := by decide +kernel
theorem dX1_bringBack_27 : decode cX1_bringBack 27 = .ok (.ifnonnull 5, 3) := by decide +kernel
theorem dX1_bringBack_30 : decode cX1_bringBack 30 = .ok (.iconst 0, 1) := by decide +kernel
theorem dX1_bringBack_31 : decode cX1_bringBack 31 = .ok (.ireturn, 1) := by decide +kernel
theorem dX1_bringBack_32 : decode cX1_bringBack 32 = .ok (.aload_n 1, 1) := by decide +kernel
theorem dX1_bringBack_33 : decode cX1_bringBack 33 = .ok (.aload_n 3, 1) := by decide +kernel
theorem dX1_bringBack_34 : decode cX1_bringBack 34 = .ok (.invokevirtual 29, 3) := by decide +kernel
theorem dX1_bringBack_37 : decode cX1_bringBack 37 = .ok (.aload_n 0, 1) := by decide +kernel
theorem dX1_bringBack_38 : decode cX1_bringBack 38 = .ok (.iload_n 2, 1) := by decide +kernel
theorem dX1_bringBack_39 : decode cX1_bringBack 39 = .ok (.putfield 17, 3) := by decide +kernel
theorem dX1_bringBack_42 : decode cX1_bringBack 42 = .ok (.aload_n 0, 1) := by decide +kernel
theorem dX1_bringBack_43 : decode cX1_bringBack 43 = .ok (.dup, 1) := by decide +kernel
theorem dX1_bringBack_44 : decode cX1_bringBack 44 = .ok (.getfield 21, 3) := by decide +kernel
theorem dX1_bringBack_47 : decode cX1_bringBack 47 = .ok (.iconst 1, 1) := by decide +kernel
theorem dX1_bringBack_48 : decode cX1_bringBack 48 = .ok (.isub, 1) := by decide +kernel
theorem dX1_bringBack_49 : decode cX1_bringBack 49 = .ok (.putfield 21, 3) := by decide +kernel
theorem dX1_bringBack_52 : decode cX1_bringBack 52 = .ok (.iconst 1, 1) := by decide +kernel
theorem dX1_bringBack_53 : decode cX1_bringBack 53 = .ok (.ireturn, 1) := by decide +kernel
theorem dX1_stateAt_0 : decode cX1_stateAt 0 = .ok (.iload_n 1, 1) := by decide +kernel
theorem dX1_stateAt_1 : decode cX1_stateAt 1 = .ok (.ifCond .lt 21, 3) := by decide +kernel
theorem dX1_stateAt_4 : decode cX1_stateAt 4 = .ok (.iload_n 1, 1) := by decide +kernel
theorem dX1_stateAt_5 : decode cX1_stateAt 5 = .ok (.aload_n 0, 1) := by decide +kernel
theorem dX1_stateAt_6 : decode cX1_stateAt 6 = .ok (.getfield 11, 3) := by decide +kernel
theorem dX1_stateAt_9 : decode cX1_stateAt 9 = .ok (.arraylength, 1) := by decide +kernel
theorem dX1_stateAt_10 : decode cX1_stateAt 10 = .ok (.if_icmp .ge 12, 3) := by decide +kernel
theorem dX1_stateAt_13 : decode cX1_stateAt 13 = .ok (.aload_n 0, 1) := by decide +kernel
theorem dX1_stateAt_14 : decode cX1_stateAt 14 = .ok (.getfield 11, 3) := by decide +kernel
theorem dX1_stateAt_17 : decode cX1_stateAt 17 = .ok (.iload_n 1, 1) := by decide +kernel
theorem dX1_stateAt_18 : decode cX1_stateAt 18 = .ok (.aaload, 1) := by decide +kernel
theorem dX1_stateAt_19 : decode cX1_stateAt 19 = .ok (.goto 4, 3) := by decide +kernel
theorem dX1_stateAt_22 : decode cX1_stateAt 22 = .ok (.aconst_null, 1) := by decide +kernel
theorem dX1_stateAt_23 : decode cX1_stateAt 23 = .ok (.areturn, 1) := by decide +kernel
theorem dX2_init_0 : decode cX2_init 0 = .ok (.aload_n 0, 1) := by decide +kernel
theorem dX2_init_1 : decode cX2_init 1 = .ok (.invokespecial 3, 3) := by decide +kernel
theorem dX2_init_4 : decode cX2_init 4 = .ok (.aload_n 0, 1) := by decide +kernel
theorem dX2_init_5 : decode cX2_init 5 = .ok (.sipush 500, 3) := by decide +kernel
theorem dX2_init_8 : decode cX2_init 8 = .ok (.newarray .int, 2) := by decide +kernel
theorem dX2_init_10 : decode cX2_init 10 = .ok (.putfield 9, 3) := by decide +kernel
theorem dX2_init_13 : decode cX2_init 13 = .ok (.aload_n 0, 1) := by decide +kernel
theorem dX2_init_14 : decode cX2_init 14 = .ok (.iconst 0, 1) := by decide +kernel
theorem dX2_init_15 : decode cX2_init 15 = .ok (.putfield 15, 3) := by decide +kernel
theorem dX2_init_18 : decode cX2_init 18 = .ok (.aload_n 0, 1) := by decide +kernel
theorem dX2_init_19 : decode cX2_init 19 = .ok (.iconst 0, 1) := by decide +kernel
theorem dX2_init_20 : decode cX2_init 20 = .ok (.putfield 19, 3) := by decide +kernel
theorem dX2_init_23 : decode cX2_init 23 = .ok (.aload_n 0, 1) := by decide +kernel
theorem dX2_init_24 : decode cX2_init 24 = .ok (.iconst 0, 1) := by decide +kernel
theorem dX2_init_25 : decode cX2_init 25 = .ok (.putfield 22, 3) := by decide +kernel
theorem dX2_init_28 : decode cX2_init 28 = .ok (.aload_n 0, 1) := by decide +kernel
theorem dX2_init_29 : decode cX2_init 29 = .ok (.iconst 0, 1) := by decide +kernel
theorem dX2_init_30 : decode cX2_init 30 = .ok (.putfield 25, 3) := by decide +kernel
theorem dX2_init_33 : decode cX2_init 33 = .ok (.aload_n 0, 1) := by decide +kernel
theorem dX2_init_34 : decode cX2_init 34 = .ok (.iconst 0, 1) := by decide +kernel
theorem dX2_init_35 : decode cX2_init 35 = .ok (.putfield 28, 3) := by decide +kernel
theorem dX2_init_38 : decode cX2_init 38 = .ok (.aload_n 0, 1) := by decide +kernel
theorem dX2_init_39 : decode cX2_init 39 = .ok (.iconst 0, 1) := by decide +kernel
theorem dX2_init_40 : decode cX2_init 40 = .ok (.putfield 31, 3) := by decide +kernel
theorem dX2_init_43 : decode cX2_init 43 = .ok (.return_, 1) := by decide +kernel
theorem dX2_addFourBytes_0 : decode cX2_addFourBytes 0 = .ok (.bipush 24, 2) := by decide +kernel
theorem dX2_addFourBytes_2 : decode cX2_addFourBytes 2 = .ok (.istore_n 2, 1) := by decide +kernel
theorem dX2_addFourBytes_3 : decode cX2_addFourBytes 3 = .ok (.iload_n 2, 1) := by decide +kernel
theorem dX2_addFourBytes_4 : decode cX2_addFourBytes 4 = .ok (.ifCond .lt 37, 3) := by decide +kernel
theorem dX2_addFourBytes_7 : decode cX2_addFourBytes 7 = .ok (.aload_n 0, 1) := by decide +kernel
theorem dX2_addFourBytes_8 : decode cX2_addFourBytes 8 = .ok (.getfield 9, 3) := by decide +kernel
theorem dX2_addFourBytes_11 : decode cX2_addFourBytes 11 = .ok (.aload_n 0, 1) := by decide +kernel
theorem dX2_addFourBytes_12 : decode cX2_addFourBytes 12 = .ok (.getfield 15, 3) := by decide +kernel
theorem dX2_addFourBytes_15 : decode cX2_addFourBytes 15 = .ok (.iload_n 1, 1) := by decide +kernel
theorem dX2_addFourBytes_16 : decode cX2_addFourBytes 16 = .ok (.iload_n 2, 1) := by decide +kernel
theorem dX2_addFourBytes_17 : decode cX2_addFourBytes 17 = .ok (.ishr, 1) := by decide +kernel
theorem dX2_addFourBytes_18 : decode cX2_addFourBytes 18 = .ok (.sipush 255, 3) := by decide +kernel
theorem dX2_addFourBytes_21 : decode cX2_addFourBytes 21 = .ok (.iand, 1) := by decide +kernel
theorem dX2_addFourBytes_22 : decode cX2_addFourBytes 22 = .ok (.invokestatic 34, 3) := by decide +kernel
theorem dX2_addFourBytes_25 : decode cX2_addFourBytes 25 = .ok (.aload_n 0, 1) := by decide +kernel
theorem dX2_addFourBytes_26 : decode cX2_addFourBytes 26 = .ok (.dup, 1) := by decide +kernel
theorem dX2_addFourBytes_27 : decode cX2_addFourBytes 27 = .ok (.getfield 15, 3) := by decide +kernel
theorem dX2_addFourBytes_30 : decode cX2_addFourBytes 30 = .ok (.iconst 1, 1) := by decide +kernel
theorem dX2_addFourBytes_31 : decode cX2_addFourBytes 31 = .ok (.iadd, 1) := by decide +kernel
theorem dX2_addFourBytes_32 : decode cX2_addFourBytes 32 = .ok (.putfield 15, 3) := by decide +kernel
theorem dX2_addFourBytes_35 : decode cX2_addFourBytes 35 = .ok (.iinc 2 (-8), 3) := by decide +kernel
theorem dX2_addFourBytes_38 : decode cX2_addFourBytes 38 = .ok (.goto (-35), 3) := by decide +kernel
theorem dX2_addFourBytes_41 : decode cX2_addFourBytes 41 = .ok (.return_, 1) := by decide +kernel
theorem dX2_startReading_0 : decode cX2_startReading 0 = .ok (.aload_n 0, 1) := by decide +kernel
theorem dX2_startReading_1 : decode cX2_startReading 1 = .ok (.iload_n 1, 1) := by decide +kernel
theorem dX2_startReading_2 : decode cX2_startReading 2 = .ok (.aload_n 0, 1) := by decide +kernel
theorem dX2_startReading_3 : decode cX2_startReading 3 = .ok (.getfield 9, 3) := by decide +kernel
theorem dX2_startReading_6 : decode cX2_startReading 6 = .ok (.arraylength, 1) := by decide +kernel
theorem dX2_startReading_7 : decode cX2_startReading 7 = .ok (.invokestatic 38, 3) := by decide +kernel
theorem dX2_startReading_10 : decode cX2_startReading 10 = .ok (.putfield 19, 3) := by decide +kernel
theorem dX2_startReading_13 : decode cX2_startReading 13 = .ok (.aload_n 0, 1) := by decide +kernel
theorem dX2_startReading_14 : decode cX2_startReading 14 = .ok (.iconst 0, 1) := by decide +kernel
theorem dX2_startReading_15 : decode cX2_startReading 15 = .ok (.putfield 22, 3) := by decide +kernel
theorem dX2_startReading_18 : decode cX2_startReading 18 = .ok (.aload_n 0, 1) := by decide +kernel
theorem dX2_startReading_19 : decode cX2_startReading 19 = .ok (.invokevirtual 44, 3) := by decide +kernel
theorem dX2_startReading_22 : decode cX2_startReading 22 = .ok (.return_, 1) := by decide +kernel
theorem dX2_advance_0 : decode cX2_advance 0 = .ok (.aload_n 0, 1) := by decide +kernel
theorem dX2_advance_1 : decode cX2_advance 1 = .ok (.getfield 22, 3) := by decide +kernel
theorem dX2_advance_4 : decode cX2_advance 4 = .ok (.aload_n 0, 1) := by decide +kernel
theorem dX2_advance_5 : decode cX2_advance 5 = .ok (.getfield 19, 3) := by decide +kernel
theorem dX2_advance_8 : decode cX2_advance 8 = .ok (.if_icmp .ge 32, 3) := by decide +kernel
theorem dX2_advance_11 : decode cX2_advance 11 = .ok (.aload_n 0, 1) := by decide +kernel
theorem dX2_advance_12 : decode cX2_advance 12 = .ok (.getfield 9, 3) := by decide +kernel
theorem dX2_advance_15 : decode cX2_advance 15 = .ok (.aload_n 0, 1) := by decide +kernel
theorem dX2_advance_16 : decode cX2_advance 16 = .ok (.getfield 22, 3) := by decide +kernel
theorem dX2_advance_19 : decode cX2_advance 19 = .ok (.invokestatic 47, 3) := by decide +kernel
theorem dX2_advance_22 : decode cX2_advance 22 = .ok (.bipush 32, 2) := by decide +kernel
theorem dX2_advance_24 : decode cX2_advance 24 = .ok (.if_icmp .ne 16, 3) := by decide +kernel
theorem dX2_advance_27 : decode cX2_advance 27 = .ok (.aload_n 0, 1) := by decide +kernel
theorem dX2_advance_28 : decode cX2_advance 28 = .ok (.dup, 1) := by decide +kernel
theorem dX2_advance_29 : decode cX2_advance 29 = .ok (.getfield 22, 3) := by decide +kernel
theorem dX2_advance_32 : decode cX2_advance 32 = .ok (.iconst 1, 1) := by decide +kernel
theorem dX2_advance_33 : decode cX2_advance 33 = .ok (.iadd, 1) := by decide +kernel
theorem dX2_advance_34 : decode cX2_advance 34 = .ok (.putfield 22, 3) := by decide +kernel
theorem dX2_advance_37 : decode cX2_advance 37 = .ok (.goto (-37), 3) := by decide +kernel
theorem dX2_advance_40 : decode cX2_advance 40 = .ok (.aload_n 0, 1) := by decide +kernel
theorem dX2_advance_41 : decode cX2_advance 41 = .ok (.aload_n 0, 1) := by decide +kernel
theorem dX2_advance_42 : decode cX2_advance 42 = .ok (.getfield 22, 3) := by decide +kernel
theorem dX2_advance_45 : decode cX2_advance 45 = .ok (.putfield 28, 3) := by decide +kernel
theorem dX2_advance_48 : decode cX2_advance 48 = .ok (.aload_n 0, 1) := by decide +kernel
theorem dX2_advance_49 : decode cX2_advance 49 = .ok (.getfield 22, 3) := by decide +kernel
theorem dX2_advance_52 : decode cX2_advance 52 = .ok (.aload_n 0, 1) := by decide +kernel
theorem dX2_advance_53 : decode cX2_advance 53 = .ok (.getfield 19, 3) := by decide +kernel
theorem dX2_advance_56 : decode cX2_advance 56 = .ok (.if_icmp .lt 11, 3) := by decide +kernel
theorem dX2_advance_59 : decode cX2_advance 59 = .ok (.aload_n 0, 1) := by decide +kernel
theorem dX2_advance_60 : decode cX2_advance 60 = .ok (.iconst 0, 1) := by decide +kernel
theorem dX2_advance_61 : decode cX2_advance 61 = .ok (.putfield 25, 3) := by decide +kernel
theorem dX2_advance_64 : decode cX2_advance 64 = .ok (.goto 79, 3) := by decide +kernel
theorem dX2_advance_67 : decode cX2_advance 67 = .ok (.aload_n 0, 1) := by decide +kernel
theorem dX2_advance_68 : decode cX2_advance 68 = .ok (.getfield 9, 3) := by decide +kernel
theorem dX2_advance_71 : decode cX2_advance 71 = .ok (.aload_n 0, 1) := by decide +kernel
theorem dX2_advance_72 : decode cX2_advance 72 = .ok (.getfield 22, 3) := by decide +kernel
theorem dX2_advance_75 : decode cX2_advance 75 = .ok (.invokestatic 47, 3) := by decide +kernel
theorem dX2_advance_78 : decode cX2_advance 78 = .ok (.invokestatic 51, 3) := by decide +kernel
theorem dX2_advance_81 : decode cX2_advance 81 = .ok (.ifCond .eq 10, 3) := by decide +kernel
theorem dX2_advance_84 : decode cX2_advance 84 = .ok (.aload_n 0, 1) := by decide +kernel
theorem dX2_advance_85 : decode cX2_advance 85 = .ok (.invokevirtual 55, 3) := by decide +kernel
theorem dX2_advance_88 : decode cX2_advance 88 = .ok (.goto 55, 3) := by decide +kernel
theorem dX2_advance_91 : decode cX2_advance 91 = .ok (.aload_n 0, 1) := by decide +kernel
theorem dX2_advance_92 : decode cX2_advance 92 = .ok (.getfield 9, 3) := by decide +kernel
theorem dX2_advance_95 : decode cX2_advance 95 = .ok (.aload_n 0, 1) := by decide +kernel
theorem dX2_advance_96 : decode cX2_advance 96 = .ok (.getfield 22, 3) := by decide +kernel
theorem dX2_advance_99 : decode cX2_advance 99 = .ok (.invokestatic 47, 3) := by decide +kernel
theorem dX2_advance_102 : decode cX2_advance 102 = .ok (.invokestatic 58, 3) := by decide +kernel
theorem dX2_advance_105 : decode cX2_advance 105 = .ok (.ifCond .eq 10, 3) := by decide +kernel
theorem dX2_advance_108 : decode cX2_advance 108 = .ok (.aload_n 0, 1) := by decide +kernel
theorem dX2_advance_109 : decode cX2_advance 109 = .ok (.invokevirtual 61, 3) := by decide +kernel
theorem dX2_advance_112 : decode cX2_advance 112 = .ok (.goto 31, 3) := by decide +kernel
theorem dX2_advance_115 : decode cX2_advance 115 = .ok (.aload_n 0, 1) := by decide +kernel
theorem dX2_advance_116 : decode cX2_advance 116 = .ok (.aload_n 0, 1) := by decide +kernel
theorem dX2_advance_117 : decode cX2_advance 117 = .ok (.getfield 9, 3) := by decide +kernel
theorem dX2_advance_120 : decode cX2_advance 120 = .ok (.aload_n 0, 1) := by decide +kernel
theorem dX2_advance_121 : decode cX2_advance 121 = .ok (.getfield 22, 3) := by decide +kernel
theorem dX2_advance_124 : decode cX2_advance 124 = .ok (.invokestatic 47, 3) := by decide +kernel
theorem dX2_advance_127 : decode cX2_advance 127 = .ok (.invokestatic 64, 3) := by decide +kernel
theorem dX2_advance_130 : decode cX2_advance 130 = .ok (.putfield 25, 3) := by decide +kernel
theorem dX2_advance_133 : decode cX2_advance 133 = .ok (.aload_n 0, 1) := by decide +kernel
theorem dX2_advance_134 : decode cX2_advance 134 = .ok (.dup, 1) := by decide +kernel
theorem dX2_advance_135 : decode cX2_advance 135 = .ok (.getfield 22, 3) := by decide +kernel
theorem dX2_advance_138 : decode cX2_advance 138 = .ok (.iconst 1, 1) := by decide +kernel
theorem dX2_advance_139 : decode cX2_advance 139 = .ok (.iadd, 1) := by decide +kernel
theorem dX2_advance_140 : decode cX2_advance 140 = .ok (.putfield 22, 3) := by decide +kernel
theorem dX2_advance_143 : decode cX2_advance 143 = .ok (.return_, 1) := by decide +kernel
theorem dX2_readWord_0 : decode cX2_readWord 0 = .ok (.aload_n 0, 1) := by decide +kernel
theorem dX2_readWord_1 : decode cX2_readWord 1 = .ok (.getfield 22, 3) := by decide +kernel
theorem dX2_readWord_4 : decode cX2_readWord 4 = .ok (.aload_n 0, 1) := by decide +kernel
theorem dX2_readWord_5 : decode cX2_readWord 5 = .ok (.getfield 19, 3) := by decide +kernel
theorem dX2_readWord_8 : decode cX2_readWord 8 = .ok (.if_icmp .ge 33, 3) := by decide +kernel
theorem dX2_readWord_11 : decode cX2_readWord 11 = .ok (.aload_n 0, 1) := by decide +kernel
theorem dX2_readWord_12 : decode cX2_readWord 12 = .ok (.getfield 9, 3) := by decide +kernel
theorem dX2_readWord_15 : decode cX2_readWord 15 = .ok (.aload_n 0, 1) := by decide +kernel
theorem dX2_readWord_16 : decode cX2_readWord 16 = .ok (.getfield 22, 3) := by decide +kernel
theorem dX2_readWord_19 : decode cX2_readWord 19 = .ok (.invokestatic 47, 3) := by decide +kernel
theorem dX2_readWord_22 : decode cX2_readWord 22 = .ok (.invokestatic 51, 3) := by decide +kernel
theorem dX2_readWord_25 : decode cX2_readWord 25 = .ok (.ifCond .eq 16, 3) := by decide +kernel
theorem dX2_readWord_28 : decode cX2_readWord 28 = .ok (.aload_n 0, 1) := by decide +kernel
theorem dX2_readWord_29 : decode cX2_readWord 29 = .ok (.dup, 1) := by decide +kernel
theorem dX2_readWord_30 : decode cX2_readWord 30 = .ok (.getfield 22, 3) := by decide +kernel
theorem dX2_readWord_33 : decode cX2_readWord 33 = .ok (.iconst 1, 1) := by decide +kernel
theorem dX2_readWord_34 : decode cX2_readWord 34 = .ok (.iadd, 1) := by decide +kernel
theorem dX2_readWord_35 : decode cX2_readWord 35 = .ok (.putfield 22, 3) := by decide +kernel
theorem dX2_readWord_38 : decode cX2_readWord 38 = .ok (.goto (-38), 3) := by decide +kernel
theorem dX2_readWord_41 : decode cX2_readWord 41 = .ok (.aload_n 0, 1) := by decide +kernel
theorem dX2_readWord_42 : decode cX2_readWord 42 = .ok (.aload_n 0, 1) := by decide +kernel
theorem dX2_readWord_43 : decode cX2_readWord 43 = .ok (.getfield 22, 3) := by decide +kernel
theorem dX2_readWord_46 : decode cX2_readWord 46 = .ok (.aload_n 0, 1) := by decide +kernel
theorem dX2_readWord_47 : decode cX2_readWord 47 = .ok (.getfield 28, 3) := by decide +kernel
theorem dX2_readWord_50 : decode cX2_readWord 50 = .ok (.isub, 1) := by decide +kernel
theorem dX2_readWord_51 : decode cX2_readWord 51 = .ok (.bipush 7, 2) := by decide +kernel
theorem dX2_readWord_53 : decode cX2_readWord 53 = .ok (.if_icmp .le 8, 3) := by decide +kernel
theorem dX2_readWord_56 : decode cX2_readWord 56 = .ok (.bipush 6, 2) := by decide +kernel
theorem dX2_readWord_58 : decode cX2_readWord 58 = .ok (.goto 4, 3) := by decide +kernel
theorem dX2_readWord_61 : decode cX2_readWord 61 = .ok (.iconst 1, 1) := by decide +kernel
theorem dX2_readWord_62 : decode cX2_readWord 62 = .ok (.putfield 25, 3) := by decide +kernel
theorem dX2_readWord_65 : decode cX2_readWord 65 = .ok (.return_, 1) := by decide +kernel
theorem dX2_readNumber_0 : decode cX2_readNumber 0 = .ok (.aload_n 0, 1) := by decide +kernel
theorem dX2_readNumber_1 : decode cX2_readNumber 1 = .ok (.iconst 0, 1) := by decide +kernel
theorem dX2_readNumber_2 : decode cX2_readNumber 2 = .ok (.putfield 31, 3) := by decide +kernel
theorem dX2_readNumber_5 : decode cX2_readNumber 5 = .ok (.aload_n 0, 1) := by decide +kernel
theorem dX2_readNumber_6 : decode cX2_readNumber 6 = .ok (.getfield 22, 3) := by decide +kernel
theorem dX2_readNumber_9 : decode cX2_readNumber 9 = .ok (.aload_n 0, 1) := by decide +kernel
theorem dX2_readNumber_10 : decode cX2_readNumber 10 = .ok (.getfield 19, 3) := by decide +kernel
theorem dX2_readNumber_13 : decode cX2_readNumber 13 = .ok (.if_icmp .ge 59, 3) := by decide +kernel
theorem dX2_readNumber_16 : decode cX2_readNumber 16 = .ok (.aload_n 0, 1) := by decide +kernel
theorem dX2_readNumber_17 : decode cX2_readNumber 17 = .ok (.getfield 9, 3) := by decide +kernel
theorem dX2_readNumber_20 : decode cX2_readNumber 20 = .ok (.aload_n 0, 1) := by decide +kernel
theorem dX2_readNumber_21 : decode cX2_readNumber 21 = .ok (.getfield 22, 3) := by decide +kernel
theorem dX2_readNumber_24 : decode cX2_readNumber 24 = .ok (.invokestatic 47, 3) := by decide +kernel
theorem dX2_readNumber_27 : decode cX2_readNumber 27 = .ok (.invokestatic 58, 3) := by decide +kernel
theorem dX2_readNumber_30 : decode cX2_readNumber 30 = .ok (.ifCond .eq 42, 3) := by decide +kernel
theorem dX2_readNumber_33 : decode cX2_readNumber 33 = .ok (.aload_n 0, 1) := by decide +kernel
theorem dX2_readNumber_34 : decode cX2_readNumber 34 = .ok (.aload_n 0, 1) := by decide +kernel
theorem dX2_readNumber_35 : decode cX2_readNumber 35 = .ok (.getfield 31, 3) := by decide +kernel
theorem dX2_readNumber_38 : decode cX2_readNumber 38 = .ok (.bipush 10, 2) := by decide +kernel
theorem dX2_readNumber_40 : decode cX2_readNumber 40 = .ok (.imul, 1) := by decide +kernel
theorem dX2_readNumber_41 : decode cX2_readNumber 41 = .ok (.aload_n 0, 1) := by decide +kernel
theorem dX2_readNumber_42 : decode cX2_readNumber 42 = .ok (.getfield 9, 3) := by decide +kernel
theorem dX2_readNumber_45 : decode cX2_readNumber 45 = .ok (.aload_n 0, 1) := by decide +kernel
theorem dX2_readNumber_46 : decode cX2_readNumber 46 = .ok (.getfield 22, 3) := by decide +kernel
theorem dX2_readNumber_49 : decode cX2_readNumber 49 = .ok (.invokestatic 47, 3) := by decide +kernel
theorem dX2_readNumber_52 : decode cX2_readNumber 52 = .ok (.iadd, 1) := by decide +kernel
theorem dX2_readNumber_53 : decode cX2_readNumber 53 = .ok (.bipush 48, 2) := by decide +kernel
theorem dX2_readNumber_55 : decode cX2_readNumber 55 = .ok (.isub, 1) := by decide +kernel
theorem dX2_readNumber_56 : decode cX2_readNumber 56 = .ok (.putfield 31, 3) := by decide +kernel
theorem dX2_readNumber_59 : decode cX2_readNumber 59 = .ok (.aload_n 0, 1) := by decide +kernel
theorem dX2_readNumber_60 : decode cX2_readNumber 60 = .ok (.dup, 1) := by decide +kernel
theorem dX2_readNumber_61 : decode cX2_readNumber 61 = .ok (.getfield 22, 3) := by decide +kernel
theorem dX2_readNumber_64 : decode cX2_readNumber 64 = .ok (.iconst 1, 1) := by decide +kernel
theorem dX2_readNumber_65 : decode cX2_readNumber 65 = .ok (.iadd, 1) := by decide +kernel
theorem dX2_readNumber_66 : decode cX2_readNumber 66 = .ok (.putfield 22, 3) := by decide +kernel
theorem dX2_readNumber_69 : decode cX2_readNumber 69 = .ok (.goto (-64), 3) := by decide +kernel
theorem dX2_readNumber_72 : decode cX2_readNumber 72 = .ok (.aload_n 0, 1) := by decide +kernel
theorem dX2_readNumber_73 : decode cX2_readNumber 73 = .ok (.aload_n 0, 1) := by decide +kernel
theorem dX2_readNumber_74 : decode cX2_readNumber 74 = .ok (.getfield 22, 3) := by decide +kernel
theorem dX2_readNumber_77 : decode cX2_readNumber 77 = .ok (.aload_n 0, 1) := by decide +kernel
theorem dX2_readNumber_78 : decode cX2_readNumber 78 = .ok (.getfield 28, 3) := by decide +kernel
theorem dX2_readNumber_81 : decode cX2_readNumber 81 = .ok (.isub, 1) := by decide +kernel
theorem dX2_readNumber_82 : decode cX2_readNumber 82 = .ok (.iconst 3, 1) := by decide +kernel
theorem dX2_readNumber_83 : decode cX2_readNumber 83 = .ok (.if_icmp .le 8, 3) := by decide +kernel
theorem dX2_readNumber_86 : decode cX2_readNumber 86 = .ok (.bipush 6, 2) := by decide +kernel
theorem dX2_readNumber_88 : decode cX2_readNumber 88 = .ok (.goto 4, 3) := by decide +kernel
theorem dX2_readNumber_91 : decode cX2_readNumber 91 = .ok (.iconst 2, 1) := by decide +kernel
theorem dX2_readNumber_92 : decode cX2_readNumber 92 = .ok (.putfield 25, 3) := by decide +kernel
theorem dX2_readNumber_95 : decode cX2_readNumber 95 = .ok (.return_, 1) := by decide +kernel
theorem dX2_isLetter_0 : decode cX2_isLetter 0 = .ok (.iload_n 0, 1) := by decide +kernel
theorem dX2_isLetter_1 : decode cX2_isLetter 1 = .ok (.bipush 97, 2) := by decide +kernel
theorem dX2_isLetter_3 : decode cX2_isLetter 3 = .ok (.if_icmp .lt 13, 3) := by decide +kernel
theorem dX2_isLetter_6 : decode cX2_isLetter 6 = .ok (.iload_n 0, 1) := by decide +kernel
theorem dX2_isLetter_7 : decode cX2_isLetter 7 = .ok (.bipush 122, 2) := by decide +kernel
theorem dX2_isLetter_9 : decode cX2_isLetter 9 = .ok (.if_icmp .gt 7, 3) := by decide +kernel
theorem dX2_isLetter_12 : decode cX2_isLetter 12 = .ok (.iconst 1, 1) := by decide +kernel
theorem dX2_isLetter_13 : decode cX2_isLetter 13 = .ok (.goto 4, 3) := by decide +kernel
theorem dX2_isLetter_16 : decode cX2_isLetter 16 = .ok (.iconst 0, 1) := by decide +kernel
theorem dX2_isLetter_17 : decode cX2_isLetter 17 = .ok (.ireturn, 1) := by decide +kernel
theorem dX2_isDigit_0 : decode cX2_isDigit 0 = .ok (.iload_n 0, 1) := by decide +kernel
theorem dX2_isDigit_1 : decode cX2_isDigit 1 = .ok (.bipush 48, 2) := by decide +kernel
theorem dX2_isDigit_3 : decode cX2_isDigit 3 = .ok (.if_icmp .lt 13, 3) := by decide +kernel
theorem dX2_isDigit_6 : decode cX2_isDigit 6 = .ok (.iload_n 0, 1) := by decide +kernel
theorem dX2_isDigit_7 : decode cX2_isDigit 7 = .ok (.bipush 57, 2) := by decide +kernel
theorem dX2_isDigit_9 : decode cX2_isDigit 9 = .ok (.if_icmp .gt 7, 3) := by decide +kernel
theorem dX2_isDigit_12 : decode cX2_isDigit 12 = .ok (.iconst 1, 1) := by decide +kernel
theorem dX2_isDigit_13 : decode cX2_isDigit 13 = .ok (.goto 4, 3) := by decide +kernel
theorem dX2_isDigit_16 : decode cX2_isDigit 16 = .ok (.iconst 0, 1) := by decide +kernel
theorem dX2_isDigit_17 : decode cX2_isDigit 17 = .ok (.ireturn, 1) := by decide +kernel
theorem dX2_kindOfSign_0 : decode cX2_kindOfSign 0 = .ok (.iload_n 0, 1) := by decide +kernel
theorem dX2_kindOfSign_1 : decode cX2_kindOfSign 1 = .ok (.lookupswitch 41 #[(40, 37), (41, 39), (59, 35)], 35) := by decide +kernel
theorem dX2_kindOfSign_36 : decode cX2_kindOfSign 36 = .ok (.iconst 3, 1) := by decide +kernel
theorem dX2_kindOfSign_37 : decode cX2_kindOfSign 37 = .ok (.ireturn, 1) := by decide +kernel
theorem dX2_kindOfSign_38 : decode cX2_kindOfSign 38 = .ok (.iconst 4, 1) := by decide +kernel
theorem dX2_kindOfSign_39 : decode cX2_kindOfSign 39 = .ok (.ireturn, 1) := by decide +kernel
theorem dX2_kindOfSign_40 : decode cX2_kindOfSign 40 = .ok (.iconst 5, 1) := by decide +kernel
theorem dX2_kindOfSign_41 : decode cX2_kindOfSign 41 = .ok (.ireturn, 1) := by decide +kernel
theorem dX2_kindOfSign_42 : decode cX2_kindOfSign 42 = .ok (.bipush 6, 2) := by decide +kernel
theorem dX2_kindOfSign_44 : decode cX2_kindOfSign 44 = .ok (.ireturn, 1) := by decide +kernel
theorem dX2_isWord_0 : decode cX2_isWord 0 = .ok (.aload_n 0, 1) := by decide +kernel
theorem dX2_isWord_1 : decode cX2_isWord 1 = .ok (.getfield 25, 3) := by decide +kernel
theorem dX2_isWord_4 : decode cX2_isWord 4 = .ok (.iconst 1, 1) := by decide +kernel
theorem dX2_isWord_5 : decode cX2_isWord 5 = .ok (.if_icmp .ne 19, 3) := by decide +kernel
theorem dX2_isWord_8 : decode cX2_isWord 8 = .ok (.aload_n 0, 1) := by decide +kernel
theorem dX2_isWord_9 : decode cX2_isWord 9 = .ok (.getfield 22, 3) := by decide +kernel
theorem dX2_isWord_12 : decode cX2_isWord 12 = .ok (.aload_n 0, 1) := by decide +kernel
theorem dX2_isWord_13 : decode cX2_isWord 13 = .ok (.getfield 28, 3) := by decide +kernel
theorem dX2_isWord_16 : decode cX2_isWord 16 = .ok (.isub, 1) := by decide +kernel
theorem dX2_isWord_17 : decode cX2_isWord 17 = .ok (.aload_n 1, 1) := by decide +kernel
theorem dX2_isWord_18 : decode cX2_isWord 18 = .ok (.invokevirtual 68, 3) := by decide +kernel
theorem dX2_isWord_21 : decode cX2_isWord 21 = .ok (.if_icmp .eq 5, 3) := by decide +kernel
theorem dX2_isWord_24 : decode cX2_isWord 24 = .ok (.iconst 0, 1) := by decide +kernel
theorem dX2_isWord_25 : decode cX2_isWord 25 = .ok (.ireturn, 1) := by decide +kernel
theorem dX2_isWord_26 : decode cX2_isWord 26 = .ok (.iconst 0, 1) := by decide +kernel
theorem dX2_isWord_27 : decode cX2_isWord 27 = .ok (.istore_n 2, 1) := by decide +kernel
theorem dX2_isWord_28 : decode cX2_isWord 28 = .ok (.iload_n 2, 1) := by decide +kernel
theorem dX2_isWord_29 : decode cX2_isWord 29 = .ok (.aload_n 1, 1) := by decide +kernel
theorem dX2_isWord_30 : decode cX2_isWord 30 = .ok (.invokevirtual 68, 3) := by decide +kernel
theorem dX2_isWord_33 : decode cX2_isWord 33 = .ok (.if_icmp .ge 32, 3) := by decide +kernel
theorem dX2_isWord_36 : decode cX2_isWord 36 = .ok (.aload_n 0, 1) := by decide +kernel
theorem dX2_isWord_37 : decode cX2_isWord 37 = .ok (.getfield 9, 3) := by decide +kernel
theorem dX2_isWord_40 : decode cX2_isWord 40 = .ok (.aload_n 0, 1) := by decide +kernel
theorem dX2_isWord_41 : decode cX2_isWord 41 = .ok (.getfield 28, 3) := by decide +kernel
theorem dX2_isWord_44 : decode cX2_isWord 44 = .ok (.iload_n 2, 1) := by decide +kernel
theorem dX2_isWord_45 : decode cX2_isWord 45 = .ok (.iadd, 1) := by decide +kernel
theorem dX2_isWord_46 : decode cX2_isWord 46 = .ok (.invokestatic 47, 3) := by decide +kernel
theorem dX2_isWord_49 : decode cX2_isWord 49 = .ok (.aload_n 1, 1) := by decide +kernel
theorem dX2_isWord_50 : decode cX2_isWord 50 = .ok (.iload_n 2, 1) := by decide +kernel
theorem dX2_isWord_51 : decode cX2_isWord 51 = .ok (.invokevirtual 74, 3) := by decide +kernel
theorem dX2_isWord_54 : decode cX2_isWord 54 = .ok (.if_icmp .eq 5, 3) := by decide +kernel
theorem dX2_isWord_57 : decode cX2_isWord 57 = .ok (.iconst 0, 1) := by decide +kernel
theorem dX2_isWord_58 : decode cX2_isWord 58 = .ok (.ireturn, 1) := by decide +kernel
theorem dX2_isWord_59 : decode cX2_isWord 59 = .ok (.iinc 2 1, 3) := by decide +kernel
theorem dX2_isWord_62 : decode cX2_isWord 62 = .ok (.goto (-34), 3) := by decide +kernel
theorem dX2_isWord_65 : decode cX2_isWord 65 = .ok (.iconst 1, 1) := by decide +kernel
theorem dX2_isWord_66 : decode cX2_isWord 66 = .ok (.ireturn, 1) := by decide +kernel
theorem dX2_colour_0 : decode cX2_colour 0 = .ok (.aload_n 0, 1) := by decide +kernel
theorem dX2_colour_1 : decode cX2_colour 1 = .ok (.getfield 25, 3) := by decide +kernel
theorem dX2_colour_4 : decode cX2_colour 4 = .ok (.iconst 1, 1) := by decide +kernel
theorem dX2_colour_5 : decode cX2_colour 5 = .ok (.if_icmp .ne 16, 3) := by decide +kernel
theorem dX2_colour_8 : decode cX2_colour 8 = .ok (.aload_n 0, 1) := by decide +kernel
theorem dX2_colour_9 : decode cX2_colour 9 = .ok (.getfield 22, 3) := by decide +kernel
theorem dX2_colour_12 : decode cX2_colour 12 = .ok (.aload_n 0, 1) := by decide +kernel
theorem dX2_colour_13 : decode cX2_colour 13 = .ok (.getfield 28, 3) := by decide +kernel
theorem dX2_colour_16 : decode cX2_colour 16 = .ok (.isub, 1) := by decide +kernel
theorem dX2_colour_17 : decode cX2_colour 17 = .ok (.iconst 1, 1) := by decide +kernel
theorem dX2_colour_18 : decode cX2_colour 18 = .ok (.if_icmp .eq 5, 3) := by decide +kernel
theorem dX2_colour_21 : decode cX2_colour 21 = .ok (.iconst (-1), 1) := by decide +kernel
theorem dX2_colour_22 : decode cX2_colour 22 = .ok (.ireturn, 1) := by decide +kernel
theorem dX2_colour_23 : decode cX2_colour 23 = .ok (.aload_n 0, 1) := by decide +kernel
theorem dX2_colour_24 : decode cX2_colour 24 = .ok (.getfield 9, 3) := by decide +kernel
theorem dX2_colour_27 : decode cX2_colour 27 = .ok (.aload_n 0, 1) := by decide +kernel
theorem dX2_colour_28 : decode cX2_colour 28 = .ok (.getfield 28, 3) := by decide +kernel
theorem dX2_colour_31 : decode cX2_colour 31 = .ok (.invokestatic 47, 3) := by decide +kernel
theorem dX2_colour_34 : decode cX2_colour 34 = .ok (.bipush 97, 2) := by decide +kernel
theorem dX2_colour_36 : decode cX2_colour 36 = .ok (.isub, 1) := by decide +kernel
theorem dX2_colour_37 : decode cX2_colour 37 = .ok (.istore_n 1, 1) := by decide +kernel
theorem dX2_colour_38 : decode cX2_colour 38 = .ok (.iload_n 1, 1) := by decide +kernel
theorem dX2_colour_39 : decode cX2_colour 39 = .ok (.bipush 6, 2) := by decide +kernel
theorem dX2_colour_41 : decode cX2_colour 41 = .ok (.if_icmp .ge 7, 3) := by decide +kernel
theorem dX2_colour_44 : decode cX2_colour 44 = .ok (.iload_n 1, 1) := by decide +kernel
theorem dX2_colour_45 : decode cX2_colour 45 = .ok (.goto 4, 3) := by decide +kernel
theorem dX2_colour_48 : decode cX2_colour 48 = .ok (.iconst (-1), 1) := by decide +kernel
theorem dX2_colour_49 : decode cX2_colour 49 = .ok (.ireturn, 1) := by decide +kernel
theorem dX3_init_0 : decode cX3_init 0 = .ok (.aload_n 0, 1) := by decide +kernel
theorem dX3_init_1 : decode cX3_init 1 = .ok (.invokespecial 3, 3) := by decide +kernel
theorem dX3_init_4 : decode cX3_init 4 = .ok (.aload_n 0, 1) := by decide +kernel
theorem dX3_init_5 : decode cX3_init 5 = .ok (.iconst 0, 1) := by decide +kernel
theorem dX3_init_6 : decode cX3_init 6 = .ok (.putfield 9, 3) := by decide +kernel
theorem dX3_init_9 : decode cX3_init 9 = .ok (.aload_n 0, 1) := by decide +kernel
theorem dX3_init_10 : decode cX3_init 10 = .ok (.iconst 0, 1) := by decide +kernel
theorem dX3_init_11 : decode cX3_init 11 = .ok (.putfield 15, 3) := by decide +kernel
theorem dX3_init_14 : decode cX3_init 14 = .ok (.aload_n 0, 1) := by decide +kernel
theorem dX3_init_15 : decode cX3_init 15 = .ok (.iconst 0, 1) := by decide +kernel
theorem dX3_init_16 : decode cX3_init 16 = .ok (.putfield 18, 3) := by decide +kernel
theorem dX3_init_19 : decode cX3_init 19 = .ok (.aload_n 0, 1) := by decide +kernel
theorem dX3_init_20 : decode cX3_init 20 = .ok (.bipush 24, 2) := by decide +kernel
theorem dX3_init_22 : decode cX3_init 22 = .ok (.putfield 21, 3) := by decide +kernel
theorem dX3_init_25 : decode cX3_init 25 = .ok (.aload_n 0, 1) := by decide +kernel
theorem dX3_init_26 : decode cX3_init 26 = .ok (.iconst 0, 1) := by decide +kernel
theorem dX3_init_27 : decode cX3_init 27 = .ok (.putfield 24, 3) := by decide +kernel
theorem dX3_init_30 : decode cX3_init 30 = .ok (.aload_n 0, 1) := by decide +kernel
theorem dX3_init_31 : decode cX3_init 31 = .ok (.bipush 24, 2) := by decide +kernel
theorem dX3_init_33 : decode cX3_init 33 = .ok (.newarray .int, 2) := by decide +kernel
theorem dX3_init_35 : decode cX3_init 35 = .ok (.putfield 27, 3) := by decide +kernel
theorem dX3_init_38 : decode cX3_init 38 = .ok (.aload_n 0, 1) := by decide +kernel
theorem dX3_init_39 : decode cX3_init 39 = .ok (.bipush 24, 2) := by decide +kernel
theorem dX3_init_41 : decode cX3_init 41 = .ok (.newarray .int, 2) := by decide +kernel
theorem dX3_init_43 : decode cX3_init 43 = .ok (.putfield 31, 3) := by decide +kernel
theorem dX3_init_46 : decode cX3_init 46 = .ok (.aload_n 0, 1) := by decide +kernel
theorem dX3_init_47 : decode cX3_init 47 = .ok (.iconst 0, 1) := by decide +kernel
theorem dX3_init_48 : decode cX3_init 48 = .ok (.putfield 34, 3) := by decide +kernel
theorem dX3_init_51 : decode cX3_init 51 = .ok (.aload_n 0, 1) := by decide +kernel
theorem dX3_init_52 : decode cX3_init 52 = .ok (.bipush 12, 2) := by decide +kernel
theorem dX3_init_54 : decode cX3_init 54 = .ok (.newarray .int, 2) := by decide +kernel
theorem dX3_init_56 : decode cX3_init 56 = .ok (.putfield 37, 3) := by decide +kernel
theorem dX3_init_59 : decode cX3_init 59 = .ok (.aload_n 0, 1) := by decide +kernel
theorem dX3_init_60 : decode cX3_init 60 = .ok (.bipush 12, 2) := by decide +kernel
theorem dX3_init_62 : decode cX3_init 62 = .ok (.newarray .int, 2) := by decide +kernel
theorem dX3_init_64 : decode cX3_init 64 = .ok (.putfield 40, 3) := by decide +kernel
theorem dX3_init_67 : decode cX3_init 67 = .ok (.aload_n 0, 1) := by decide +kernel
theorem dX3_init_68 : decode cX3_init 68 = .ok (.new 43, 3) := by decide +kernel
theorem dX3_init_71 : decode cX3_init 71 = .ok (.dup, 1) := by decide +kernel
theorem dX3_init_72 : decode cX3_init 72 = .ok (.invokespecial 45, 3) := by decide +kernel
theorem dX3_init_75 : decode cX3_init 75 = .ok (.putfield 46, 3) := by decide +kernel
theorem dX3_init_78 : decode cX3_init 78 = .ok (.aload_n 0, 1) := by decide +kernel
theorem dX3_init_79 : decode cX3_init 79 = .ok (.new 50, 3) := by decide +kernel
theorem dX3_init_82 : decode cX3_init 82 = .ok (.dup, 1) := by decide +kernel
theorem dX3_init_83 : decode cX3_init 83 = .ok (.invokespecial 52, 3) := by decide +kernel
theorem dX3_init_86 : decode cX3_init 86 = .ok (.putfield 53, 3) := by decide +kernel
theorem dX3_init_89 : decode cX3_init 89 = .ok (.aload_n 0, 1) := by decide +kernel
theorem dX3_init_90 : decode cX3_init 90 = .ok (.new 50, 3) := by decide +kernel
theorem dX3_init_93 : decode cX3_init 93 = .ok (.dup, 1) := by decide +kernel
theorem dX3_init_94 : decode cX3_init 94 = .ok (.invokespecial 52, 3) := by decide +kernel
theorem dX3_init_97 : decode cX3_init 97 = .ok (.putfield 57, 3) := by decide +kernel
theorem dX3_init_100 : decode cX3_init 100 = .ok (.return_, 1) := by decide +kernel
theorem dX3_clear_0 : decode cX3_clear 0 = .ok (.aload_n 0, 1) := by decide +kernel
theorem dX3_clear_1 : decode cX3_clear 1 = .ok (.iconst 0, 1) := by decide +kernel
theorem dX3_clear_2 : decode cX3_clear 2 = .ok (.putfield 9, 3) := by decide +kernel
theorem dX3_clear_5 : decode cX3_clear 5 = .ok (.aload_n 0, 1) := by decide +kernel
theorem dX3_clear_6 : decode cX3_clear 6 = .ok (.iconst 0, 1) := by decide +kernel
theorem dX3_clear_7 : decode cX3_clear 7 = .ok (.putfield 15, 3) := by decide +kernel
theorem dX3_clear_10 : decode cX3_clear 10 = .ok (.aload_n 0, 1) := by decide +kernel
theorem dX3_clear_11 : decode cX3_clear 11 = .ok (.iconst 0, 1) := by decide +kernel
theorem dX3_clear_12 : decode cX3_clear 12 = .ok (.putfield 18, 3) := by decide +kernel
theorem dX3_clear_15 : decode cX3_clear 15 = .ok (.aload_n 0, 1) := by decide +kernel
theorem dX3_clear_16 : decode cX3_clear 16 = .ok (.bipush 24, 2) := by decide +kernel
theorem dX3_clear_18 : decode cX3_clear 18 = .ok (.putfield 21, 3) := by decide +kernel
theorem dX3_clear_21 : decode cX3_clear 21 = .ok (.aload_n 0, 1) := by decide +kernel
theorem dX3_clear_22 : decode cX3_clear 22 = .ok (.iconst 0, 1) := by decide +kernel
theorem dX3_clear_23 : decode cX3_clear 23 = .ok (.putfield 24, 3) := by decide +kernel
theorem dX3_clear_26 : decode cX3_clear 26 = .ok (.aload_n 0, 1) := by decide +kernel
theorem dX3_clear_27 : decode cX3_clear 27 = .ok (.iconst 0, 1) := by decide +kernel
theorem dX3_clear_28 : decode cX3_clear 28 = .ok (.putfield 34, 3) := by decide +kernel
theorem dX3_clear_31 : decode cX3_clear 31 = .ok (.aload_n 0, 1) := by decide +kernel
theorem dX3_clear_32 : decode cX3_clear 32 = .ok (.getfield 46, 3) := by decide +kernel
theorem dX3_clear_35 : decode cX3_clear 35 = .ok (.invokevirtual 60, 3) := by decide +kernel
theorem dX3_clear_38 : decode cX3_clear 38 = .ok (.aload_n 0, 1) := by decide +kernel
theorem dX3_clear_39 : decode cX3_clear 39 = .ok (.getfield 53, 3) := by decide +kernel
theorem dX3_clear_42 : decode cX3_clear 42 = .ok (.invokevirtual 63, 3) := by decide +kernel
theorem dX3_clear_45 : decode cX3_clear 45 = .ok (.return_, 1) := by decide +kernel
theorem dX3_addWarp_0 : decode cX3_addWarp 0 = .ok (.aload_n 0, 1) := by decide +kernel
theorem dX3_addWarp_1 : decode cX3_addWarp 1 = .ok (.getfield 24, 3) := by decide +kernel
theorem dX3_addWarp_4 : decode cX3_addWarp 4 = .ok (.bipush 24, 2) := by decide +kernel
theorem dX3_addWarp_6 : decode cX3_addWarp 6 = .ok (.if_icmp .lt 5, 3) := by decide +kernel
theorem dX3_addWarp_9 : decode cX3_addWarp 9 = .ok (.iconst 0, 1) := by decide +kernel
theorem dX3_addWarp_10 : decode cX3_addWarp 10 = .ok (.ireturn, 1) := by decide +kernel
theorem dX3_addWarp_11 : decode cX3_addWarp 11 = .ok (.aload_n 0, 1) := by decide +kernel
theorem dX3_addWarp_12 : decode cX3_addWarp 12 = .ok (.getfield 27, 3) := by decide +kernel
theorem dX3_addWarp_15 : decode cX3_addWarp 15 = .ok (.aload_n 0, 1) := by decide +kernel
theorem dX3_addWarp_16 : decode cX3_addWarp 16 = .ok (.getfield 24, 3) := by decide +kernel
theorem dX3_addWarp_19 : decode cX3_addWarp 19 = .ok (.iload_n 1, 1) := by decide +kernel
theorem dX3_addWarp_20 : decode cX3_addWarp 20 = .ok (.invokestatic 64, 3) := by decide +kernel
theorem dX3_addWarp_23 : decode cX3_addWarp 23 = .ok (.aload_n 0, 1) := by decide +kernel
theorem dX3_addWarp_24 : decode cX3_addWarp 24 = .ok (.getfield 31, 3) := by decide +kernel
theorem dX3_addWarp_27 : decode cX3_addWarp 27 = .ok (.aload_n 0, 1) := by decide +kernel
theorem dX3_addWarp_28 : decode cX3_addWarp 28 = .ok (.getfield 24, 3) := by decide +kernel
theorem dX3_addWarp_31 : decode cX3_addWarp 31 = .ok (.iload_n 2, 1) := by decide +kernel
theorem dX3_addWarp_32 : decode cX3_addWarp 32 = .ok (.invokestatic 64, 3) := by decide +kernel
theorem dX3_addWarp_35 : decode cX3_addWarp 35 = .ok (.aload_n 0, 1) := by decide +kernel
theorem dX3_addWarp_36 : decode cX3_addWarp 36 = .ok (.dup, 1) := by decide +kernel
theorem dX3_addWarp_37 : decode cX3_addWarp 37 = .ok (.getfield 24, 3) := by decide +kernel
theorem dX3_addWarp_40 : decode cX3_addWarp 40 = .ok (.iconst 1, 1) := by decide +kernel
theorem dX3_addWarp_41 : decode cX3_addWarp 41 = .ok (.iadd, 1) := by decide +kernel
theorem dX3_addWarp_42 : decode cX3_addWarp 42 = .ok (.putfield 24, 3) := by decide +kernel
theorem dX3_addWarp_45 : decode cX3_addWarp 45 = .ok (.iconst 1, 1) := by decide +kernel
theorem dX3_addWarp_46 : decode cX3_addWarp 46 = .ok (.ireturn, 1) := by decide +kernel
theorem dX3_addCard_0 : decode cX3_addCard 0 = .ok (.aload_n 0, 1) := by decide +kernel
theorem dX3_addCard_1 : decode cX3_addCard 1 = .ok (.getfield 37, 3) := by decide +kernel
theorem dX3_addCard_4 : decode cX3_addCard 4 = .ok (.aload_n 0, 1) := by decide +kernel
theorem dX3_addCard_5 : decode cX3_addCard 5 = .ok (.getfield 34, 3) := by decide +kernel
theorem dX3_addCard_8 : decode cX3_addCard 8 = .ok (.iload_n 1, 1) := by decide +kernel
theorem dX3_addCard_9 : decode cX3_addCard 9 = .ok (.invokestatic 64, 3) := by decide +kernel
theorem dX3_addCard_12 : decode cX3_addCard 12 = .ok (.aload_n 0, 1) := by decide +kernel
theorem dX3_addCard_13 : decode cX3_addCard 13 = .ok (.getfield 40, 3) := by decide +kernel
theorem dX3_addCard_16 : decode cX3_addCard 16 = .ok (.aload_n 0, 1) := by decide +kernel
theorem dX3_addCard_17 : decode cX3_addCard 17 = .ok (.getfield 34, 3) := by decide +kernel
theorem dX3_addCard_20 : decode cX3_addCard 20 = .ok (.iload_n 2, 1) := by decide +kernel
theorem dX3_addCard_21 : decode cX3_addCard 21 = .ok (.invokestatic 64, 3) := by decide +kernel
theorem dX3_addCard_24 : decode cX3_addCard 24 = .ok (.aload_n 0, 1) := by decide +kernel
theorem dX3_addCard_25 : decode cX3_addCard 25 = .ok (.getfield 53, 3) := by decide +kernel
theorem dX3_addCard_28 : decode cX3_addCard 28 = .ok (.getfield 68, 3) := by decide +kernel
theorem dX3_addCard_31 : decode cX3_addCard 31 = .ok (.aload_n 0, 1) := by decide +kernel
theorem dX3_addCard_32 : decode cX3_addCard 32 = .ok (.getfield 34, 3) := by decide +kernel
theorem dX3_addCard_35 : decode cX3_addCard 35 = .ok (.iload_n 1, 1) := by decide +kernel
theorem dX3_addCard_36 : decode cX3_addCard 36 = .ok (.invokestatic 64, 3) := by decide +kernel
theorem dX3_addCard_39 : decode cX3_addCard 39 = .ok (.aload_n 0, 1) := by decide +kernel
theorem dX3_addCard_40 : decode cX3_addCard 40 = .ok (.getfield 53, 3) := by decide +kernel
theorem dX3_addCard_43 : decode cX3_addCard 43 = .ok (.getfield 71, 3) := by decide +kernel
theorem dX3_addCard_46 : decode cX3_addCard 46 = .ok (.aload_n 0, 1) := by decide +kernel
theorem dX3_addCard_47 : decode cX3_addCard 47 = .ok (.getfield 34, 3) := by decide +kernel
theorem dX3_addCard_50 : decode cX3_addCard 50 = .ok (.iload_n 2, 1) := by decide +kernel
theorem dX3_addCard_51 : decode cX3_addCard 51 = .ok (.invokestatic 64, 3) := by decide +kernel
theorem dX3_addCard_54 : decode cX3_addCard 54 = .ok (.aload_n 0, 1) := by decide +kernel
theorem dX3_addCard_55 : decode cX3_addCard 55 = .ok (.dup, 1) := by decide +kernel
theorem dX3_addCard_56 : decode cX3_addCard 56 = .ok (.getfield 34, 3) := by decide +kernel
theorem dX3_addCard_59 : decode cX3_addCard 59 = .ok (.iconst 1, 1) := by decide +kernel
theorem dX3_addCard_60 : decode cX3_addCard 60 = .ok (.iadd, 1) := by decide +kernel
theorem dX3_addCard_61 : decode cX3_addCard 61 = .ok (.putfield 34, 3) := by decide +kernel
theorem dX3_addCard_64 : decode cX3_addCard 64 = .ok (.return_, 1) := by decide +kernel
theorem dX3_otherHarnesses_0 : decode cX3_otherHarnesses 0 = .ok (.iconst 1, 1) := by decide +kernel
theorem dX3_otherHarnesses_1 : decode cX3_otherHarnesses 1 = .ok (.aload_n 0, 1) := by decide +kernel
theorem dX3_otherHarnesses_2 : decode cX3_otherHarnesses 2 = .ok (.getfield 9, 3) := by decide +kernel
theorem dX3_otherHarnesses_5 : decode cX3_otherHarnesses 5 = .ok (.ishl, 1) := by decide +kernel
theorem dX3_otherHarnesses_6 : decode cX3_otherHarnesses 6 = .ok (.iconst 1, 1) := by decide +kernel
theorem dX3_otherHarnesses_7 : decode cX3_otherHarnesses 7 = .ok (.isub, 1) := by decide +kernel
theorem dX3_otherHarnesses_8 : decode cX3_otherHarnesses 8 = .ok (.iload_n 1, 1) := by decide +kernel
theorem dX3_otherHarnesses_9 : decode cX3_otherHarnesses 9 = .ok (.iconst (-1), 1) := by decide +kernel
theorem dX3_otherHarnesses_10 : decode cX3_otherHarnesses 10 = .ok (.ixor, 1) := by decide +kernel
theorem dX3_otherHarnesses_11 : decode cX3_otherHarnesses 11 = .ok (.iand, 1) := by decide +kernel
theorem dX3_otherHarnesses_12 : decode cX3_otherHarnesses 12 = .ok (.ireturn, 1) := by decide +kernel
theorem dX3_warpsOfHarnesses_0 : decode cX3_warpsOfHarnesses 0 = .ok (.iconst 0, 1) := by decide +kernel
theorem dX3_warpsOfHarnesses_1 : decode cX3_warpsOfHarnesses 1 = .ok (.istore_n 2, 1) := by decide +kernel
theorem dX3_warpsOfHarnesses_2 : decode cX3_warpsOfHarnesses 2 = .ok (.iconst 0, 1) := by decide +kernel
theorem dX3_warpsOfHarnesses_3 : decode cX3_warpsOfHarnesses 3 = .ok (.istore_n 3, 1) := by decide +kernel
theorem dX3_warpsOfHarnesses_4 : decode cX3_warpsOfHarnesses 4 = .ok (.iload_n 3, 1) := by decide +kernel
theorem dX3_warpsOfHarnesses_5 : decode cX3_warpsOfHarnesses 5 = .ok (.aload_n 0, 1) := by decide +kernel
theorem dX3_warpsOfHarnesses_6 : decode cX3_warpsOfHarnesses 6 = .ok (.getfield 24, 3) := by decide +kernel
theorem dX3_warpsOfHarnesses_9 : decode cX3_warpsOfHarnesses 9 = .ok (.if_icmp .ge 30, 3) := by decide +kernel
theorem dX3_warpsOfHarnesses_12 : decode cX3_warpsOfHarnesses 12 = .ok (.iload_n 1, 1) := by decide +kernel
theorem dX3_warpsOfHarnesses_13 : decode cX3_warpsOfHarnesses 13 = .ok (.aload_n 0, 1) := by decide +kernel
theorem dX3_warpsOfHarnesses_14 : decode cX3_warpsOfHarnesses 14 = .ok (.getfield 27, 3) := by decide +kernel
theorem dX3_warpsOfHarnesses_17 : decode cX3_warpsOfHarnesses 17 = .ok (.iload_n 3, 1) := by decide +kernel
theorem dX3_warpsOfHarnesses_18 : decode cX3_warpsOfHarnesses 18 = .ok (.invokestatic 74, 3) := by decide +kernel
theorem dX3_warpsOfHarnesses_21 : decode cX3_warpsOfHarnesses 21 = .ok (.invokestatic 78, 3) := by decide +kernel
theorem dX3_warpsOfHarnesses_24 : decode cX3_warpsOfHarnesses 24 = .ok (.ifCond .eq 9, 3) := by decide +kernel
theorem dX3_warpsOfHarnesses_27 : decode cX3_warpsOfHarnesses 27 = .ok (.iload_n 2, 1) := by decide +kernel
theorem dX3_warpsOfHarnesses_28 : decode cX3_warpsOfHarnesses 28 = .ok (.iconst 1, 1) := by decide +kernel
theorem dX3_warpsOfHarnesses_29 : decode cX3_warpsOfHarnesses 29 = .ok (.iload_n 3, 1) := by decide +kernel
theorem dX3_warpsOfHarnesses_30 : decode cX3_warpsOfHarnesses 30 = .ok (.ishl, 1) := by decide +kernel
theorem dX3_warpsOfHarnesses_31 : decode cX3_warpsOfHarnesses 31 = .ok (.ior, 1) := by decide +kernel
theorem dX3_warpsOfHarnesses_32 : decode cX3_warpsOfHarnesses 32 = .ok (.istore_n 2, 1) := by decide +kernel
theorem dX3_warpsOfHarnesses_33 : decode cX3_warpsOfHarnesses 33 = .ok (.iinc 3 1, 3) := by decide +kernel
theorem dX3_warpsOfHarnesses_36 : decode cX3_warpsOfHarnesses 36 = .ok (.goto (-32), 3) := by decide +kernel
theorem dX3_warpsOfHarnesses_39 : decode cX3_warpsOfHarnesses 39 = .ok (.iload_n 2, 1) := by decide +kernel
theorem dX3_warpsOfHarnesses_40 : decode cX3_warpsOfHarnesses 40 = .ok (.ireturn, 1) := by decide +kernel
theorem dX3_obstacle_0 : decode cX3_obstacle 0 = .ok (.aload_n 0, 1) := by decide +kernel
theorem dX3_obstacle_1 : decode cX3_obstacle 1 = .ok (.getfield 46, 3) := by decide +kernel
theorem dX3_obstacle_4 : decode cX3_obstacle 4 = .ok (.getfield 82, 3) := by decide +kernel
theorem dX3_obstacle_7 : decode cX3_obstacle 7 = .ok (.ifCond .ne 5, 3) := by decide +kernel
theorem dX3_obstacle_10 : decode cX3_obstacle 10 = .ok (.iconst 1, 1) := by decide +kernel
theorem dX3_obstacle_11 : decode cX3_obstacle 11 = .ok (.ireturn, 1) := by decide +kernel
theorem dX3_obstacle_12 : decode cX3_obstacle 12 = .ok (.aload_n 1, 1) := by decide +kernel
theorem dX3_obstacle_13 : decode cX3_obstacle 13 = .ok (.getfield 85, 3) := by decide +kernel
theorem dX3_obstacle_16 : decode cX3_obstacle 16 = .ok (.bipush 60, 2) := by decide +kernel
theorem dX3_obstacle_18 : decode cX3_obstacle 18 = .ok (.if_icmp .lt 5, 3) := by decide +kernel
theorem dX3_obstacle_21 : decode cX3_obstacle 21 = .ok (.iconst 2, 1) := by decide +kernel
theorem dX3_obstacle_22 : decode cX3_obstacle 22 = .ok (.ireturn, 1) := by decide +kernel
theorem dX3_obstacle_23 : decode cX3_obstacle 23 = .ok (.aload_n 0, 1) := by decide +kernel
theorem dX3_obstacle_24 : decode cX3_obstacle 24 = .ok (.getfield 46, 3) := by decide +kernel
theorem dX3_obstacle_27 : decode cX3_obstacle 27 = .ok (.aload_n 1, 1) := by decide +kernel
theorem dX3_obstacle_28 : decode cX3_obstacle 28 = .ok (.getfield 85, 3) := by decide +kernel
theorem dX3_obstacle_31 : decode cX3_obstacle 31 = .ok (.invokevirtual 88, 3) := by decide +kernel
theorem dX3_obstacle_34 : decode cX3_obstacle 34 = .ok (.istore_n 2, 1) := by decide +kernel
theorem dX3_obstacle_35 : decode cX3_obstacle 35 = .ok (.aload_n 1, 1) := by decide +kernel
theorem dX3_obstacle_36 : decode cX3_obstacle 36 = .ok (.getfield 92, 3) := by decide +kernel
theorem dX3_obstacle_39 : decode cX3_obstacle 39 = .ok (.aload_n 1, 1) := by decide +kernel
theorem dX3_obstacle_40 : decode cX3_obstacle 40 = .ok (.getfield 71, 3) := by decide +kernel
theorem dX3_obstacle_43 : decode cX3_obstacle 43 = .ok (.iload_n 2, 1) := by decide +kernel
theorem dX3_obstacle_44 : decode cX3_obstacle 44 = .ok (.invokestatic 74, 3) := by decide +kernel
theorem dX3_obstacle_47 : decode cX3_obstacle 47 = .ok (.invokestatic 74, 3) := by decide +kernel
theorem dX3_obstacle_50 : decode cX3_obstacle 50 = .ok (.aload_n 0, 1) := by decide +kernel
theorem dX3_obstacle_51 : decode cX3_obstacle 51 = .ok (.getfield 24, 3) := by decide +kernel
theorem dX3_obstacle_54 : decode cX3_obstacle 54 = .ok (.if_icmp .ge 5, 3) := by decide +kernel
theorem dX3_obstacle_57 : decode cX3_obstacle 57 = .ok (.iconst 3, 1) := by decide +kernel
theorem dX3_obstacle_58 : decode cX3_obstacle 58 = .ok (.ireturn, 1) := by decide +kernel
theorem dX3_obstacle_59 : decode cX3_obstacle 59 = .ok (.aload_n 0, 1) := by decide +kernel
theorem dX3_obstacle_60 : decode cX3_obstacle 60 = .ok (.aload_n 1, 1) := by decide +kernel
theorem dX3_obstacle_61 : decode cX3_obstacle 61 = .ok (.getfield 68, 3) := by decide +kernel
theorem dX3_obstacle_64 : decode cX3_obstacle 64 = .ok (.iload_n 2, 1) := by decide +kernel
theorem dX3_obstacle_65 : decode cX3_obstacle 65 = .ok (.invokestatic 74, 3) := by decide +kernel
theorem dX3_obstacle_68 : decode cX3_obstacle 68 = .ok (.invokevirtual 95, 3) := by decide +kernel
theorem dX3_obstacle_71 : decode cX3_obstacle 71 = .ok (.invokestatic 98, 3) := by decide +kernel
theorem dX3_obstacle_74 : decode cX3_obstacle 74 = .ok (.istore_n 3, 1) := by decide +kernel
theorem dX3_obstacle_75 : decode cX3_obstacle 75 = .ok (.iload_n 3, 1) := by decide +kernel
theorem dX3_obstacle_76 : decode cX3_obstacle 76 = .ok (.aload_n 0, 1) := by decide +kernel
theorem dX3_obstacle_77 : decode cX3_obstacle 77 = .ok (.getfield 21, 3) := by decide +kernel
theorem dX3_obstacle_80 : decode cX3_obstacle 80 = .ok (.if_icmp .le 7, 3) := by decide +kernel
theorem dX3_obstacle_83 : decode cX3_obstacle 83 = .ok (.iconst 4, 1) := by decide +kernel
theorem dX3_obstacle_84 : decode cX3_obstacle 84 = .ok (.goto 4, 3) := by decide +kernel
theorem dX3_obstacle_87 : decode cX3_obstacle 87 = .ok (.iconst 0, 1) := by decide +kernel
theorem dX3_obstacle_88 : decode cX3_obstacle 88 = .ok (.ireturn, 1) := by decide +kernel
theorem dX3_weaveUpTo_0 : decode cX3_weaveUpTo 0 = .ok (.iconst 0, 1) := by decide +kernel
theorem dX3_weaveUpTo_1 : decode cX3_weaveUpTo 1 = .ok (.istore_n 3, 1) := by decide +kernel
theorem dX3_weaveUpTo_2 : decode cX3_weaveUpTo 2 = .ok (.iload_n 3, 1) := by decide +kernel
theorem dX3_weaveUpTo_3 : decode cX3_weaveUpTo 3 = .ok (.iload_n 2, 1) := by decide +kernel
theorem dX3_weaveUpTo_4 : decode cX3_weaveUpTo 4 = .ok (.if_icmp .ge 22, 3) := by decide +kernel
theorem dX3_weaveUpTo_7 : decode cX3_weaveUpTo 7 = .ok (.aload_n 0, 1) := by decide +kernel
theorem dX3_weaveUpTo_8 : decode cX3_weaveUpTo 8 = .ok (.aload_n 1, 1) := by decide +kernel
theorem dX3_weaveUpTo_9 : decode cX3_weaveUpTo 9 = .ok (.invokevirtual 103, 3) := by decide +kernel
theorem dX3_weaveUpTo_12 : decode cX3_weaveUpTo 12 = .ok (.ifCond .ne 14, 3) := by decide +kernel
theorem dX3_weaveUpTo_15 : decode cX3_weaveUpTo 15 = .ok (.aload_n 0, 1) := by decide +kernel
theorem dX3_weaveUpTo_16 : decode cX3_weaveUpTo 16 = .ok (.aload_n 1, 1) := by decide +kernel
theorem dX3_weaveUpTo_17 : decode cX3_weaveUpTo 17 = .ok (.invokevirtual 107, 3) := by decide +kernel
theorem dX3_weaveUpTo_20 : decode cX3_weaveUpTo 20 = .ok (.iinc 3 1, 3) := by decide +kernel
theorem dX3_weaveUpTo_23 : decode cX3_weaveUpTo 23 = .ok (.goto (-21), 3) := by decide +kernel
theorem dX3_weaveUpTo_26 : decode cX3_weaveUpTo 26 = .ok (.iload_n 3, 1) := by decide +kernel
theorem dX3_weaveUpTo_27 : decode cX3_weaveUpTo 27 = .ok (.ireturn, 1) := by decide +kernel
theorem dX3_weaveNext_0 : decode cX3_weaveNext 0 = .ok (.aload_n 0, 1) := by decide +kernel
theorem dX3_weaveNext_1 : decode cX3_weaveNext 1 = .ok (.getfield 46, 3) := by decide +kernel
theorem dX3_weaveNext_4 : decode cX3_weaveNext 4 = .ok (.aload_n 1, 1) := by decide +kernel
theorem dX3_weaveNext_5 : decode cX3_weaveNext 5 = .ok (.getfield 85, 3) := by decide +kernel
theorem dX3_weaveNext_8 : decode cX3_weaveNext 8 = .ok (.invokevirtual 88, 3) := by decide +kernel
theorem dX3_weaveNext_11 : decode cX3_weaveNext 11 = .ok (.istore_n 2, 1) := by decide +kernel
theorem dX3_weaveNext_12 : decode cX3_weaveNext 12 = .ok (.aload_n 1, 1) := by decide +kernel
theorem dX3_weaveNext_13 : decode cX3_weaveNext 13 = .ok (.getfield 71, 3) := by decide +kernel
theorem dX3_weaveNext_16 : decode cX3_weaveNext 16 = .ok (.iload_n 2, 1) := by decide +kernel
theorem dX3_weaveNext_17 : decode cX3_weaveNext 17 = .ok (.invokestatic 74, 3) := by decide +kernel
theorem dX3_weaveNext_20 : decode cX3_weaveNext 20 = .ok (.istore_n 3, 1) := by decide +kernel
theorem dX3_weaveNext_21 : decode cX3_weaveNext 21 = .ok (.aload_n 1, 1) := by decide +kernel
theorem dX3_weaveNext_22 : decode cX3_weaveNext 22 = .ok (.iload_n 3, 1) := by decide +kernel
theorem dX3_weaveNext_23 : decode cX3_weaveNext 23 = .ok (.aload_n 0, 1) := by decide +kernel
theorem dX3_weaveNext_24 : decode cX3_weaveNext 24 = .ok (.getfield 24, 3) := by decide +kernel
theorem dX3_weaveNext_27 : decode cX3_weaveNext 27 = .ok (.ineg, 1) := by decide +kernel
theorem dX3_weaveNext_28 : decode cX3_weaveNext 28 = .ok (.invokevirtual 111, 3) := by decide +kernel
theorem dX3_weaveNext_31 : decode cX3_weaveNext 31 = .ok (.aload_n 0, 1) := by decide +kernel
theorem dX3_weaveNext_32 : decode cX3_weaveNext 32 = .ok (.aload_n 1, 1) := by decide +kernel
theorem dX3_weaveNext_33 : decode cX3_weaveNext 33 = .ok (.aload_n 1, 1) := by decide +kernel
theorem dX3_weaveNext_34 : decode cX3_weaveNext 34 = .ok (.getfield 68, 3) := by decide +kernel
theorem dX3_weaveNext_37 : decode cX3_weaveNext 37 = .ok (.iload_n 2, 1) := by decide +kernel
theorem dX3_weaveNext_38 : decode cX3_weaveNext 38 = .ok (.invokestatic 74, 3) := by decide +kernel
theorem dX3_weaveNext_41 : decode cX3_weaveNext 41 = .ok (.invokevirtual 115, 3) := by decide +kernel
theorem dX3_weaveNext_44 : decode cX3_weaveNext 44 = .ok (.aload_n 1, 1) := by decide +kernel
theorem dX3_weaveNext_45 : decode cX3_weaveNext 45 = .ok (.aload_n 0, 1) := by decide +kernel
theorem dX3_weaveNext_46 : decode cX3_weaveNext 46 = .ok (.aload_n 1, 1) := by decide +kernel
theorem dX3_weaveNext_47 : decode cX3_weaveNext 47 = .ok (.getfield 119, 3) := by decide +kernel
theorem dX3_weaveNext_50 : decode cX3_weaveNext 50 = .ok (.invokevirtual 95, 3) := by decide +kernel
theorem dX3_weaveNext_53 : decode cX3_weaveNext 53 = .ok (.aload_n 1, 1) := by decide +kernel
theorem dX3_weaveNext_54 : decode cX3_weaveNext 54 = .ok (.getfield 122, 3) := by decide +kernel
theorem dX3_weaveNext_57 : decode cX3_weaveNext 57 = .ok (.iconst (-1), 1) := by decide +kernel
theorem dX3_weaveNext_58 : decode cX3_weaveNext 58 = .ok (.ixor, 1) := by decide +kernel
theorem dX3_weaveNext_59 : decode cX3_weaveNext 59 = .ok (.iand, 1) := by decide +kernel
theorem dX3_weaveNext_60 : decode cX3_weaveNext 60 = .ok (.iload_n 3, 1) := by decide +kernel
theorem dX3_weaveNext_61 : decode cX3_weaveNext 61 = .ok (.invokevirtual 125, 3) := by decide +kernel
theorem dX3_weaveNext_64 : decode cX3_weaveNext 64 = .ok (.aload_n 0, 1) := by decide +kernel
theorem dX3_weaveNext_65 : decode cX3_weaveNext 65 = .ok (.aload_n 1, 1) := by decide +kernel
theorem dX3_weaveNext_66 : decode cX3_weaveNext 66 = .ok (.invokevirtual 128, 3) := by decide +kernel
theorem dX3_weaveNext_69 : decode cX3_weaveNext 69 = .ok (.return_, 1) := by decide +kernel
theorem dX3_moveHarnesses_0 : decode cX3_moveHarnesses 0 = .ok (.aload_n 1, 1) := by decide +kernel
theorem dX3_moveHarnesses_1 : decode cX3_moveHarnesses 1 = .ok (.getfield 119, 3) := by decide +kernel
theorem dX3_moveHarnesses_4 : decode cX3_moveHarnesses 4 = .ok (.iload_n 2, 1) := by decide +kernel
theorem dX3_moveHarnesses_5 : decode cX3_moveHarnesses 5 = .ok (.ixor, 1) := by decide +kernel
theorem dX3_moveHarnesses_6 : decode cX3_moveHarnesses 6 = .ok (.aload_n 1, 1) := by decide +kernel
theorem dX3_moveHarnesses_7 : decode cX3_moveHarnesses 7 = .ok (.getfield 131, 3) := by decide +kernel
theorem dX3_moveHarnesses_10 : decode cX3_moveHarnesses 10 = .ok (.iconst (-1), 1) := by decide +kernel
theorem dX3_moveHarnesses_11 : decode cX3_moveHarnesses 11 = .ok (.ixor, 1) := by decide +kernel
theorem dX3_moveHarnesses_12 : decode cX3_moveHarnesses 12 = .ok (.iand, 1) := by decide +kernel
theorem dX3_moveHarnesses_13 : decode cX3_moveHarnesses 13 = .ok (.istore_n 3, 1) := by decide +kernel
theorem dX3_moveHarnesses_14 : decode cX3_moveHarnesses 14 = .ok (.aload_n 1, 1) := by decide +kernel
theorem dX3_moveHarnesses_15 : decode cX3_moveHarnesses 15 = .ok (.dup, 1) := by decide +kernel
theorem dX3_moveHarnesses_16 : decode cX3_moveHarnesses 16 = .ok (.getfield 119, 3) := by decide +kernel
theorem dX3_moveHarnesses_19 : decode cX3_moveHarnesses 19 = .ok (.iload_n 3, 1) := by decide +kernel
theorem dX3_moveHarnesses_20 : decode cX3_moveHarnesses 20 = .ok (.ixor, 1) := by decide +kernel
theorem dX3_moveHarnesses_21 : decode cX3_moveHarnesses 21 = .ok (.putfield 119, 3) := by decide +kernel
theorem dX3_moveHarnesses_24 : decode cX3_moveHarnesses 24 = .ok (.iconst 0, 1) := by decide +kernel
theorem dX3_moveHarnesses_25 : decode cX3_moveHarnesses 25 = .ok (.istore 4, 2) := by decide +kernel
theorem dX3_moveHarnesses_27 : decode cX3_moveHarnesses 27 = .ok (.iload 4, 2) := by decide +kernel
theorem dX3_moveHarnesses_29 : decode cX3_moveHarnesses 29 = .ok (.aload_n 0, 1) := by decide +kernel
theorem dX3_moveHarnesses_30 : decode cX3_moveHarnesses 30 = .ok (.getfield 9, 3) := by decide +kernel
theorem dX3_moveHarnesses_33 : decode cX3_moveHarnesses 33 = .ok (.if_icmp .ge 69, 3) := by decide +kernel
theorem dX3_moveHarnesses_36 : decode cX3_moveHarnesses 36 = .ok (.iload_n 3, 1) := by decide +kernel
theorem dX3_moveHarnesses_37 : decode cX3_moveHarnesses 37 = .ok (.iload 4, 2) := by decide +kernel
theorem dX3_moveHarnesses_39 : decode cX3_moveHarnesses 39 = .ok (.invokestatic 78, 3) := by decide +kernel
theorem dX3_moveHarnesses_42 : decode cX3_moveHarnesses 42 = .ok (.ifCond .eq 54, 3) := by decide +kernel
theorem dX3_moveHarnesses_45 : decode cX3_moveHarnesses 45 = .ok (.aload_n 1, 1) := by decide +kernel
theorem dX3_moveHarnesses_46 : decode cX3_moveHarnesses 46 = .ok (.getfield 134, 3) := by decide +kernel
theorem dX3_moveHarnesses_49 : decode cX3_moveHarnesses 49 = .ok (.iload 4, 2) := by decide +kernel
theorem dX3_moveHarnesses_51 : decode cX3_moveHarnesses 51 = .ok (.invokestatic 74, 3) := by decide +kernel
theorem dX3_moveHarnesses_54 : decode cX3_moveHarnesses 54 = .ok (.iconst 1, 1) := by decide +kernel
theorem dX3_moveHarnesses_55 : decode cX3_moveHarnesses 55 = .ok (.iadd, 1) := by decide +kernel
theorem dX3_moveHarnesses_56 : decode cX3_moveHarnesses 56 = .ok (.istore 5, 2) := by decide +kernel
theorem dX3_moveHarnesses_58 : decode cX3_moveHarnesses 58 = .ok (.aload_n 1, 1) := by decide +kernel
theorem dX3_moveHarnesses_59 : decode cX3_moveHarnesses 59 = .ok (.getfield 134, 3) := by decide +kernel
theorem dX3_moveHarnesses_62 : decode cX3_moveHarnesses 62 = .ok (.iload 4, 2) := by decide +kernel
theorem dX3_moveHarnesses_64 : decode cX3_moveHarnesses 64 = .ok (.iload 5, 2) := by decide +kernel
theorem dX3_moveHarnesses_66 : decode cX3_moveHarnesses 66 = .ok (.invokestatic 64, 3) := by decide +kernel
theorem dX3_moveHarnesses_69 : decode cX3_moveHarnesses 69 = .ok (.iload 5, 2) := by decide +kernel
theorem dX3_moveHarnesses_71 : decode cX3_moveHarnesses 71 = .ok (.aload_n 0, 1) := by decide +kernel
theorem dX3_moveHarnesses_72 : decode cX3_moveHarnesses 72 = .ok (.getfield 15, 3) := by decide +kernel
theorem dX3_moveHarnesses_75 : decode cX3_moveHarnesses 75 = .ok (.if_icmp .ne 21, 3) := by decide +kernel
theorem dX3_moveHarnesses_78 : decode cX3_moveHarnesses 78 = .ok (.aload_n 1, 1) := by decide +kernel
theorem dX3_moveHarnesses_79 : decode cX3_moveHarnesses 79 = .ok (.dup, 1) := by decide +kernel
theorem dX3_moveHarnesses_80 : decode cX3_moveHarnesses 80 = .ok (.getfield 131, 3) := by decide +kernel
theorem dX3_moveHarnesses_83 : decode cX3_moveHarnesses 83 = .ok (.iconst 1, 1) := by decide +kernel
theorem dX3_moveHarnesses_84 : decode cX3_moveHarnesses 84 = .ok (.iload 4, 2) := by decide +kernel
theorem dX3_moveHarnesses_86 : decode cX3_moveHarnesses 86 = .ok (.ishl, 1) := by decide +kernel
theorem dX3_moveHarnesses_87 : decode cX3_moveHarnesses 87 = .ok (.ior, 1) := by decide +kernel
theorem dX3_moveHarnesses_88 : decode cX3_moveHarnesses 88 = .ok (.putfield 131, 3) := by decide +kernel
theorem dX3_moveHarnesses_91 : decode cX3_moveHarnesses 91 = .ok (.aload_n 1, 1) := by decide +kernel
theorem dX3_moveHarnesses_92 : decode cX3_moveHarnesses 92 = .ok (.iconst 1, 1) := by decide +kernel
theorem dX3_moveHarnesses_93 : decode cX3_moveHarnesses 93 = .ok (.putfield 137, 3) := by decide +kernel
theorem dX3_moveHarnesses_96 : decode cX3_moveHarnesses 96 = .ok (.iinc 4 1, 3) := by decide +kernel
theorem dX3_moveHarnesses_99 : decode cX3_moveHarnesses 99 = .ok (.goto (-72), 3) := by decide +kernel
theorem dX3_moveHarnesses_102 : decode cX3_moveHarnesses 102 = .ok (.return_, 1) := by decide +kernel
theorem dX3_breakWarps_0 : decode cX3_breakWarps 0 = .ok (.aload_n 0, 1) := by decide +kernel
theorem dX3_breakWarps_1 : decode cX3_breakWarps 1 = .ok (.getfield 18, 3) := by decide +kernel
theorem dX3_breakWarps_4 : decode cX3_breakWarps 4 = .ok (.ifCond .eq 14, 3) := by decide +kernel
theorem dX3_breakWarps_7 : decode cX3_breakWarps 7 = .ok (.aload_n 1, 1) := by decide +kernel
theorem dX3_breakWarps_8 : decode cX3_breakWarps 8 = .ok (.getfield 85, 3) := by decide +kernel
theorem dX3_breakWarps_11 : decode cX3_breakWarps 11 = .ok (.aload_n 0, 1) := by decide +kernel
theorem dX3_breakWarps_12 : decode cX3_breakWarps 12 = .ok (.getfield 18, 3) := by decide +kernel
theorem dX3_breakWarps_15 : decode cX3_breakWarps 15 = .ok (.if_icmp .ge 4, 3) := by decide +kernel
theorem dX3_breakWarps_18 : decode cX3_breakWarps 18 = .ok (.return_, 1) := by decide +kernel
theorem dX3_breakWarps_19 : decode cX3_breakWarps 19 = .ok (.aload_n 1, 1) := by decide +kernel
theorem dX3_breakWarps_20 : decode cX3_breakWarps 20 = .ok (.getfield 141, 3) := by decide +kernel
theorem dX3_breakWarps_23 : decode cX3_breakWarps 23 = .ok (.aload_n 1, 1) := by decide +kernel
theorem dX3_breakWarps_24 : decode cX3_breakWarps 24 = .ok (.getfield 85, 3) := by decide +kernel
theorem dX3_breakWarps_27 : decode cX3_breakWarps 27 = .ok (.iconst 1, 1) := by decide +kernel
theorem dX3_breakWarps_28 : decode cX3_breakWarps 28 = .ok (.isub, 1) := by decide +kernel
theorem dX3_breakWarps_29 : decode cX3_breakWarps 29 = .ok (.invokestatic 74, 3) := by decide +kernel
theorem dX3_breakWarps_32 : decode cX3_breakWarps 32 = .ok (.istore_n 2, 1) := by decide +kernel
theorem dX3_breakWarps_33 : decode cX3_breakWarps 33 = .ok (.aload_n 1, 1) := by decide +kernel
theorem dX3_breakWarps_34 : decode cX3_breakWarps 34 = .ok (.getfield 85, 3) := by decide +kernel
theorem dX3_breakWarps_37 : decode cX3_breakWarps 37 = .ok (.aload_n 0, 1) := by decide +kernel
theorem dX3_breakWarps_38 : decode cX3_breakWarps 38 = .ok (.getfield 18, 3) := by decide +kernel
theorem dX3_breakWarps_41 : decode cX3_breakWarps 41 = .ok (.isub, 1) := by decide +kernel
theorem dX3_breakWarps_42 : decode cX3_breakWarps 42 = .ok (.istore_n 3, 1) := by decide +kernel
theorem dX3_breakWarps_43 : decode cX3_breakWarps 43 = .ok (.iload_n 3, 1) := by decide +kernel
theorem dX3_breakWarps_44 : decode cX3_breakWarps 44 = .ok (.aload_n 1, 1) := by decide +kernel
theorem dX3_breakWarps_45 : decode cX3_breakWarps 45 = .ok (.getfield 85, 3) := by decide +kernel
theorem dX3_breakWarps_48 : decode cX3_breakWarps 48 = .ok (.if_icmp .ge 20, 3) := by decide +kernel
theorem dX3_breakWarps_51 : decode cX3_breakWarps 51 = .ok (.iload_n 2, 1) := by decide +kernel
theorem dX3_breakWarps_52 : decode cX3_breakWarps 52 = .ok (.aload_n 1, 1) := by decide +kernel
theorem dX3_breakWarps_53 : decode cX3_breakWarps 53 = .ok (.getfield 141, 3) := by decide +kernel
theorem dX3_breakWarps_56 : decode cX3_breakWarps 56 = .ok (.iload_n 3, 1) := by decide +kernel
theorem dX3_breakWarps_57 : decode cX3_breakWarps 57 = .ok (.invokestatic 74, 3) := by decide +kernel
theorem dX3_breakWarps_60 : decode cX3_breakWarps 60 = .ok (.iand, 1) := by decide +kernel
theorem dX3_breakWarps_61 : decode cX3_breakWarps 61 = .ok (.istore_n 2, 1) := by decide +kernel
theorem dX3_breakWarps_62 : decode cX3_breakWarps 62 = .ok (.iinc 3 1, 3) := by decide +kernel
theorem dX3_breakWarps_65 : decode cX3_breakWarps 65 = .ok (.goto (-22), 3) := by decide +kernel
theorem dX3_breakWarps_68 : decode cX3_breakWarps 68 = .ok (.iload_n 2, 1) := by decide +kernel
theorem dX3_breakWarps_69 : decode cX3_breakWarps 69 = .ok (.ifCond .eq 18, 3) := by decide +kernel
theorem dX3_breakWarps_72 : decode cX3_breakWarps 72 = .ok (.aload_n 1, 1) := by decide +kernel
theorem dX3_breakWarps_73 : decode cX3_breakWarps 73 = .ok (.dup, 1) := by decide +kernel
theorem dX3_breakWarps_74 : decode cX3_breakWarps 74 = .ok (.getfield 122, 3) := by decide +kernel
theorem dX3_breakWarps_77 : decode cX3_breakWarps 77 = .ok (.iload_n 2, 1) := by decide +kernel
theorem dX3_breakWarps_78 : decode cX3_breakWarps 78 = .ok (.ior, 1) := by decide +kernel
theorem dX3_breakWarps_79 : decode cX3_breakWarps 79 = .ok (.putfield 122, 3) := by decide +kernel
theorem dX3_breakWarps_82 : decode cX3_breakWarps 82 = .ok (.aload_n 1, 1) := by decide +kernel
theorem dX3_breakWarps_83 : decode cX3_breakWarps 83 = .ok (.iconst 1, 1) := by decide +kernel
theorem dX3_breakWarps_84 : decode cX3_breakWarps 84 = .ok (.putfield 137, 3) := by decide +kernel
theorem dX3_breakWarps_87 : decode cX3_breakWarps 87 = .ok (.return_, 1) := by decide +kernel
theorem dX3_removeRows_0 : decode cX3_removeRows 0 = .ok (.iconst 0, 1) := by decide +kernel
theorem dX3_removeRows_1 : decode cX3_removeRows 1 = .ok (.istore_n 2, 1) := by decide +kernel
theorem dX3_removeRows_2 : decode cX3_removeRows 2 = .ok (.iload_n 2, 1) := by decide +kernel
theorem dX3_removeRows_3 : decode cX3_removeRows 3 = .ok (.iload_n 1, 1) := by decide +kernel
theorem dX3_removeRows_4 : decode cX3_removeRows 4 = .ok (.if_icmp .ge 60, 3) := by decide +kernel
theorem dX3_removeRows_7 : decode cX3_removeRows 7 = .ok (.aload_n 0, 1) := by decide +kernel
theorem dX3_removeRows_8 : decode cX3_removeRows 8 = .ok (.getfield 53, 3) := by decide +kernel
theorem dX3_removeRows_11 : decode cX3_removeRows 11 = .ok (.getfield 85, 3) := by decide +kernel
theorem dX3_removeRows_14 : decode cX3_removeRows 14 = .ok (.ifCond .le 50, 3) := by decide +kernel
theorem dX3_removeRows_17 : decode cX3_removeRows 17 = .ok (.aload_n 0, 1) := by decide +kernel
theorem dX3_removeRows_18 : decode cX3_removeRows 18 = .ok (.getfield 53, 3) := by decide +kernel
theorem dX3_removeRows_21 : decode cX3_removeRows 21 = .ok (.dup, 1) := by decide +kernel
theorem dX3_removeRows_22 : decode cX3_removeRows 22 = .ok (.getfield 85, 3) := by decide +kernel
theorem dX3_removeRows_25 : decode cX3_removeRows 25 = .ok (.iconst 1, 1) := by decide +kernel
theorem dX3_removeRows_26 : decode cX3_removeRows 26 = .ok (.isub, 1) := by decide +kernel
theorem dX3_removeRows_27 : decode cX3_removeRows 27 = .ok (.putfield 85, 3) := by decide +kernel
theorem dX3_removeRows_30 : decode cX3_removeRows 30 = .ok (.aload_n 0, 1) := by decide +kernel
theorem dX3_removeRows_31 : decode cX3_removeRows 31 = .ok (.getfield 53, 3) := by decide +kernel
theorem dX3_removeRows_34 : decode cX3_removeRows 34 = .ok (.aload_n 0, 1) := by decide +kernel
theorem dX3_removeRows_35 : decode cX3_removeRows 35 = .ok (.getfield 53, 3) := by decide +kernel
theorem dX3_removeRows_38 : decode cX3_removeRows 38 = .ok (.getfield 144, 3) := by decide +kernel
theorem dX3_removeRows_41 : decode cX3_removeRows 41 = .ok (.aload_n 0, 1) := by decide +kernel
theorem dX3_removeRows_42 : decode cX3_removeRows 42 = .ok (.getfield 53, 3) := by decide +kernel
theorem dX3_removeRows_45 : decode cX3_removeRows 45 = .ok (.getfield 85, 3) := by decide +kernel
theorem dX3_removeRows_48 : decode cX3_removeRows 48 = .ok (.invokestatic 74, 3) := by decide +kernel
theorem dX3_removeRows_51 : decode cX3_removeRows 51 = .ok (.aload_n 0, 1) := by decide +kernel
theorem dX3_removeRows_52 : decode cX3_removeRows 52 = .ok (.getfield 24, 3) := by decide +kernel
theorem dX3_removeRows_55 : decode cX3_removeRows 55 = .ok (.invokevirtual 111, 3) := by decide +kernel
theorem dX3_removeRows_58 : decode cX3_removeRows 58 = .ok (.iinc 2 1, 3) := by decide +kernel
theorem dX3_removeRows_61 : decode cX3_removeRows 61 = .ok (.goto (-59), 3) := by decide +kernel
theorem dX3_removeRows_64 : decode cX3_removeRows 64 = .ok (.return_, 1) := by decide +kernel
theorem dX3_cellCount_0 : decode cX3_cellCount 0 = .ok (.aload_n 0, 1) := by decide +kernel
theorem dX3_cellCount_1 : decode cX3_cellCount 1 = .ok (.getfield 53, 3) := by decide +kernel
theorem dX3_cellCount_4 : decode cX3_cellCount 4 = .ok (.getfield 85, 3) := by decide +kernel
theorem dX3_cellCount_7 : decode cX3_cellCount 7 = .ok (.aload_n 0, 1) := by decide +kernel
theorem dX3_cellCount_8 : decode cX3_cellCount 8 = .ok (.getfield 24, 3) := by decide +kernel
theorem dX3_cellCount_11 : decode cX3_cellCount 11 = .ok (.imul, 1) := by decide +kernel
theorem dX3_cellCount_12 : decode cX3_cellCount 12 = .ok (.ireturn, 1) := by decide +kernel
theorem dX3_colourOfCell_0 : decode cX3_colourOfCell 0 = .ok (.aload_n 0, 1) := by decide +kernel
theorem dX3_colourOfCell_1 : decode cX3_colourOfCell 1 = .ok (.getfield 53, 3) := by decide +kernel
theorem dX3_colourOfCell_4 : decode cX3_colourOfCell 4 = .ok (.getfield 141, 3) := by decide +kernel
theorem dX3_colourOfCell_7 : decode cX3_colourOfCell 7 = .ok (.iload_n 1, 1) := by decide +kernel
theorem dX3_colourOfCell_8 : decode cX3_colourOfCell 8 = .ok (.invokestatic 74, 3) := by decide +kernel
theorem dX3_colourOfCell_11 : decode cX3_colourOfCell 11 = .ok (.iload_n 2, 1) := by decide +kernel
theorem dX3_colourOfCell_12 : decode cX3_colourOfCell 12 = .ok (.invokestatic 78, 3) := by decide +kernel
theorem dX3_colourOfCell_15 : decode cX3_colourOfCell 15 = .ok (.ifCond .eq 14, 3) := by decide +kernel
theorem dX3_colourOfCell_18 : decode cX3_colourOfCell 18 = .ok (.aload_n 0, 1) := by decide +kernel
theorem dX3_colourOfCell_19 : decode cX3_colourOfCell 19 = .ok (.getfield 31, 3) := by decide +kernel
theorem dX3_colourOfCell_22 : decode cX3_colourOfCell 22 = .ok (.iload_n 2, 1) := by decide +kernel
theorem dX3_colourOfCell_23 : decode cX3_colourOfCell 23 = .ok (.invokestatic 74, 3) := by decide +kernel
theorem dX3_colourOfCell_26 : decode cX3_colourOfCell 26 = .ok (.goto 14, 3) := by decide +kernel
theorem dX3_colourOfCell_29 : decode cX3_colourOfCell 29 = .ok (.aload_n 0, 1) := by decide +kernel
theorem dX3_colourOfCell_30 : decode cX3_colourOfCell 30 = .ok (.getfield 53, 3) := by decide +kernel
theorem dX3_colourOfCell_33 : decode cX3_colourOfCell 33 = .ok (.getfield 144, 3) := by decide +kernel
theorem dX3_colourOfCell_36 : decode cX3_colourOfCell 36 = .ok (.iload_n 1, 1) := by decide +kernel
theorem dX3_colourOfCell_37 : decode cX3_colourOfCell 37 = .ok (.invokestatic 74, 3) := by decide +kernel
theorem dX3_colourOfCell_40 : decode cX3_colourOfCell 40 = .ok (.ireturn, 1) := by decide +kernel
theorem dX3_countShown_0 : decode cX3_countShown 0 = .ok (.iconst 0, 1) := by decide +kernel
theorem dX3_countShown_1 : decode cX3_countShown 1 = .ok (.istore_n 1, 1) := by decide +kernel
theorem dX3_countShown_2 : decode cX3_countShown 2 = .ok (.iconst 0, 1) := by decide +kernel
theorem dX3_countShown_3 : decode cX3_countShown 3 = .ok (.istore_n 2, 1) := by decide +kernel
theorem dX3_countShown_4 : decode cX3_countShown 4 = .ok (.iload_n 2, 1) := by decide +kernel
theorem dX3_countShown_5 : decode cX3_countShown 5 = .ok (.aload_n 0, 1) := by decide +kernel
theorem dX3_countShown_6 : decode cX3_countShown 6 = .ok (.getfield 53, 3) := by decide +kernel
theorem dX3_countShown_9 : decode cX3_countShown 9 = .ok (.getfield 85, 3) := by decide +kernel
theorem dX3_countShown_12 : decode cX3_countShown 12 = .ok (.if_icmp .ge 26, 3) := by decide +kernel
theorem dX3_countShown_15 : decode cX3_countShown 15 = .ok (.iload_n 1, 1) := by decide +kernel
theorem dX3_countShown_16 : decode cX3_countShown 16 = .ok (.aload_n 0, 1) := by decide +kernel
theorem dX3_countShown_17 : decode cX3_countShown 17 = .ok (.getfield 53, 3) := by decide +kernel
theorem dX3_countShown_20 : decode cX3_countShown 20 = .ok (.getfield 141, 3) := by decide +kernel
theorem dX3_countShown_23 : decode cX3_countShown 23 = .ok (.iload_n 2, 1) := by decide +kernel
theorem dX3_countShown_24 : decode cX3_countShown 24 = .ok (.invokestatic 74, 3) := by decide +kernel
theorem dX3_countShown_27 : decode cX3_countShown 27 = .ok (.invokestatic 98, 3) := by decide +kernel
theorem dX3_countShown_30 : decode cX3_countShown 30 = .ok (.iadd, 1) := by decide +kernel
theorem dX3_countShown_31 : decode cX3_countShown 31 = .ok (.istore_n 1, 1) := by decide +kernel
theorem dX3_countShown_32 : decode cX3_countShown 32 = .ok (.iinc 2 1, 3) := by decide +kernel
theorem dX3_countShown_35 : decode cX3_countShown 35 = .ok (.goto (-31), 3) := by decide +kernel
theorem dX3_countShown_38 : decode cX3_countShown 38 = .ok (.iload_n 1, 1) := by decide +kernel
theorem dX3_countShown_39 : decode cX3_countShown 39 = .ok (.ireturn, 1) := by decide +kernel
theorem dX3_countCells_0 : decode cX3_countCells 0 = .ok (.iconst 0, 1) := by decide +kernel
theorem dX3_countCells_1 : decode cX3_countCells 1 = .ok (.istore_n 2, 1) := by decide +kernel
theorem dX3_countCells_2 : decode cX3_countCells 2 = .ok (.iconst 0, 1) := by decide +kernel
theorem dX3_countCells_3 : decode cX3_countCells 3 = .ok (.istore_n 3, 1) := by decide +kernel
theorem dX3_countCells_4 : decode cX3_countCells 4 = .ok (.iload_n 3, 1) := by decide +kernel
theorem dX3_countCells_5 : decode cX3_countCells 5 = .ok (.aload_n 0, 1) := by decide +kernel
theorem dX3_countCells_6 : decode cX3_countCells 6 = .ok (.getfield 53, 3) := by decide +kernel
theorem dX3_countCells_9 : decode cX3_countCells 9 = .ok (.getfield 85, 3) := by decide +kernel
theorem dX3_countCells_12 : decode cX3_countCells 12 = .ok (.if_icmp .ge 41, 3) := by decide +kernel
theorem dX3_countCells_15 : decode cX3_countCells 15 = .ok (.iconst 0, 1) := by decide +kernel
theorem dX3_countCells_16 : decode cX3_countCells 16 = .ok (.istore 4, 2) := by decide +kernel
theorem dX3_countCells_18 : decode cX3_countCells 18 = .ok (.iload 4, 2) := by decide +kernel
theorem dX3_countCells_20 : decode cX3_countCells 20 = .ok (.aload_n 0, 1) := by decide +kernel
theorem dX3_countCells_21 : decode cX3_countCells 21 = .ok (.getfield 24, 3) := by decide +kernel
theorem dX3_countCells_24 : decode cX3_countCells 24 = .ok (.if_icmp .ge 23, 3) := by decide +kernel
theorem dX3_countCells_27 : decode cX3_countCells 27 = .ok (.aload_n 0, 1) := by decide +kernel
theorem dX3_countCells_28 : decode cX3_countCells 28 = .ok (.iload_n 3, 1) := by decide +kernel
theorem dX3_countCells_29 : decode cX3_countCells 29 = .ok (.iload 4, 2) := by decide +kernel
theorem dX3_countCells_31 : decode cX3_countCells 31 = .ok (.invokevirtual 147, 3) := by decide +kernel
theorem dX3_countCells_34 : decode cX3_countCells 34 = .ok (.iload_n 1, 1) := by decide +kernel
theorem dX3_countCells_35 : decode cX3_countCells 35 = .ok (.if_icmp .ne 6, 3) := by decide +kernel
theorem dX3_countCells_38 : decode cX3_countCells 38 = .ok (.iinc 2 1, 3) := by decide +kernel
theorem dX3_countCells_41 : decode cX3_countCells 41 = .ok (.iinc 4 1, 3) := by decide +kernel
theorem dX3_countCells_44 : decode cX3_countCells 44 = .ok (.goto (-26), 3) := by decide +kernel
theorem dX3_countCells_47 : decode cX3_countCells 47 = .ok (.iinc 3 1, 3) := by decide +kernel
theorem dX3_countCells_50 : decode cX3_countCells 50 = .ok (.goto (-46), 3) := by decide +kernel
theorem dX3_countCells_53 : decode cX3_countCells 53 = .ok (.iload_n 2, 1) := by decide +kernel
theorem dX3_countCells_54 : decode cX3_countCells 54 = .ok (.ireturn, 1) := by decide +kernel
theorem dX3_longestRunOfWarp_0 : decode cX3_longestRunOfWarp 0 = .ok (.iconst 0, 1) := by decide +kernel
theorem dX3_longestRunOfWarp_1 : decode cX3_longestRunOfWarp 1 = .ok (.istore_n 2, 1) := by decide +kernel
theorem dX3_longestRunOfWarp_2 : decode cX3_longestRunOfWarp 2 = .ok (.iconst 0, 1) := by decide +kernel
theorem dX3_longestRunOfWarp_3 : decode cX3_longestRunOfWarp 3 = .ok (.istore_n 3, 1) := by decide +kernel
theorem dX3_longestRunOfWarp_4 : decode cX3_longestRunOfWarp 4 = .ok (.iconst 0, 1) := by decide +kernel
theorem dX3_longestRunOfWarp_5 : decode cX3_longestRunOfWarp 5 = .ok (.istore 4, 2) := by decide +kernel
theorem dX3_longestRunOfWarp_7 : decode cX3_longestRunOfWarp 7 = .ok (.iload 4, 2) := by decide +kernel
theorem dX3_longestRunOfWarp_9 : decode cX3_longestRunOfWarp 9 = .ok (.aload_n 0, 1) := by decide +kernel
theorem dX3_longestRunOfWarp_10 : decode cX3_longestRunOfWarp 10 = .ok (.getfield 53, 3) := by decide +kernel
theorem dX3_longestRunOfWarp_13 : decode cX3_longestRunOfWarp 13 = .ok (.getfield 85, 3) := by decide +kernel
theorem dX3_longestRunOfWarp_16 : decode cX3_longestRunOfWarp 16 = .ok (.if_icmp .ge 42, 3) := by decide +kernel
theorem dX3_longestRunOfWarp_19 : decode cX3_longestRunOfWarp 19 = .ok (.aload_n 0, 1) := by decide +kernel
theorem dX3_longestRunOfWarp_20 : decode cX3_longestRunOfWarp 20 = .ok (.getfield 53, 3) := by decide +kernel
theorem dX3_longestRunOfWarp_23 : decode cX3_longestRunOfWarp 23 = .ok (.getfield 141, 3) := by decide +kernel
theorem dX3_longestRunOfWarp_26 : decode cX3_longestRunOfWarp 26 = .ok (.iload 4, 2) := by decide +kernel
theorem dX3_longestRunOfWarp_28 : decode cX3_longestRunOfWarp 28 = .ok (.invokestatic 74, 3) := by decide +kernel
theorem dX3_longestRunOfWarp_31 : decode cX3_longestRunOfWarp 31 = .ok (.iload_n 1, 1) := by decide +kernel
theorem dX3_longestRunOfWarp_32 : decode cX3_longestRunOfWarp 32 = .ok (.invokestatic 78, 3) := by decide +kernel
theorem dX3_longestRunOfWarp_35 : decode cX3_longestRunOfWarp 35 = .ok (.ifCond .eq 9, 3) := by decide +kernel
theorem dX3_longestRunOfWarp_38 : decode cX3_longestRunOfWarp 38 = .ok (.iload_n 3, 1) := by decide +kernel
theorem dX3_longestRunOfWarp_39 : decode cX3_longestRunOfWarp 39 = .ok (.iconst 1, 1) := by decide +kernel
theorem dX3_longestRunOfWarp_40 : decode cX3_longestRunOfWarp 40 = .ok (.iadd, 1) := by decide +kernel
theorem dX3_longestRunOfWarp_41 : decode cX3_longestRunOfWarp 41 = .ok (.goto 4, 3) := by decide +kernel
theorem dX3_longestRunOfWarp_44 : decode cX3_longestRunOfWarp 44 = .ok (.iconst 0, 1) := by decide +kernel
theorem dX3_longestRunOfWarp_45 : decode cX3_longestRunOfWarp 45 = .ok (.istore_n 3, 1) := by decide +kernel
theorem dX3_longestRunOfWarp_46 : decode cX3_longestRunOfWarp 46 = .ok (.iload_n 2, 1) := by decide +kernel
theorem dX3_longestRunOfWarp_47 : decode cX3_longestRunOfWarp 47 = .ok (.iload_n 3, 1) := by decide +kernel
theorem dX3_longestRunOfWarp_48 : decode cX3_longestRunOfWarp 48 = .ok (.invokestatic 151, 3) := by decide +kernel
theorem dX3_longestRunOfWarp_51 : decode cX3_longestRunOfWarp 51 = .ok (.istore_n 2, 1) := by decide +kernel
theorem dX3_longestRunOfWarp_52 : decode cX3_longestRunOfWarp 52 = .ok (.iinc 4 1, 3) := by decide +kernel
theorem dX3_longestRunOfWarp_55 : decode cX3_longestRunOfWarp 55 = .ok (.goto (-48), 3) := by decide +kernel
theorem dX3_longestRunOfWarp_58 : decode cX3_longestRunOfWarp 58 = .ok (.iload_n 2, 1) := by decide +kernel
theorem dX3_longestRunOfWarp_59 : decode cX3_longestRunOfWarp 59 = .ok (.ireturn, 1) := by decide +kernel
theorem dX3_longestRunOfWeft_0 : decode cX3_longestRunOfWeft 0 = .ok (.iconst 0, 1) := by decide +kernel
theorem dX3_longestRunOfWeft_1 : decode cX3_longestRunOfWeft 1 = .ok (.istore_n 2, 1) := by decide +kernel
theorem dX3_longestRunOfWeft_2 : decode cX3_longestRunOfWeft 2 = .ok (.iconst 0, 1) := by decide +kernel
theorem dX3_longestRunOfWeft_3 : decode cX3_longestRunOfWeft 3 = .ok (.istore_n 3, 1) := by decide +kernel
theorem dX3_longestRunOfWeft_4 : decode cX3_longestRunOfWeft 4 = .ok (.iconst 0, 1) := by decide +kernel
theorem dX3_longestRunOfWeft_5 : decode cX3_longestRunOfWeft 5 = .ok (.istore 4, 2) := by decide +kernel
theorem dX3_longestRunOfWeft_7 : decode cX3_longestRunOfWeft 7 = .ok (.iload 4, 2) := by decide +kernel
theorem dX3_longestRunOfWeft_9 : decode cX3_longestRunOfWeft 9 = .ok (.aload_n 0, 1) := by decide +kernel
theorem dX3_longestRunOfWeft_10 : decode cX3_longestRunOfWeft 10 = .ok (.getfield 24, 3) := by decide +kernel
theorem dX3_longestRunOfWeft_13 : decode cX3_longestRunOfWeft 13 = .ok (.if_icmp .ge 42, 3) := by decide +kernel
theorem dX3_longestRunOfWeft_16 : decode cX3_longestRunOfWeft 16 = .ok (.aload_n 0, 1) := by decide +kernel
theorem dX3_longestRunOfWeft_17 : decode cX3_longestRunOfWeft 17 = .ok (.getfield 53, 3) := by decide +kernel
theorem dX3_longestRunOfWeft_20 : decode cX3_longestRunOfWeft 20 = .ok (.getfield 141, 3) := by decide +kernel
theorem dX3_longestRunOfWeft_23 : decode cX3_longestRunOfWeft 23 = .ok (.iload_n 1, 1) := by decide +kernel
theorem dX3_longestRunOfWeft_24 : decode cX3_longestRunOfWeft 24 = .ok (.invokestatic 74, 3) := by decide +kernel
theorem dX3_longestRunOfWeft_27 : decode cX3_longestRunOfWeft 27 = .ok (.iload 4, 2) := by decide +kernel
theorem dX3_longestRunOfWeft_29 : decode cX3_longestRunOfWeft 29 = .ok (.invokestatic 78, 3) := by decide +kernel
theorem dX3_longestRunOfWeft_32 : decode cX3_longestRunOfWeft 32 = .ok (.ifCond .eq 7, 3) := by decide +kernel
theorem dX3_longestRunOfWeft_35 : decode cX3_longestRunOfWeft 35 = .ok (.iconst 0, 1) := by decide +kernel
theorem dX3_longestRunOfWeft_36 : decode cX3_longestRunOfWeft 36 = .ok (.goto 6, 3) := by decide +kernel
theorem dX3_longestRunOfWeft_39 : decode cX3_longestRunOfWeft 39 = .ok (.iload_n 3, 1) := by decide +kernel
theorem dX3_longestRunOfWeft_40 : decode cX3_longestRunOfWeft 40 = .ok (.iconst 1, 1) := by decide +kernel
theorem dX3_longestRunOfWeft_41 : decode cX3_longestRunOfWeft 41 = .ok (.iadd, 1) := by decide +kernel
theorem dX3_longestRunOfWeft_42 : decode cX3_longestRunOfWeft 42 = .ok (.istore_n 3, 1) := by decide +kernel
theorem dX3_longestRunOfWeft_43 : decode cX3_longestRunOfWeft 43 = .ok (.iload_n 2, 1) := by decide +kernel
theorem dX3_longestRunOfWeft_44 : decode cX3_longestRunOfWeft 44 = .ok (.iload_n 3, 1) := by decide +kernel
theorem dX3_longestRunOfWeft_45 : decode cX3_longestRunOfWeft 45 = .ok (.invokestatic 151, 3) := by decide +kernel
theorem dX3_longestRunOfWeft_48 : decode cX3_longestRunOfWeft 48 = .ok (.istore_n 2, 1) := by decide +kernel
theorem dX3_longestRunOfWeft_49 : decode cX3_longestRunOfWeft 49 = .ok (.iinc 4 1, 3) := by decide +kernel
theorem dX3_longestRunOfWeft_52 : decode cX3_longestRunOfWeft 52 = .ok (.goto (-45), 3) := by decide +kernel
theorem dX3_longestRunOfWeft_55 : decode cX3_longestRunOfWeft 55 = .ok (.iload_n 2, 1) := by decide +kernel
theorem dX3_longestRunOfWeft_56 : decode cX3_longestRunOfWeft 56 = .ok (.ireturn, 1) := by decide +kernel
theorem dX3_leastRowDistance_0 : decode cX3_leastRowDistance 0 = .ok (.iconst 1, 1) := by decide +kernel
theorem dX3_leastRowDistance_1 : decode cX3_leastRowDistance 1 = .ok (.istore_n 1, 1) := by decide +kernel
theorem dX3_leastRowDistance_2 : decode cX3_leastRowDistance 2 = .ok (.iload_n 1, 1) := by decide +kernel
theorem dX3_leastRowDistance_3 : decode cX3_leastRowDistance 3 = .ok (.aload_n 0, 1) := by decide +kernel
theorem dX3_leastRowDistance_4 : decode cX3_leastRowDistance 4 = .ok (.getfield 53, 3) := by decide +kernel
theorem dX3_leastRowDistance_7 : decode cX3_leastRowDistance 7 = .ok (.getfield 85, 3) := by decide +kernel
theorem dX3_leastRowDistance_10 : decode cX3_leastRowDistance 10 = .ok (.if_icmp .ge 19, 3) := by decide +kernel
theorem dX3_leastRowDistance_13 : decode cX3_leastRowDistance 13 = .ok (.aload_n 0, 1) := by decide +kernel
theorem dX3_leastRowDistance_14 : decode cX3_leastRowDistance 14 = .ok (.iload_n 1, 1) := by decide +kernel
theorem dX3_leastRowDistance_15 : decode cX3_leastRowDistance 15 = .ok (.invokevirtual 156, 3) := by decide +kernel
theorem dX3_leastRowDistance_18 : decode cX3_leastRowDistance 18 = .ok (.ifCond .eq 5, 3) := by decide +kernel
theorem dX3_leastRowDistance_21 : decode cX3_leastRowDistance 21 = .ok (.iload_n 1, 1) := by decide +kernel
theorem dX3_leastRowDistance_22 : decode cX3_leastRowDistance 22 = .ok (.ireturn, 1) := by decide +kernel
theorem dX3_leastRowDistance_23 : decode cX3_leastRowDistance 23 = .ok (.iinc 1 1, 3) := by decide +kernel
theorem dX3_leastRowDistance_26 : decode cX3_leastRowDistance 26 = .ok (.goto (-24), 3) := by decide +kernel
theorem dX3_leastRowDistance_29 : decode cX3_leastRowDistance 29 = .ok (.aload_n 0, 1) := by decide +kernel
theorem dX3_leastRowDistance_30 : decode cX3_leastRowDistance 30 = .ok (.getfield 53, 3) := by decide +kernel
theorem dX3_leastRowDistance_33 : decode cX3_leastRowDistance 33 = .ok (.getfield 85, 3) := by decide +kernel
theorem dX3_leastRowDistance_36 : decode cX3_leastRowDistance 36 = .ok (.ireturn, 1) := by decide +kernel
theorem dX3_coloursRepeatAfter_0 : decode cX3_coloursRepeatAfter 0 = .ok (.iload_n 1, 1) := by decide +kernel
theorem dX3_coloursRepeatAfter_1 : decode cX3_coloursRepeatAfter 1 = .ok (.istore_n 2, 1) := by decide +kernel
theorem dX3_coloursRepeatAfter_2 : decode cX3_coloursRepeatAfter 2 = .ok (.iload_n 2, 1) := by decide +kernel
theorem dX3_coloursRepeatAfter_3 : decode cX3_coloursRepeatAfter 3 = .ok (.aload_n 0, 1) := by decide +kernel
theorem dX3_coloursRepeatAfter_4 : decode cX3_coloursRepeatAfter 4 = .ok (.getfield 53, 3) := by decide +kernel
theorem dX3_coloursRepeatAfter_7 : decode cX3_coloursRepeatAfter 7 = .ok (.getfield 85, 3) := by decide +kernel
theorem dX3_coloursRepeatAfter_10 : decode cX3_coloursRepeatAfter 10 = .ok (.if_icmp .ge 44, 3) := by decide +kernel
theorem dX3_coloursRepeatAfter_13 : decode cX3_coloursRepeatAfter 13 = .ok (.iconst 0, 1) := by decide +kernel
theorem dX3_coloursRepeatAfter_14 : decode cX3_coloursRepeatAfter 14 = .ok (.istore_n 3, 1) := by decide +kernel
theorem dX3_coloursRepeatAfter_15 : decode cX3_coloursRepeatAfter 15 = .ok (.iload_n 3, 1) := by decide +kernel
theorem dX3_coloursRepeatAfter_16 : decode cX3_coloursRepeatAfter 16 = .ok (.aload_n 0, 1) := by decide +kernel
theorem dX3_coloursRepeatAfter_17 : decode cX3_coloursRepeatAfter 17 = .ok (.getfield 24, 3) := by decide +kernel
theorem dX3_coloursRepeatAfter_20 : decode cX3_coloursRepeatAfter 20 = .ok (.if_icmp .ge 28, 3) := by decide +kernel
theorem dX3_coloursRepeatAfter_23 : decode cX3_coloursRepeatAfter 23 = .ok (.aload_n 0, 1) := by decide +kernel
theorem dX3_coloursRepeatAfter_24 : decode cX3_coloursRepeatAfter 24 = .ok (.iload_n 2, 1) := by decide +kernel
theorem dX3_coloursRepeatAfter_25 : decode cX3_coloursRepeatAfter 25 = .ok (.iload_n 3, 1) := by decide +kernel
theorem dX3_coloursRepeatAfter_26 : decode cX3_coloursRepeatAfter 26 = .ok (.invokevirtual 147, 3) := by decide +kernel
theorem dX3_coloursRepeatAfter_29 : decode cX3_coloursRepeatAfter 29 = .ok (.aload_n 0, 1) := by decide +kernel
theorem dX3_coloursRepeatAfter_30 : decode cX3_coloursRepeatAfter 30 = .ok (.iload_n 2, 1) := by decide +kernel
theorem dX3_coloursRepeatAfter_31 : decode cX3_coloursRepeatAfter 31 = .ok (.iload_n 1, 1) := by decide +kernel
theorem dX3_coloursRepeatAfter_32 : decode cX3_coloursRepeatAfter 32 = .ok (.isub, 1) := by decide +kernel
theorem dX3_coloursRepeatAfter_33 : decode cX3_coloursRepeatAfter 33 = .ok (.iload_n 3, 1) := by decide +kernel
theorem dX3_coloursRepeatAfter_34 : decode cX3_coloursRepeatAfter 34 = .ok (.invokevirtual 147, 3) := by decide +kernel
theorem dX3_coloursRepeatAfter_37 : decode cX3_coloursRepeatAfter 37 = .ok (.if_icmp .eq 5, 3) := by decide +kernel
theorem dX3_coloursRepeatAfter_40 : decode cX3_coloursRepeatAfter 40 = .ok (.iconst 0, 1) := by decide +kernel
theorem dX3_coloursRepeatAfter_41 : decode cX3_coloursRepeatAfter 41 = .ok (.ireturn, 1) := by decide +kernel
theorem dX3_coloursRepeatAfter_42 : decode cX3_coloursRepeatAfter 42 = .ok (.iinc 3 1, 3) := by decide +kernel
theorem dX3_coloursRepeatAfter_45 : decode cX3_coloursRepeatAfter 45 = .ok (.goto (-30), 3) := by decide +kernel
theorem dX3_coloursRepeatAfter_48 : decode cX3_coloursRepeatAfter 48 = .ok (.iinc 2 1, 3) := by decide +kernel
theorem dX3_coloursRepeatAfter_51 : decode cX3_coloursRepeatAfter 51 = .ok (.goto (-49), 3) := by decide +kernel
theorem dX3_coloursRepeatAfter_54 : decode cX3_coloursRepeatAfter 54 = .ok (.iconst 1, 1) := by decide +kernel
theorem dX3_coloursRepeatAfter_55 : decode cX3_coloursRepeatAfter 55 = .ok (.ireturn, 1) := by decide +kernel
theorem dX3_differsFromDesign_0 : decode cX3_differsFromDesign 0 = .ok (.aload_n 0, 1) := by decide +kernel
theorem dX3_differsFromDesign_1 : decode cX3_differsFromDesign 1 = .ok (.iload_n 1, 1) := by decide +kernel
theorem dX3_differsFromDesign_2 : decode cX3_differsFromDesign 2 = .ok (.aload_n 0, 1) := by decide +kernel
theorem dX3_differsFromDesign_3 : decode cX3_differsFromDesign 3 = .ok (.getfield 46, 3) := by decide +kernel
theorem dX3_differsFromDesign_6 : decode cX3_differsFromDesign 6 = .ok (.iload_n 1, 1) := by decide +kernel
theorem dX3_differsFromDesign_7 : decode cX3_differsFromDesign 7 = .ok (.invokevirtual 88, 3) := by decide +kernel
theorem dX3_differsFromDesign_10 : decode cX3_differsFromDesign 10 = .ok (.invokevirtual 160, 3) := by decide +kernel
theorem dX3_differsFromDesign_13 : decode cX3_differsFromDesign 13 = .ok (.ifCond .ne 7, 3) := by decide +kernel
theorem dX3_differsFromDesign_16 : decode cX3_differsFromDesign 16 = .ok (.iconst 1, 1) := by decide +kernel
theorem dX3_differsFromDesign_17 : decode cX3_differsFromDesign 17 = .ok (.goto 4, 3) := by decide +kernel
theorem dX3_differsFromDesign_20 : decode cX3_differsFromDesign 20 = .ok (.iconst 0, 1) := by decide +kernel
theorem dX3_differsFromDesign_21 : decode cX3_differsFromDesign 21 = .ok (.ireturn, 1) := by decide +kernel
theorem dX3_equalsDesign_0 : decode cX3_equalsDesign 0 = .ok (.aload_n 0, 1) := by decide +kernel
theorem dX3_equalsDesign_1 : decode cX3_equalsDesign 1 = .ok (.getfield 53, 3) := by decide +kernel
theorem dX3_equalsDesign_4 : decode cX3_equalsDesign 4 = .ok (.getfield 141, 3) := by decide +kernel
theorem dX3_equalsDesign_7 : decode cX3_equalsDesign 7 = .ok (.iload_n 1, 1) := by decide +kernel
theorem dX3_equalsDesign_8 : decode cX3_equalsDesign 8 = .ok (.invokestatic 74, 3) := by decide +kernel
theorem dX3_equalsDesign_11 : decode cX3_equalsDesign 11 = .ok (.istore_n 3, 1) := by decide +kernel
theorem dX3_equalsDesign_12 : decode cX3_equalsDesign 12 = .ok (.iload_n 3, 1) := by decide +kernel
theorem dX3_equalsDesign_13 : decode cX3_equalsDesign 13 = .ok (.aload_n 0, 1) := by decide +kernel
theorem dX3_equalsDesign_14 : decode cX3_equalsDesign 14 = .ok (.aload_n 0, 1) := by decide +kernel
theorem dX3_equalsDesign_15 : decode cX3_equalsDesign 15 = .ok (.getfield 37, 3) := by decide +kernel
theorem dX3_equalsDesign_18 : decode cX3_equalsDesign 18 = .ok (.iload_n 2, 1) := by decide +kernel
theorem dX3_equalsDesign_19 : decode cX3_equalsDesign 19 = .ok (.invokestatic 74, 3) := by decide +kernel
theorem dX3_equalsDesign_22 : decode cX3_equalsDesign 22 = .ok (.invokevirtual 95, 3) := by decide +kernel
theorem dX3_equalsDesign_25 : decode cX3_equalsDesign 25 = .ok (.if_icmp .eq 5, 3) := by decide +kernel
theorem dX3_equalsDesign_28 : decode cX3_equalsDesign 28 = .ok (.iconst 0, 1) := by decide +kernel
theorem dX3_equalsDesign_29 : decode cX3_equalsDesign 29 = .ok (.ireturn, 1) := by decide +kernel
theorem dX3_equalsDesign_30 : decode cX3_equalsDesign 30 = .ok (.iload_n 3, 1) := by decide +kernel
theorem dX3_equalsDesign_31 : decode cX3_equalsDesign 31 = .ok (.invokestatic 98, 3) := by decide +kernel
theorem dX3_equalsDesign_34 : decode cX3_equalsDesign 34 = .ok (.aload_n 0, 1) := by decide +kernel
theorem dX3_equalsDesign_35 : decode cX3_equalsDesign 35 = .ok (.getfield 24, 3) := by decide +kernel
theorem dX3_equalsDesign_38 : decode cX3_equalsDesign 38 = .ok (.if_icmp .ne 7, 3) := by decide +kernel
theorem dX3_equalsDesign_41 : decode cX3_equalsDesign 41 = .ok (.iconst 1, 1) := by decide +kernel
theorem dX3_equalsDesign_42 : decode cX3_equalsDesign 42 = .ok (.goto 4, 3) := by decide +kernel
theorem dX3_equalsDesign_45 : decode cX3_equalsDesign 45 = .ok (.iconst 0, 1) := by decide +kernel
theorem dX3_equalsDesign_46 : decode cX3_equalsDesign 46 = .ok (.istore 4, 2) := by decide +kernel
theorem dX3_equalsDesign_48 : decode cX3_equalsDesign 48 = .ok (.iload 4, 2) := by decide +kernel
theorem dX3_equalsDesign_50 : decode cX3_equalsDesign 50 = .ok (.ifCond .ne 25, 3) := by decide +kernel
theorem dX3_equalsDesign_53 : decode cX3_equalsDesign 53 = .ok (.aload_n 0, 1) := by decide +kernel
theorem dX3_equalsDesign_54 : decode cX3_equalsDesign 54 = .ok (.getfield 53, 3) := by decide +kernel
theorem dX3_equalsDesign_57 : decode cX3_equalsDesign 57 = .ok (.getfield 144, 3) := by decide +kernel
theorem dX3_equalsDesign_60 : decode cX3_equalsDesign 60 = .ok (.iload_n 1, 1) := by decide +kernel
theorem dX3_equalsDesign_61 : decode cX3_equalsDesign 61 = .ok (.invokestatic 74, 3) := by decide +kernel
theorem dX3_equalsDesign_64 : decode cX3_equalsDesign 64 = .ok (.aload_n 0, 1) := by decide +kernel
theorem dX3_equalsDesign_65 : decode cX3_equalsDesign 65 = .ok (.getfield 40, 3) := by decide +kernel
theorem dX3_equalsDesign_68 : decode cX3_equalsDesign 68 = .ok (.iload_n 2, 1) := by decide +kernel
theorem dX3_equalsDesign_69 : decode cX3_equalsDesign 69 = .ok (.invokestatic 74, 3) := by decide +kernel
theorem dX3_equalsDesign_72 : decode cX3_equalsDesign 72 = .ok (.if_icmp .ne 7, 3) := by decide +kernel
theorem dX3_equalsDesign_75 : decode cX3_equalsDesign 75 = .ok (.iconst 1, 1) := by decide +kernel
theorem dX3_equalsDesign_76 : decode cX3_equalsDesign 76 = .ok (.goto 4, 3) := by decide +kernel
theorem dX3_equalsDesign_79 : decode cX3_equalsDesign 79 = .ok (.iconst 0, 1) := by decide +kernel
theorem dX3_equalsDesign_80 : decode cX3_equalsDesign 80 = .ok (.ireturn, 1) := by decide +kernel
theorem dX3_countWrong_0 : decode cX3_countWrong 0 = .ok (.iconst 0, 1) := by decide +kernel
theorem dX3_countWrong_1 : decode cX3_countWrong 1 = .ok (.istore_n 1, 1) := by decide +kernel
theorem dX3_countWrong_2 : decode cX3_countWrong 2 = .ok (.iconst 0, 1) := by decide +kernel
theorem dX3_countWrong_3 : decode cX3_countWrong 3 = .ok (.istore_n 2, 1) := by decide +kernel
theorem dX3_countWrong_4 : decode cX3_countWrong 4 = .ok (.iload_n 2, 1) := by decide +kernel
theorem dX3_countWrong_5 : decode cX3_countWrong 5 = .ok (.aload_n 0, 1) := by decide +kernel
theorem dX3_countWrong_6 : decode cX3_countWrong 6 = .ok (.getfield 53, 3) := by decide +kernel
theorem dX3_countWrong_9 : decode cX3_countWrong 9 = .ok (.getfield 85, 3) := by decide +kernel
theorem dX3_countWrong_12 : decode cX3_countWrong 12 = .ok (.if_icmp .ge 20, 3) := by decide +kernel
theorem dX3_countWrong_15 : decode cX3_countWrong 15 = .ok (.aload_n 0, 1) := by decide +kernel
theorem dX3_countWrong_16 : decode cX3_countWrong 16 = .ok (.iload_n 2, 1) := by decide +kernel
theorem dX3_countWrong_17 : decode cX3_countWrong 17 = .ok (.invokevirtual 163, 3) := by decide +kernel
theorem dX3_countWrong_20 : decode cX3_countWrong 20 = .ok (.ifCond .eq 6, 3) := by decide +kernel
theorem dX3_countWrong_23 : decode cX3_countWrong 23 = .ok (.iinc 1 1, 3) := by decide +kernel
theorem dX3_countWrong_26 : decode cX3_countWrong 26 = .ok (.iinc 2 1, 3) := by decide +kernel
theorem dX3_countWrong_29 : decode cX3_countWrong 29 = .ok (.goto (-25), 3) := by decide +kernel
theorem dX3_countWrong_32 : decode cX3_countWrong 32 = .ok (.iload_n 1, 1) := by decide +kernel
theorem dX3_countWrong_33 : decode cX3_countWrong 33 = .ok (.ireturn, 1) := by decide +kernel
theorem dX3_firstWrong_0 : decode cX3_firstWrong 0 = .ok (.iconst 0, 1) := by decide +kernel
theorem dX3_firstWrong_1 : decode cX3_firstWrong 1 = .ok (.istore_n 1, 1) := by decide +kernel
theorem dX3_firstWrong_2 : decode cX3_firstWrong 2 = .ok (.iload_n 1, 1) := by decide +kernel
theorem dX3_firstWrong_3 : decode cX3_firstWrong 3 = .ok (.aload_n 0, 1) := by decide +kernel
theorem dX3_firstWrong_4 : decode cX3_firstWrong 4 = .ok (.getfield 53, 3) := by decide +kernel
theorem dX3_firstWrong_7 : decode cX3_firstWrong 7 = .ok (.getfield 85, 3) := by decide +kernel
theorem dX3_firstWrong_10 : decode cX3_firstWrong 10 = .ok (.if_icmp .ge 19, 3) := by decide +kernel
theorem dX3_firstWrong_13 : decode cX3_firstWrong 13 = .ok (.aload_n 0, 1) := by decide +kernel
theorem dX3_firstWrong_14 : decode cX3_firstWrong 14 = .ok (.iload_n 1, 1) := by decide +kernel
theorem dX3_firstWrong_15 : decode cX3_firstWrong 15 = .ok (.invokevirtual 163, 3) := by decide +kernel
theorem dX3_firstWrong_18 : decode cX3_firstWrong 18 = .ok (.ifCond .eq 5, 3) := by decide +kernel
theorem dX3_firstWrong_21 : decode cX3_firstWrong 21 = .ok (.iload_n 1, 1) := by decide +kernel
theorem dX3_firstWrong_22 : decode cX3_firstWrong 22 = .ok (.ireturn, 1) := by decide +kernel
theorem dX3_firstWrong_23 : decode cX3_firstWrong 23 = .ok (.iinc 1 1, 3) := by decide +kernel
theorem dX3_firstWrong_26 : decode cX3_firstWrong 26 = .ok (.goto (-24), 3) := by decide +kernel
theorem dX3_firstWrong_29 : decode cX3_firstWrong 29 = .ok (.iconst (-1), 1) := by decide +kernel
theorem dX3_firstWrong_30 : decode cX3_firstWrong 30 = .ok (.ireturn, 1) := by decide +kernel
theorem dX3_suspectedPair_0 : decode cX3_suspectedPair 0 = .ok (.aload_n 0, 1) := by decide +kernel
theorem dX3_suspectedPair_1 : decode cX3_suspectedPair 1 = .ok (.invokevirtual 166, 3) := by decide +kernel
theorem dX3_suspectedPair_4 : decode cX3_suspectedPair 4 = .ok (.iconst (-1), 1) := by decide +kernel
theorem dX3_suspectedPair_5 : decode cX3_suspectedPair 5 = .ok (.if_icmp .ne 5, 3) := by decide +kernel
theorem dX3_suspectedPair_8 : decode cX3_suspectedPair 8 = .ok (.iconst (-1), 1) := by decide +kernel
theorem dX3_suspectedPair_9 : decode cX3_suspectedPair 9 = .ok (.ireturn, 1) := by decide +kernel
theorem dX3_suspectedPair_10 : decode cX3_suspectedPair 10 = .ok (.iconst 0, 1) := by decide +kernel
theorem dX3_suspectedPair_11 : decode cX3_suspectedPair 11 = .ok (.istore_n 1, 1) := by decide +kernel
theorem dX3_suspectedPair_12 : decode cX3_suspectedPair 12 = .ok (.iload_n 1, 1) := by decide +kernel
theorem dX3_suspectedPair_13 : decode cX3_suspectedPair 13 = .ok (.aload_n 0, 1) := by decide +kernel
theorem dX3_suspectedPair_14 : decode cX3_suspectedPair 14 = .ok (.getfield 34, 3) := by decide +kernel
theorem dX3_suspectedPair_17 : decode cX3_suspectedPair 17 = .ok (.if_icmp .ge 43, 3) := by decide +kernel
theorem dX3_suspectedPair_20 : decode cX3_suspectedPair 20 = .ok (.iload_n 1, 1) := by decide +kernel
theorem dX3_suspectedPair_21 : decode cX3_suspectedPair 21 = .ok (.iconst 1, 1) := by decide +kernel
theorem dX3_suspectedPair_22 : decode cX3_suspectedPair 22 = .ok (.iadd, 1) := by decide +kernel
theorem dX3_suspectedPair_23 : decode cX3_suspectedPair 23 = .ok (.istore_n 2, 1) := by decide +kernel
theorem dX3_suspectedPair_24 : decode cX3_suspectedPair 24 = .ok (.iload_n 2, 1) := by decide +kernel
theorem dX3_suspectedPair_25 : decode cX3_suspectedPair 25 = .ok (.aload_n 0, 1) := by decide +kernel
theorem dX3_suspectedPair_26 : decode cX3_suspectedPair 26 = .ok (.getfield 34, 3) := by decide +kernel
theorem dX3_suspectedPair_29 : decode cX3_suspectedPair 29 = .ok (.if_icmp .ge 25, 3) := by decide +kernel
theorem dX3_suspectedPair_32 : decode cX3_suspectedPair 32 = .ok (.aload_n 0, 1) := by decide +kernel
theorem dX3_suspectedPair_33 : decode cX3_suspectedPair 33 = .ok (.iload_n 1, 1) := by decide +kernel
theorem dX3_suspectedPair_34 : decode cX3_suspectedPair 34 = .ok (.iload_n 2, 1) := by decide +kernel
theorem dX3_suspectedPair_35 : decode cX3_suspectedPair 35 = .ok (.invokevirtual 170, 3) := by decide +kernel
theorem dX3_suspectedPair_38 : decode cX3_suspectedPair 38 = .ok (.ifCond .eq 10, 3) := by decide +kernel
theorem dX3_suspectedPair_41 : decode cX3_suspectedPair 41 = .ok (.iload_n 1, 1) := by decide +kernel
theorem dX3_suspectedPair_42 : decode cX3_suspectedPair 42 = .ok (.bipush 12, 2) := by decide +kernel
theorem dX3_suspectedPair_44 : decode cX3_suspectedPair 44 = .ok (.imul, 1) := by decide +kernel
theorem dX3_suspectedPair_45 : decode cX3_suspectedPair 45 = .ok (.iload_n 2, 1) := by decide +kernel
theorem dX3_suspectedPair_46 : decode cX3_suspectedPair 46 = .ok (.iadd, 1) := by decide +kernel
theorem dX3_suspectedPair_47 : decode cX3_suspectedPair 47 = .ok (.ireturn, 1) := by decide +kernel
theorem dX3_suspectedPair_48 : decode cX3_suspectedPair 48 = .ok (.iinc 2 1, 3) := by decide +kernel
theorem dX3_suspectedPair_51 : decode cX3_suspectedPair 51 = .ok (.goto (-27), 3) := by decide +kernel
theorem dX3_suspectedPair_54 : decode cX3_suspectedPair 54 = .ok (.iinc 1 1, 3) := by decide +kernel
theorem dX3_suspectedPair_57 : decode cX3_suspectedPair 57 = .ok (.goto (-45), 3) := by decide +kernel
theorem dX3_suspectedPair_60 : decode cX3_suspectedPair 60 = .ok (.iconst (-1), 1) := by decide +kernel
theorem dX3_suspectedPair_61 : decode cX3_suspectedPair 61 = .ok (.ireturn, 1) := by decide +kernel
theorem dX3_exchangeExplainsCloth_0 : decode cX3_exchangeExplainsCloth 0 = .ok (.iconst 0, 1) := by decide +kernel
theorem dX3_exchangeExplainsCloth_1 : decode cX3_exchangeExplainsCloth 1 = .ok (.istore_n 3, 1) := by decide +kernel
theorem dX3_exchangeExplainsCloth_2 : decode cX3_exchangeExplainsCloth 2 = .ok (.iload_n 3, 1) := by decide +kernel
theorem dX3_exchangeExplainsCloth_3 : decode cX3_exchangeExplainsCloth 3 = .ok (.aload_n 0, 1) := by decide +kernel
theorem dX3_exchangeExplainsCloth_4 : decode cX3_exchangeExplainsCloth 4 = .ok (.getfield 53, 3) := by decide +kernel
theorem dX3_exchangeExplainsCloth_7 : decode cX3_exchangeExplainsCloth 7 = .ok (.getfield 85, 3) := by decide +kernel
theorem dX3_exchangeExplainsCloth_10 : decode cX3_exchangeExplainsCloth 10 = .ok (.if_icmp .ge 52, 3) := by decide +kernel
theorem dX3_exchangeExplainsCloth_13 : decode cX3_exchangeExplainsCloth 13 = .ok (.aload_n 0, 1) := by decide +kernel
theorem dX3_exchangeExplainsCloth_14 : decode cX3_exchangeExplainsCloth 14 = .ok (.getfield 46, 3) := by decide +kernel
theorem dX3_exchangeExplainsCloth_17 : decode cX3_exchangeExplainsCloth 17 = .ok (.iload_n 3, 1) := by decide +kernel
theorem dX3_exchangeExplainsCloth_18 : decode cX3_exchangeExplainsCloth 18 = .ok (.invokevirtual 88, 3) := by decide +kernel
theorem dX3_exchangeExplainsCloth_21 : decode cX3_exchangeExplainsCloth 21 = .ok (.istore 4, 2) := by decide +kernel
theorem dX3_exchangeExplainsCloth_23 : decode cX3_exchangeExplainsCloth 23 = .ok (.iload 4, 2) := by decide +kernel
theorem dX3_exchangeExplainsCloth_25 : decode cX3_exchangeExplainsCloth 25 = .ok (.iload_n 1, 1) := by decide +kernel
theorem dX3_exchangeExplainsCloth_26 : decode cX3_exchangeExplainsCloth 26 = .ok (.if_icmp .ne 9, 3) := by decide +kernel
theorem dX3_exchangeExplainsCloth_29 : decode cX3_exchangeExplainsCloth 29 = .ok (.iload_n 2, 1) := by decide +kernel
theorem dX3_exchangeExplainsCloth_30 : decode cX3_exchangeExplainsCloth 30 = .ok (.istore 4, 2) := by decide +kernel
theorem dX3_exchangeExplainsCloth_32 : decode cX3_exchangeExplainsCloth 32 = .ok (.goto 12, 3) := by decide +kernel
theorem dX3_exchangeExplainsCloth_35 : decode cX3_exchangeExplainsCloth 35 = .ok (.iload 4, 2) := by decide +kernel
theorem dX3_exchangeExplainsCloth_37 : decode cX3_exchangeExplainsCloth 37 = .ok (.iload_n 2, 1) := by decide +kernel
theorem dX3_exchangeExplainsCloth_38 : decode cX3_exchangeExplainsCloth 38 = .ok (.if_icmp .ne 6, 3) := by decide +kernel
theorem dX3_exchangeExplainsCloth_41 : decode cX3_exchangeExplainsCloth 41 = .ok (.iload_n 1, 1) := by decide +kernel
theorem dX3_exchangeExplainsCloth_42 : decode cX3_exchangeExplainsCloth 42 = .ok (.istore 4, 2) := by decide +kernel
theorem dX3_exchangeExplainsCloth_44 : decode cX3_exchangeExplainsCloth 44 = .ok (.aload_n 0, 1) := by decide +kernel
theorem dX3_exchangeExplainsCloth_45 : decode cX3_exchangeExplainsCloth 45 = .ok (.iload_n 3, 1) := by decide +kernel
theorem dX3_exchangeExplainsCloth_46 : decode cX3_exchangeExplainsCloth 46 = .ok (.iload 4, 2) := by decide +kernel
theorem dX3_exchangeExplainsCloth_48 : decode cX3_exchangeExplainsCloth 48 = .ok (.invokevirtual 160, 3) := by decide +kernel
theorem dX3_exchangeExplainsCloth_51 : decode cX3_exchangeExplainsCloth 51 = .ok (.ifCond .ne 5, 3) := by decide +kernel
theorem dX3_exchangeExplainsCloth_54 : decode cX3_exchangeExplainsCloth 54 = .ok (.iconst 0, 1) := by decide +kernel
theorem dX3_exchangeExplainsCloth_55 : decode cX3_exchangeExplainsCloth 55 = .ok (.ireturn, 1) := by decide +kernel
theorem dX3_exchangeExplainsCloth_56 : decode cX3_exchangeExplainsCloth 56 = .ok (.iinc 3 1, 3) := by decide +kernel
theorem dX3_exchangeExplainsCloth_59 : decode cX3_exchangeExplainsCloth 59 = .ok (.goto (-57), 3) := by decide +kernel
theorem dX3_exchangeExplainsCloth_62 : decode cX3_exchangeExplainsCloth 62 = .ok (.iconst 1, 1) := by decide +kernel
theorem dX3_exchangeExplainsCloth_63 : decode cX3_exchangeExplainsCloth 63 = .ok (.ireturn, 1) := by decide +kernel
theorem dX3_yarnToDeckEnd_0 : decode cX3_yarnToDeckEnd 0 = .ok (.aload_n 0, 1) := by decide +kernel
theorem dX3_yarnToDeckEnd_1 : decode cX3_yarnToDeckEnd 1 = .ok (.getfield 46, 3) := by decide +kernel
theorem dX3_yarnToDeckEnd_4 : decode cX3_yarnToDeckEnd 4 = .ok (.getfield 82, 3) := by decide +kernel
theorem dX3_yarnToDeckEnd_7 : decode cX3_yarnToDeckEnd 7 = .ok (.ifCond .gt 5, 3) := by decide +kernel
theorem dX3_yarnToDeckEnd_10 : decode cX3_yarnToDeckEnd 10 = .ok (.iconst 0, 1) := by decide +kernel
theorem dX3_yarnToDeckEnd_11 : decode cX3_yarnToDeckEnd 11 = .ok (.ireturn, 1) := by decide +kernel
theorem dX3_yarnToDeckEnd_12 : decode cX3_yarnToDeckEnd 12 = .ok (.iconst 0, 1) := by decide +kernel
theorem dX3_yarnToDeckEnd_13 : decode cX3_yarnToDeckEnd 13 = .ok (.istore_n 2, 1) := by decide +kernel
theorem dX3_yarnToDeckEnd_14 : decode cX3_yarnToDeckEnd 14 = .ok (.aload_n 0, 1) := by decide +kernel
theorem dX3_yarnToDeckEnd_15 : decode cX3_yarnToDeckEnd 15 = .ok (.getfield 53, 3) := by decide +kernel
theorem dX3_yarnToDeckEnd_18 : decode cX3_yarnToDeckEnd 18 = .ok (.getfield 85, 3) := by decide +kernel
theorem dX3_yarnToDeckEnd_21 : decode cX3_yarnToDeckEnd 21 = .ok (.aload_n 0, 1) := by decide +kernel
theorem dX3_yarnToDeckEnd_22 : decode cX3_yarnToDeckEnd 22 = .ok (.getfield 46, 3) := by decide +kernel
theorem dX3_yarnToDeckEnd_25 : decode cX3_yarnToDeckEnd 25 = .ok (.getfield 82, 3) := by decide +kernel
theorem dX3_yarnToDeckEnd_28 : decode cX3_yarnToDeckEnd 28 = .ok (.irem, 1) := by decide +kernel
theorem dX3_yarnToDeckEnd_29 : decode cX3_yarnToDeckEnd 29 = .ok (.istore_n 3, 1) := by decide +kernel
theorem dX3_yarnToDeckEnd_30 : decode cX3_yarnToDeckEnd 30 = .ok (.iload_n 3, 1) := by decide +kernel
theorem dX3_yarnToDeckEnd_31 : decode cX3_yarnToDeckEnd 31 = .ok (.aload_n 0, 1) := by decide +kernel
theorem dX3_yarnToDeckEnd_32 : decode cX3_yarnToDeckEnd 32 = .ok (.getfield 46, 3) := by decide +kernel
theorem dX3_yarnToDeckEnd_35 : decode cX3_yarnToDeckEnd 35 = .ok (.getfield 82, 3) := by decide +kernel
theorem dX3_yarnToDeckEnd_38 : decode cX3_yarnToDeckEnd 38 = .ok (.if_icmp .ge 41, 3) := by decide +kernel
theorem dX3_yarnToDeckEnd_41 : decode cX3_yarnToDeckEnd 41 = .ok (.aload_n 0, 1) := by decide +kernel
theorem dX3_yarnToDeckEnd_42 : decode cX3_yarnToDeckEnd 42 = .ok (.getfield 53, 3) := by decide +kernel
theorem dX3_yarnToDeckEnd_45 : decode cX3_yarnToDeckEnd 45 = .ok (.getfield 71, 3) := by decide +kernel
theorem dX3_yarnToDeckEnd_48 : decode cX3_yarnToDeckEnd 48 = .ok (.aload_n 0, 1) := by decide +kernel
theorem dX3_yarnToDeckEnd_49 : decode cX3_yarnToDeckEnd 49 = .ok (.getfield 46, 3) := by decide +kernel
theorem dX3_yarnToDeckEnd_52 : decode cX3_yarnToDeckEnd 52 = .ok (.getfield 173, 3) := by decide +kernel
theorem dX3_yarnToDeckEnd_55 : decode cX3_yarnToDeckEnd 55 = .ok (.iload_n 3, 1) := by decide +kernel
theorem dX3_yarnToDeckEnd_56 : decode cX3_yarnToDeckEnd 56 = .ok (.invokestatic 74, 3) := by decide +kernel
theorem dX3_yarnToDeckEnd_59 : decode cX3_yarnToDeckEnd 59 = .ok (.invokestatic 74, 3) := by decide +kernel
theorem dX3_yarnToDeckEnd_62 : decode cX3_yarnToDeckEnd 62 = .ok (.iload_n 1, 1) := by decide +kernel
theorem dX3_yarnToDeckEnd_63 : decode cX3_yarnToDeckEnd 63 = .ok (.if_icmp .ne 10, 3) := by decide +kernel
theorem dX3_yarnToDeckEnd_66 : decode cX3_yarnToDeckEnd 66 = .ok (.iload_n 2, 1) := by decide +kernel
theorem dX3_yarnToDeckEnd_67 : decode cX3_yarnToDeckEnd 67 = .ok (.aload_n 0, 1) := by decide +kernel
theorem dX3_yarnToDeckEnd_68 : decode cX3_yarnToDeckEnd 68 = .ok (.getfield 24, 3) := by decide +kernel
theorem dX3_yarnToDeckEnd_71 : decode cX3_yarnToDeckEnd 71 = .ok (.iadd, 1) := by decide +kernel
theorem dX3_yarnToDeckEnd_72 : decode cX3_yarnToDeckEnd 72 = .ok (.istore_n 2, 1) := by decide +kernel
theorem dX3_yarnToDeckEnd_73 : decode cX3_yarnToDeckEnd 73 = .ok (.iinc 3 1, 3) := by decide +kernel
theorem dX3_yarnToDeckEnd_76 : decode cX3_yarnToDeckEnd 76 = .ok (.goto (-46), 3) := by decide +kernel
theorem dX3_yarnToDeckEnd_79 : decode cX3_yarnToDeckEnd 79 = .ok (.iload_n 2, 1) := by decide +kernel
theorem dX3_yarnToDeckEnd_80 : decode cX3_yarnToDeckEnd 80 = .ok (.ireturn, 1) := by decide +kernel
theorem dX4_init_0 : decode cX4_init 0 = .ok (.aload_n 0, 1) := by decide +kernel
theorem dX4_init_1 : decode cX4_init 1 = .ok (.invokespecial 3, 3) := by decide +kernel
theorem dX4_init_4 : decode cX4_init 4 = .ok (.aload_n 0, 1) := by decide +kernel
theorem dX4_init_5 : decode cX4_init 5 = .ok (.sipush 500, 3) := by decide +kernel
theorem dX4_init_8 : decode cX4_init 8 = .ok (.newarray .int, 2) := by decide +kernel
theorem dX4_init_10 : decode cX4_init 10 = .ok (.putfield 9, 3) := by decide +kernel
theorem dX4_init_13 : decode cX4_init 13 = .ok (.aload_n 0, 1) := by decide +kernel
theorem dX4_init_14 : decode cX4_init 14 = .ok (.iconst 0, 1) := by decide +kernel
theorem dX4_init_15 : decode cX4_init 15 = .ok (.putfield 15, 3) := by decide +kernel
theorem dX4_init_18 : decode cX4_init 18 = .ok (.return_, 1) := by decide +kernel
theorem dX4_add_0 : decode cX4_add 0 = .ok (.aload_n 0, 1) := by decide +kernel
theorem dX4_add_1 : decode cX4_add 1 = .ok (.getfield 15, 3) := by decide +kernel
theorem dX4_add_4 : decode cX4_add 4 = .ok (.aload_n 0, 1) := by decide +kernel
theorem dX4_add_5 : decode cX4_add 5 = .ok (.getfield 9, 3) := by decide +kernel
theorem dX4_add_8 : decode cX4_add 8 = .ok (.arraylength, 1) := by decide +kernel
theorem dX4_add_9 : decode cX4_add 9 = .ok (.if_icmp .ge 25, 3) := by decide +kernel
theorem dX4_add_12 : decode cX4_add 12 = .ok (.aload_n 0, 1) := by decide +kernel
theorem dX4_add_13 : decode cX4_add 13 = .ok (.getfield 9, 3) := by decide +kernel
theorem dX4_add_16 : decode cX4_add 16 = .ok (.aload_n 0, 1) := by decide +kernel
theorem dX4_add_17 : decode cX4_add 17 = .ok (.getfield 15, 3) := by decide +kernel
theorem dX4_add_20 : decode cX4_add 20 = .ok (.iload_n 1, 1) := by decide +kernel
theorem dX4_add_21 : decode cX4_add 21 = .ok (.invokestatic 19, 3) := by decide +kernel
theorem dX4_add_24 : decode cX4_add 24 = .ok (.aload_n 0, 1) := by decide +kernel
theorem dX4_add_25 : decode cX4_add 25 = .ok (.dup, 1) := by decide +kernel
theorem dX4_add_26 : decode cX4_add 26 = .ok (.getfield 15, 3) := by decide +kernel
theorem dX4_add_29 : decode cX4_add 29 = .ok (.iconst 1, 1) := by decide +kernel
theorem dX4_add_30 : decode cX4_add 30 = .ok (.iadd, 1) := by decide +kernel
theorem dX4_add_31 : decode cX4_add 31 = .ok (.putfield 15, 3) := by decide +kernel
theorem dX4_add_34 : decode cX4_add 34 = .ok (.return_, 1) := by decide +kernel
theorem dX4_addDeck_0 : decode cX4_addDeck 0 = .ok (.aload_n 1, 1) := by decide +kernel
theorem dX4_addDeck_1 : decode cX4_addDeck 1 = .ok (.getfield 23, 3) := by decide +kernel
theorem dX4_addDeck_4 : decode cX4_addDeck 4 = .ok (.ifCond .ne 9, 3) := by decide +kernel
theorem dX4_addDeck_7 : decode cX4_addDeck 7 = .ok (.aload_n 0, 1) := by decide +kernel
theorem dX4_addDeck_8 : decode cX4_addDeck 8 = .ok (.bipush 45, 2) := by decide +kernel
theorem dX4_addDeck_10 : decode cX4_addDeck 10 = .ok (.invokevirtual 28, 3) := by decide +kernel
theorem dX4_addDeck_13 : decode cX4_addDeck 13 = .ok (.iconst 1, 1) := by decide +kernel
theorem dX4_addDeck_14 : decode cX4_addDeck 14 = .ok (.istore_n 2, 1) := by decide +kernel
theorem dX4_addDeck_15 : decode cX4_addDeck 15 = .ok (.iconst 0, 1) := by decide +kernel
theorem dX4_addDeck_16 : decode cX4_addDeck 16 = .ok (.istore_n 3, 1) := by decide +kernel
theorem dX4_addDeck_17 : decode cX4_addDeck 17 = .ok (.iload_n 3, 1) := by decide +kernel
theorem dX4_addDeck_18 : decode cX4_addDeck 18 = .ok (.aload_n 1, 1) := by decide +kernel
theorem dX4_addDeck_19 : decode cX4_addDeck 19 = .ok (.getfield 23, 3) := by decide +kernel
theorem dX4_addDeck_22 : decode cX4_addDeck 22 = .ok (.if_icmp .ge 48, 3) := by decide +kernel
theorem dX4_addDeck_25 : decode cX4_addDeck 25 = .ok (.aload_n 1, 1) := by decide +kernel
theorem dX4_addDeck_26 : decode cX4_addDeck 26 = .ok (.getfield 32, 3) := by decide +kernel
theorem dX4_addDeck_29 : decode cX4_addDeck 29 = .ok (.iload_n 3, 1) := by decide +kernel
theorem dX4_addDeck_30 : decode cX4_addDeck 30 = .ok (.invokestatic 35, 3) := by decide +kernel
theorem dX4_addDeck_33 : decode cX4_addDeck 33 = .ok (.istore 4, 2) := by decide +kernel
theorem dX4_addDeck_35 : decode cX4_addDeck 35 = .ok (.iload_n 2, 1) := by decide +kernel
theorem dX4_addDeck_36 : decode cX4_addDeck 36 = .ok (.ifCond .ne 16, 3) := by decide +kernel
theorem dX4_addDeck_39 : decode cX4_addDeck 39 = .ok (.iload 4, 2) := by decide +kernel
theorem dX4_addDeck_41 : decode cX4_addDeck 41 = .ok (.bipush 100, 2) := by decide +kernel
theorem dX4_addDeck_43 : decode cX4_addDeck 43 = .ok (.if_icmp .eq 9, 3) := by decide +kernel
theorem dX4_addDeck_46 : decode cX4_addDeck 46 = .ok (.aload_n 0, 1) := by decide +kernel
theorem dX4_addDeck_47 : decode cX4_addDeck 47 = .ok (.bipush 32, 2) := by decide +kernel
theorem dX4_addDeck_49 : decode cX4_addDeck 49 = .ok (.invokevirtual 28, 3) := by decide +kernel
theorem dX4_addDeck_52 : decode cX4_addDeck 52 = .ok (.aload_n 0, 1) := by decide +kernel
theorem dX4_addDeck_53 : decode cX4_addDeck 53 = .ok (.iload 4, 2) := by decide +kernel
theorem dX4_addDeck_55 : decode cX4_addDeck 55 = .ok (.invokevirtual 39, 3) := by decide +kernel
theorem dX4_addDeck_58 : decode cX4_addDeck 58 = .ok (.iload 4, 2) := by decide +kernel
theorem dX4_addDeck_60 : decode cX4_addDeck 60 = .ok (.invokestatic 42, 3) := by decide +kernel
theorem dX4_addDeck_63 : decode cX4_addDeck 63 = .ok (.istore_n 2, 1) := by decide +kernel
theorem dX4_addDeck_64 : decode cX4_addDeck 64 = .ok (.iinc 3 1, 3) := by decide +kernel
theorem dX4_addDeck_67 : decode cX4_addDeck 67 = .ok (.goto (-50), 3) := by decide +kernel
theorem dX4_addDeck_70 : decode cX4_addDeck 70 = .ok (.return_, 1) := by decide +kernel
theorem dX4_addPart_0 : decode cX4_addPart 0 = .ok (.iload_n 1, 1) := by decide +kernel
theorem dX4_addPart_1 : decode cX4_addPart 1 = .ok (.bipush 100, 2) := by decide +kernel
theorem dX4_addPart_3 : decode cX4_addPart 3 = .ok (.if_icmp .ne 12, 3) := by decide +kernel
theorem dX4_addPart_6 : decode cX4_addPart 6 = .ok (.aload_n 0, 1) := by decide +kernel
theorem dX4_addPart_7 : decode cX4_addPart 7 = .ok (.bipush 41, 2) := by decide +kernel
theorem dX4_addPart_9 : decode cX4_addPart 9 = .ok (.invokevirtual 28, 3) := by decide +kernel
theorem dX4_addPart_12 : decode cX4_addPart 12 = .ok (.goto 23, 3) := by decide +kernel
theorem dX4_addPart_15 : decode cX4_addPart 15 = .ok (.iload_n 1, 1) := by decide +kernel
theorem dX4_addPart_16 : decode cX4_addPart 16 = .ok (.invokestatic 42, 3) := by decide +kernel
theorem dX4_addPart_19 : decode cX4_addPart 19 = .ok (.ifCond .eq 11, 3) := by decide +kernel
theorem dX4_addPart_22 : decode cX4_addPart 22 = .ok (.aload_n 0, 1) := by decide +kernel
theorem dX4_addPart_23 : decode cX4_addPart 23 = .ok (.iload_n 1, 1) := by decide +kernel
theorem dX4_addPart_24 : decode cX4_addPart 24 = .ok (.invokevirtual 46, 3) := by decide +kernel
theorem dX4_addPart_27 : decode cX4_addPart 27 = .ok (.goto 8, 3) := by decide +kernel
theorem dX4_addPart_30 : decode cX4_addPart 30 = .ok (.aload_n 0, 1) := by decide +kernel
theorem dX4_addPart_31 : decode cX4_addPart 31 = .ok (.iload_n 1, 1) := by decide +kernel
theorem dX4_addPart_32 : decode cX4_addPart 32 = .ok (.invokevirtual 49, 3) := by decide +kernel
theorem dX4_addPart_35 : decode cX4_addPart 35 = .ok (.return_, 1) := by decide +kernel
theorem dX4_addOpening_0 : decode cX4_addOpening 0 = .ok (.iload_n 1, 1) := by decide +kernel
theorem dX4_addOpening_1 : decode cX4_addOpening 1 = .ok (.bipush 101, 2) := by decide +kernel
theorem dX4_addOpening_3 : decode cX4_addOpening 3 = .ok (.if_icmp .ne 12, 3) := by decide +kernel
theorem dX4_addOpening_6 : decode cX4_addOpening 6 = .ok (.aload_n 0, 1) := by decide +kernel
theorem dX4_addOpening_7 : decode cX4_addOpening 7 = .ok (.bipush 109, 2) := by decide +kernel
theorem dX4_addOpening_9 : decode cX4_addOpening 9 = .ok (.invokevirtual 28, 3) := by decide +kernel
theorem dX4_addOpening_12 : decode cX4_addOpening 12 = .ok (.goto 33, 3) := by decide +kernel
theorem dX4_addOpening_15 : decode cX4_addOpening 15 = .ok (.iload_n 1, 1) := by decide +kernel
theorem dX4_addOpening_16 : decode cX4_addOpening 16 = .ok (.bipush 102, 2) := by decide +kernel
theorem dX4_addOpening_18 : decode cX4_addOpening 18 = .ok (.if_icmp .ne 12, 3) := by decide +kernel
theorem dX4_addOpening_21 : decode cX4_addOpening 21 = .ok (.aload_n 0, 1) := by decide +kernel
theorem dX4_addOpening_22 : decode cX4_addOpening 22 = .ok (.bipush 98, 2) := by decide +kernel
theorem dX4_addOpening_24 : decode cX4_addOpening 24 = .ok (.invokevirtual 28, 3) := by decide +kernel
theorem dX4_addOpening_27 : decode cX4_addOpening 27 = .ok (.goto 18, 3) := by decide +kernel
theorem dX4_addOpening_30 : decode cX4_addOpening 30 = .ok (.aload_n 0, 1) := by decide +kernel
theorem dX4_addOpening_31 : decode cX4_addOpening 31 = .ok (.bipush 114, 2) := by decide +kernel
theorem dX4_addOpening_33 : decode cX4_addOpening 33 = .ok (.invokevirtual 28, 3) := by decide +kernel
theorem dX4_addOpening_36 : decode cX4_addOpening 36 = .ok (.aload_n 0, 1) := by decide +kernel
theorem dX4_addOpening_37 : decode cX4_addOpening 37 = .ok (.iload_n 1, 1) := by decide +kernel
theorem dX4_addOpening_38 : decode cX4_addOpening 38 = .ok (.sipush 200, 3) := by decide +kernel
theorem dX4_addOpening_41 : decode cX4_addOpening 41 = .ok (.isub, 1) := by decide +kernel
theorem dX4_addOpening_42 : decode cX4_addOpening 42 = .ok (.invokevirtual 49, 3) := by decide +kernel
theorem dX4_addOpening_45 : decode cX4_addOpening 45 = .ok (.aload_n 0, 1) := by decide +kernel
theorem dX4_addOpening_46 : decode cX4_addOpening 46 = .ok (.bipush 40, 2) := by decide +kernel
theorem dX4_addOpening_48 : decode cX4_addOpening 48 = .ok (.invokevirtual 28, 3) := by decide +kernel
theorem dX4_addOpening_51 : decode cX4_addOpening 51 = .ok (.return_, 1) := by decide +kernel
theorem dX4_addNumber_0 : decode cX4_addNumber 0 = .ok (.iload_n 1, 1) := by decide +kernel
theorem dX4_addNumber_1 : decode cX4_addNumber 1 = .ok (.bipush 10, 2) := by decide +kernel
theorem dX4_addNumber_3 : decode cX4_addNumber 3 = .ok (.if_icmp .lt 14, 3) := by decide +kernel
theorem dX4_addNumber_6 : decode cX4_addNumber 6 = .ok (.aload_n 0, 1) := by decide +kernel
theorem dX4_addNumber_7 : decode cX4_addNumber 7 = .ok (.bipush 48, 2) := by decide +kernel
theorem dX4_addNumber_9 : decode cX4_addNumber 9 = .ok (.iload_n 1, 1) := by decide +kernel
theorem dX4_addNumber_10 : decode cX4_addNumber 10 = .ok (.bipush 10, 2) := by decide +kernel
theorem dX4_addNumber_12 : decode cX4_addNumber 12 = .ok (.idiv, 1) := by decide +kernel
theorem dX4_addNumber_13 : decode cX4_addNumber 13 = .ok (.iadd, 1) := by decide +kernel
theorem dX4_addNumber_14 : decode cX4_addNumber 14 = .ok (.invokevirtual 28, 3) := by decide +kernel
theorem dX4_addNumber_17 : decode cX4_addNumber 17 = .ok (.aload_n 0, 1) := by decide +kernel
theorem dX4_addNumber_18 : decode cX4_addNumber 18 = .ok (.bipush 48, 2) := by decide +kernel
theorem dX4_addNumber_20 : decode cX4_addNumber 20 = .ok (.iload_n 1, 1) := by decide +kernel
theorem dX4_addNumber_21 : decode cX4_addNumber 21 = .ok (.bipush 10, 2) := by decide +kernel
theorem dX4_addNumber_23 : decode cX4_addNumber 23 = .ok (.irem, 1) := by decide +kernel
theorem dX4_addNumber_24 : decode cX4_addNumber 24 = .ok (.iadd, 1) := by decide +kernel
theorem dX4_addNumber_25 : decode cX4_addNumber 25 = .ok (.invokevirtual 28, 3) := by decide +kernel
theorem dX4_addNumber_28 : decode cX4_addNumber 28 = .ok (.return_, 1) := by decide +kernel
theorem dX5_init_0 : decode cX5_init 0 = .ok (.aload_n 0, 1) := by decide +kernel
theorem dX5_init_1 : decode cX5_init 1 = .ok (.invokespecial 3, 3) := by decide +kernel
theorem dX5_init_4 : decode cX5_init 4 = .ok (.aload_n 0, 1) := by decide +kernel
theorem dX5_init_5 : decode cX5_init 5 = .ok (.new 9, 3) := by decide +kernel
theorem dX5_init_8 : decode cX5_init 8 = .ok (.dup, 1) := by decide +kernel
theorem dX5_init_9 : decode cX5_init 9 = .ok (.invokespecial 11, 3) := by decide +kernel
theorem dX5_init_12 : decode cX5_init 12 = .ok (.putfield 12, 3) := by decide +kernel
theorem dX5_init_15 : decode cX5_init 15 = .ok (.aload_n 0, 1) := by decide +kernel
theorem dX5_init_16 : decode cX5_init 16 = .ok (.new 18, 3) := by decide +kernel
theorem dX5_init_19 : decode cX5_init 19 = .ok (.dup, 1) := by decide +kernel
theorem dX5_init_20 : decode cX5_init 20 = .ok (.invokespecial 20, 3) := by decide +kernel
theorem dX5_init_23 : decode cX5_init 23 = .ok (.putfield 21, 3) := by decide +kernel
theorem dX5_init_26 : decode cX5_init 26 = .ok (.aload_n 0, 1) := by decide +kernel
theorem dX5_init_27 : decode cX5_init 27 = .ok (.iconst 0, 1) := by decide +kernel
theorem dX5_init_28 : decode cX5_init 28 = .ok (.putfield 25, 3) := by decide +kernel
theorem dX5_init_31 : decode cX5_init 31 = .ok (.aload_n 0, 1) := by decide +kernel
theorem dX5_init_32 : decode cX5_init 32 = .ok (.iconst (-1), 1) := by decide +kernel
theorem dX5_init_33 : decode cX5_init 33 = .ok (.putfield 29, 3) := by decide +kernel
theorem dX5_init_36 : decode cX5_init 36 = .ok (.aload_n 0, 1) := by decide +kernel
theorem dX5_init_37 : decode cX5_init 37 = .ok (.iconst 0, 1) := by decide +kernel
theorem dX5_init_38 : decode cX5_init 38 = .ok (.putfield 32, 3) := by decide +kernel
theorem dX5_init_41 : decode cX5_init 41 = .ok (.return_, 1) := by decide +kernel
theorem dX5_parse_0 : decode cX5_parse 0 = .ok (.aload_n 0, 1) := by decide +kernel
theorem dX5_parse_1 : decode cX5_parse 1 = .ok (.iconst 0, 1) := by decide +kernel
theorem dX5_parse_2 : decode cX5_parse 2 = .ok (.putfield 25, 3) := by decide +kernel
theorem dX5_parse_5 : decode cX5_parse 5 = .ok (.aload_n 0, 1) := by decide +kernel
theorem dX5_parse_6 : decode cX5_parse 6 = .ok (.iconst (-1), 1) := by decide +kernel
theorem dX5_parse_7 : decode cX5_parse 7 = .ok (.putfield 29, 3) := by decide +kernel
theorem dX5_parse_10 : decode cX5_parse 10 = .ok (.aload_n 0, 1) := by decide +kernel
theorem dX5_parse_11 : decode cX5_parse 11 = .ok (.getfield 21, 3) := by decide +kernel
theorem dX5_parse_14 : decode cX5_parse 14 = .ok (.invokevirtual 35, 3) := by decide +kernel
theorem dX5_parse_17 : decode cX5_parse 17 = .ok (.aload_n 0, 1) := by decide +kernel
theorem dX5_parse_18 : decode cX5_parse 18 = .ok (.getfield 12, 3) := by decide +kernel
theorem dX5_parse_21 : decode cX5_parse 21 = .ok (.iconst 0, 1) := by decide +kernel
theorem dX5_parse_22 : decode cX5_parse 22 = .ok (.putfield 38, 3) := by decide +kernel
theorem dX5_parse_25 : decode cX5_parse 25 = .ok (.aload_n 0, 1) := by decide +kernel
theorem dX5_parse_26 : decode cX5_parse 26 = .ok (.getfield 12, 3) := by decide +kernel
theorem dX5_parse_29 : decode cX5_parse 29 = .ok (.iload_n 1, 1) := by decide +kernel
theorem dX5_parse_30 : decode cX5_parse 30 = .ok (.invokevirtual 41, 3) := by decide +kernel
theorem dX5_parse_33 : decode cX5_parse 33 = .ok (.aload_n 0, 1) := by decide +kernel
theorem dX5_parse_34 : decode cX5_parse 34 = .ok (.invokevirtual 45, 3) := by decide +kernel
theorem dX5_parse_37 : decode cX5_parse 37 = .ok (.ifCond .ne 5, 3) := by decide +kernel
theorem dX5_parse_40 : decode cX5_parse 40 = .ok (.iconst 0, 1) := by decide +kernel
theorem dX5_parse_41 : decode cX5_parse 41 = .ok (.ireturn, 1) := by decide +kernel
theorem dX5_parse_42 : decode cX5_parse 42 = .ok (.iconst 0, 1) := by decide +kernel
theorem dX5_parse_43 : decode cX5_parse 43 = .ok (.istore_n 2, 1) := by decide +kernel
theorem dX5_parse_44 : decode cX5_parse 44 = .ok (.iload_n 2, 1) := by decide +kernel
theorem dX5_parse_45 : decode cX5_parse 45 = .ok (.sipush 500, 3) := by decide +kernel
theorem dX5_parse_48 : decode cX5_parse 48 = .ok (.if_icmp .ge 52, 3) := by decide +kernel
theorem dX5_parse_51 : decode cX5_parse 51 = .ok (.aload_n 0, 1) := by decide +kernel
theorem dX5_parse_52 : decode cX5_parse 52 = .ok (.getfield 12, 3) := by decide +kernel
theorem dX5_parse_55 : decode cX5_parse 55 = .ok (.getfield 49, 3) := by decide +kernel
theorem dX5_parse_58 : decode cX5_parse 58 = .ok (.ifCond .eq 42, 3) := by decide +kernel
theorem dX5_parse_61 : decode cX5_parse 61 = .ok (.aload_n 0, 1) := by decide +kernel
theorem dX5_parse_62 : decode cX5_parse 62 = .ok (.getfield 12, 3) := by decide +kernel
theorem dX5_parse_65 : decode cX5_parse 65 = .ok (.getfield 49, 3) := by decide +kernel
theorem dX5_parse_68 : decode cX5_parse 68 = .ok (.iconst 3, 1) := by decide +kernel
theorem dX5_parse_69 : decode cX5_parse 69 = .ok (.if_icmp .eq 9, 3) := by decide +kernel
theorem dX5_parse_72 : decode cX5_parse 72 = .ok (.aload_n 0, 1) := by decide +kernel
theorem dX5_parse_73 : decode cX5_parse 73 = .ok (.iconst 1, 1) := by decide +kernel
theorem dX5_parse_74 : decode cX5_parse 74 = .ok (.invokevirtual 52, 3) := by decide +kernel
theorem dX5_parse_77 : decode cX5_parse 77 = .ok (.ireturn, 1) := by decide +kernel
theorem dX5_parse_78 : decode cX5_parse 78 = .ok (.aload_n 0, 1) := by decide +kernel
theorem dX5_parse_79 : decode cX5_parse 79 = .ok (.getfield 12, 3) := by decide +kernel
theorem dX5_parse_82 : decode cX5_parse 82 = .ok (.invokevirtual 56, 3) := by decide +kernel
theorem dX5_parse_85 : decode cX5_parse 85 = .ok (.aload_n 0, 1) := by decide +kernel
theorem dX5_parse_86 : decode cX5_parse 86 = .ok (.invokevirtual 59, 3) := by decide +kernel
theorem dX5_parse_89 : decode cX5_parse 89 = .ok (.ifCond .ne 5, 3) := by decide +kernel
theorem dX5_parse_92 : decode cX5_parse 92 = .ok (.iconst 0, 1) := by decide +kernel
theorem dX5_parse_93 : decode cX5_parse 93 = .ok (.ireturn, 1) := by decide +kernel
theorem dX5_parse_94 : decode cX5_parse 94 = .ok (.iinc 2 1, 3) := by decide +kernel
theorem dX5_parse_97 : decode cX5_parse 97 = .ok (.goto (-53), 3) := by decide +kernel
theorem dX5_parse_100 : decode cX5_parse 100 = .ok (.aload_n 0, 1) := by decide +kernel
theorem dX5_parse_101 : decode cX5_parse 101 = .ok (.getfield 21, 3) := by decide +kernel
theorem dX5_parse_104 : decode cX5_parse 104 = .ok (.getfield 62, 3) := by decide +kernel
theorem dX5_parse_107 : decode cX5_parse 107 = .ok (.ifCond .gt 11, 3) := by decide +kernel
theorem dX5_parse_110 : decode cX5_parse 110 = .ok (.aload_n 0, 1) := by decide +kernel
theorem dX5_parse_111 : decode cX5_parse 111 = .ok (.iconst 4, 1) := by decide +kernel
theorem dX5_parse_112 : decode cX5_parse 112 = .ok (.invokevirtual 52, 3) := by decide +kernel
theorem dX5_parse_115 : decode cX5_parse 115 = .ok (.ifCond .eq 7, 3) := by decide +kernel
theorem dX5_parse_118 : decode cX5_parse 118 = .ok (.iconst 1, 1) := by decide +kernel
theorem dX5_parse_119 : decode cX5_parse 119 = .ok (.goto 4, 3) := by decide +kernel
theorem dX5_parse_122 : decode cX5_parse 122 = .ok (.iconst 0, 1) := by decide +kernel
theorem dX5_parse_123 : decode cX5_parse 123 = .ok (.ireturn, 1) := by decide +kernel
theorem dX5_fail_0 : decode cX5_fail 0 = .ok (.aload_n 0, 1) := by decide +kernel
theorem dX5_fail_1 : decode cX5_fail 1 = .ok (.iload_n 1, 1) := by decide +kernel
theorem dX5_fail_2 : decode cX5_fail 2 = .ok (.putfield 25, 3) := by decide +kernel
theorem dX5_fail_5 : decode cX5_fail 5 = .ok (.aload_n 0, 1) := by decide +kernel
theorem dX5_fail_6 : decode cX5_fail 6 = .ok (.aload_n 0, 1) := by decide +kernel
theorem dX5_fail_7 : decode cX5_fail 7 = .ok (.getfield 12, 3) := by decide +kernel
theorem dX5_fail_10 : decode cX5_fail 10 = .ok (.getfield 65, 3) := by decide +kernel
theorem dX5_fail_13 : decode cX5_fail 13 = .ok (.putfield 29, 3) := by decide +kernel
theorem dX5_fail_16 : decode cX5_fail 16 = .ok (.iconst 0, 1) := by decide +kernel
theorem dX5_fail_17 : decode cX5_fail 17 = .ok (.ireturn, 1) := by decide +kernel
theorem dX5_seeNumber_0 : decode cX5_seeNumber 0 = .ok (.aload_n 0, 1) := by decide +kernel
theorem dX5_seeNumber_1 : decode cX5_seeNumber 1 = .ok (.getfield 12, 3) := by decide +kernel
theorem dX5_seeNumber_4 : decode cX5_seeNumber 4 = .ok (.getfield 49, 3) := by decide +kernel
theorem dX5_seeNumber_7 : decode cX5_seeNumber 7 = .ok (.iconst 2, 1) := by decide +kernel
theorem dX5_seeNumber_8 : decode cX5_seeNumber 8 = .ok (.if_icmp .eq 9, 3) := by decide +kernel
theorem dX5_seeNumber_11 : decode cX5_seeNumber 11 = .ok (.aload_n 0, 1) := by decide +kernel
theorem dX5_seeNumber_12 : decode cX5_seeNumber 12 = .ok (.iconst 1, 1) := by decide +kernel
theorem dX5_seeNumber_13 : decode cX5_seeNumber 13 = .ok (.invokevirtual 52, 3) := by decide +kernel
theorem dX5_seeNumber_16 : decode cX5_seeNumber 16 = .ok (.ireturn, 1) := by decide +kernel
theorem dX5_seeNumber_17 : decode cX5_seeNumber 17 = .ok (.aload_n 0, 1) := by decide +kernel
theorem dX5_seeNumber_18 : decode cX5_seeNumber 18 = .ok (.aload_n 0, 1) := by decide +kernel
theorem dX5_seeNumber_19 : decode cX5_seeNumber 19 = .ok (.getfield 12, 3) := by decide +kernel
theorem dX5_seeNumber_22 : decode cX5_seeNumber 22 = .ok (.getfield 68, 3) := by decide +kernel
theorem dX5_seeNumber_25 : decode cX5_seeNumber 25 = .ok (.putfield 32, 3) := by decide +kernel
theorem dX5_seeNumber_28 : decode cX5_seeNumber 28 = .ok (.aload_n 0, 1) := by decide +kernel
theorem dX5_seeNumber_29 : decode cX5_seeNumber 29 = .ok (.getfield 32, 3) := by decide +kernel
theorem dX5_seeNumber_32 : decode cX5_seeNumber 32 = .ok (.iload_n 1, 1) := by decide +kernel
theorem dX5_seeNumber_33 : decode cX5_seeNumber 33 = .ok (.if_icmp .lt 11, 3) := by decide +kernel
theorem dX5_seeNumber_36 : decode cX5_seeNumber 36 = .ok (.aload_n 0, 1) := by decide +kernel
theorem dX5_seeNumber_37 : decode cX5_seeNumber 37 = .ok (.getfield 32, 3) := by decide +kernel
theorem dX5_seeNumber_40 : decode cX5_seeNumber 40 = .ok (.iload_n 2, 1) := by decide +kernel
theorem dX5_seeNumber_41 : decode cX5_seeNumber 41 = .ok (.if_icmp .le 11, 3) := by decide +kernel
theorem dX5_seeNumber_44 : decode cX5_seeNumber 44 = .ok (.aload_n 0, 1) := by decide +kernel
theorem dX5_seeNumber_45 : decode cX5_seeNumber 45 = .ok (.iconst 2, 1) := by decide +kernel
theorem dX5_seeNumber_46 : decode cX5_seeNumber 46 = .ok (.invokevirtual 52, 3) := by decide +kernel
theorem dX5_seeNumber_49 : decode cX5_seeNumber 49 = .ok (.ifCond .eq 7, 3) := by decide +kernel
theorem dX5_seeNumber_52 : decode cX5_seeNumber 52 = .ok (.iconst 1, 1) := by decide +kernel
theorem dX5_seeNumber_53 : decode cX5_seeNumber 53 = .ok (.goto 4, 3) := by decide +kernel
theorem dX5_seeNumber_56 : decode cX5_seeNumber 56 = .ok (.iconst 0, 1) := by decide +kernel
theorem dX5_seeNumber_57 : decode cX5_seeNumber 57 = .ok (.ireturn, 1) := by decide +kernel
theorem dX5_takeNumber_0 : decode cX5_takeNumber 0 = .ok (.aload_n 0, 1) := by decide +kernel
theorem dX5_takeNumber_1 : decode cX5_takeNumber 1 = .ok (.iload_n 1, 1) := by decide +kernel
theorem dX5_takeNumber_2 : decode cX5_takeNumber 2 = .ok (.iload_n 2, 1) := by decide +kernel
theorem dX5_takeNumber_3 : decode cX5_takeNumber 3 = .ok (.invokevirtual 71, 3) := by decide +kernel
theorem dX5_takeNumber_6 : decode cX5_takeNumber 6 = .ok (.ifCond .ne 5, 3) := by decide +kernel
theorem dX5_takeNumber_9 : decode cX5_takeNumber 9 = .ok (.iconst 0, 1) := by decide +kernel
theorem dX5_takeNumber_10 : decode cX5_takeNumber 10 = .ok (.ireturn, 1) := by decide +kernel
theorem dX5_takeNumber_11 : decode cX5_takeNumber 11 = .ok (.aload_n 0, 1) := by decide +kernel
theorem dX5_takeNumber_12 : decode cX5_takeNumber 12 = .ok (.getfield 12, 3) := by decide +kernel
theorem dX5_takeNumber_15 : decode cX5_takeNumber 15 = .ok (.invokevirtual 56, 3) := by decide +kernel
theorem dX5_takeNumber_18 : decode cX5_takeNumber 18 = .ok (.iconst 1, 1) := by decide +kernel
theorem dX5_takeNumber_19 : decode cX5_takeNumber 19 = .ok (.ireturn, 1) := by decide +kernel
theorem dX5_seeCard_0 : decode cX5_seeCard 0 = .ok (.aload_n 0, 1) := by decide +kernel
theorem dX5_seeCard_1 : decode cX5_seeCard 1 = .ok (.iconst 0, 1) := by decide +kernel
theorem dX5_seeCard_2 : decode cX5_seeCard 2 = .ok (.aload_n 0, 1) := by decide +kernel
theorem dX5_seeCard_3 : decode cX5_seeCard 3 = .ok (.getfield 21, 3) := by decide +kernel
theorem dX5_seeCard_6 : decode cX5_seeCard 6 = .ok (.getfield 75, 3) := by decide +kernel
theorem dX5_seeCard_9 : decode cX5_seeCard 9 = .ok (.iconst 1, 1) := by decide +kernel
theorem dX5_seeCard_10 : decode cX5_seeCard 10 = .ok (.isub, 1) := by decide +kernel
theorem dX5_seeCard_11 : decode cX5_seeCard 11 = .ok (.invokevirtual 71, 3) := by decide +kernel
theorem dX5_seeCard_14 : decode cX5_seeCard 14 = .ok (.ireturn, 1) := by decide +kernel
theorem dX5_takeCard_0 : decode cX5_takeCard 0 = .ok (.aload_n 0, 1) := by decide +kernel
theorem dX5_takeCard_1 : decode cX5_takeCard 1 = .ok (.invokevirtual 78, 3) := by decide +kernel
theorem dX5_takeCard_4 : decode cX5_takeCard 4 = .ok (.ifCond .ne 5, 3) := by decide +kernel
theorem dX5_takeCard_7 : decode cX5_takeCard 7 = .ok (.iconst 0, 1) := by decide +kernel
theorem dX5_takeCard_8 : decode cX5_takeCard 8 = .ok (.ireturn, 1) := by decide +kernel
theorem dX5_takeCard_9 : decode cX5_takeCard 9 = .ok (.aload_n 0, 1) := by decide +kernel
theorem dX5_takeCard_10 : decode cX5_takeCard 10 = .ok (.getfield 12, 3) := by decide +kernel
theorem dX5_takeCard_13 : decode cX5_takeCard 13 = .ok (.invokevirtual 56, 3) := by decide +kernel
theorem dX5_takeCard_16 : decode cX5_takeCard 16 = .ok (.iconst 1, 1) := by decide +kernel
theorem dX5_takeCard_17 : decode cX5_takeCard 17 = .ok (.ireturn, 1) := by decide +kernel
theorem dX5_seeHarness_0 : decode cX5_seeHarness 0 = .ok (.aload_n 0, 1) := by decide +kernel
theorem dX5_seeHarness_1 : decode cX5_seeHarness 1 = .ok (.iconst 0, 1) := by decide +kernel
theorem dX5_seeHarness_2 : decode cX5_seeHarness 2 = .ok (.aload_n 0, 1) := by decide +kernel
theorem dX5_seeHarness_3 : decode cX5_seeHarness 3 = .ok (.getfield 21, 3) := by decide +kernel
theorem dX5_seeHarness_6 : decode cX5_seeHarness 6 = .ok (.getfield 81, 3) := by decide +kernel
theorem dX5_seeHarness_9 : decode cX5_seeHarness 9 = .ok (.iconst 1, 1) := by decide +kernel
theorem dX5_seeHarness_10 : decode cX5_seeHarness 10 = .ok (.isub, 1) := by decide +kernel
theorem dX5_seeHarness_11 : decode cX5_seeHarness 11 = .ok (.invokevirtual 71, 3) := by decide +kernel
theorem dX5_seeHarness_14 : decode cX5_seeHarness 14 = .ok (.ireturn, 1) := by decide +kernel
theorem dX5_takeHarness_0 : decode cX5_takeHarness 0 = .ok (.aload_n 0, 1) := by decide +kernel
theorem dX5_takeHarness_1 : decode cX5_takeHarness 1 = .ok (.invokevirtual 84, 3) := by decide +kernel
theorem dX5_takeHarness_4 : decode cX5_takeHarness 4 = .ok (.ifCond .ne 5, 3) := by decide +kernel
theorem dX5_takeHarness_7 : decode cX5_takeHarness 7 = .ok (.iconst 0, 1) := by decide +kernel
theorem dX5_takeHarness_8 : decode cX5_takeHarness 8 = .ok (.ireturn, 1) := by decide +kernel
theorem dX5_takeHarness_9 : decode cX5_takeHarness 9 = .ok (.aload_n 0, 1) := by decide +kernel
theorem dX5_takeHarness_10 : decode cX5_takeHarness 10 = .ok (.getfield 12, 3) := by decide +kernel
theorem dX5_takeHarness_13 : decode cX5_takeHarness 13 = .ok (.invokevirtual 56, 3) := by decide +kernel
theorem dX5_takeHarness_16 : decode cX5_takeHarness 16 = .ok (.iconst 1, 1) := by decide +kernel
theorem dX5_takeHarness_17 : decode cX5_takeHarness 17 = .ok (.ireturn, 1) := by decide +kernel
theorem dX5_takeColour_0 : decode cX5_takeColour 0 = .ok (.aload_n 0, 1) := by decide +kernel
theorem dX5_takeColour_1 : decode cX5_takeColour 1 = .ok (.aload_n 0, 1) := by decide +kernel
theorem dX5_takeColour_2 : decode cX5_takeColour 2 = .ok (.getfield 12, 3) := by decide +kernel
theorem dX5_takeColour_5 : decode cX5_takeColour 5 = .ok (.invokevirtual 87, 3) := by decide +kernel
theorem dX5_takeColour_8 : decode cX5_takeColour 8 = .ok (.putfield 32, 3) := by decide +kernel
theorem dX5_takeColour_11 : decode cX5_takeColour 11 = .ok (.aload_n 0, 1) := by decide +kernel
theorem dX5_takeColour_12 : decode cX5_takeColour 12 = .ok (.getfield 32, 3) := by decide +kernel
theorem dX5_takeColour_15 : decode cX5_takeColour 15 = .ok (.iconst (-1), 1) := by decide +kernel
theorem dX5_takeColour_16 : decode cX5_takeColour 16 = .ok (.if_icmp .ne 9, 3) := by decide +kernel
theorem dX5_takeColour_19 : decode cX5_takeColour 19 = .ok (.aload_n 0, 1) := by decide +kernel
theorem dX5_takeColour_20 : decode cX5_takeColour 20 = .ok (.iconst 1, 1) := by decide +kernel
theorem dX5_takeColour_21 : decode cX5_takeColour 21 = .ok (.invokevirtual 52, 3) := by decide +kernel
theorem dX5_takeColour_24 : decode cX5_takeColour 24 = .ok (.ireturn, 1) := by decide +kernel
theorem dX5_takeColour_25 : decode cX5_takeColour 25 = .ok (.aload_n 0, 1) := by decide +kernel
theorem dX5_takeColour_26 : decode cX5_takeColour 26 = .ok (.getfield 12, 3) := by decide +kernel
theorem dX5_takeColour_29 : decode cX5_takeColour 29 = .ok (.invokevirtual 56, 3) := by decide +kernel
theorem dX5_takeColour_32 : decode cX5_takeColour 32 = .ok (.iconst 1, 1) := by decide +kernel
theorem dX5_takeColour_33 : decode cX5_takeColour 33 = .ok (.ireturn, 1) := by decide +kernel
theorem dX5_readHeader_0 : decode cX5_readHeader 0 = .ok (.aload_n 0, 1) := by decide +kernel
theorem dX5_readHeader_1 : decode cX5_readHeader 1 = .ok (.getfield 12, 3) := by decide +kernel
theorem dX5_readHeader_4 : decode cX5_readHeader 4 = .ok (.ldc 91, 2) := by decide +kernel
theorem dX5_readHeader_6 : decode cX5_readHeader 6 = .ok (.invokevirtual 92, 3) := by decide +kernel
theorem dX5_readHeader_9 : decode cX5_readHeader 9 = .ok (.ifCond .ne 9, 3) := by decide +kernel
theorem dX5_readHeader_12 : decode cX5_readHeader 12 = .ok (.aload_n 0, 1) := by decide +kernel
theorem dX5_readHeader_13 : decode cX5_readHeader 13 = .ok (.iconst 1, 1) := by decide +kernel
theorem dX5_readHeader_14 : decode cX5_readHeader 14 = .ok (.invokevirtual 52, 3) := by decide +kernel
theorem dX5_readHeader_17 : decode cX5_readHeader 17 = .ok (.ireturn, 1) := by decide +kernel
theorem dX5_readHeader_18 : decode cX5_readHeader 18 = .ok (.aload_n 0, 1) := by decide +kernel
theorem dX5_readHeader_19 : decode cX5_readHeader 19 = .ok (.getfield 12, 3) := by decide +kernel
theorem dX5_readHeader_22 : decode cX5_readHeader 22 = .ok (.invokevirtual 56, 3) := by decide +kernel
theorem dX5_readHeader_25 : decode cX5_readHeader 25 = .ok (.aload_n 0, 1) := by decide +kernel
theorem dX5_readHeader_26 : decode cX5_readHeader 26 = .ok (.iconst 2, 1) := by decide +kernel
theorem dX5_readHeader_27 : decode cX5_readHeader 27 = .ok (.bipush 8, 2) := by decide +kernel
theorem dX5_readHeader_29 : decode cX5_readHeader 29 = .ok (.invokevirtual 96, 3) := by decide +kernel
theorem dX5_readHeader_32 : decode cX5_readHeader 32 = .ok (.ifCond .ne 5, 3) := by decide +kernel
theorem dX5_readHeader_35 : decode cX5_readHeader 35 = .ok (.iconst 0, 1) := by decide +kernel
theorem dX5_readHeader_36 : decode cX5_readHeader 36 = .ok (.ireturn, 1) := by decide +kernel
theorem dX5_readHeader_37 : decode cX5_readHeader 37 = .ok (.aload_n 0, 1) := by decide +kernel
theorem dX5_readHeader_38 : decode cX5_readHeader 38 = .ok (.getfield 21, 3) := by decide +kernel
theorem dX5_readHeader_41 : decode cX5_readHeader 41 = .ok (.aload_n 0, 1) := by decide +kernel
theorem dX5_readHeader_42 : decode cX5_readHeader 42 = .ok (.getfield 32, 3) := by decide +kernel
theorem dX5_readHeader_45 : decode cX5_readHeader 45 = .ok (.putfield 81, 3) := by decide +kernel
theorem dX5_readHeader_48 : decode cX5_readHeader 48 = .ok (.aload_n 0, 1) := by decide +kernel
theorem dX5_readHeader_49 : decode cX5_readHeader 49 = .ok (.iconst 1, 1) := by decide +kernel
theorem dX5_readHeader_50 : decode cX5_readHeader 50 = .ok (.sipush 200, 3) := by decide +kernel
theorem dX5_readHeader_53 : decode cX5_readHeader 53 = .ok (.invokevirtual 96, 3) := by decide +kernel
theorem dX5_readHeader_56 : decode cX5_readHeader 56 = .ok (.ifCond .ne 5, 3) := by decide +kernel
theorem dX5_readHeader_59 : decode cX5_readHeader 59 = .ok (.iconst 0, 1) := by decide +kernel
theorem dX5_readHeader_60 : decode cX5_readHeader 60 = .ok (.ireturn, 1) := by decide +kernel
theorem dX5_readHeader_61 : decode cX5_readHeader 61 = .ok (.aload_n 0, 1) := by decide +kernel
theorem dX5_readHeader_62 : decode cX5_readHeader 62 = .ok (.getfield 21, 3) := by decide +kernel
theorem dX5_readHeader_65 : decode cX5_readHeader 65 = .ok (.aload_n 0, 1) := by decide +kernel
theorem dX5_readHeader_66 : decode cX5_readHeader 66 = .ok (.getfield 32, 3) := by decide +kernel
theorem dX5_readHeader_69 : decode cX5_readHeader 69 = .ok (.putfield 99, 3) := by decide +kernel
theorem dX5_readHeader_72 : decode cX5_readHeader 72 = .ok (.iconst 1, 1) := by decide +kernel
theorem dX5_readHeader_73 : decode cX5_readHeader 73 = .ok (.ireturn, 1) := by decide +kernel
theorem dX5_readItem_0 : decode cX5_readItem 0 = .ok (.aload_n 0, 1) := by decide +kernel
theorem dX5_readItem_1 : decode cX5_readItem 1 = .ok (.getfield 12, 3) := by decide +kernel
theorem dX5_readItem_4 : decode cX5_readItem 4 = .ok (.ldc 102, 2) := by decide +kernel
theorem dX5_readItem_6 : decode cX5_readItem 6 = .ok (.invokevirtual 92, 3) := by decide +kernel
theorem dX5_readItem_9 : decode cX5_readItem 9 = .ok (.ifCond .eq 8, 3) := by decide +kernel
theorem dX5_readItem_12 : decode cX5_readItem 12 = .ok (.aload_n 0, 1) := by decide +kernel
theorem dX5_readItem_13 : decode cX5_readItem 13 = .ok (.invokevirtual 104, 3) := by decide +kernel
theorem dX5_readItem_16 : decode cX5_readItem 16 = .ok (.ireturn, 1) := by decide +kernel
theorem dX5_readItem_17 : decode cX5_readItem 17 = .ok (.aload_n 0, 1) := by decide +kernel
theorem dX5_readItem_18 : decode cX5_readItem 18 = .ok (.getfield 12, 3) := by decide +kernel
theorem dX5_readItem_21 : decode cX5_readItem 21 = .ok (.ldc 107, 2) := by decide +kernel
theorem dX5_readItem_23 : decode cX5_readItem 23 = .ok (.invokevirtual 92, 3) := by decide +kernel
theorem dX5_readItem_26 : decode cX5_readItem 26 = .ok (.ifCond .eq 8, 3) := by decide +kernel
theorem dX5_readItem_29 : decode cX5_readItem 29 = .ok (.aload_n 0, 1) := by decide +kernel
theorem dX5_readItem_30 : decode cX5_readItem 30 = .ok (.invokevirtual 109, 3) := by decide +kernel
theorem dX5_readItem_33 : decode cX5_readItem 33 = .ok (.ireturn, 1) := by decide +kernel
theorem dX5_readItem_34 : decode cX5_readItem 34 = .ok (.aload_n 0, 1) := by decide +kernel
theorem dX5_readItem_35 : decode cX5_readItem 35 = .ok (.getfield 12, 3) := by decide +kernel
theorem dX5_readItem_38 : decode cX5_readItem 38 = .ok (.ldc 112, 2) := by decide +kernel
theorem dX5_readItem_40 : decode cX5_readItem 40 = .ok (.invokevirtual 92, 3) := by decide +kernel
theorem dX5_readItem_43 : decode cX5_readItem 43 = .ok (.ifCond .eq 8, 3) := by decide +kernel
theorem dX5_readItem_46 : decode cX5_readItem 46 = .ok (.aload_n 0, 1) := by decide +kernel
theorem dX5_readItem_47 : decode cX5_readItem 47 = .ok (.invokevirtual 114, 3) := by decide +kernel
theorem dX5_readItem_50 : decode cX5_readItem 50 = .ok (.ireturn, 1) := by decide +kernel
theorem dX5_readItem_51 : decode cX5_readItem 51 = .ok (.aload_n 0, 1) := by decide +kernel
theorem dX5_readItem_52 : decode cX5_readItem 52 = .ok (.getfield 12, 3) := by decide +kernel
theorem dX5_readItem_55 : decode cX5_readItem 55 = .ok (.ldc 117, 2) := by decide +kernel
theorem dX5_readItem_57 : decode cX5_readItem 57 = .ok (.invokevirtual 92, 3) := by decide +kernel
theorem dX5_readItem_60 : decode cX5_readItem 60 = .ok (.ifCond .eq 8, 3) := by decide +kernel
theorem dX5_readItem_63 : decode cX5_readItem 63 = .ok (.aload_n 0, 1) := by decide +kernel
theorem dX5_readItem_64 : decode cX5_readItem 64 = .ok (.invokevirtual 119, 3) := by decide +kernel
theorem dX5_readItem_67 : decode cX5_readItem 67 = .ok (.ireturn, 1) := by decide +kernel
theorem dX5_readItem_68 : decode cX5_readItem 68 = .ok (.aload_n 0, 1) := by decide +kernel
theorem dX5_readItem_69 : decode cX5_readItem 69 = .ok (.getfield 12, 3) := by decide +kernel
theorem dX5_readItem_72 : decode cX5_readItem 72 = .ok (.ldc 122, 2) := by decide +kernel
theorem dX5_readItem_74 : decode cX5_readItem 74 = .ok (.invokevirtual 92, 3) := by decide +kernel
theorem dX5_readItem_77 : decode cX5_readItem 77 = .ok (.ifCond .eq 8, 3) := by decide +kernel
theorem dX5_readItem_80 : decode cX5_readItem 80 = .ok (.aload_n 0, 1) := by decide +kernel
theorem dX5_readItem_81 : decode cX5_readItem 81 = .ok (.invokevirtual 124, 3) := by decide +kernel
theorem dX5_readItem_84 : decode cX5_readItem 84 = .ok (.ireturn, 1) := by decide +kernel
theorem dX5_readItem_85 : decode cX5_readItem 85 = .ok (.aload_n 0, 1) := by decide +kernel
theorem dX5_readItem_86 : decode cX5_readItem 86 = .ok (.getfield 12, 3) := by decide +kernel
theorem dX5_readItem_89 : decode cX5_readItem 89 = .ok (.ldc 127, 2) := by decide +kernel
theorem dX5_readItem_91 : decode cX5_readItem 91 = .ok (.invokevirtual 92, 3) := by decide +kernel
theorem dX5_readItem_94 : decode cX5_readItem 94 = .ok (.ifCond .eq 8, 3) := by decide +kernel
theorem dX5_readItem_97 : decode cX5_readItem 97 = .ok (.aload_n 0, 1) := by decide +kernel
theorem dX5_readItem_98 : decode cX5_readItem 98 = .ok (.invokevirtual 129, 3) := by decide +kernel
theorem dX5_readItem_101 : decode cX5_readItem 101 = .ok (.ireturn, 1) := by decide +kernel
theorem dX5_readItem_102 : decode cX5_readItem 102 = .ok (.aload_n 0, 1) := by decide +kernel
theorem dX5_readItem_103 : decode cX5_readItem 103 = .ok (.getfield 12, 3) := by decide +kernel
theorem dX5_readItem_106 : decode cX5_readItem 106 = .ok (.ldc 132, 2) := by decide +kernel
theorem dX5_readItem_108 : decode cX5_readItem 108 = .ok (.invokevirtual 92, 3) := by decide +kernel
theorem dX5_readItem_111 : decode cX5_readItem 111 = .ok (.ifCond .eq 8, 3) := by decide +kernel
theorem dX5_readItem_114 : decode cX5_readItem 114 = .ok (.aload_n 0, 1) := by decide +kernel
theorem dX5_readItem_115 : decode cX5_readItem 115 = .ok (.invokevirtual 134, 3) := by decide +kernel
theorem dX5_readItem_118 : decode cX5_readItem 118 = .ok (.ireturn, 1) := by decide +kernel
theorem dX5_readItem_119 : decode cX5_readItem 119 = .ok (.aload_n 0, 1) := by decide +kernel
theorem dX5_readItem_120 : decode cX5_readItem 120 = .ok (.getfield 12, 3) := by decide +kernel
theorem dX5_readItem_123 : decode cX5_readItem 123 = .ok (.ldc 137, 2) := by decide +kernel
theorem dX5_readItem_125 : decode cX5_readItem 125 = .ok (.invokevirtual 92, 3) := by decide +kernel
theorem dX5_readItem_128 : decode cX5_readItem 128 = .ok (.ifCond .eq 8, 3) := by decide +kernel
theorem dX5_readItem_131 : decode cX5_readItem 131 = .ok (.aload_n 0, 1) := by decide +kernel
theorem dX5_readItem_132 : decode cX5_readItem 132 = .ok (.invokevirtual 139, 3) := by decide +kernel
theorem dX5_readItem_135 : decode cX5_readItem 135 = .ok (.ireturn, 1) := by decide +kernel
theorem dX5_readItem_136 : decode cX5_readItem 136 = .ok (.aload_n 0, 1) := by decide +kernel
theorem dX5_readItem_137 : decode cX5_readItem 137 = .ok (.getfield 12, 3) := by decide +kernel
theorem dX5_readItem_140 : decode cX5_readItem 140 = .ok (.ldc 142, 2) := by decide +kernel
theorem dX5_readItem_142 : decode cX5_readItem 142 = .ok (.invokevirtual 92, 3) := by decide +kernel
theorem dX5_readItem_145 : decode cX5_readItem 145 = .ok (.ifCond .eq 8, 3) := by decide +kernel
theorem dX5_readItem_148 : decode cX5_readItem 148 = .ok (.aload_n 0, 1) := by decide +kernel
theorem dX5_readItem_149 : decode cX5_readItem 149 = .ok (.invokevirtual 144, 3) := by decide +kernel
theorem dX5_readItem_152 : decode cX5_readItem 152 = .ok (.ireturn, 1) := by decide +kernel
theorem dX5_readItem_153 : decode cX5_readItem 153 = .ok (.aload_n 0, 1) := by decide +kernel
theorem dX5_readItem_154 : decode cX5_readItem 154 = .ok (.getfield 12, 3) := by decide +kernel
theorem dX5_readItem_157 : decode cX5_readItem 157 = .ok (.ldc 147, 2) := by decide +kernel
theorem dX5_readItem_159 : decode cX5_readItem 159 = .ok (.invokevirtual 92, 3) := by decide +kernel
theorem dX5_readItem_162 : decode cX5_readItem 162 = .ok (.ifCond .eq 8, 3) := by decide +kernel
theorem dX5_readItem_165 : decode cX5_readItem 165 = .ok (.aload_n 0, 1) := by decide +kernel
theorem dX5_readItem_166 : decode cX5_readItem 166 = .ok (.invokevirtual 149, 3) := by decide +kernel
theorem dX5_readItem_169 : decode cX5_readItem 169 = .ok (.ireturn, 1) := by decide +kernel
theorem dX5_readItem_170 : decode cX5_readItem 170 = .ok (.aload_n 0, 1) := by decide +kernel
theorem dX5_readItem_171 : decode cX5_readItem 171 = .ok (.getfield 12, 3) := by decide +kernel
theorem dX5_readItem_174 : decode cX5_readItem 174 = .ok (.ldc 152, 2) := by decide +kernel
theorem dX5_readItem_176 : decode cX5_readItem 176 = .ok (.invokevirtual 92, 3) := by decide +kernel
theorem dX5_readItem_179 : decode cX5_readItem 179 = .ok (.ifCond .eq 8, 3) := by decide +kernel
theorem dX5_readItem_182 : decode cX5_readItem 182 = .ok (.aload_n 0, 1) := by decide +kernel
theorem dX5_readItem_183 : decode cX5_readItem 183 = .ok (.invokevirtual 154, 3) := by decide +kernel
theorem dX5_readItem_186 : decode cX5_readItem 186 = .ok (.ireturn, 1) := by decide +kernel
theorem dX5_readItem_187 : decode cX5_readItem 187 = .ok (.aload_n 0, 1) := by decide +kernel
theorem dX5_readItem_188 : decode cX5_readItem 188 = .ok (.getfield 12, 3) := by decide +kernel
theorem dX5_readItem_191 : decode cX5_readItem 191 = .ok (.ldc 157, 2) := by decide +kernel
theorem dX5_readItem_193 : decode cX5_readItem 193 = .ok (.invokevirtual 92, 3) := by decide +kernel
theorem dX5_readItem_196 : decode cX5_readItem 196 = .ok (.ifCond .eq 8, 3) := by decide +kernel
theorem dX5_readItem_199 : decode cX5_readItem 199 = .ok (.aload_n 0, 1) := by decide +kernel
theorem dX5_readItem_200 : decode cX5_readItem 200 = .ok (.invokevirtual 159, 3) := by decide +kernel
theorem dX5_readItem_203 : decode cX5_readItem 203 = .ok (.ireturn, 1) := by decide +kernel
theorem dX5_readItem_204 : decode cX5_readItem 204 = .ok (.aload_n 0, 1) := by decide +kernel
theorem dX5_readItem_205 : decode cX5_readItem 205 = .ok (.getfield 12, 3) := by decide +kernel
theorem dX5_readItem_208 : decode cX5_readItem 208 = .ok (.ldc 162, 2) := by decide +kernel
theorem dX5_readItem_210 : decode cX5_readItem 210 = .ok (.invokevirtual 92, 3) := by decide +kernel
theorem dX5_readItem_213 : decode cX5_readItem 213 = .ok (.ifCond .eq 8, 3) := by decide +kernel
theorem dX5_readItem_216 : decode cX5_readItem 216 = .ok (.aload_n 0, 1) := by decide +kernel
theorem dX5_readItem_217 : decode cX5_readItem 217 = .ok (.invokevirtual 164, 3) := by decide +kernel
theorem dX5_readItem_220 : decode cX5_readItem 220 = .ok (.ireturn, 1) := by decide +kernel
theorem dX5_readItem_221 : decode cX5_readItem 221 = .ok (.aload_n 0, 1) := by decide +kernel
theorem dX5_readItem_222 : decode cX5_readItem 222 = .ok (.getfield 12, 3) := by decide +kernel
theorem dX5_readItem_225 : decode cX5_readItem 225 = .ok (.ldc 167, 2) := by decide +kernel
theorem dX5_readItem_227 : decode cX5_readItem 227 = .ok (.invokevirtual 92, 3) := by decide +kernel
theorem dX5_readItem_230 : decode cX5_readItem 230 = .ok (.ifCond .eq 10, 3) := by decide +kernel
theorem dX5_readItem_233 : decode cX5_readItem 233 = .ok (.aload_n 0, 1) := by decide +kernel
theorem dX5_readItem_234 : decode cX5_readItem 234 = .ok (.invokevirtual 169, 3) := by decide +kernel
theorem dX5_readItem_237 : decode cX5_readItem 237 = .ok (.goto 8, 3) := by decide +kernel
theorem dX5_readItem_240 : decode cX5_readItem 240 = .ok (.aload_n 0, 1) := by decide +kernel
theorem dX5_readItem_241 : decode cX5_readItem 241 = .ok (.iconst 1, 1) := by decide +kernel
theorem dX5_readItem_242 : decode cX5_readItem 242 = .ok (.invokevirtual 52, 3) := by decide +kernel
theorem dX5_readItem_245 : decode cX5_readItem 245 = .ok (.ireturn, 1) := by decide +kernel
theorem dX5_readWarps_0 : decode cX5_readWarps 0 = .ok (.aload_n 0, 1) := by decide +kernel
theorem dX5_readWarps_1 : decode cX5_readWarps 1 = .ok (.getfield 21, 3) := by decide +kernel
theorem dX5_readWarps_4 : decode cX5_readWarps 4 = .ok (.getfield 172, 3) := by decide +kernel
theorem dX5_readWarps_7 : decode cX5_readWarps 7 = .ok (.getfield 176, 3) := by decide +kernel
theorem dX5_readWarps_10 : decode cX5_readWarps 10 = .ok (.ifCond .le 9, 3) := by decide +kernel
theorem dX5_readWarps_13 : decode cX5_readWarps 13 = .ok (.aload_n 0, 1) := by decide +kernel
theorem dX5_readWarps_14 : decode cX5_readWarps 14 = .ok (.iconst 3, 1) := by decide +kernel
theorem dX5_readWarps_15 : decode cX5_readWarps 15 = .ok (.invokevirtual 52, 3) := by decide +kernel
theorem dX5_readWarps_18 : decode cX5_readWarps 18 = .ok (.ireturn, 1) := by decide +kernel
theorem dX5_readWarps_19 : decode cX5_readWarps 19 = .ok (.aload_n 0, 1) := by decide +kernel
theorem dX5_readWarps_20 : decode cX5_readWarps 20 = .ok (.getfield 12, 3) := by decide +kernel
theorem dX5_readWarps_23 : decode cX5_readWarps 23 = .ok (.invokevirtual 56, 3) := by decide +kernel
theorem dX5_readWarps_26 : decode cX5_readWarps 26 = .ok (.aload_n 0, 1) := by decide +kernel
theorem dX5_readWarps_27 : decode cX5_readWarps 27 = .ok (.invokevirtual 181, 3) := by decide +kernel
theorem dX5_readWarps_30 : decode cX5_readWarps 30 = .ok (.ifCond .ne 5, 3) := by decide +kernel
theorem dX5_readWarps_33 : decode cX5_readWarps 33 = .ok (.iconst 0, 1) := by decide +kernel
theorem dX5_readWarps_34 : decode cX5_readWarps 34 = .ok (.ireturn, 1) := by decide +kernel
theorem dX5_readWarps_35 : decode cX5_readWarps 35 = .ok (.aload_n 0, 1) := by decide +kernel
theorem dX5_readWarps_36 : decode cX5_readWarps 36 = .ok (.getfield 32, 3) := by decide +kernel
theorem dX5_readWarps_39 : decode cX5_readWarps 39 = .ok (.istore_n 1, 1) := by decide +kernel
theorem dX5_readWarps_40 : decode cX5_readWarps 40 = .ok (.iconst 0, 1) := by decide +kernel
theorem dX5_readWarps_41 : decode cX5_readWarps 41 = .ok (.istore_n 2, 1) := by decide +kernel
theorem dX5_readWarps_42 : decode cX5_readWarps 42 = .ok (.iload_n 2, 1) := by decide +kernel
theorem dX5_readWarps_43 : decode cX5_readWarps 43 = .ok (.sipush 500, 3) := by decide +kernel
theorem dX5_readWarps_46 : decode cX5_readWarps 46 = .ok (.if_icmp .ge 61, 3) := by decide +kernel
theorem dX5_readWarps_49 : decode cX5_readWarps 49 = .ok (.iload_n 2, 1) := by decide +kernel
theorem dX5_readWarps_50 : decode cX5_readWarps 50 = .ok (.ifCond .eq 14, 3) := by decide +kernel
theorem dX5_readWarps_53 : decode cX5_readWarps 53 = .ok (.aload_n 0, 1) := by decide +kernel
theorem dX5_readWarps_54 : decode cX5_readWarps 54 = .ok (.getfield 12, 3) := by decide +kernel
theorem dX5_readWarps_57 : decode cX5_readWarps 57 = .ok (.getfield 49, 3) := by decide +kernel
theorem dX5_readWarps_60 : decode cX5_readWarps 60 = .ok (.iconst 2, 1) := by decide +kernel
theorem dX5_readWarps_61 : decode cX5_readWarps 61 = .ok (.if_icmp .ne 46, 3) := by decide +kernel
theorem dX5_readWarps_64 : decode cX5_readWarps 64 = .ok (.aload_n 0, 1) := by decide +kernel
theorem dX5_readWarps_65 : decode cX5_readWarps 65 = .ok (.invokevirtual 84, 3) := by decide +kernel
theorem dX5_readWarps_68 : decode cX5_readWarps 68 = .ok (.ifCond .ne 5, 3) := by decide +kernel
theorem dX5_readWarps_71 : decode cX5_readWarps 71 = .ok (.iconst 0, 1) := by decide +kernel
theorem dX5_readWarps_72 : decode cX5_readWarps 72 = .ok (.ireturn, 1) := by decide +kernel
theorem dX5_readWarps_73 : decode cX5_readWarps 73 = .ok (.aload_n 0, 1) := by decide +kernel
theorem dX5_readWarps_74 : decode cX5_readWarps 74 = .ok (.getfield 21, 3) := by decide +kernel
theorem dX5_readWarps_77 : decode cX5_readWarps 77 = .ok (.aload_n 0, 1) := by decide +kernel
theorem dX5_readWarps_78 : decode cX5_readWarps 78 = .ok (.getfield 32, 3) := by decide +kernel
theorem dX5_readWarps_81 : decode cX5_readWarps 81 = .ok (.iload_n 1, 1) := by decide +kernel
theorem dX5_readWarps_82 : decode cX5_readWarps 82 = .ok (.invokevirtual 184, 3) := by decide +kernel
theorem dX5_readWarps_85 : decode cX5_readWarps 85 = .ok (.ifCond .ne 9, 3) := by decide +kernel
theorem dX5_readWarps_88 : decode cX5_readWarps 88 = .ok (.aload_n 0, 1) := by decide +kernel
theorem dX5_readWarps_89 : decode cX5_readWarps 89 = .ok (.iconst 4, 1) := by decide +kernel
theorem dX5_readWarps_90 : decode cX5_readWarps 90 = .ok (.invokevirtual 52, 3) := by decide +kernel
theorem dX5_readWarps_93 : decode cX5_readWarps 93 = .ok (.ireturn, 1) := by decide +kernel
theorem dX5_readWarps_94 : decode cX5_readWarps 94 = .ok (.aload_n 0, 1) := by decide +kernel
theorem dX5_readWarps_95 : decode cX5_readWarps 95 = .ok (.getfield 12, 3) := by decide +kernel
theorem dX5_readWarps_98 : decode cX5_readWarps 98 = .ok (.invokevirtual 56, 3) := by decide +kernel
theorem dX5_readWarps_101 : decode cX5_readWarps 101 = .ok (.iinc 2 1, 3) := by decide +kernel
theorem dX5_readWarps_104 : decode cX5_readWarps 104 = .ok (.goto (-62), 3) := by decide +kernel
theorem dX5_readWarps_107 : decode cX5_readWarps 107 = .ok (.iconst 1, 1) := by decide +kernel
theorem dX5_readWarps_108 : decode cX5_readWarps 108 = .ok (.ireturn, 1) := by decide +kernel
theorem dX5_readCard_0 : decode cX5_readCard 0 = .ok (.aload_n 0, 1) := by decide +kernel
theorem dX5_readCard_1 : decode cX5_readCard 1 = .ok (.getfield 21, 3) := by decide +kernel
theorem dX5_readCard_4 : decode cX5_readCard 4 = .ok (.getfield 75, 3) := by decide +kernel
theorem dX5_readCard_7 : decode cX5_readCard 7 = .ok (.bipush 12, 2) := by decide +kernel
theorem dX5_readCard_9 : decode cX5_readCard 9 = .ok (.if_icmp .lt 9, 3) := by decide +kernel
theorem dX5_readCard_12 : decode cX5_readCard 12 = .ok (.aload_n 0, 1) := by decide +kernel
theorem dX5_readCard_13 : decode cX5_readCard 13 = .ok (.iconst 4, 1) := by decide +kernel
theorem dX5_readCard_14 : decode cX5_readCard 14 = .ok (.invokevirtual 52, 3) := by decide +kernel
theorem dX5_readCard_17 : decode cX5_readCard 17 = .ok (.ireturn, 1) := by decide +kernel
theorem dX5_readCard_18 : decode cX5_readCard 18 = .ok (.aload_n 0, 1) := by decide +kernel
theorem dX5_readCard_19 : decode cX5_readCard 19 = .ok (.getfield 12, 3) := by decide +kernel
theorem dX5_readCard_22 : decode cX5_readCard 22 = .ok (.invokevirtual 56, 3) := by decide +kernel
theorem dX5_readCard_25 : decode cX5_readCard 25 = .ok (.aload_n 0, 1) := by decide +kernel
theorem dX5_readCard_26 : decode cX5_readCard 26 = .ok (.invokevirtual 181, 3) := by decide +kernel
theorem dX5_readCard_29 : decode cX5_readCard 29 = .ok (.ifCond .ne 5, 3) := by decide +kernel
theorem dX5_readCard_32 : decode cX5_readCard 32 = .ok (.iconst 0, 1) := by decide +kernel
theorem dX5_readCard_33 : decode cX5_readCard 33 = .ok (.ireturn, 1) := by decide +kernel
theorem dX5_readCard_34 : decode cX5_readCard 34 = .ok (.aload_n 0, 1) := by decide +kernel
theorem dX5_readCard_35 : decode cX5_readCard 35 = .ok (.getfield 32, 3) := by decide +kernel
theorem dX5_readCard_38 : decode cX5_readCard 38 = .ok (.istore_n 1, 1) := by decide +kernel
theorem dX5_readCard_39 : decode cX5_readCard 39 = .ok (.iconst 0, 1) := by decide +kernel
theorem dX5_readCard_40 : decode cX5_readCard 40 = .ok (.istore_n 2, 1) := by decide +kernel
theorem dX5_readCard_41 : decode cX5_readCard 41 = .ok (.iconst 0, 1) := by decide +kernel
theorem dX5_readCard_42 : decode cX5_readCard 42 = .ok (.istore_n 3, 1) := by decide +kernel
theorem dX5_readCard_43 : decode cX5_readCard 43 = .ok (.iload_n 3, 1) := by decide +kernel
theorem dX5_readCard_44 : decode cX5_readCard 44 = .ok (.sipush 500, 3) := by decide +kernel
theorem dX5_readCard_47 : decode cX5_readCard 47 = .ok (.if_icmp .ge 62, 3) := by decide +kernel
theorem dX5_readCard_50 : decode cX5_readCard 50 = .ok (.aload_n 0, 1) := by decide +kernel
theorem dX5_readCard_51 : decode cX5_readCard 51 = .ok (.getfield 12, 3) := by decide +kernel
theorem dX5_readCard_54 : decode cX5_readCard 54 = .ok (.getfield 49, 3) := by decide +kernel
theorem dX5_readCard_57 : decode cX5_readCard 57 = .ok (.iconst 2, 1) := by decide +kernel
theorem dX5_readCard_58 : decode cX5_readCard 58 = .ok (.if_icmp .ne 51, 3) := by decide +kernel
theorem dX5_readCard_61 : decode cX5_readCard 61 = .ok (.aload_n 0, 1) := by decide +kernel
theorem dX5_readCard_62 : decode cX5_readCard 62 = .ok (.invokevirtual 84, 3) := by decide +kernel
theorem dX5_readCard_65 : decode cX5_readCard 65 = .ok (.ifCond .ne 5, 3) := by decide +kernel
theorem dX5_readCard_68 : decode cX5_readCard 68 = .ok (.iconst 0, 1) := by decide +kernel
theorem dX5_readCard_69 : decode cX5_readCard 69 = .ok (.ireturn, 1) := by decide +kernel
theorem dX5_readCard_70 : decode cX5_readCard 70 = .ok (.iload_n 2, 1) := by decide +kernel
theorem dX5_readCard_71 : decode cX5_readCard 71 = .ok (.aload_n 0, 1) := by decide +kernel
theorem dX5_readCard_72 : decode cX5_readCard 72 = .ok (.getfield 32, 3) := by decide +kernel
theorem dX5_readCard_75 : decode cX5_readCard 75 = .ok (.invokestatic 187, 3) := by decide +kernel
theorem dX5_readCard_78 : decode cX5_readCard 78 = .ok (.ifCond .eq 9, 3) := by decide +kernel
theorem dX5_readCard_81 : decode cX5_readCard 81 = .ok (.aload_n 0, 1) := by decide +kernel
theorem dX5_readCard_82 : decode cX5_readCard 82 = .ok (.iconst 3, 1) := by decide +kernel
theorem dX5_readCard_83 : decode cX5_readCard 83 = .ok (.invokevirtual 52, 3) := by decide +kernel
theorem dX5_readCard_86 : decode cX5_readCard 86 = .ok (.ireturn, 1) := by decide +kernel
theorem dX5_readCard_87 : decode cX5_readCard 87 = .ok (.iload_n 2, 1) := by decide +kernel
theorem dX5_readCard_88 : decode cX5_readCard 88 = .ok (.iconst 1, 1) := by decide +kernel
theorem dX5_readCard_89 : decode cX5_readCard 89 = .ok (.aload_n 0, 1) := by decide +kernel
theorem dX5_readCard_90 : decode cX5_readCard 90 = .ok (.getfield 32, 3) := by decide +kernel
theorem dX5_readCard_93 : decode cX5_readCard 93 = .ok (.ishl, 1) := by decide +kernel
theorem dX5_readCard_94 : decode cX5_readCard 94 = .ok (.ior, 1) := by decide +kernel
theorem dX5_readCard_95 : decode cX5_readCard 95 = .ok (.istore_n 2, 1) := by decide +kernel
theorem dX5_readCard_96 : decode cX5_readCard 96 = .ok (.aload_n 0, 1) := by decide +kernel
theorem dX5_readCard_97 : decode cX5_readCard 97 = .ok (.getfield 12, 3) := by decide +kernel
theorem dX5_readCard_100 : decode cX5_readCard 100 = .ok (.invokevirtual 56, 3) := by decide +kernel
theorem dX5_readCard_103 : decode cX5_readCard 103 = .ok (.iinc 3 1, 3) := by decide +kernel
theorem dX5_readCard_106 : decode cX5_readCard 106 = .ok (.goto (-63), 3) := by decide +kernel
theorem dX5_readCard_109 : decode cX5_readCard 109 = .ok (.aload_n 0, 1) := by decide +kernel
theorem dX5_readCard_110 : decode cX5_readCard 110 = .ok (.getfield 21, 3) := by decide +kernel
theorem dX5_readCard_113 : decode cX5_readCard 113 = .ok (.iload_n 2, 1) := by decide +kernel
theorem dX5_readCard_114 : decode cX5_readCard 114 = .ok (.iload_n 1, 1) := by decide +kernel
theorem dX5_readCard_115 : decode cX5_readCard 115 = .ok (.invokevirtual 190, 3) := by decide +kernel
theorem dX5_readCard_118 : decode cX5_readCard 118 = .ok (.iconst 1, 1) := by decide +kernel
theorem dX5_readCard_119 : decode cX5_readCard 119 = .ok (.ireturn, 1) := by decide +kernel
theorem dX5_readDeck_0 : decode cX5_readDeck 0 = .ok (.aload_n 0, 1) := by decide +kernel
theorem dX5_readDeck_1 : decode cX5_readDeck 1 = .ok (.getfield 21, 3) := by decide +kernel
theorem dX5_readDeck_4 : decode cX5_readDeck 4 = .ok (.getfield 172, 3) := by decide +kernel
theorem dX5_readDeck_7 : decode cX5_readDeck 7 = .ok (.getfield 176, 3) := by decide +kernel
theorem dX5_readDeck_10 : decode cX5_readDeck 10 = .ok (.ifCond .le 9, 3) := by decide +kernel
theorem dX5_readDeck_13 : decode cX5_readDeck 13 = .ok (.aload_n 0, 1) := by decide +kernel
theorem dX5_readDeck_14 : decode cX5_readDeck 14 = .ok (.iconst 3, 1) := by decide +kernel
theorem dX5_readDeck_15 : decode cX5_readDeck 15 = .ok (.invokevirtual 52, 3) := by decide +kernel
theorem dX5_readDeck_18 : decode cX5_readDeck 18 = .ok (.ireturn, 1) := by decide +kernel
theorem dX5_readDeck_19 : decode cX5_readDeck 19 = .ok (.aload_n 0, 1) := by decide +kernel
theorem dX5_readDeck_20 : decode cX5_readDeck 20 = .ok (.getfield 12, 3) := by decide +kernel
theorem dX5_readDeck_23 : decode cX5_readDeck 23 = .ok (.invokevirtual 56, 3) := by decide +kernel
theorem dX5_readDeck_26 : decode cX5_readDeck 26 = .ok (.iconst 1, 1) := by decide +kernel
theorem dX5_readDeck_27 : decode cX5_readDeck 27 = .ok (.istore_n 1, 1) := by decide +kernel
theorem dX5_readDeck_28 : decode cX5_readDeck 28 = .ok (.iconst 0, 1) := by decide +kernel
theorem dX5_readDeck_29 : decode cX5_readDeck 29 = .ok (.istore_n 2, 1) := by decide +kernel
theorem dX5_readDeck_30 : decode cX5_readDeck 30 = .ok (.iload_n 2, 1) := by decide +kernel
theorem dX5_readDeck_31 : decode cX5_readDeck 31 = .ok (.sipush 500, 3) := by decide +kernel
theorem dX5_readDeck_34 : decode cX5_readDeck 34 = .ok (.if_icmp .ge 153, 3) := by decide +kernel
theorem dX5_readDeck_37 : decode cX5_readDeck 37 = .ok (.aload_n 0, 1) := by decide +kernel
theorem dX5_readDeck_38 : decode cX5_readDeck 38 = .ok (.getfield 21, 3) := by decide +kernel
theorem dX5_readDeck_41 : decode cX5_readDeck 41 = .ok (.getfield 194, 3) := by decide +kernel
theorem dX5_readDeck_44 : decode cX5_readDeck 44 = .ok (.getfield 197, 3) := by decide +kernel
theorem dX5_readDeck_47 : decode cX5_readDeck 47 = .ok (.ifCond .le 7, 3) := by decide +kernel
theorem dX5_readDeck_50 : decode cX5_readDeck 50 = .ok (.iconst 1, 1) := by decide +kernel
theorem dX5_readDeck_51 : decode cX5_readDeck 51 = .ok (.goto 4, 3) := by decide +kernel
theorem dX5_readDeck_54 : decode cX5_readDeck 54 = .ok (.iconst 0, 1) := by decide +kernel
theorem dX5_readDeck_55 : decode cX5_readDeck 55 = .ok (.istore_n 3, 1) := by decide +kernel
theorem dX5_readDeck_56 : decode cX5_readDeck 56 = .ok (.aload_n 0, 1) := by decide +kernel
theorem dX5_readDeck_57 : decode cX5_readDeck 57 = .ok (.getfield 12, 3) := by decide +kernel
theorem dX5_readDeck_60 : decode cX5_readDeck 60 = .ok (.getfield 49, 3) := by decide +kernel
theorem dX5_readDeck_63 : decode cX5_readDeck 63 = .ok (.iconst 2, 1) := by decide +kernel
theorem dX5_readDeck_64 : decode cX5_readDeck 64 = .ok (.if_icmp .ne 17, 3) := by decide +kernel
theorem dX5_readDeck_67 : decode cX5_readDeck 67 = .ok (.aload_n 0, 1) := by decide +kernel
theorem dX5_readDeck_68 : decode cX5_readDeck 68 = .ok (.invokevirtual 202, 3) := by decide +kernel
theorem dX5_readDeck_71 : decode cX5_readDeck 71 = .ok (.ifCond .ne 5, 3) := by decide +kernel
theorem dX5_readDeck_74 : decode cX5_readDeck 74 = .ok (.iconst 0, 1) := by decide +kernel
theorem dX5_readDeck_75 : decode cX5_readDeck 75 = .ok (.ireturn, 1) := by decide +kernel
theorem dX5_readDeck_76 : decode cX5_readDeck 76 = .ok (.iconst 0, 1) := by decide +kernel
theorem dX5_readDeck_77 : decode cX5_readDeck 77 = .ok (.istore_n 1, 1) := by decide +kernel
theorem dX5_readDeck_78 : decode cX5_readDeck 78 = .ok (.goto 103, 3) := by decide +kernel
theorem dX5_readDeck_81 : decode cX5_readDeck 81 = .ok (.aload_n 0, 1) := by decide +kernel
theorem dX5_readDeck_82 : decode cX5_readDeck 82 = .ok (.getfield 12, 3) := by decide +kernel
theorem dX5_readDeck_85 : decode cX5_readDeck 85 = .ok (.ldc 205, 2) := by decide +kernel
theorem dX5_readDeck_87 : decode cX5_readDeck 87 = .ok (.invokevirtual 92, 3) := by decide +kernel
theorem dX5_readDeck_90 : decode cX5_readDeck 90 = .ok (.ifCond .ne 27, 3) := by decide +kernel
theorem dX5_readDeck_93 : decode cX5_readDeck 93 = .ok (.aload_n 0, 1) := by decide +kernel
theorem dX5_readDeck_94 : decode cX5_readDeck 94 = .ok (.getfield 12, 3) := by decide +kernel
theorem dX5_readDeck_97 : decode cX5_readDeck 97 = .ok (.ldc 207, 2) := by decide +kernel
theorem dX5_readDeck_99 : decode cX5_readDeck 99 = .ok (.invokevirtual 92, 3) := by decide +kernel
theorem dX5_readDeck_102 : decode cX5_readDeck 102 = .ok (.ifCond .ne 15, 3) := by decide +kernel
theorem dX5_readDeck_105 : decode cX5_readDeck 105 = .ok (.aload_n 0, 1) := by decide +kernel
theorem dX5_readDeck_106 : decode cX5_readDeck 106 = .ok (.getfield 12, 3) := by decide +kernel
theorem dX5_readDeck_109 : decode cX5_readDeck 109 = .ok (.ldc 209, 2) := by decide +kernel
theorem dX5_readDeck_111 : decode cX5_readDeck 111 = .ok (.invokevirtual 92, 3) := by decide +kernel
theorem dX5_readDeck_114 : decode cX5_readDeck 114 = .ok (.ifCond .eq 17, 3) := by decide +kernel
theorem dX5_readDeck_117 : decode cX5_readDeck 117 = .ok (.aload_n 0, 1) := by decide +kernel
theorem dX5_readDeck_118 : decode cX5_readDeck 118 = .ok (.invokevirtual 211, 3) := by decide +kernel
theorem dX5_readDeck_121 : decode cX5_readDeck 121 = .ok (.ifCond .ne 5, 3) := by decide +kernel
theorem dX5_readDeck_124 : decode cX5_readDeck 124 = .ok (.iconst 0, 1) := by decide +kernel
theorem dX5_readDeck_125 : decode cX5_readDeck 125 = .ok (.ireturn, 1) := by decide +kernel
theorem dX5_readDeck_126 : decode cX5_readDeck 126 = .ok (.iconst 1, 1) := by decide +kernel
theorem dX5_readDeck_127 : decode cX5_readDeck 127 = .ok (.istore_n 1, 1) := by decide +kernel
theorem dX5_readDeck_128 : decode cX5_readDeck 128 = .ok (.goto 53, 3) := by decide +kernel
theorem dX5_readDeck_131 : decode cX5_readDeck 131 = .ok (.aload_n 0, 1) := by decide +kernel
theorem dX5_readDeck_132 : decode cX5_readDeck 132 = .ok (.getfield 12, 3) := by decide +kernel
theorem dX5_readDeck_135 : decode cX5_readDeck 135 = .ok (.getfield 49, 3) := by decide +kernel
theorem dX5_readDeck_138 : decode cX5_readDeck 138 = .ok (.iconst 5, 1) := by decide +kernel
theorem dX5_readDeck_139 : decode cX5_readDeck 139 = .ok (.if_icmp .ne 20, 3) := by decide +kernel
theorem dX5_readDeck_142 : decode cX5_readDeck 142 = .ok (.iload_n 3, 1) := by decide +kernel
theorem dX5_readDeck_143 : decode cX5_readDeck 143 = .ok (.ifCond .eq 16, 3) := by decide +kernel
theorem dX5_readDeck_146 : decode cX5_readDeck 146 = .ok (.iload_n 1, 1) := by decide +kernel
theorem dX5_readDeck_147 : decode cX5_readDeck 147 = .ok (.ifCond .ne 12, 3) := by decide +kernel
theorem dX5_readDeck_150 : decode cX5_readDeck 150 = .ok (.aload_n 0, 1) := by decide +kernel
theorem dX5_readDeck_151 : decode cX5_readDeck 151 = .ok (.invokevirtual 214, 3) := by decide +kernel
theorem dX5_readDeck_154 : decode cX5_readDeck 154 = .ok (.ifCond .ne 27, 3) := by decide +kernel
theorem dX5_readDeck_157 : decode cX5_readDeck 157 = .ok (.iconst 0, 1) := by decide +kernel
theorem dX5_readDeck_158 : decode cX5_readDeck 158 = .ok (.ireturn, 1) := by decide +kernel
theorem dX5_readDeck_159 : decode cX5_readDeck 159 = .ok (.iload_n 3, 1) := by decide +kernel
theorem dX5_readDeck_160 : decode cX5_readDeck 160 = .ok (.ifCond .ne 7, 3) := by decide +kernel
theorem dX5_readDeck_163 : decode cX5_readDeck 163 = .ok (.iload_n 1, 1) := by decide +kernel
theorem dX5_readDeck_164 : decode cX5_readDeck 164 = .ok (.ifCond .eq 11, 3) := by decide +kernel
theorem dX5_readDeck_167 : decode cX5_readDeck 167 = .ok (.aload_n 0, 1) := by decide +kernel
theorem dX5_readDeck_168 : decode cX5_readDeck 168 = .ok (.iconst 1, 1) := by decide +kernel
theorem dX5_readDeck_169 : decode cX5_readDeck 169 = .ok (.invokevirtual 52, 3) := by decide +kernel
theorem dX5_readDeck_172 : decode cX5_readDeck 172 = .ok (.ifCond .eq 7, 3) := by decide +kernel
theorem dX5_readDeck_175 : decode cX5_readDeck 175 = .ok (.iconst 1, 1) := by decide +kernel
theorem dX5_readDeck_176 : decode cX5_readDeck 176 = .ok (.goto 4, 3) := by decide +kernel
theorem dX5_readDeck_179 : decode cX5_readDeck 179 = .ok (.iconst 0, 1) := by decide +kernel
theorem dX5_readDeck_180 : decode cX5_readDeck 180 = .ok (.ireturn, 1) := by decide +kernel
theorem dX5_readDeck_181 : decode cX5_readDeck 181 = .ok (.iinc 2 1, 3) := by decide +kernel
theorem dX5_readDeck_184 : decode cX5_readDeck 184 = .ok (.goto (-154), 3) := by decide +kernel
theorem dX5_readDeck_187 : decode cX5_readDeck 187 = .ok (.aload_n 0, 1) := by decide +kernel
theorem dX5_readDeck_188 : decode cX5_readDeck 188 = .ok (.iconst 1, 1) := by decide +kernel
theorem dX5_readDeck_189 : decode cX5_readDeck 189 = .ok (.invokevirtual 52, 3) := by decide +kernel
theorem dX5_readDeck_192 : decode cX5_readDeck 192 = .ok (.ireturn, 1) := by decide +kernel
theorem dX5_readCardOfDeck_0 : decode cX5_readCardOfDeck 0 = .ok (.aload_n 0, 1) := by decide +kernel
theorem dX5_readCardOfDeck_1 : decode cX5_readCardOfDeck 1 = .ok (.invokevirtual 78, 3) := by decide +kernel
theorem dX5_readCardOfDeck_4 : decode cX5_readCardOfDeck 4 = .ok (.ifCond .ne 5, 3) := by decide +kernel
theorem dX5_readCardOfDeck_7 : decode cX5_readCardOfDeck 7 = .ok (.iconst 0, 1) := by decide +kernel
theorem dX5_readCardOfDeck_8 : decode cX5_readCardOfDeck 8 = .ok (.ireturn, 1) := by decide +kernel
theorem dX5_readCardOfDeck_9 : decode cX5_readCardOfDeck 9 = .ok (.aload_n 0, 1) := by decide +kernel
theorem dX5_readCardOfDeck_10 : decode cX5_readCardOfDeck 10 = .ok (.getfield 21, 3) := by decide +kernel
theorem dX5_readCardOfDeck_13 : decode cX5_readCardOfDeck 13 = .ok (.getfield 194, 3) := by decide +kernel
theorem dX5_readCardOfDeck_16 : decode cX5_readCardOfDeck 16 = .ok (.aload_n 0, 1) := by decide +kernel
theorem dX5_readCardOfDeck_17 : decode cX5_readCardOfDeck 17 = .ok (.getfield 32, 3) := by decide +kernel
theorem dX5_readCardOfDeck_20 : decode cX5_readCardOfDeck 20 = .ok (.invokevirtual 217, 3) := by decide +kernel
theorem dX5_readCardOfDeck_23 : decode cX5_readCardOfDeck 23 = .ok (.ifCond .ne 9, 3) := by decide +kernel
theorem dX5_readCardOfDeck_26 : decode cX5_readCardOfDeck 26 = .ok (.aload_n 0, 1) := by decide +kernel
theorem dX5_readCardOfDeck_27 : decode cX5_readCardOfDeck 27 = .ok (.iconst 4, 1) := by decide +kernel
theorem dX5_readCardOfDeck_28 : decode cX5_readCardOfDeck 28 = .ok (.invokevirtual 52, 3) := by decide +kernel
theorem dX5_readCardOfDeck_31 : decode cX5_readCardOfDeck 31 = .ok (.ireturn, 1) := by decide +kernel
theorem dX5_readCardOfDeck_32 : decode cX5_readCardOfDeck 32 = .ok (.aload_n 0, 1) := by decide +kernel
theorem dX5_readCardOfDeck_33 : decode cX5_readCardOfDeck 33 = .ok (.getfield 12, 3) := by decide +kernel
theorem dX5_readCardOfDeck_36 : decode cX5_readCardOfDeck 36 = .ok (.invokevirtual 56, 3) := by decide +kernel
theorem dX5_readCardOfDeck_39 : decode cX5_readCardOfDeck 39 = .ok (.iconst 1, 1) := by decide +kernel
theorem dX5_readCardOfDeck_40 : decode cX5_readCardOfDeck 40 = .ok (.ireturn, 1) := by decide +kernel
theorem dX5_readOpening_0 : decode cX5_readOpening 0 = .ok (.aload_n 0, 1) := by decide +kernel
theorem dX5_readOpening_1 : decode cX5_readOpening 1 = .ok (.getfield 21, 3) := by decide +kernel
theorem dX5_readOpening_4 : decode cX5_readOpening 4 = .ok (.getfield 194, 3) := by decide +kernel
theorem dX5_readOpening_7 : decode cX5_readOpening 7 = .ok (.invokevirtual 219, 3) := by decide +kernel
theorem dX5_readOpening_10 : decode cX5_readOpening 10 = .ok (.ifCond .eq 9, 3) := by decide +kernel
theorem dX5_readOpening_13 : decode cX5_readOpening 13 = .ok (.aload_n 0, 1) := by decide +kernel
theorem dX5_readOpening_14 : decode cX5_readOpening 14 = .ok (.iconst 4, 1) := by decide +kernel
theorem dX5_readOpening_15 : decode cX5_readOpening 15 = .ok (.invokevirtual 52, 3) := by decide +kernel
theorem dX5_readOpening_18 : decode cX5_readOpening 18 = .ok (.ireturn, 1) := by decide +kernel
theorem dX5_readOpening_19 : decode cX5_readOpening 19 = .ok (.aload_n 0, 1) := by decide +kernel
theorem dX5_readOpening_20 : decode cX5_readOpening 20 = .ok (.getfield 12, 3) := by decide +kernel
theorem dX5_readOpening_23 : decode cX5_readOpening 23 = .ok (.ldc 205, 2) := by decide +kernel
theorem dX5_readOpening_25 : decode cX5_readOpening 25 = .ok (.invokevirtual 92, 3) := by decide +kernel
theorem dX5_readOpening_28 : decode cX5_readOpening 28 = .ok (.istore_n 1, 1) := by decide +kernel
theorem dX5_readOpening_29 : decode cX5_readOpening 29 = .ok (.aload_n 0, 1) := by decide +kernel
theorem dX5_readOpening_30 : decode cX5_readOpening 30 = .ok (.getfield 12, 3) := by decide +kernel
theorem dX5_readOpening_33 : decode cX5_readOpening 33 = .ok (.ldc 207, 2) := by decide +kernel
theorem dX5_readOpening_35 : decode cX5_readOpening 35 = .ok (.invokevirtual 92, 3) := by decide +kernel
theorem dX5_readOpening_38 : decode cX5_readOpening 38 = .ok (.ifCond .eq 8, 3) := by decide +kernel
theorem dX5_readOpening_41 : decode cX5_readOpening 41 = .ok (.bipush 101, 2) := by decide +kernel
theorem dX5_readOpening_43 : decode cX5_readOpening 43 = .ok (.goto 5, 3) := by decide +kernel
theorem dX5_readOpening_46 : decode cX5_readOpening 46 = .ok (.bipush 102, 2) := by decide +kernel
theorem dX5_readOpening_48 : decode cX5_readOpening 48 = .ok (.istore_n 2, 1) := by decide +kernel
theorem dX5_readOpening_49 : decode cX5_readOpening 49 = .ok (.aload_n 0, 1) := by decide +kernel
theorem dX5_readOpening_50 : decode cX5_readOpening 50 = .ok (.getfield 12, 3) := by decide +kernel
theorem dX5_readOpening_53 : decode cX5_readOpening 53 = .ok (.invokevirtual 56, 3) := by decide +kernel
theorem dX5_readOpening_56 : decode cX5_readOpening 56 = .ok (.iload_n 1, 1) := by decide +kernel
theorem dX5_readOpening_57 : decode cX5_readOpening 57 = .ok (.ifCond .eq 31, 3) := by decide +kernel
theorem dX5_readOpening_60 : decode cX5_readOpening 60 = .ok (.aload_n 0, 1) := by decide +kernel
theorem dX5_readOpening_61 : decode cX5_readOpening 61 = .ok (.iconst 1, 1) := by decide +kernel
theorem dX5_readOpening_62 : decode cX5_readOpening 62 = .ok (.bipush 20, 2) := by decide +kernel
theorem dX5_readOpening_64 : decode cX5_readOpening 64 = .ok (.invokevirtual 71, 3) := by decide +kernel
theorem dX5_readOpening_67 : decode cX5_readOpening 67 = .ok (.ifCond .ne 5, 3) := by decide +kernel
theorem dX5_readOpening_70 : decode cX5_readOpening 70 = .ok (.iconst 0, 1) := by decide +kernel
theorem dX5_readOpening_71 : decode cX5_readOpening 71 = .ok (.ireturn, 1) := by decide +kernel
theorem dX5_readOpening_72 : decode cX5_readOpening 72 = .ok (.sipush 200, 3) := by decide +kernel
theorem dX5_readOpening_75 : decode cX5_readOpening 75 = .ok (.aload_n 0, 1) := by decide +kernel
theorem dX5_readOpening_76 : decode cX5_readOpening 76 = .ok (.getfield 32, 3) := by decide +kernel
theorem dX5_readOpening_79 : decode cX5_readOpening 79 = .ok (.iadd, 1) := by decide +kernel
theorem dX5_readOpening_80 : decode cX5_readOpening 80 = .ok (.istore_n 2, 1) := by decide +kernel
theorem dX5_readOpening_81 : decode cX5_readOpening 81 = .ok (.aload_n 0, 1) := by decide +kernel
theorem dX5_readOpening_82 : decode cX5_readOpening 82 = .ok (.getfield 12, 3) := by decide +kernel
theorem dX5_readOpening_85 : decode cX5_readOpening 85 = .ok (.invokevirtual 56, 3) := by decide +kernel
theorem dX5_readOpening_88 : decode cX5_readOpening 88 = .ok (.aload_n 0, 1) := by decide +kernel
theorem dX5_readOpening_89 : decode cX5_readOpening 89 = .ok (.getfield 12, 3) := by decide +kernel
theorem dX5_readOpening_92 : decode cX5_readOpening 92 = .ok (.getfield 49, 3) := by decide +kernel
theorem dX5_readOpening_95 : decode cX5_readOpening 95 = .ok (.iconst 4, 1) := by decide +kernel
theorem dX5_readOpening_96 : decode cX5_readOpening 96 = .ok (.if_icmp .eq 9, 3) := by decide +kernel
theorem dX5_readOpening_99 : decode cX5_readOpening 99 = .ok (.aload_n 0, 1) := by decide +kernel
theorem dX5_readOpening_100 : decode cX5_readOpening 100 = .ok (.iconst 1, 1) := by decide +kernel
theorem dX5_readOpening_101 : decode cX5_readOpening 101 = .ok (.invokevirtual 52, 3) := by decide +kernel
theorem dX5_readOpening_104 : decode cX5_readOpening 104 = .ok (.ireturn, 1) := by decide +kernel
theorem dX5_readOpening_105 : decode cX5_readOpening 105 = .ok (.aload_n 0, 1) := by decide +kernel
theorem dX5_readOpening_106 : decode cX5_readOpening 106 = .ok (.getfield 21, 3) := by decide +kernel
theorem dX5_readOpening_109 : decode cX5_readOpening 109 = .ok (.getfield 194, 3) := by decide +kernel
theorem dX5_readOpening_112 : decode cX5_readOpening 112 = .ok (.iload_n 2, 1) := by decide +kernel
theorem dX5_readOpening_113 : decode cX5_readOpening 113 = .ok (.invokevirtual 222, 3) := by decide +kernel
theorem dX5_readOpening_116 : decode cX5_readOpening 116 = .ok (.aload_n 0, 1) := by decide +kernel
theorem dX5_readOpening_117 : decode cX5_readOpening 117 = .ok (.getfield 12, 3) := by decide +kernel
theorem dX5_readOpening_120 : decode cX5_readOpening 120 = .ok (.invokevirtual 56, 3) := by decide +kernel
theorem dX5_readOpening_123 : decode cX5_readOpening 123 = .ok (.iconst 1, 1) := by decide +kernel
theorem dX5_readOpening_124 : decode cX5_readOpening 124 = .ok (.ireturn, 1) := by decide +kernel
theorem dX5_readClosing_0 : decode cX5_readClosing 0 = .ok (.aload_n 0, 1) := by decide +kernel
theorem dX5_readClosing_1 : decode cX5_readClosing 1 = .ok (.getfield 21, 3) := by decide +kernel
theorem dX5_readClosing_4 : decode cX5_readClosing 4 = .ok (.getfield 194, 3) := by decide +kernel
theorem dX5_readClosing_7 : decode cX5_readClosing 7 = .ok (.invokevirtual 225, 3) := by decide +kernel
theorem dX5_readClosing_10 : decode cX5_readClosing 10 = .ok (.ifCond .ne 9, 3) := by decide +kernel
theorem dX5_readClosing_13 : decode cX5_readClosing 13 = .ok (.aload_n 0, 1) := by decide +kernel
theorem dX5_readClosing_14 : decode cX5_readClosing 14 = .ok (.iconst 4, 1) := by decide +kernel
theorem dX5_readClosing_15 : decode cX5_readClosing 15 = .ok (.invokevirtual 52, 3) := by decide +kernel
theorem dX5_readClosing_18 : decode cX5_readClosing 18 = .ok (.ireturn, 1) := by decide +kernel
theorem dX5_readClosing_19 : decode cX5_readClosing 19 = .ok (.aload_n 0, 1) := by decide +kernel
theorem dX5_readClosing_20 : decode cX5_readClosing 20 = .ok (.getfield 12, 3) := by decide +kernel
theorem dX5_readClosing_23 : decode cX5_readClosing 23 = .ok (.invokevirtual 56, 3) := by decide +kernel
theorem dX5_readClosing_26 : decode cX5_readClosing 26 = .ok (.iconst 1, 1) := by decide +kernel
theorem dX5_readClosing_27 : decode cX5_readClosing 27 = .ok (.ireturn, 1) := by decide +kernel
theorem dX5_readYarn_0 : decode cX5_readYarn 0 = .ok (.aload_n 0, 1) := by decide +kernel
theorem dX5_readYarn_1 : decode cX5_readYarn 1 = .ok (.getfield 12, 3) := by decide +kernel
theorem dX5_readYarn_4 : decode cX5_readYarn 4 = .ok (.invokevirtual 56, 3) := by decide +kernel
theorem dX5_readYarn_7 : decode cX5_readYarn 7 = .ok (.aload_n 0, 1) := by decide +kernel
theorem dX5_readYarn_8 : decode cX5_readYarn 8 = .ok (.invokevirtual 181, 3) := by decide +kernel
theorem dX5_readYarn_11 : decode cX5_readYarn 11 = .ok (.ifCond .ne 5, 3) := by decide +kernel
theorem dX5_readYarn_14 : decode cX5_readYarn 14 = .ok (.iconst 0, 1) := by decide +kernel
theorem dX5_readYarn_15 : decode cX5_readYarn 15 = .ok (.ireturn, 1) := by decide +kernel
theorem dX5_readYarn_16 : decode cX5_readYarn 16 = .ok (.aload_n 0, 1) := by decide +kernel
theorem dX5_readYarn_17 : decode cX5_readYarn 17 = .ok (.getfield 32, 3) := by decide +kernel
theorem dX5_readYarn_20 : decode cX5_readYarn 20 = .ok (.istore_n 1, 1) := by decide +kernel
theorem dX5_readYarn_21 : decode cX5_readYarn 21 = .ok (.aload_n 0, 1) := by decide +kernel
theorem dX5_readYarn_22 : decode cX5_readYarn 22 = .ok (.iconst 1, 1) := by decide +kernel
theorem dX5_readYarn_23 : decode cX5_readYarn 23 = .ok (.sipush 999, 3) := by decide +kernel
theorem dX5_readYarn_26 : decode cX5_readYarn 26 = .ok (.invokevirtual 96, 3) := by decide +kernel
theorem dX5_readYarn_29 : decode cX5_readYarn 29 = .ok (.ifCond .ne 5, 3) := by decide +kernel
theorem dX5_readYarn_32 : decode cX5_readYarn 32 = .ok (.iconst 0, 1) := by decide +kernel
theorem dX5_readYarn_33 : decode cX5_readYarn 33 = .ok (.ireturn, 1) := by decide +kernel
theorem dX5_readYarn_34 : decode cX5_readYarn 34 = .ok (.aload_n 0, 1) := by decide +kernel
theorem dX5_readYarn_35 : decode cX5_readYarn 35 = .ok (.getfield 21, 3) := by decide +kernel
theorem dX5_readYarn_38 : decode cX5_readYarn 38 = .ok (.getfield 172, 3) := by decide +kernel
theorem dX5_readYarn_41 : decode cX5_readYarn 41 = .ok (.iload_n 1, 1) := by decide +kernel
theorem dX5_readYarn_42 : decode cX5_readYarn 42 = .ok (.aload_n 0, 1) := by decide +kernel
theorem dX5_readYarn_43 : decode cX5_readYarn 43 = .ok (.getfield 32, 3) := by decide +kernel
theorem dX5_readYarn_46 : decode cX5_readYarn 46 = .ok (.invokevirtual 228, 3) := by decide +kernel
theorem dX5_readYarn_49 : decode cX5_readYarn 49 = .ok (.iconst 1, 1) := by decide +kernel
theorem dX5_readYarn_50 : decode cX5_readYarn 50 = .ok (.ireturn, 1) := by decide +kernel
theorem dX5_readWeave_0 : decode cX5_readWeave 0 = .ok (.aload_n 0, 1) := by decide +kernel
theorem dX5_readWeave_1 : decode cX5_readWeave 1 = .ok (.getfield 12, 3) := by decide +kernel
theorem dX5_readWeave_4 : decode cX5_readWeave 4 = .ok (.invokevirtual 56, 3) := by decide +kernel
theorem dX5_readWeave_7 : decode cX5_readWeave 7 = .ok (.aload_n 0, 1) := by decide +kernel
theorem dX5_readWeave_8 : decode cX5_readWeave 8 = .ok (.iconst 1, 1) := by decide +kernel
theorem dX5_readWeave_9 : decode cX5_readWeave 9 = .ok (.bipush 60, 2) := by decide +kernel
theorem dX5_readWeave_11 : decode cX5_readWeave 11 = .ok (.invokevirtual 71, 3) := by decide +kernel
theorem dX5_readWeave_14 : decode cX5_readWeave 14 = .ok (.ifCond .ne 5, 3) := by decide +kernel
theorem dX5_readWeave_17 : decode cX5_readWeave 17 = .ok (.iconst 0, 1) := by decide +kernel
theorem dX5_readWeave_18 : decode cX5_readWeave 18 = .ok (.ireturn, 1) := by decide +kernel
theorem dX5_readWeave_19 : decode cX5_readWeave 19 = .ok (.aload_n 0, 1) := by decide +kernel
theorem dX5_readWeave_20 : decode cX5_readWeave 20 = .ok (.getfield 21, 3) := by decide +kernel
theorem dX5_readWeave_23 : decode cX5_readWeave 23 = .ok (.aload_n 0, 1) := by decide +kernel
theorem dX5_readWeave_24 : decode cX5_readWeave 24 = .ok (.getfield 21, 3) := by decide +kernel
theorem dX5_readWeave_27 : decode cX5_readWeave 27 = .ok (.getfield 172, 3) := by decide +kernel
theorem dX5_readWeave_30 : decode cX5_readWeave 30 = .ok (.aload_n 0, 1) := by decide +kernel
theorem dX5_readWeave_31 : decode cX5_readWeave 31 = .ok (.getfield 32, 3) := by decide +kernel
theorem dX5_readWeave_34 : decode cX5_readWeave 34 = .ok (.invokevirtual 231, 3) := by decide +kernel
theorem dX5_readWeave_37 : decode cX5_readWeave 37 = .ok (.aload_n 0, 1) := by decide +kernel
theorem dX5_readWeave_38 : decode cX5_readWeave 38 = .ok (.getfield 32, 3) := by decide +kernel
theorem dX5_readWeave_41 : decode cX5_readWeave 41 = .ok (.if_icmp .ge 9, 3) := by decide +kernel
theorem dX5_readWeave_44 : decode cX5_readWeave 44 = .ok (.aload_n 0, 1) := by decide +kernel
theorem dX5_readWeave_45 : decode cX5_readWeave 45 = .ok (.iconst 3, 1) := by decide +kernel
theorem dX5_readWeave_46 : decode cX5_readWeave 46 = .ok (.invokevirtual 52, 3) := by decide +kernel
theorem dX5_readWeave_49 : decode cX5_readWeave 49 = .ok (.ireturn, 1) := by decide +kernel
theorem dX5_readWeave_50 : decode cX5_readWeave 50 = .ok (.aload_n 0, 1) := by decide +kernel
theorem dX5_readWeave_51 : decode cX5_readWeave 51 = .ok (.getfield 12, 3) := by decide +kernel
theorem dX5_readWeave_54 : decode cX5_readWeave 54 = .ok (.invokevirtual 56, 3) := by decide +kernel
theorem dX5_readWeave_57 : decode cX5_readWeave 57 = .ok (.iconst 1, 1) := by decide +kernel
theorem dX5_readWeave_58 : decode cX5_readWeave 58 = .ok (.ireturn, 1) := by decide +kernel
theorem dX5_readUnweave_0 : decode cX5_readUnweave 0 = .ok (.aload_n 0, 1) := by decide +kernel
theorem dX5_readUnweave_1 : decode cX5_readUnweave 1 = .ok (.getfield 12, 3) := by decide +kernel
theorem dX5_readUnweave_4 : decode cX5_readUnweave 4 = .ok (.invokevirtual 56, 3) := by decide +kernel
theorem dX5_readUnweave_7 : decode cX5_readUnweave 7 = .ok (.aload_n 0, 1) := by decide +kernel
theorem dX5_readUnweave_8 : decode cX5_readUnweave 8 = .ok (.iconst 1, 1) := by decide +kernel
theorem dX5_readUnweave_9 : decode cX5_readUnweave 9 = .ok (.bipush 60, 2) := by decide +kernel
theorem dX5_readUnweave_11 : decode cX5_readUnweave 11 = .ok (.invokevirtual 71, 3) := by decide +kernel
theorem dX5_readUnweave_14 : decode cX5_readUnweave 14 = .ok (.ifCond .ne 5, 3) := by decide +kernel
theorem dX5_readUnweave_17 : decode cX5_readUnweave 17 = .ok (.iconst 0, 1) := by decide +kernel
theorem dX5_readUnweave_18 : decode cX5_readUnweave 18 = .ok (.ireturn, 1) := by decide +kernel
theorem dX5_readUnweave_19 : decode cX5_readUnweave 19 = .ok (.aload_n 0, 1) := by decide +kernel
theorem dX5_readUnweave_20 : decode cX5_readUnweave 20 = .ok (.getfield 32, 3) := by decide +kernel
theorem dX5_readUnweave_23 : decode cX5_readUnweave 23 = .ok (.aload_n 0, 1) := by decide +kernel
theorem dX5_readUnweave_24 : decode cX5_readUnweave 24 = .ok (.getfield 21, 3) := by decide +kernel
theorem dX5_readUnweave_27 : decode cX5_readUnweave 27 = .ok (.getfield 172, 3) := by decide +kernel
theorem dX5_readUnweave_30 : decode cX5_readUnweave 30 = .ok (.getfield 176, 3) := by decide +kernel
theorem dX5_readUnweave_33 : decode cX5_readUnweave 33 = .ok (.if_icmp .le 9, 3) := by decide +kernel
theorem dX5_readUnweave_36 : decode cX5_readUnweave 36 = .ok (.aload_n 0, 1) := by decide +kernel
theorem dX5_readUnweave_37 : decode cX5_readUnweave 37 = .ok (.iconst 3, 1) := by decide +kernel
theorem dX5_readUnweave_38 : decode cX5_readUnweave 38 = .ok (.invokevirtual 52, 3) := by decide +kernel
theorem dX5_readUnweave_41 : decode cX5_readUnweave 41 = .ok (.ireturn, 1) := by decide +kernel
theorem dX5_readUnweave_42 : decode cX5_readUnweave 42 = .ok (.aload_n 0, 1) := by decide +kernel
theorem dX5_readUnweave_43 : decode cX5_readUnweave 43 = .ok (.getfield 21, 3) := by decide +kernel
theorem dX5_readUnweave_46 : decode cX5_readUnweave 46 = .ok (.aload_n 0, 1) := by decide +kernel
theorem dX5_readUnweave_47 : decode cX5_readUnweave 47 = .ok (.getfield 32, 3) := by decide +kernel
theorem dX5_readUnweave_50 : decode cX5_readUnweave 50 = .ok (.invokevirtual 235, 3) := by decide +kernel
theorem dX5_readUnweave_53 : decode cX5_readUnweave 53 = .ok (.aload_n 0, 1) := by decide +kernel
theorem dX5_readUnweave_54 : decode cX5_readUnweave 54 = .ok (.getfield 12, 3) := by decide +kernel
theorem dX5_readUnweave_57 : decode cX5_readUnweave 57 = .ok (.invokevirtual 56, 3) := by decide +kernel
theorem dX5_readUnweave_60 : decode cX5_readUnweave 60 = .ok (.iconst 1, 1) := by decide +kernel
theorem dX5_readUnweave_61 : decode cX5_readUnweave 61 = .ok (.ireturn, 1) := by decide +kernel
theorem dX5_readSwap_0 : decode cX5_readSwap 0 = .ok (.aload_n 0, 1) := by decide +kernel
theorem dX5_readSwap_1 : decode cX5_readSwap 1 = .ok (.getfield 12, 3) := by decide +kernel
theorem dX5_readSwap_4 : decode cX5_readSwap 4 = .ok (.invokevirtual 56, 3) := by decide +kernel
theorem dX5_readSwap_7 : decode cX5_readSwap 7 = .ok (.aload_n 0, 1) := by decide +kernel
theorem dX5_readSwap_8 : decode cX5_readSwap 8 = .ok (.invokevirtual 238, 3) := by decide +kernel
theorem dX5_readSwap_11 : decode cX5_readSwap 11 = .ok (.ifCond .ne 5, 3) := by decide +kernel
theorem dX5_readSwap_14 : decode cX5_readSwap 14 = .ok (.iconst 0, 1) := by decide +kernel
theorem dX5_readSwap_15 : decode cX5_readSwap 15 = .ok (.ireturn, 1) := by decide +kernel
theorem dX5_readSwap_16 : decode cX5_readSwap 16 = .ok (.aload_n 0, 1) := by decide +kernel
theorem dX5_readSwap_17 : decode cX5_readSwap 17 = .ok (.getfield 32, 3) := by decide +kernel
theorem dX5_readSwap_20 : decode cX5_readSwap 20 = .ok (.istore_n 1, 1) := by decide +kernel
theorem dX5_readSwap_21 : decode cX5_readSwap 21 = .ok (.aload_n 0, 1) := by decide +kernel
theorem dX5_readSwap_22 : decode cX5_readSwap 22 = .ok (.invokevirtual 78, 3) := by decide +kernel
theorem dX5_readSwap_25 : decode cX5_readSwap 25 = .ok (.ifCond .ne 5, 3) := by decide +kernel
theorem dX5_readSwap_28 : decode cX5_readSwap 28 = .ok (.iconst 0, 1) := by decide +kernel
theorem dX5_readSwap_29 : decode cX5_readSwap 29 = .ok (.ireturn, 1) := by decide +kernel
theorem dX5_readSwap_30 : decode cX5_readSwap 30 = .ok (.aload_n 0, 1) := by decide +kernel
theorem dX5_readSwap_31 : decode cX5_readSwap 31 = .ok (.getfield 32, 3) := by decide +kernel
theorem dX5_readSwap_34 : decode cX5_readSwap 34 = .ok (.iload_n 1, 1) := by decide +kernel
theorem dX5_readSwap_35 : decode cX5_readSwap 35 = .ok (.if_icmp .ne 9, 3) := by decide +kernel
theorem dX5_readSwap_38 : decode cX5_readSwap 38 = .ok (.aload_n 0, 1) := by decide +kernel
theorem dX5_readSwap_39 : decode cX5_readSwap 39 = .ok (.iconst 3, 1) := by decide +kernel
theorem dX5_readSwap_40 : decode cX5_readSwap 40 = .ok (.invokevirtual 52, 3) := by decide +kernel
theorem dX5_readSwap_43 : decode cX5_readSwap 43 = .ok (.ireturn, 1) := by decide +kernel
theorem dX5_readSwap_44 : decode cX5_readSwap 44 = .ok (.aload_n 0, 1) := by decide +kernel
theorem dX5_readSwap_45 : decode cX5_readSwap 45 = .ok (.getfield 21, 3) := by decide +kernel
theorem dX5_readSwap_48 : decode cX5_readSwap 48 = .ok (.getfield 172, 3) := by decide +kernel
theorem dX5_readSwap_51 : decode cX5_readSwap 51 = .ok (.iload_n 1, 1) := by decide +kernel
theorem dX5_readSwap_52 : decode cX5_readSwap 52 = .ok (.aload_n 0, 1) := by decide +kernel
theorem dX5_readSwap_53 : decode cX5_readSwap 53 = .ok (.getfield 32, 3) := by decide +kernel
theorem dX5_readSwap_56 : decode cX5_readSwap 56 = .ok (.invokevirtual 241, 3) := by decide +kernel
theorem dX5_readSwap_59 : decode cX5_readSwap 59 = .ok (.aload_n 0, 1) := by decide +kernel
theorem dX5_readSwap_60 : decode cX5_readSwap 60 = .ok (.getfield 12, 3) := by decide +kernel
theorem dX5_readSwap_63 : decode cX5_readSwap 63 = .ok (.invokevirtual 56, 3) := by decide +kernel
theorem dX5_readSwap_66 : decode cX5_readSwap 66 = .ok (.iconst 1, 1) := by decide +kernel
theorem dX5_readSwap_67 : decode cX5_readSwap 67 = .ok (.ireturn, 1) := by decide +kernel
theorem dX5_readPunch_0 : decode cX5_readPunch 0 = .ok (.aload_n 0, 1) := by decide +kernel
theorem dX5_readPunch_1 : decode cX5_readPunch 1 = .ok (.getfield 12, 3) := by decide +kernel
theorem dX5_readPunch_4 : decode cX5_readPunch 4 = .ok (.invokevirtual 56, 3) := by decide +kernel
theorem dX5_readPunch_7 : decode cX5_readPunch 7 = .ok (.aload_n 0, 1) := by decide +kernel
theorem dX5_readPunch_8 : decode cX5_readPunch 8 = .ok (.invokevirtual 238, 3) := by decide +kernel
theorem dX5_readPunch_11 : decode cX5_readPunch 11 = .ok (.ifCond .ne 5, 3) := by decide +kernel
theorem dX5_readPunch_14 : decode cX5_readPunch 14 = .ok (.iconst 0, 1) := by decide +kernel
theorem dX5_readPunch_15 : decode cX5_readPunch 15 = .ok (.ireturn, 1) := by decide +kernel
theorem dX5_readPunch_16 : decode cX5_readPunch 16 = .ok (.aload_n 0, 1) := by decide +kernel
theorem dX5_readPunch_17 : decode cX5_readPunch 17 = .ok (.getfield 32, 3) := by decide +kernel
theorem dX5_readPunch_20 : decode cX5_readPunch 20 = .ok (.istore_n 1, 1) := by decide +kernel
theorem dX5_readPunch_21 : decode cX5_readPunch 21 = .ok (.aload_n 0, 1) := by decide +kernel
theorem dX5_readPunch_22 : decode cX5_readPunch 22 = .ok (.invokevirtual 244, 3) := by decide +kernel
theorem dX5_readPunch_25 : decode cX5_readPunch 25 = .ok (.ifCond .ne 5, 3) := by decide +kernel
theorem dX5_readPunch_28 : decode cX5_readPunch 28 = .ok (.iconst 0, 1) := by decide +kernel
theorem dX5_readPunch_29 : decode cX5_readPunch 29 = .ok (.ireturn, 1) := by decide +kernel
theorem dX5_readPunch_30 : decode cX5_readPunch 30 = .ok (.aload_n 0, 1) := by decide +kernel
theorem dX5_readPunch_31 : decode cX5_readPunch 31 = .ok (.getfield 21, 3) := by decide +kernel
theorem dX5_readPunch_34 : decode cX5_readPunch 34 = .ok (.getfield 172, 3) := by decide +kernel
theorem dX5_readPunch_37 : decode cX5_readPunch 37 = .ok (.iload_n 1, 1) := by decide +kernel
theorem dX5_readPunch_38 : decode cX5_readPunch 38 = .ok (.aload_n 0, 1) := by decide +kernel
theorem dX5_readPunch_39 : decode cX5_readPunch 39 = .ok (.getfield 32, 3) := by decide +kernel
theorem dX5_readPunch_42 : decode cX5_readPunch 42 = .ok (.invokevirtual 247, 3) := by decide +kernel
theorem dX5_readPunch_45 : decode cX5_readPunch 45 = .ok (.iconst 1, 1) := by decide +kernel
theorem dX5_readPunch_46 : decode cX5_readPunch 46 = .ok (.ireturn, 1) := by decide +kernel
theorem dX5_readDye_0 : decode cX5_readDye 0 = .ok (.aload_n 0, 1) := by decide +kernel
theorem dX5_readDye_1 : decode cX5_readDye 1 = .ok (.getfield 12, 3) := by decide +kernel
theorem dX5_readDye_4 : decode cX5_readDye 4 = .ok (.invokevirtual 56, 3) := by decide +kernel
theorem dX5_readDye_7 : decode cX5_readDye 7 = .ok (.aload_n 0, 1) := by decide +kernel
theorem dX5_readDye_8 : decode cX5_readDye 8 = .ok (.invokevirtual 238, 3) := by decide +kernel
theorem dX5_readDye_11 : decode cX5_readDye 11 = .ok (.ifCond .ne 5, 3) := by decide +kernel
theorem dX5_readDye_14 : decode cX5_readDye 14 = .ok (.iconst 0, 1) := by decide +kernel
theorem dX5_readDye_15 : decode cX5_readDye 15 = .ok (.ireturn, 1) := by decide +kernel
theorem dX5_readDye_16 : decode cX5_readDye 16 = .ok (.aload_n 0, 1) := by decide +kernel
theorem dX5_readDye_17 : decode cX5_readDye 17 = .ok (.getfield 32, 3) := by decide +kernel
theorem dX5_readDye_20 : decode cX5_readDye 20 = .ok (.istore_n 1, 1) := by decide +kernel
theorem dX5_readDye_21 : decode cX5_readDye 21 = .ok (.aload_n 0, 1) := by decide +kernel
theorem dX5_readDye_22 : decode cX5_readDye 22 = .ok (.invokevirtual 181, 3) := by decide +kernel
theorem dX5_readDye_25 : decode cX5_readDye 25 = .ok (.ifCond .ne 5, 3) := by decide +kernel
theorem dX5_readDye_28 : decode cX5_readDye 28 = .ok (.iconst 0, 1) := by decide +kernel
theorem dX5_readDye_29 : decode cX5_readDye 29 = .ok (.ireturn, 1) := by decide +kernel
theorem dX5_readDye_30 : decode cX5_readDye 30 = .ok (.aload_n 0, 1) := by decide +kernel
theorem dX5_readDye_31 : decode cX5_readDye 31 = .ok (.getfield 21, 3) := by decide +kernel
theorem dX5_readDye_34 : decode cX5_readDye 34 = .ok (.getfield 172, 3) := by decide +kernel
theorem dX5_readDye_37 : decode cX5_readDye 37 = .ok (.iload_n 1, 1) := by decide +kernel
theorem dX5_readDye_38 : decode cX5_readDye 38 = .ok (.aload_n 0, 1) := by decide +kernel
theorem dX5_readDye_39 : decode cX5_readDye 39 = .ok (.getfield 32, 3) := by decide +kernel
theorem dX5_readDye_42 : decode cX5_readDye 42 = .ok (.invokevirtual 250, 3) := by decide +kernel
theorem dX5_readDye_45 : decode cX5_readDye 45 = .ok (.iconst 1, 1) := by decide +kernel
theorem dX5_readDye_46 : decode cX5_readDye 46 = .ok (.ireturn, 1) := by decide +kernel
theorem dX5_readOil_0 : decode cX5_readOil 0 = .ok (.aload_n 0, 1) := by decide +kernel
theorem dX5_readOil_1 : decode cX5_readOil 1 = .ok (.getfield 12, 3) := by decide +kernel
theorem dX5_readOil_4 : decode cX5_readOil 4 = .ok (.invokevirtual 56, 3) := by decide +kernel
theorem dX5_readOil_7 : decode cX5_readOil 7 = .ok (.aload_n 0, 1) := by decide +kernel
theorem dX5_readOil_8 : decode cX5_readOil 8 = .ok (.invokevirtual 244, 3) := by decide +kernel
theorem dX5_readOil_11 : decode cX5_readOil 11 = .ok (.ifCond .ne 5, 3) := by decide +kernel
theorem dX5_readOil_14 : decode cX5_readOil 14 = .ok (.iconst 0, 1) := by decide +kernel
theorem dX5_readOil_15 : decode cX5_readOil 15 = .ok (.ireturn, 1) := by decide +kernel
theorem dX5_readOil_16 : decode cX5_readOil 16 = .ok (.aload_n 0, 1) := by decide +kernel
theorem dX5_readOil_17 : decode cX5_readOil 17 = .ok (.getfield 21, 3) := by decide +kernel
theorem dX5_readOil_20 : decode cX5_readOil 20 = .ok (.getfield 172, 3) := by decide +kernel
theorem dX5_readOil_23 : decode cX5_readOil 23 = .ok (.aload_n 0, 1) := by decide +kernel
theorem dX5_readOil_24 : decode cX5_readOil 24 = .ok (.getfield 32, 3) := by decide +kernel
theorem dX5_readOil_27 : decode cX5_readOil 27 = .ok (.invokevirtual 253, 3) := by decide +kernel
theorem dX5_readOil_30 : decode cX5_readOil 30 = .ok (.iconst 1, 1) := by decide +kernel
theorem dX5_readOil_31 : decode cX5_readOil 31 = .ok (.ireturn, 1) := by decide +kernel
theorem dX5_readInvert_0 : decode cX5_readInvert 0 = .ok (.aload_n 0, 1) := by decide +kernel
theorem dX5_readInvert_1 : decode cX5_readInvert 1 = .ok (.getfield 12, 3) := by decide +kernel
theorem dX5_readInvert_4 : decode cX5_readInvert 4 = .ok (.invokevirtual 56, 3) := by decide +kernel
theorem dX5_readInvert_7 : decode cX5_readInvert 7 = .ok (.aload_n 0, 1) := by decide +kernel
theorem dX5_readInvert_8 : decode cX5_readInvert 8 = .ok (.invokevirtual 238, 3) := by decide +kernel
theorem dX5_readInvert_11 : decode cX5_readInvert 11 = .ok (.ifCond .ne 5, 3) := by decide +kernel
theorem dX5_readInvert_14 : decode cX5_readInvert 14 = .ok (.iconst 0, 1) := by decide +kernel
theorem dX5_readInvert_15 : decode cX5_readInvert 15 = .ok (.ireturn, 1) := by decide +kernel
theorem dX5_readInvert_16 : decode cX5_readInvert 16 = .ok (.aload_n 0, 1) := by decide +kernel
theorem dX5_readInvert_17 : decode cX5_readInvert 17 = .ok (.getfield 21, 3) := by decide +kernel
theorem dX5_readInvert_20 : decode cX5_readInvert 20 = .ok (.getfield 172, 3) := by decide +kernel
theorem dX5_readInvert_23 : decode cX5_readInvert 23 = .ok (.aload_n 0, 1) := by decide +kernel
theorem dX5_readInvert_24 : decode cX5_readInvert 24 = .ok (.getfield 32, 3) := by decide +kernel
theorem dX5_readInvert_27 : decode cX5_readInvert 27 = .ok (.aload_n 0, 1) := by decide +kernel
theorem dX5_readInvert_28 : decode cX5_readInvert 28 = .ok (.getfield 21, 3) := by decide +kernel
theorem dX5_readInvert_31 : decode cX5_readInvert 31 = .ok (.aload_n 0, 1) := by decide +kernel
theorem dX5_readInvert_32 : decode cX5_readInvert 32 = .ok (.getfield 21, 3) := by decide +kernel
theorem dX5_readInvert_35 : decode cX5_readInvert 35 = .ok (.getfield 172, 3) := by decide +kernel
theorem dX5_readInvert_38 : decode cX5_readInvert 38 = .ok (.getfield 256, 3) := by decide +kernel
theorem dX5_readInvert_41 : decode cX5_readInvert 41 = .ok (.aload_n 0, 1) := by decide +kernel
theorem dX5_readInvert_42 : decode cX5_readInvert 42 = .ok (.getfield 32, 3) := by decide +kernel
theorem dX5_readInvert_45 : decode cX5_readInvert 45 = .ok (.invokestatic 260, 3) := by decide +kernel
theorem dX5_readInvert_48 : decode cX5_readInvert 48 = .ok (.invokevirtual 264, 3) := by decide +kernel
theorem dX5_readInvert_51 : decode cX5_readInvert 51 = .ok (.invokevirtual 268, 3) := by decide +kernel
theorem dX5_readInvert_54 : decode cX5_readInvert 54 = .ok (.iconst 1, 1) := by decide +kernel
theorem dX5_readInvert_55 : decode cX5_readInvert 55 = .ok (.ireturn, 1) := by decide +kernel
theorem dX5_readStrain_0 : decode cX5_readStrain 0 = .ok (.aload_n 0, 1) := by decide +kernel
theorem dX5_readStrain_1 : decode cX5_readStrain 1 = .ok (.getfield 12, 3) := by decide +kernel
theorem dX5_readStrain_4 : decode cX5_readStrain 4 = .ok (.invokevirtual 56, 3) := by decide +kernel
theorem dX5_readStrain_7 : decode cX5_readStrain 7 = .ok (.aload_n 0, 1) := by decide +kernel
theorem dX5_readStrain_8 : decode cX5_readStrain 8 = .ok (.iconst 0, 1) := by decide +kernel
theorem dX5_readStrain_9 : decode cX5_readStrain 9 = .ok (.bipush 60, 2) := by decide +kernel
theorem dX5_readStrain_11 : decode cX5_readStrain 11 = .ok (.invokevirtual 96, 3) := by decide +kernel
theorem dX5_readStrain_14 : decode cX5_readStrain 14 = .ok (.ifCond .ne 5, 3) := by decide +kernel
theorem dX5_readStrain_17 : decode cX5_readStrain 17 = .ok (.iconst 0, 1) := by decide +kernel
theorem dX5_readStrain_18 : decode cX5_readStrain 18 = .ok (.ireturn, 1) := by decide +kernel
theorem dX5_readStrain_19 : decode cX5_readStrain 19 = .ok (.aload_n 0, 1) := by decide +kernel
theorem dX5_readStrain_20 : decode cX5_readStrain 20 = .ok (.getfield 21, 3) := by decide +kernel
theorem dX5_readStrain_23 : decode cX5_readStrain 23 = .ok (.aload_n 0, 1) := by decide +kernel
theorem dX5_readStrain_24 : decode cX5_readStrain 24 = .ok (.getfield 32, 3) := by decide +kernel
theorem dX5_readStrain_27 : decode cX5_readStrain 27 = .ok (.putfield 271, 3) := by decide +kernel
theorem dX5_readStrain_30 : decode cX5_readStrain 30 = .ok (.iconst 1, 1) := by decide +kernel
theorem dX5_readStrain_31 : decode cX5_readStrain 31 = .ok (.ireturn, 1) := by decide +kernel
theorem dX5_readMotor_0 : decode cX5_readMotor 0 = .ok (.aload_n 0, 1) := by decide +kernel
theorem dX5_readMotor_1 : decode cX5_readMotor 1 = .ok (.getfield 12, 3) := by decide +kernel
theorem dX5_readMotor_4 : decode cX5_readMotor 4 = .ok (.invokevirtual 56, 3) := by decide +kernel
theorem dX5_readMotor_7 : decode cX5_readMotor 7 = .ok (.aload_n 0, 1) := by decide +kernel
theorem dX5_readMotor_8 : decode cX5_readMotor 8 = .ok (.iconst 1, 1) := by decide +kernel
theorem dX5_readMotor_9 : decode cX5_readMotor 9 = .ok (.bipush 24, 2) := by decide +kernel
theorem dX5_readMotor_11 : decode cX5_readMotor 11 = .ok (.invokevirtual 96, 3) := by decide +kernel
theorem dX5_readMotor_14 : decode cX5_readMotor 14 = .ok (.ifCond .ne 5, 3) := by decide +kernel
theorem dX5_readMotor_17 : decode cX5_readMotor 17 = .ok (.iconst 0, 1) := by decide +kernel
theorem dX5_readMotor_18 : decode cX5_readMotor 18 = .ok (.ireturn, 1) := by decide +kernel
theorem dX5_readMotor_19 : decode cX5_readMotor 19 = .ok (.aload_n 0, 1) := by decide +kernel
theorem dX5_readMotor_20 : decode cX5_readMotor 20 = .ok (.getfield 21, 3) := by decide +kernel
theorem dX5_readMotor_23 : decode cX5_readMotor 23 = .ok (.aload_n 0, 1) := by decide +kernel
theorem dX5_readMotor_24 : decode cX5_readMotor 24 = .ok (.getfield 32, 3) := by decide +kernel
theorem dX5_readMotor_27 : decode cX5_readMotor 27 = .ok (.putfield 273, 3) := by decide +kernel
theorem dX5_readMotor_30 : decode cX5_readMotor 30 = .ok (.iconst 1, 1) := by decide +kernel
theorem dX5_readMotor_31 : decode cX5_readMotor 31 = .ok (.ireturn, 1) := by decide +kernel
theorem dX5_readMend_0 : decode cX5_readMend 0 = .ok (.aload_n 0, 1) := by decide +kernel
theorem dX5_readMend_1 : decode cX5_readMend 1 = .ok (.getfield 12, 3) := by decide +kernel
theorem dX5_readMend_4 : decode cX5_readMend 4 = .ok (.invokevirtual 56, 3) := by decide +kernel
theorem dX5_readMend_7 : decode cX5_readMend 7 = .ok (.aload_n 0, 1) := by decide +kernel
theorem dX5_readMend_8 : decode cX5_readMend 8 = .ok (.iconst 0, 1) := by decide +kernel
theorem dX5_readMend_9 : decode cX5_readMend 9 = .ok (.aload_n 0, 1) := by decide +kernel
theorem dX5_readMend_10 : decode cX5_readMend 10 = .ok (.getfield 21, 3) := by decide +kernel
theorem dX5_readMend_13 : decode cX5_readMend 13 = .ok (.getfield 62, 3) := by decide +kernel
theorem dX5_readMend_16 : decode cX5_readMend 16 = .ok (.iconst 1, 1) := by decide +kernel
theorem dX5_readMend_17 : decode cX5_readMend 17 = .ok (.isub, 1) := by decide +kernel
theorem dX5_readMend_18 : decode cX5_readMend 18 = .ok (.invokevirtual 71, 3) := by decide +kernel
theorem dX5_readMend_21 : decode cX5_readMend 21 = .ok (.ifCond .ne 5, 3) := by decide +kernel
theorem dX5_readMend_24 : decode cX5_readMend 24 = .ok (.iconst 0, 1) := by decide +kernel
theorem dX5_readMend_25 : decode cX5_readMend 25 = .ok (.ireturn, 1) := by decide +kernel
theorem dX5_readMend_26 : decode cX5_readMend 26 = .ok (.aload_n 0, 1) := by decide +kernel
theorem dX5_readMend_27 : decode cX5_readMend 27 = .ok (.getfield 21, 3) := by decide +kernel
theorem dX5_readMend_30 : decode cX5_readMend 30 = .ok (.getfield 172, 3) := by decide +kernel
theorem dX5_readMend_33 : decode cX5_readMend 33 = .ok (.getfield 275, 3) := by decide +kernel
theorem dX5_readMend_36 : decode cX5_readMend 36 = .ok (.aload_n 0, 1) := by decide +kernel
theorem dX5_readMend_37 : decode cX5_readMend 37 = .ok (.getfield 32, 3) := by decide +kernel
theorem dX5_readMend_40 : decode cX5_readMend 40 = .ok (.invokestatic 187, 3) := by decide +kernel
theorem dX5_readMend_43 : decode cX5_readMend 43 = .ok (.ifCond .ne 9, 3) := by decide +kernel
theorem dX5_readMend_46 : decode cX5_readMend 46 = .ok (.aload_n 0, 1) := by decide +kernel
theorem dX5_readMend_47 : decode cX5_readMend 47 = .ok (.iconst 3, 1) := by decide +kernel
theorem dX5_readMend_48 : decode cX5_readMend 48 = .ok (.invokevirtual 52, 3) := by decide +kernel
theorem dX5_readMend_51 : decode cX5_readMend 51 = .ok (.ireturn, 1) := by decide +kernel
theorem dX5_readMend_52 : decode cX5_readMend 52 = .ok (.aload_n 0, 1) := by decide +kernel
theorem dX5_readMend_53 : decode cX5_readMend 53 = .ok (.getfield 21, 3) := by decide +kernel
theorem dX5_readMend_56 : decode cX5_readMend 56 = .ok (.getfield 172, 3) := by decide +kernel
theorem dX5_readMend_59 : decode cX5_readMend 59 = .ok (.aload_n 0, 1) := by decide +kernel
theorem dX5_readMend_60 : decode cX5_readMend 60 = .ok (.getfield 32, 3) := by decide +kernel
theorem dX5_readMend_63 : decode cX5_readMend 63 = .ok (.invokevirtual 278, 3) := by decide +kernel
theorem dX5_readMend_66 : decode cX5_readMend 66 = .ok (.aload_n 0, 1) := by decide +kernel
theorem dX5_readMend_67 : decode cX5_readMend 67 = .ok (.getfield 12, 3) := by decide +kernel
theorem dX5_readMend_70 : decode cX5_readMend 70 = .ok (.invokevirtual 56, 3) := by decide +kernel
theorem dX5_readMend_73 : decode cX5_readMend 73 = .ok (.iconst 1, 1) := by decide +kernel
theorem dX5_readMend_74 : decode cX5_readMend 74 = .ok (.ireturn, 1) := by decide +kernel
theorem dX6_init_0 : decode cX6_init 0 = .ok (.aload_n 0, 1) := by decide +kernel
theorem dX6_init_1 : decode cX6_init 1 = .ok (.invokespecial 1, 3) := by decide +kernel
theorem dX6_init_4 : decode cX6_init 4 = .ok (.aload_n 0, 1) := by decide +kernel
theorem dX6_init_5 : decode cX6_init 5 = .ok (.new 7, 3) := by decide +kernel
theorem dX6_init_8 : decode cX6_init 8 = .ok (.dup, 1) := by decide +kernel
theorem dX6_init_9 : decode cX6_init 9 = .ok (.invokespecial 9, 3) := by decide +kernel
theorem dX6_init_12 : decode cX6_init 12 = .ok (.putfield 10, 3) := by decide +kernel
theorem dX6_init_15 : decode cX6_init 15 = .ok (.aload_n 0, 1) := by decide +kernel
theorem dX6_init_16 : decode cX6_init 16 = .ok (.iconst 0, 1) := by decide +kernel
theorem dX6_init_17 : decode cX6_init 17 = .ok (.putfield 16, 3) := by decide +kernel
theorem dX6_init_20 : decode cX6_init 20 = .ok (.return_, 1) := by decide +kernel
theorem dX7_init_0 : decode cX7_init 0 = .ok (.aload_n 0, 1) := by decide +kernel
theorem dX7_init_1 : decode cX7_init 1 = .ok (.invokespecial 3, 3) := by decide +kernel
theorem dX7_init_4 : decode cX7_init 4 = .ok (.aload_n 0, 1) := by decide +kernel
theorem dX7_init_5 : decode cX7_init 5 = .ok (.iconst 0, 1) := by decide +kernel
theorem dX7_init_6 : decode cX7_init 6 = .ok (.putfield 9, 3) := by decide +kernel
theorem dX7_init_9 : decode cX7_init 9 = .ok (.aload_n 0, 1) := by decide +kernel
theorem dX7_init_10 : decode cX7_init 10 = .ok (.iconst 0, 1) := by decide +kernel
theorem dX7_init_11 : decode cX7_init 11 = .ok (.putfield 15, 3) := by decide +kernel
theorem dX7_init_14 : decode cX7_init 14 = .ok (.aload_n 0, 1) := by decide +kernel
theorem dX7_init_15 : decode cX7_init 15 = .ok (.iconst 0, 1) := by decide +kernel
theorem dX7_init_16 : decode cX7_init 16 = .ok (.putfield 18, 3) := by decide +kernel
theorem dX7_init_19 : decode cX7_init 19 = .ok (.aload_n 0, 1) := by decide +kernel
theorem dX7_init_20 : decode cX7_init 20 = .ok (.iconst 0, 1) := by decide +kernel
theorem dX7_init_21 : decode cX7_init 21 = .ok (.putfield 21, 3) := by decide +kernel
theorem dX7_init_24 : decode cX7_init 24 = .ok (.aload_n 0, 1) := by decide +kernel
theorem dX7_init_25 : decode cX7_init 25 = .ok (.iconst 0, 1) := by decide +kernel
theorem dX7_init_26 : decode cX7_init 26 = .ok (.putfield 24, 3) := by decide +kernel
theorem dX7_init_29 : decode cX7_init 29 = .ok (.aload_n 0, 1) := by decide +kernel
theorem dX7_init_30 : decode cX7_init 30 = .ok (.iconst 0, 1) := by decide +kernel
theorem dX7_init_31 : decode cX7_init 31 = .ok (.putfield 27, 3) := by decide +kernel
theorem dX7_init_34 : decode cX7_init 34 = .ok (.aload_n 0, 1) := by decide +kernel
theorem dX7_init_35 : decode cX7_init 35 = .ok (.bipush 8, 2) := by decide +kernel
theorem dX7_init_37 : decode cX7_init 37 = .ok (.newarray .int, 2) := by decide +kernel
theorem dX7_init_39 : decode cX7_init 39 = .ok (.putfield 31, 3) := by decide +kernel
theorem dX7_init_42 : decode cX7_init 42 = .ok (.aload_n 0, 1) := by decide +kernel
theorem dX7_init_43 : decode cX7_init 43 = .ok (.bipush 6, 2) := by decide +kernel
theorem dX7_init_45 : decode cX7_init 45 = .ok (.newarray .int, 2) := by decide +kernel
theorem dX7_init_47 : decode cX7_init 47 = .ok (.putfield 35, 3) := by decide +kernel
theorem dX7_init_50 : decode cX7_init 50 = .ok (.aload_n 0, 1) := by decide +kernel
theorem dX7_init_51 : decode cX7_init 51 = .ok (.bipush 12, 2) := by decide +kernel
theorem dX7_init_53 : decode cX7_init 53 = .ok (.newarray .int, 2) := by decide +kernel
theorem dX7_init_55 : decode cX7_init 55 = .ok (.putfield 38, 3) := by decide +kernel
theorem dX7_init_58 : decode cX7_init 58 = .ok (.aload_n 0, 1) := by decide +kernel
theorem dX7_init_59 : decode cX7_init 59 = .ok (.bipush 12, 2) := by decide +kernel
theorem dX7_init_61 : decode cX7_init 61 = .ok (.newarray .int, 2) := by decide +kernel
theorem dX7_init_63 : decode cX7_init 63 = .ok (.putfield 41, 3) := by decide +kernel
theorem dX7_init_66 : decode cX7_init 66 = .ok (.aload_n 0, 1) := by decide +kernel
theorem dX7_init_67 : decode cX7_init 67 = .ok (.bipush 60, 2) := by decide +kernel
theorem dX7_init_69 : decode cX7_init 69 = .ok (.newarray .int, 2) := by decide +kernel
theorem dX7_init_71 : decode cX7_init 71 = .ok (.putfield 44, 3) := by decide +kernel
theorem dX7_init_74 : decode cX7_init 74 = .ok (.aload_n 0, 1) := by decide +kernel
theorem dX7_init_75 : decode cX7_init 75 = .ok (.bipush 60, 2) := by decide +kernel
theorem dX7_init_77 : decode cX7_init 77 = .ok (.newarray .int, 2) := by decide +kernel
theorem dX7_init_79 : decode cX7_init 79 = .ok (.putfield 47, 3) := by decide +kernel
theorem dX7_init_82 : decode cX7_init 82 = .ok (.return_, 1) := by decide +kernel
theorem dX7_clear_0 : decode cX7_clear 0 = .ok (.aload_n 0, 1) := by decide +kernel
theorem dX7_clear_1 : decode cX7_clear 1 = .ok (.iconst 0, 1) := by decide +kernel
theorem dX7_clear_2 : decode cX7_clear 2 = .ok (.putfield 9, 3) := by decide +kernel
theorem dX7_clear_5 : decode cX7_clear 5 = .ok (.aload_n 0, 1) := by decide +kernel
theorem dX7_clear_6 : decode cX7_clear 6 = .ok (.iconst 0, 1) := by decide +kernel
theorem dX7_clear_7 : decode cX7_clear 7 = .ok (.putfield 15, 3) := by decide +kernel
theorem dX7_clear_10 : decode cX7_clear 10 = .ok (.aload_n 0, 1) := by decide +kernel
theorem dX7_clear_11 : decode cX7_clear 11 = .ok (.iconst 0, 1) := by decide +kernel
theorem dX7_clear_12 : decode cX7_clear 12 = .ok (.putfield 18, 3) := by decide +kernel
theorem dX7_clear_15 : decode cX7_clear 15 = .ok (.aload_n 0, 1) := by decide +kernel
theorem dX7_clear_16 : decode cX7_clear 16 = .ok (.iconst 0, 1) := by decide +kernel
theorem dX7_clear_17 : decode cX7_clear 17 = .ok (.putfield 21, 3) := by decide +kernel
theorem dX7_clear_20 : decode cX7_clear 20 = .ok (.aload_n 0, 1) := by decide +kernel
theorem dX7_clear_21 : decode cX7_clear 21 = .ok (.iconst 0, 1) := by decide +kernel
theorem dX7_clear_22 : decode cX7_clear 22 = .ok (.putfield 24, 3) := by decide +kernel
theorem dX7_clear_25 : decode cX7_clear 25 = .ok (.aload_n 0, 1) := by decide +kernel
theorem dX7_clear_26 : decode cX7_clear 26 = .ok (.iconst 0, 1) := by decide +kernel
theorem dX7_clear_27 : decode cX7_clear 27 = .ok (.putfield 27, 3) := by decide +kernel
theorem dX7_clear_30 : decode cX7_clear 30 = .ok (.aload_n 0, 1) := by decide +kernel
theorem dX7_clear_31 : decode cX7_clear 31 = .ok (.getfield 31, 3) := by decide +kernel
theorem dX7_clear_34 : decode cX7_clear 34 = .ok (.iconst 0, 1) := by decide +kernel
theorem dX7_clear_35 : decode cX7_clear 35 = .ok (.invokestatic 50, 3) := by decide +kernel
theorem dX7_clear_38 : decode cX7_clear 38 = .ok (.aload_n 0, 1) := by decide +kernel
theorem dX7_clear_39 : decode cX7_clear 39 = .ok (.getfield 35, 3) := by decide +kernel
theorem dX7_clear_42 : decode cX7_clear 42 = .ok (.iconst 0, 1) := by decide +kernel
theorem dX7_clear_43 : decode cX7_clear 43 = .ok (.invokestatic 50, 3) := by decide +kernel
theorem dX7_clear_46 : decode cX7_clear 46 = .ok (.return_, 1) := by decide +kernel
theorem dX7_copyFrom_0 : decode cX7_copyFrom 0 = .ok (.aload_n 0, 1) := by decide +kernel
theorem dX7_copyFrom_1 : decode cX7_copyFrom 1 = .ok (.aload_n 1, 1) := by decide +kernel
theorem dX7_copyFrom_2 : decode cX7_copyFrom 2 = .ok (.getfield 9, 3) := by decide +kernel
theorem dX7_copyFrom_5 : decode cX7_copyFrom 5 = .ok (.putfield 9, 3) := by decide +kernel
theorem dX7_copyFrom_8 : decode cX7_copyFrom 8 = .ok (.aload_n 0, 1) := by decide +kernel
theorem dX7_copyFrom_9 : decode cX7_copyFrom 9 = .ok (.aload_n 1, 1) := by decide +kernel
theorem dX7_copyFrom_10 : decode cX7_copyFrom 10 = .ok (.getfield 15, 3) := by decide +kernel
theorem dX7_copyFrom_13 : decode cX7_copyFrom 13 = .ok (.putfield 15, 3) := by decide +kernel
theorem dX7_copyFrom_16 : decode cX7_copyFrom 16 = .ok (.aload_n 0, 1) := by decide +kernel
theorem dX7_copyFrom_17 : decode cX7_copyFrom 17 = .ok (.aload_n 1, 1) := by decide +kernel
theorem dX7_copyFrom_18 : decode cX7_copyFrom 18 = .ok (.getfield 18, 3) := by decide +kernel
theorem dX7_copyFrom_21 : decode cX7_copyFrom 21 = .ok (.putfield 18, 3) := by decide +kernel
theorem dX7_copyFrom_24 : decode cX7_copyFrom 24 = .ok (.aload_n 0, 1) := by decide +kernel
theorem dX7_copyFrom_25 : decode cX7_copyFrom 25 = .ok (.aload_n 1, 1) := by decide +kernel
theorem dX7_copyFrom_26 : decode cX7_copyFrom 26 = .ok (.getfield 21, 3) := by decide +kernel
theorem dX7_copyFrom_29 : decode cX7_copyFrom 29 = .ok (.putfield 21, 3) := by decide +kernel
theorem dX7_copyFrom_32 : decode cX7_copyFrom 32 = .ok (.aload_n 0, 1) := by decide +kernel
theorem dX7_copyFrom_33 : decode cX7_copyFrom 33 = .ok (.aload_n 1, 1) := by decide +kernel
theorem dX7_copyFrom_34 : decode cX7_copyFrom 34 = .ok (.getfield 24, 3) := by decide +kernel
theorem dX7_copyFrom_37 : decode cX7_copyFrom 37 = .ok (.putfield 24, 3) := by decide +kernel
theorem dX7_copyFrom_40 : decode cX7_copyFrom 40 = .ok (.aload_n 0, 1) := by decide +kernel
theorem dX7_copyFrom_41 : decode cX7_copyFrom 41 = .ok (.aload_n 1, 1) := by decide +kernel
theorem dX7_copyFrom_42 : decode cX7_copyFrom 42 = .ok (.getfield 27, 3) := by decide +kernel
theorem dX7_copyFrom_45 : decode cX7_copyFrom 45 = .ok (.putfield 27, 3) := by decide +kernel
theorem dX7_copyFrom_48 : decode cX7_copyFrom 48 = .ok (.aload_n 1, 1) := by decide +kernel
theorem dX7_copyFrom_49 : decode cX7_copyFrom 49 = .ok (.getfield 31, 3) := by decide +kernel
theorem dX7_copyFrom_52 : decode cX7_copyFrom 52 = .ok (.aload_n 0, 1) := by decide +kernel
theorem dX7_copyFrom_53 : decode cX7_copyFrom 53 = .ok (.getfield 31, 3) := by decide +kernel
theorem dX7_copyFrom_56 : decode cX7_copyFrom 56 = .ok (.invokestatic 56, 3) := by decide +kernel
theorem dX7_copyFrom_59 : decode cX7_copyFrom 59 = .ok (.aload_n 1, 1) := by decide +kernel
theorem dX7_copyFrom_60 : decode cX7_copyFrom 60 = .ok (.getfield 35, 3) := by decide +kernel
theorem dX7_copyFrom_63 : decode cX7_copyFrom 63 = .ok (.aload_n 0, 1) := by decide +kernel
theorem dX7_copyFrom_64 : decode cX7_copyFrom 64 = .ok (.getfield 35, 3) := by decide +kernel
theorem dX7_copyFrom_67 : decode cX7_copyFrom 67 = .ok (.invokestatic 56, 3) := by decide +kernel
theorem dX7_copyFrom_70 : decode cX7_copyFrom 70 = .ok (.aload_n 1, 1) := by decide +kernel
theorem dX7_copyFrom_71 : decode cX7_copyFrom 71 = .ok (.getfield 38, 3) := by decide +kernel
theorem dX7_copyFrom_74 : decode cX7_copyFrom 74 = .ok (.aload_n 0, 1) := by decide +kernel
theorem dX7_copyFrom_75 : decode cX7_copyFrom 75 = .ok (.getfield 38, 3) := by decide +kernel
theorem dX7_copyFrom_78 : decode cX7_copyFrom 78 = .ok (.invokestatic 56, 3) := by decide +kernel
theorem dX7_copyFrom_81 : decode cX7_copyFrom 81 = .ok (.aload_n 1, 1) := by decide +kernel
theorem dX7_copyFrom_82 : decode cX7_copyFrom 82 = .ok (.getfield 41, 3) := by decide +kernel
theorem dX7_copyFrom_85 : decode cX7_copyFrom 85 = .ok (.aload_n 0, 1) := by decide +kernel
theorem dX7_copyFrom_86 : decode cX7_copyFrom 86 = .ok (.getfield 41, 3) := by decide +kernel
theorem dX7_copyFrom_89 : decode cX7_copyFrom 89 = .ok (.invokestatic 56, 3) := by decide +kernel
theorem dX7_copyFrom_92 : decode cX7_copyFrom 92 = .ok (.aload_n 1, 1) := by decide +kernel
theorem dX7_copyFrom_93 : decode cX7_copyFrom 93 = .ok (.getfield 44, 3) := by decide +kernel
theorem dX7_copyFrom_96 : decode cX7_copyFrom 96 = .ok (.aload_n 0, 1) := by decide +kernel
theorem dX7_copyFrom_97 : decode cX7_copyFrom 97 = .ok (.getfield 44, 3) := by decide +kernel
theorem dX7_copyFrom_100 : decode cX7_copyFrom 100 = .ok (.invokestatic 56, 3) := by decide +kernel
theorem dX7_copyFrom_103 : decode cX7_copyFrom 103 = .ok (.aload_n 1, 1) := by decide +kernel
theorem dX7_copyFrom_104 : decode cX7_copyFrom 104 = .ok (.getfield 47, 3) := by decide +kernel
theorem dX7_copyFrom_107 : decode cX7_copyFrom 107 = .ok (.aload_n 0, 1) := by decide +kernel
theorem dX7_copyFrom_108 : decode cX7_copyFrom 108 = .ok (.getfield 47, 3) := by decide +kernel
theorem dX7_copyFrom_111 : decode cX7_copyFrom 111 = .ok (.invokestatic 56, 3) := by decide +kernel
theorem dX7_copyFrom_114 : decode cX7_copyFrom 114 = .ok (.return_, 1) := by decide +kernel
theorem dX7_changeLifts_0 : decode cX7_changeLifts 0 = .ok (.aload_n 0, 1) := by decide +kernel
theorem dX7_changeLifts_1 : decode cX7_changeLifts 1 = .ok (.getfield 38, 3) := by decide +kernel
theorem dX7_changeLifts_4 : decode cX7_changeLifts 4 = .ok (.iload_n 1, 1) := by decide +kernel
theorem dX7_changeLifts_5 : decode cX7_changeLifts 5 = .ok (.iload_n 2, 1) := by decide +kernel
theorem dX7_changeLifts_6 : decode cX7_changeLifts 6 = .ok (.invokestatic 60, 3) := by decide +kernel
theorem dX7_changeLifts_9 : decode cX7_changeLifts 9 = .ok (.aload_n 0, 1) := by decide +kernel
theorem dX7_changeLifts_10 : decode cX7_changeLifts 10 = .ok (.iconst 1, 1) := by decide +kernel
theorem dX7_changeLifts_11 : decode cX7_changeLifts 11 = .ok (.putfield 27, 3) := by decide +kernel
theorem dX7_changeLifts_14 : decode cX7_changeLifts 14 = .ok (.return_, 1) := by decide +kernel
theorem dX7_punchCard_0 : decode cX7_punchCard 0 = .ok (.aload_n 0, 1) := by decide +kernel
theorem dX7_punchCard_1 : decode cX7_punchCard 1 = .ok (.iload_n 1, 1) := by decide +kernel
theorem dX7_punchCard_2 : decode cX7_punchCard 2 = .ok (.aload_n 0, 1) := by decide +kernel
theorem dX7_punchCard_3 : decode cX7_punchCard 3 = .ok (.getfield 38, 3) := by decide +kernel
theorem dX7_punchCard_6 : decode cX7_punchCard 6 = .ok (.iload_n 1, 1) := by decide +kernel
theorem dX7_punchCard_7 : decode cX7_punchCard 7 = .ok (.invokestatic 64, 3) := by decide +kernel
theorem dX7_punchCard_10 : decode cX7_punchCard 10 = .ok (.iconst 1, 1) := by decide +kernel
theorem dX7_punchCard_11 : decode cX7_punchCard 11 = .ok (.iload_n 2, 1) := by decide +kernel
theorem dX7_punchCard_12 : decode cX7_punchCard 12 = .ok (.ishl, 1) := by decide +kernel
theorem dX7_punchCard_13 : decode cX7_punchCard 13 = .ok (.ixor, 1) := by decide +kernel
theorem dX7_punchCard_14 : decode cX7_punchCard 14 = .ok (.invokevirtual 68, 3) := by decide +kernel
theorem dX7_punchCard_17 : decode cX7_punchCard 17 = .ok (.return_, 1) := by decide +kernel
theorem dX7_changeColour_0 : decode cX7_changeColour 0 = .ok (.aload_n 0, 1) := by decide +kernel
theorem dX7_changeColour_1 : decode cX7_changeColour 1 = .ok (.getfield 41, 3) := by decide +kernel
theorem dX7_changeColour_4 : decode cX7_changeColour 4 = .ok (.iload_n 1, 1) := by decide +kernel
theorem dX7_changeColour_5 : decode cX7_changeColour 5 = .ok (.iload_n 2, 1) := by decide +kernel
theorem dX7_changeColour_6 : decode cX7_changeColour 6 = .ok (.invokestatic 60, 3) := by decide +kernel
theorem dX7_changeColour_9 : decode cX7_changeColour 9 = .ok (.aload_n 0, 1) := by decide +kernel
theorem dX7_changeColour_10 : decode cX7_changeColour 10 = .ok (.iconst 1, 1) := by decide +kernel
theorem dX7_changeColour_11 : decode cX7_changeColour 11 = .ok (.putfield 27, 3) := by decide +kernel
theorem dX7_changeColour_14 : decode cX7_changeColour 14 = .ok (.return_, 1) := by decide +kernel
theorem dX7_exchangeCards_0 : decode cX7_exchangeCards 0 = .ok (.aload_n 0, 1) := by decide +kernel
theorem dX7_exchangeCards_1 : decode cX7_exchangeCards 1 = .ok (.getfield 38, 3) := by decide +kernel
theorem dX7_exchangeCards_4 : decode cX7_exchangeCards 4 = .ok (.iload_n 1, 1) := by decide +kernel
theorem dX7_exchangeCards_5 : decode cX7_exchangeCards 5 = .ok (.invokestatic 64, 3) := by decide +kernel
theorem dX7_exchangeCards_8 : decode cX7_exchangeCards 8 = .ok (.istore_n 3, 1) := by decide +kernel
theorem dX7_exchangeCards_9 : decode cX7_exchangeCards 9 = .ok (.aload_n 0, 1) := by decide +kernel
theorem dX7_exchangeCards_10 : decode cX7_exchangeCards 10 = .ok (.getfield 41, 3) := by decide +kernel
theorem dX7_exchangeCards_13 : decode cX7_exchangeCards 13 = .ok (.iload_n 1, 1) := by decide +kernel
theorem dX7_exchangeCards_14 : decode cX7_exchangeCards 14 = .ok (.invokestatic 64, 3) := by decide +kernel
theorem dX7_exchangeCards_17 : decode cX7_exchangeCards 17 = .ok (.istore 4, 2) := by decide +kernel
theorem dX7_exchangeCards_19 : decode cX7_exchangeCards 19 = .ok (.aload_n 0, 1) := by decide +kernel
theorem dX7_exchangeCards_20 : decode cX7_exchangeCards 20 = .ok (.iload_n 1, 1) := by decide +kernel
theorem dX7_exchangeCards_21 : decode cX7_exchangeCards 21 = .ok (.aload_n 0, 1) := by decide +kernel
theorem dX7_exchangeCards_22 : decode cX7_exchangeCards 22 = .ok (.getfield 38, 3) := by decide +kernel
theorem dX7_exchangeCards_25 : decode cX7_exchangeCards 25 = .ok (.iload_n 2, 1) := by decide +kernel
theorem dX7_exchangeCards_26 : decode cX7_exchangeCards 26 = .ok (.invokestatic 64, 3) := by decide +kernel
theorem dX7_exchangeCards_29 : decode cX7_exchangeCards 29 = .ok (.invokevirtual 68, 3) := by decide +kernel
theorem dX7_exchangeCards_32 : decode cX7_exchangeCards 32 = .ok (.aload_n 0, 1) := by decide +kernel
theorem dX7_exchangeCards_33 : decode cX7_exchangeCards 33 = .ok (.iload_n 1, 1) := by decide +kernel
theorem dX7_exchangeCards_34 : decode cX7_exchangeCards 34 = .ok (.aload_n 0, 1) := by decide +kernel
theorem dX7_exchangeCards_35 : decode cX7_exchangeCards 35 = .ok (.getfield 41, 3) := by decide +kernel
theorem dX7_exchangeCards_38 : decode cX7_exchangeCards 38 = .ok (.iload_n 2, 1) := by decide +kernel
theorem dX7_exchangeCards_39 : decode cX7_exchangeCards 39 = .ok (.invokestatic 64, 3) := by decide +kernel
theorem dX7_exchangeCards_42 : decode cX7_exchangeCards 42 = .ok (.invokevirtual 72, 3) := by decide +kernel
theorem dX7_exchangeCards_45 : decode cX7_exchangeCards 45 = .ok (.aload_n 0, 1) := by decide +kernel
theorem dX7_exchangeCards_46 : decode cX7_exchangeCards 46 = .ok (.iload_n 2, 1) := by decide +kernel
theorem dX7_exchangeCards_47 : decode cX7_exchangeCards 47 = .ok (.iload_n 3, 1) := by decide +kernel
theorem dX7_exchangeCards_48 : decode cX7_exchangeCards 48 = .ok (.invokevirtual 68, 3) := by decide +kernel
theorem dX7_exchangeCards_51 : decode cX7_exchangeCards 51 = .ok (.aload_n 0, 1) := by decide +kernel
theorem dX7_exchangeCards_52 : decode cX7_exchangeCards 52 = .ok (.iload_n 2, 1) := by decide +kernel
theorem dX7_exchangeCards_53 : decode cX7_exchangeCards 53 = .ok (.iload 4, 2) := by decide +kernel
theorem dX7_exchangeCards_55 : decode cX7_exchangeCards 55 = .ok (.invokevirtual 72, 3) := by decide +kernel
theorem dX7_exchangeCards_58 : decode cX7_exchangeCards 58 = .ok (.return_, 1) := by decide +kernel
theorem dX7_addYarn_0 : decode cX7_addYarn 0 = .ok (.aload_n 0, 1) := by decide +kernel
theorem dX7_addYarn_1 : decode cX7_addYarn 1 = .ok (.getfield 35, 3) := by decide +kernel
theorem dX7_addYarn_4 : decode cX7_addYarn 4 = .ok (.iload_n 1, 1) := by decide +kernel
theorem dX7_addYarn_5 : decode cX7_addYarn 5 = .ok (.aload_n 0, 1) := by decide +kernel
theorem dX7_addYarn_6 : decode cX7_addYarn 6 = .ok (.getfield 35, 3) := by decide +kernel
theorem dX7_addYarn_9 : decode cX7_addYarn 9 = .ok (.iload_n 1, 1) := by decide +kernel
theorem dX7_addYarn_10 : decode cX7_addYarn 10 = .ok (.invokestatic 64, 3) := by decide +kernel
theorem dX7_addYarn_13 : decode cX7_addYarn 13 = .ok (.iload_n 2, 1) := by decide +kernel
theorem dX7_addYarn_14 : decode cX7_addYarn 14 = .ok (.iadd, 1) := by decide +kernel
theorem dX7_addYarn_15 : decode cX7_addYarn 15 = .ok (.invokestatic 60, 3) := by decide +kernel
theorem dX7_addYarn_18 : decode cX7_addYarn 18 = .ok (.return_, 1) := by decide +kernel
theorem dX7_bring_0 : decode cX7_bring 0 = .ok (.aload_n 0, 1) := by decide +kernel
theorem dX7_bring_1 : decode cX7_bring 1 = .ok (.iload_n 1, 1) := by decide +kernel
theorem dX7_bring_2 : decode cX7_bring 2 = .ok (.iload_n 2, 1) := by decide +kernel
theorem dX7_bring_3 : decode cX7_bring 3 = .ok (.invokevirtual 75, 3) := by decide +kernel
theorem dX7_bring_6 : decode cX7_bring 6 = .ok (.aload_n 0, 1) := by decide +kernel
theorem dX7_bring_7 : decode cX7_bring 7 = .ok (.dup, 1) := by decide +kernel
theorem dX7_bring_8 : decode cX7_bring 8 = .ok (.getfield 24, 3) := by decide +kernel
theorem dX7_bring_11 : decode cX7_bring 11 = .ok (.iload_n 2, 1) := by decide +kernel
theorem dX7_bring_12 : decode cX7_bring 12 = .ok (.iadd, 1) := by decide +kernel
theorem dX7_bring_13 : decode cX7_bring 13 = .ok (.putfield 24, 3) := by decide +kernel
theorem dX7_bring_16 : decode cX7_bring 16 = .ok (.return_, 1) := by decide +kernel
theorem dX7_yarnOfAllColours_0 : decode cX7_yarnOfAllColours 0 = .ok (.iconst 0, 1) := by decide +kernel
theorem dX7_yarnOfAllColours_1 : decode cX7_yarnOfAllColours 1 = .ok (.istore_n 1, 1) := by decide +kernel
theorem dX7_yarnOfAllColours_2 : decode cX7_yarnOfAllColours 2 = .ok (.iconst 0, 1) := by decide +kernel
theorem dX7_yarnOfAllColours_3 : decode cX7_yarnOfAllColours 3 = .ok (.istore_n 2, 1) := by decide +kernel
theorem dX7_yarnOfAllColours_4 : decode cX7_yarnOfAllColours 4 = .ok (.iload_n 2, 1) := by decide +kernel
theorem dX7_yarnOfAllColours_5 : decode cX7_yarnOfAllColours 5 = .ok (.bipush 6, 2) := by decide +kernel
theorem dX7_yarnOfAllColours_7 : decode cX7_yarnOfAllColours 7 = .ok (.if_icmp .ge 20, 3) := by decide +kernel
theorem dX7_yarnOfAllColours_10 : decode cX7_yarnOfAllColours 10 = .ok (.iload_n 1, 1) := by decide +kernel
theorem dX7_yarnOfAllColours_11 : decode cX7_yarnOfAllColours 11 = .ok (.aload_n 0, 1) := by decide +kernel
theorem dX7_yarnOfAllColours_12 : decode cX7_yarnOfAllColours 12 = .ok (.getfield 35, 3) := by decide +kernel
theorem dX7_yarnOfAllColours_15 : decode cX7_yarnOfAllColours 15 = .ok (.iload_n 2, 1) := by decide +kernel
theorem dX7_yarnOfAllColours_16 : decode cX7_yarnOfAllColours 16 = .ok (.invokestatic 64, 3) := by decide +kernel
theorem dX7_yarnOfAllColours_19 : decode cX7_yarnOfAllColours 19 = .ok (.iadd, 1) := by decide +kernel
theorem dX7_yarnOfAllColours_20 : decode cX7_yarnOfAllColours 20 = .ok (.istore_n 1, 1) := by decide +kernel
theorem dX7_yarnOfAllColours_21 : decode cX7_yarnOfAllColours 21 = .ok (.iinc 2 1, 3) := by decide +kernel
theorem dX7_yarnOfAllColours_24 : decode cX7_yarnOfAllColours 24 = .ok (.goto (-20), 3) := by decide +kernel
theorem dX7_yarnOfAllColours_27 : decode cX7_yarnOfAllColours 27 = .ok (.iload_n 1, 1) := by decide +kernel
theorem dX7_yarnOfAllColours_28 : decode cX7_yarnOfAllColours 28 = .ok (.ireturn, 1) := by decide +kernel
theorem dX7_oilHarness_0 : decode cX7_oilHarness 0 = .ok (.aload_n 0, 1) := by decide +kernel
theorem dX7_oilHarness_1 : decode cX7_oilHarness 1 = .ok (.getfield 31, 3) := by decide +kernel
theorem dX7_oilHarness_4 : decode cX7_oilHarness 4 = .ok (.iload_n 1, 1) := by decide +kernel
theorem dX7_oilHarness_5 : decode cX7_oilHarness 5 = .ok (.iconst 0, 1) := by decide +kernel
theorem dX7_oilHarness_6 : decode cX7_oilHarness 6 = .ok (.invokestatic 60, 3) := by decide +kernel
theorem dX7_oilHarness_9 : decode cX7_oilHarness 9 = .ok (.aload_n 0, 1) := by decide +kernel
theorem dX7_oilHarness_10 : decode cX7_oilHarness 10 = .ok (.dup, 1) := by decide +kernel
theorem dX7_oilHarness_11 : decode cX7_oilHarness 11 = .ok (.getfield 15, 3) := by decide +kernel
theorem dX7_oilHarness_14 : decode cX7_oilHarness 14 = .ok (.iconst 1, 1) := by decide +kernel
theorem dX7_oilHarness_15 : decode cX7_oilHarness 15 = .ok (.iload_n 1, 1) := by decide +kernel
theorem dX7_oilHarness_16 : decode cX7_oilHarness 16 = .ok (.ishl, 1) := by decide +kernel
theorem dX7_oilHarness_17 : decode cX7_oilHarness 17 = .ok (.iconst (-1), 1) := by decide +kernel
theorem dX7_oilHarness_18 : decode cX7_oilHarness 18 = .ok (.ixor, 1) := by decide +kernel
theorem dX7_oilHarness_19 : decode cX7_oilHarness 19 = .ok (.iand, 1) := by decide +kernel
theorem dX7_oilHarness_20 : decode cX7_oilHarness 20 = .ok (.putfield 15, 3) := by decide +kernel
theorem dX7_oilHarness_23 : decode cX7_oilHarness 23 = .ok (.return_, 1) := by decide +kernel
theorem dX7_mendWarp_0 : decode cX7_mendWarp 0 = .ok (.aload_n 0, 1) := by decide +kernel
theorem dX7_mendWarp_1 : decode cX7_mendWarp 1 = .ok (.dup, 1) := by decide +kernel
theorem dX7_mendWarp_2 : decode cX7_mendWarp 2 = .ok (.getfield 18, 3) := by decide +kernel
theorem dX7_mendWarp_5 : decode cX7_mendWarp 5 = .ok (.iconst 1, 1) := by decide +kernel
theorem dX7_mendWarp_6 : decode cX7_mendWarp 6 = .ok (.iload_n 1, 1) := by decide +kernel
theorem dX7_mendWarp_7 : decode cX7_mendWarp 7 = .ok (.ishl, 1) := by decide +kernel
theorem dX7_mendWarp_8 : decode cX7_mendWarp 8 = .ok (.iconst (-1), 1) := by decide +kernel
theorem dX7_mendWarp_9 : decode cX7_mendWarp 9 = .ok (.ixor, 1) := by decide +kernel
theorem dX7_mendWarp_10 : decode cX7_mendWarp 10 = .ok (.iand, 1) := by decide +kernel
theorem dX7_mendWarp_11 : decode cX7_mendWarp 11 = .ok (.putfield 18, 3) := by decide +kernel
theorem dX7_mendWarp_14 : decode cX7_mendWarp 14 = .ok (.return_, 1) := by decide +kernel
theorem dX7_addRow_0 : decode cX7_addRow 0 = .ok (.aload_n 0, 1) := by decide +kernel
theorem dX7_addRow_1 : decode cX7_addRow 1 = .ok (.getfield 44, 3) := by decide +kernel
theorem dX7_addRow_4 : decode cX7_addRow 4 = .ok (.aload_n 0, 1) := by decide +kernel
theorem dX7_addRow_5 : decode cX7_addRow 5 = .ok (.getfield 21, 3) := by decide +kernel
theorem dX7_addRow_8 : decode cX7_addRow 8 = .ok (.iload_n 1, 1) := by decide +kernel
theorem dX7_addRow_9 : decode cX7_addRow 9 = .ok (.invokestatic 60, 3) := by decide +kernel
theorem dX7_addRow_12 : decode cX7_addRow 12 = .ok (.aload_n 0, 1) := by decide +kernel
theorem dX7_addRow_13 : decode cX7_addRow 13 = .ok (.getfield 47, 3) := by decide +kernel
theorem dX7_addRow_16 : decode cX7_addRow 16 = .ok (.aload_n 0, 1) := by decide +kernel
theorem dX7_addRow_17 : decode cX7_addRow 17 = .ok (.getfield 21, 3) := by decide +kernel
theorem dX7_addRow_20 : decode cX7_addRow 20 = .ok (.iload_n 2, 1) := by decide +kernel
theorem dX7_addRow_21 : decode cX7_addRow 21 = .ok (.invokestatic 60, 3) := by decide +kernel
theorem dX7_addRow_24 : decode cX7_addRow 24 = .ok (.aload_n 0, 1) := by decide +kernel
theorem dX7_addRow_25 : decode cX7_addRow 25 = .ok (.dup, 1) := by decide +kernel
theorem dX7_addRow_26 : decode cX7_addRow 26 = .ok (.getfield 21, 3) := by decide +kernel
theorem dX7_addRow_29 : decode cX7_addRow 29 = .ok (.iconst 1, 1) := by decide +kernel
theorem dX7_addRow_30 : decode cX7_addRow 30 = .ok (.iadd, 1) := by decide +kernel
theorem dX7_addRow_31 : decode cX7_addRow 31 = .ok (.putfield 21, 3) := by decide +kernel
theorem dX7_addRow_34 : decode cX7_addRow 34 = .ok (.return_, 1) := by decide +kernel
theorem dX8_init_0 : decode cX8_init 0 = .ok (.aload_n 0, 1) := by decide +kernel
theorem dX8_init_1 : decode cX8_init 1 = .ok (.invokespecial 1, 3) := by decide +kernel
theorem dX8_init_4 : decode cX8_init 4 = .ok (.aload_n 0, 1) := by decide +kernel
theorem dX8_init_5 : decode cX8_init 5 = .ok (.new 7, 3) := by decide +kernel
theorem dX8_init_8 : decode cX8_init 8 = .ok (.dup, 1) := by decide +kernel
theorem dX8_init_9 : decode cX8_init 9 = .ok (.invokespecial 9, 3) := by decide +kernel
theorem dX8_init_12 : decode cX8_init 12 = .ok (.putfield 10, 3) := by decide +kernel
theorem dX8_init_15 : decode cX8_init 15 = .ok (.aload_n 0, 1) := by decide +kernel
theorem dX8_init_16 : decode cX8_init 16 = .ok (.new 16, 3) := by decide +kernel
theorem dX8_init_19 : decode cX8_init 19 = .ok (.dup, 1) := by decide +kernel
theorem dX8_init_20 : decode cX8_init 20 = .ok (.invokespecial 18, 3) := by decide +kernel
theorem dX8_init_23 : decode cX8_init 23 = .ok (.putfield 19, 3) := by decide +kernel
theorem dX8_init_26 : decode cX8_init 26 = .ok (.aload_n 0, 1) := by decide +kernel
theorem dX8_init_27 : decode cX8_init 27 = .ok (.new 23, 3) := by decide +kernel
theorem dX8_init_30 : decode cX8_init 30 = .ok (.dup, 1) := by decide +kernel
theorem dX8_init_31 : decode cX8_init 31 = .ok (.invokespecial 25, 3) := by decide +kernel
theorem dX8_init_34 : decode cX8_init 34 = .ok (.putfield 26, 3) := by decide +kernel
theorem dX8_init_37 : decode cX8_init 37 = .ok (.aload_n 0, 1) := by decide +kernel
theorem dX8_init_38 : decode cX8_init 38 = .ok (.new 30, 3) := by decide +kernel
theorem dX8_init_41 : decode cX8_init 41 = .ok (.dup, 1) := by decide +kernel
theorem dX8_init_42 : decode cX8_init 42 = .ok (.invokespecial 32, 3) := by decide +kernel
theorem dX8_init_45 : decode cX8_init 45 = .ok (.putfield 33, 3) := by decide +kernel
theorem dX8_init_48 : decode cX8_init 48 = .ok (.aload_n 0, 1) := by decide +kernel
theorem dX8_init_49 : decode cX8_init 49 = .ok (.new 30, 3) := by decide +kernel
theorem dX8_init_52 : decode cX8_init 52 = .ok (.dup, 1) := by decide +kernel
theorem dX8_init_53 : decode cX8_init 53 = .ok (.invokespecial 32, 3) := by decide +kernel
theorem dX8_init_56 : decode cX8_init 56 = .ok (.putfield 37, 3) := by decide +kernel
theorem dX8_init_59 : decode cX8_init 59 = .ok (.aload_n 0, 1) := by decide +kernel
theorem dX8_init_60 : decode cX8_init 60 = .ok (.new 40, 3) := by decide +kernel
theorem dX8_init_63 : decode cX8_init 63 = .ok (.dup, 1) := by decide +kernel
theorem dX8_init_64 : decode cX8_init 64 = .ok (.invokespecial 42, 3) := by decide +kernel
theorem dX8_init_67 : decode cX8_init 67 = .ok (.putfield 43, 3) := by decide +kernel
theorem dX8_init_70 : decode cX8_init 70 = .ok (.aload_n 0, 1) := by decide +kernel
theorem dX8_init_71 : decode cX8_init 71 = .ok (.iconst 0, 1) := by decide +kernel
theorem dX8_init_72 : decode cX8_init 72 = .ok (.putfield 47, 3) := by decide +kernel
theorem dX8_init_75 : decode cX8_init 75 = .ok (.return_, 1) := by decide +kernel
theorem dX8_append_0 : decode cX8_append 0 = .ok (.aload_n 0, 1) := by decide +kernel
theorem dX8_append_1 : decode cX8_append 1 = .ok (.getfield 10, 3) := by decide +kernel
theorem dX8_append_4 : decode cX8_append 4 = .ok (.getfield 51, 3) := by decide +kernel
theorem dX8_append_7 : decode cX8_append 7 = .ok (.astore 6, 2) := by decide +kernel
theorem dX8_append_9 : decode cX8_append 9 = .ok (.aload 6, 2) := by decide +kernel
theorem dX8_append_11 : decode cX8_append 11 = .ok (.getfield 55, 3) := by decide +kernel
theorem dX8_append_14 : decode cX8_append 14 = .ok (.sipush 480, 3) := by decide +kernel
theorem dX8_append_17 : decode cX8_append 17 = .ok (.if_icmp .le 5, 3) := by decide +kernel
theorem dX8_append_20 : decode cX8_append 20 = .ok (.iconst (-1), 1) := by decide +kernel
theorem dX8_append_21 : decode cX8_append 21 = .ok (.ireturn, 1) := by decide +kernel
theorem dX8_append_22 : decode cX8_append 22 = .ok (.aload 6, 2) := by decide +kernel
theorem dX8_append_24 : decode cX8_append 24 = .ok (.iload_n 1, 1) := by decide +kernel
theorem dX8_append_25 : decode cX8_append 25 = .ok (.invokevirtual 61, 3) := by decide +kernel
theorem dX8_append_28 : decode cX8_append 28 = .ok (.aload 6, 2) := by decide +kernel
theorem dX8_append_30 : decode cX8_append 30 = .ok (.iload_n 2, 1) := by decide +kernel
theorem dX8_append_31 : decode cX8_append 31 = .ok (.invokevirtual 61, 3) := by decide +kernel
theorem dX8_append_34 : decode cX8_append 34 = .ok (.aload 6, 2) := by decide +kernel
theorem dX8_append_36 : decode cX8_append 36 = .ok (.iload_n 3, 1) := by decide +kernel
theorem dX8_append_37 : decode cX8_append 37 = .ok (.invokevirtual 61, 3) := by decide +kernel
theorem dX8_append_40 : decode cX8_append 40 = .ok (.aload 6, 2) := by decide +kernel
theorem dX8_append_42 : decode cX8_append 42 = .ok (.iload 4, 2) := by decide +kernel
theorem dX8_append_44 : decode cX8_append 44 = .ok (.invokevirtual 61, 3) := by decide +kernel
theorem dX8_append_47 : decode cX8_append 47 = .ok (.aload 6, 2) := by decide +kernel
theorem dX8_append_49 : decode cX8_append 49 = .ok (.iload 5, 2) := by decide +kernel
theorem dX8_append_51 : decode cX8_append 51 = .ok (.invokevirtual 61, 3) := by decide +kernel
theorem dX8_append_54 : decode cX8_append 54 = .ok (.aload 6, 2) := by decide +kernel
theorem dX8_append_56 : decode cX8_append 56 = .ok (.getfield 55, 3) := by decide +kernel
theorem dX8_append_59 : decode cX8_append 59 = .ok (.ireturn, 1) := by decide +kernel
theorem dX8_parseSetup_0 : decode cX8_parseSetup 0 = .ok (.iload_n 1, 1) := by decide +kernel
theorem dX8_parseSetup_1 : decode cX8_parseSetup 1 = .ok (.ifCond .lt 17, 3) := by decide +kernel
theorem dX8_parseSetup_4 : decode cX8_parseSetup 4 = .ok (.iload_n 1, 1) := by decide +kernel
theorem dX8_parseSetup_5 : decode cX8_parseSetup 5 = .ok (.aload_n 0, 1) := by decide +kernel
theorem dX8_parseSetup_6 : decode cX8_parseSetup 6 = .ok (.getfield 10, 3) := by decide +kernel
theorem dX8_parseSetup_9 : decode cX8_parseSetup 9 = .ok (.getfield 51, 3) := by decide +kernel
theorem dX8_parseSetup_12 : decode cX8_parseSetup 12 = .ok (.getfield 55, 3) := by decide +kernel
theorem dX8_parseSetup_15 : decode cX8_parseSetup 15 = .ok (.if_icmp .le 13, 3) := by decide +kernel
theorem dX8_parseSetup_18 : decode cX8_parseSetup 18 = .ok (.new 65, 3) := by decide +kernel
theorem dX8_parseSetup_21 : decode cX8_parseSetup 21 = .ok (.dup, 1) := by decide +kernel
theorem dX8_parseSetup_22 : decode cX8_parseSetup 22 = .ok (.ldc 67, 2) := by decide +kernel
theorem dX8_parseSetup_24 : decode cX8_parseSetup 24 = .ok (.invokespecial 69, 3) := by decide +kernel
theorem dX8_parseSetup_27 : decode cX8_parseSetup 27 = .ok (.athrow, 1) := by decide +kernel
theorem dX8_parseSetup_28 : decode cX8_parseSetup 28 = .ok (.aload_n 0, 1) := by decide +kernel
theorem dX8_parseSetup_29 : decode cX8_parseSetup 29 = .ok (.getfield 10, 3) := by decide +kernel
theorem dX8_parseSetup_32 : decode cX8_parseSetup 32 = .ok (.iload_n 1, 1) := by decide +kernel
theorem dX8_parseSetup_33 : decode cX8_parseSetup 33 = .ok (.invokevirtual 72, 3) := by decide +kernel
theorem dX8_parseSetup_36 : decode cX8_parseSetup 36 = .ok (.ifCond .ne 13, 3) := by decide +kernel
theorem dX8_parseSetup_39 : decode cX8_parseSetup 39 = .ok (.new 76, 3) := by decide +kernel
theorem dX8_parseSetup_42 : decode cX8_parseSetup 42 = .ok (.dup, 1) := by decide +kernel
theorem dX8_parseSetup_43 : decode cX8_parseSetup 43 = .ok (.ldc 78, 2) := by decide +kernel
theorem dX8_parseSetup_45 : decode cX8_parseSetup 45 = .ok (.invokespecial 80, 3) := by decide +kernel
theorem dX8_parseSetup_48 : decode cX8_parseSetup 48 = .ok (.athrow, 1) := by decide +kernel
theorem dX8_parseSetup_49 : decode cX8_parseSetup 49 = .ok (.aload_n 0, 1) := by decide +kernel
theorem dX8_parseSetup_50 : decode cX8_parseSetup 50 = .ok (.getfield 10, 3) := by decide +kernel
theorem dX8_parseSetup_53 : decode cX8_parseSetup 53 = .ok (.getfield 81, 3) := by decide +kernel
theorem dX8_parseSetup_56 : decode cX8_parseSetup 56 = .ok (.astore_n 2, 1) := by decide +kernel
theorem dX8_parseSetup_57 : decode cX8_parseSetup 57 = .ok (.aload_n 0, 1) := by decide +kernel
theorem dX8_parseSetup_58 : decode cX8_parseSetup 58 = .ok (.getfield 10, 3) := by decide +kernel
theorem dX8_parseSetup_61 : decode cX8_parseSetup 61 = .ok (.aload_n 0, 1) := by decide +kernel
theorem dX8_parseSetup_62 : decode cX8_parseSetup 62 = .ok (.getfield 43, 3) := by decide +kernel
theorem dX8_parseSetup_65 : decode cX8_parseSetup 65 = .ok (.putfield 81, 3) := by decide +kernel
theorem dX8_parseSetup_68 : decode cX8_parseSetup 68 = .ok (.aload_n 0, 1) := by decide +kernel
theorem dX8_parseSetup_69 : decode cX8_parseSetup 69 = .ok (.aload_n 2, 1) := by decide +kernel
theorem dX8_parseSetup_70 : decode cX8_parseSetup 70 = .ok (.putfield 43, 3) := by decide +kernel
theorem dX8_parseSetup_73 : decode cX8_parseSetup 73 = .ok (.aload_n 0, 1) := by decide +kernel
theorem dX8_parseSetup_74 : decode cX8_parseSetup 74 = .ok (.iconst 1, 1) := by decide +kernel
theorem dX8_parseSetup_75 : decode cX8_parseSetup 75 = .ok (.putfield 47, 3) := by decide +kernel
theorem dX8_parseSetup_78 : decode cX8_parseSetup 78 = .ok (.aload_n 0, 1) := by decide +kernel
theorem dX8_parseSetup_79 : decode cX8_parseSetup 79 = .ok (.getfield 26, 3) := by decide +kernel
theorem dX8_parseSetup_82 : decode cX8_parseSetup 82 = .ok (.invokevirtual 82, 3) := by decide +kernel
theorem dX8_parseSetup_85 : decode cX8_parseSetup 85 = .ok (.aload_n 0, 1) := by decide +kernel
theorem dX8_parseSetup_86 : decode cX8_parseSetup 86 = .ok (.getfield 33, 3) := by decide +kernel
theorem dX8_parseSetup_89 : decode cX8_parseSetup 89 = .ok (.iconst 0, 1) := by decide +kernel
theorem dX8_parseSetup_90 : decode cX8_parseSetup 90 = .ok (.putfield 85, 3) := by decide +kernel
theorem dX8_parseSetup_93 : decode cX8_parseSetup 93 = .ok (.aload_n 0, 1) := by decide +kernel
theorem dX8_parseSetup_94 : decode cX8_parseSetup 94 = .ok (.getfield 37, 3) := by decide +kernel
theorem dX8_parseSetup_97 : decode cX8_parseSetup 97 = .ok (.iconst 0, 1) := by decide +kernel
theorem dX8_parseSetup_98 : decode cX8_parseSetup 98 = .ok (.putfield 85, 3) := by decide +kernel
theorem dX8_parseSetup_101 : decode cX8_parseSetup 101 = .ok (.aload_n 0, 1) := by decide +kernel
theorem dX8_parseSetup_102 : decode cX8_parseSetup 102 = .ok (.getfield 43, 3) := by decide +kernel
theorem dX8_parseSetup_105 : decode cX8_parseSetup 105 = .ok (.getfield 88, 3) := by decide +kernel
theorem dX8_parseSetup_108 : decode cX8_parseSetup 108 = .ok (.getfield 92, 3) := by decide +kernel
theorem dX8_parseSetup_111 : decode cX8_parseSetup 111 = .ok (.ireturn, 1) := by decide +kernel
theorem dX8_parseErrorCode_0 : decode cX8_parseErrorCode 0 = .ok (.aload_n 0, 1) := by decide +kernel
theorem dX8_parseErrorCode_1 : decode cX8_parseErrorCode 1 = .ok (.getfield 10, 3) := by decide +kernel
theorem dX8_parseErrorCode_4 : decode cX8_parseErrorCode 4 = .ok (.getfield 97, 3) := by decide +kernel
theorem dX8_parseErrorCode_7 : decode cX8_parseErrorCode 7 = .ok (.ireturn, 1) := by decide +kernel
theorem dX8_parseErrorPosition_0 : decode cX8_parseErrorPosition 0 = .ok (.aload_n 0, 1) := by decide +kernel
theorem dX8_parseErrorPosition_1 : decode cX8_parseErrorPosition 1 = .ok (.getfield 10, 3) := by decide +kernel
theorem dX8_parseErrorPosition_4 : decode cX8_parseErrorPosition 4 = .ok (.getfield 100, 3) := by decide +kernel
theorem dX8_parseErrorPosition_7 : decode cX8_parseErrorPosition 7 = .ok (.ireturn, 1) := by decide +kernel
theorem dX8_bufferLength_0 : decode cX8_bufferLength 0 = .ok (.aload_n 0, 1) := by decide +kernel
theorem dX8_bufferLength_1 : decode cX8_bufferLength 1 = .ok (.getfield 10, 3) := by decide +kernel
theorem dX8_bufferLength_4 : decode cX8_bufferLength 4 = .ok (.getfield 51, 3) := by decide +kernel
theorem dX8_bufferLength_7 : decode cX8_bufferLength 7 = .ok (.getfield 55, 3) := by decide +kernel
theorem dX8_bufferLength_10 : decode cX8_bufferLength 10 = .ok (.ireturn, 1) := by decide +kernel
theorem dX8_harnessCount_0 : decode cX8_harnessCount 0 = .ok (.aload_n 0, 1) := by decide +kernel
theorem dX8_harnessCount_1 : decode cX8_harnessCount 1 = .ok (.invokevirtual 103, 3) := by decide +kernel
theorem dX8_harnessCount_4 : decode cX8_harnessCount 4 = .ok (.aload_n 0, 1) := by decide +kernel
theorem dX8_harnessCount_5 : decode cX8_harnessCount 5 = .ok (.getfield 43, 3) := by decide +kernel
theorem dX8_harnessCount_8 : decode cX8_harnessCount 8 = .ok (.getfield 106, 3) := by decide +kernel
theorem dX8_harnessCount_11 : decode cX8_harnessCount 11 = .ok (.ireturn, 1) := by decide +kernel
theorem dX8_warpCount_0 : decode cX8_warpCount 0 = .ok (.aload_n 0, 1) := by decide +kernel
theorem dX8_warpCount_1 : decode cX8_warpCount 1 = .ok (.invokevirtual 103, 3) := by decide +kernel
theorem dX8_warpCount_4 : decode cX8_warpCount 4 = .ok (.aload_n 0, 1) := by decide +kernel
theorem dX8_warpCount_5 : decode cX8_warpCount 5 = .ok (.getfield 43, 3) := by decide +kernel
theorem dX8_warpCount_8 : decode cX8_warpCount 8 = .ok (.getfield 109, 3) := by decide +kernel
theorem dX8_warpCount_11 : decode cX8_warpCount 11 = .ok (.ireturn, 1) := by decide +kernel
theorem dX8_warpHarness_0 : decode cX8_warpHarness 0 = .ok (.aload_n 0, 1) := by decide +kernel
theorem dX8_warpHarness_1 : decode cX8_warpHarness 1 = .ok (.iload_n 1, 1) := by decide +kernel
theorem dX8_warpHarness_2 : decode cX8_warpHarness 2 = .ok (.invokevirtual 112, 3) := by decide +kernel
theorem dX8_warpHarness_5 : decode cX8_warpHarness 5 = .ok (.aload_n 0, 1) := by decide +kernel
theorem dX8_warpHarness_6 : decode cX8_warpHarness 6 = .ok (.getfield 43, 3) := by decide +kernel
theorem dX8_warpHarness_9 : decode cX8_warpHarness 9 = .ok (.getfield 115, 3) := by decide +kernel
theorem dX8_warpHarness_12 : decode cX8_warpHarness 12 = .ok (.iload_n 1, 1) := by decide +kernel
theorem dX8_warpHarness_13 : decode cX8_warpHarness 13 = .ok (.invokestatic 119, 3) := by decide +kernel
theorem dX8_warpHarness_16 : decode cX8_warpHarness 16 = .ok (.ireturn, 1) := by decide +kernel
theorem dX8_warpColour_0 : decode cX8_warpColour 0 = .ok (.aload_n 0, 1) := by decide +kernel
theorem dX8_warpColour_1 : decode cX8_warpColour 1 = .ok (.iload_n 1, 1) := by decide +kernel
theorem dX8_warpColour_2 : decode cX8_warpColour 2 = .ok (.invokevirtual 112, 3) := by decide +kernel
theorem dX8_warpColour_5 : decode cX8_warpColour 5 = .ok (.aload_n 0, 1) := by decide +kernel
theorem dX8_warpColour_6 : decode cX8_warpColour 6 = .ok (.getfield 43, 3) := by decide +kernel
theorem dX8_warpColour_9 : decode cX8_warpColour 9 = .ok (.getfield 123, 3) := by decide +kernel
theorem dX8_warpColour_12 : decode cX8_warpColour 12 = .ok (.iload_n 1, 1) := by decide +kernel
theorem dX8_warpColour_13 : decode cX8_warpColour 13 = .ok (.invokestatic 119, 3) := by decide +kernel
theorem dX8_warpColour_16 : decode cX8_warpColour 16 = .ok (.ireturn, 1) := by decide +kernel
theorem dX8_warpsOn_0 : decode cX8_warpsOn 0 = .ok (.aload_n 0, 1) := by decide +kernel
theorem dX8_warpsOn_1 : decode cX8_warpsOn 1 = .ok (.iload_n 1, 1) := by decide +kernel
theorem dX8_warpsOn_2 : decode cX8_warpsOn 2 = .ok (.invokevirtual 126, 3) := by decide +kernel
theorem dX8_warpsOn_5 : decode cX8_warpsOn 5 = .ok (.aload_n 0, 1) := by decide +kernel
theorem dX8_warpsOn_6 : decode cX8_warpsOn 6 = .ok (.getfield 43, 3) := by decide +kernel
theorem dX8_warpsOn_9 : decode cX8_warpsOn 9 = .ok (.iconst 1, 1) := by decide +kernel
theorem dX8_warpsOn_10 : decode cX8_warpsOn 10 = .ok (.iload_n 1, 1) := by decide +kernel
theorem dX8_warpsOn_11 : decode cX8_warpsOn 11 = .ok (.ishl, 1) := by decide +kernel
theorem dX8_warpsOn_12 : decode cX8_warpsOn 12 = .ok (.invokevirtual 129, 3) := by decide +kernel
theorem dX8_warpsOn_15 : decode cX8_warpsOn 15 = .ok (.invokestatic 133, 3) := by decide +kernel
theorem dX8_warpsOn_18 : decode cX8_warpsOn 18 = .ok (.ireturn, 1) := by decide +kernel
theorem dX8_isBroken_0 : decode cX8_isBroken 0 = .ok (.aload_n 0, 1) := by decide +kernel
theorem dX8_isBroken_1 : decode cX8_isBroken 1 = .ok (.iload_n 1, 1) := by decide +kernel
theorem dX8_isBroken_2 : decode cX8_isBroken 2 = .ok (.invokevirtual 112, 3) := by decide +kernel
theorem dX8_isBroken_5 : decode cX8_isBroken 5 = .ok (.aload_n 0, 1) := by decide +kernel
theorem dX8_isBroken_6 : decode cX8_isBroken 6 = .ok (.getfield 43, 3) := by decide +kernel
theorem dX8_isBroken_9 : decode cX8_isBroken 9 = .ok (.getfield 138, 3) := by decide +kernel
theorem dX8_isBroken_12 : decode cX8_isBroken 12 = .ok (.getfield 142, 3) := by decide +kernel
theorem dX8_isBroken_15 : decode cX8_isBroken 15 = .ok (.iload_n 1, 1) := by decide +kernel
theorem dX8_isBroken_16 : decode cX8_isBroken 16 = .ok (.invokestatic 147, 3) := by decide +kernel
theorem dX8_isBroken_19 : decode cX8_isBroken 19 = .ok (.ireturn, 1) := by decide +kernel
theorem dX8_brokenCount_0 : decode cX8_brokenCount 0 = .ok (.aload_n 0, 1) := by decide +kernel
theorem dX8_brokenCount_1 : decode cX8_brokenCount 1 = .ok (.invokevirtual 103, 3) := by decide +kernel
theorem dX8_brokenCount_4 : decode cX8_brokenCount 4 = .ok (.aload_n 0, 1) := by decide +kernel
theorem dX8_brokenCount_5 : decode cX8_brokenCount 5 = .ok (.getfield 43, 3) := by decide +kernel
theorem dX8_brokenCount_8 : decode cX8_brokenCount 8 = .ok (.getfield 138, 3) := by decide +kernel
theorem dX8_brokenCount_11 : decode cX8_brokenCount 11 = .ok (.getfield 142, 3) := by decide +kernel
theorem dX8_brokenCount_14 : decode cX8_brokenCount 14 = .ok (.invokestatic 133, 3) := by decide +kernel
theorem dX8_brokenCount_17 : decode cX8_brokenCount 17 = .ok (.ireturn, 1) := by decide +kernel
theorem dX8_isLifted_0 : decode cX8_isLifted 0 = .ok (.aload_n 0, 1) := by decide +kernel
theorem dX8_isLifted_1 : decode cX8_isLifted 1 = .ok (.iload_n 1, 1) := by decide +kernel
theorem dX8_isLifted_2 : decode cX8_isLifted 2 = .ok (.invokevirtual 126, 3) := by decide +kernel
theorem dX8_isLifted_5 : decode cX8_isLifted 5 = .ok (.aload_n 0, 1) := by decide +kernel
theorem dX8_isLifted_6 : decode cX8_isLifted 6 = .ok (.getfield 43, 3) := by decide +kernel
theorem dX8_isLifted_9 : decode cX8_isLifted 9 = .ok (.getfield 138, 3) := by decide +kernel
theorem dX8_isLifted_12 : decode cX8_isLifted 12 = .ok (.getfield 151, 3) := by decide +kernel
theorem dX8_isLifted_15 : decode cX8_isLifted 15 = .ok (.iload_n 1, 1) := by decide +kernel
theorem dX8_isLifted_16 : decode cX8_isLifted 16 = .ok (.invokestatic 147, 3) := by decide +kernel
theorem dX8_isLifted_19 : decode cX8_isLifted 19 = .ok (.ireturn, 1) := by decide +kernel
theorem dX8_wear_0 : decode cX8_wear 0 = .ok (.aload_n 0, 1) := by decide +kernel
theorem dX8_wear_1 : decode cX8_wear 1 = .ok (.iload_n 1, 1) := by decide +kernel
theorem dX8_wear_2 : decode cX8_wear 2 = .ok (.invokevirtual 126, 3) := by decide +kernel
theorem dX8_wear_5 : decode cX8_wear 5 = .ok (.aload_n 0, 1) := by decide +kernel
theorem dX8_wear_6 : decode cX8_wear 6 = .ok (.getfield 43, 3) := by decide +kernel
theorem dX8_wear_9 : decode cX8_wear 9 = .ok (.getfield 138, 3) := by decide +kernel
theorem dX8_wear_12 : decode cX8_wear 12 = .ok (.getfield 154, 3) := by decide +kernel
theorem dX8_wear_15 : decode cX8_wear 15 = .ok (.iload_n 1, 1) := by decide +kernel
theorem dX8_wear_16 : decode cX8_wear 16 = .ok (.invokestatic 119, 3) := by decide +kernel
theorem dX8_wear_19 : decode cX8_wear 19 = .ok (.ireturn, 1) := by decide +kernel
theorem dX8_isStuck_0 : decode cX8_isStuck 0 = .ok (.aload_n 0, 1) := by decide +kernel
theorem dX8_isStuck_1 : decode cX8_isStuck 1 = .ok (.iload_n 1, 1) := by decide +kernel
theorem dX8_isStuck_2 : decode cX8_isStuck 2 = .ok (.invokevirtual 126, 3) := by decide +kernel
theorem dX8_isStuck_5 : decode cX8_isStuck 5 = .ok (.aload_n 0, 1) := by decide +kernel
theorem dX8_isStuck_6 : decode cX8_isStuck 6 = .ok (.getfield 43, 3) := by decide +kernel
theorem dX8_isStuck_9 : decode cX8_isStuck 9 = .ok (.getfield 138, 3) := by decide +kernel
theorem dX8_isStuck_12 : decode cX8_isStuck 12 = .ok (.getfield 157, 3) := by decide +kernel
theorem dX8_isStuck_15 : decode cX8_isStuck 15 = .ok (.iload_n 1, 1) := by decide +kernel
theorem dX8_isStuck_16 : decode cX8_isStuck 16 = .ok (.invokestatic 147, 3) := by decide +kernel
theorem dX8_isStuck_19 : decode cX8_isStuck 19 = .ok (.ireturn, 1) := by decide +kernel
theorem dX8_cardCount_0 : decode cX8_cardCount 0 = .ok (.aload_n 0, 1) := by decide +kernel
theorem dX8_cardCount_1 : decode cX8_cardCount 1 = .ok (.invokevirtual 103, 3) := by decide +kernel
theorem dX8_cardCount_4 : decode cX8_cardCount 4 = .ok (.aload_n 0, 1) := by decide +kernel
theorem dX8_cardCount_5 : decode cX8_cardCount 5 = .ok (.getfield 43, 3) := by decide +kernel
theorem dX8_cardCount_8 : decode cX8_cardCount 8 = .ok (.getfield 160, 3) := by decide +kernel
theorem dX8_cardCount_11 : decode cX8_cardCount 11 = .ok (.ireturn, 1) := by decide +kernel
theorem dX8_lifts_0 : decode cX8_lifts 0 = .ok (.aload_n 0, 1) := by decide +kernel
theorem dX8_lifts_1 : decode cX8_lifts 1 = .ok (.iload_n 1, 1) := by decide +kernel
theorem dX8_lifts_2 : decode cX8_lifts 2 = .ok (.invokevirtual 163, 3) := by decide +kernel
theorem dX8_lifts_5 : decode cX8_lifts 5 = .ok (.aload_n 0, 1) := by decide +kernel
theorem dX8_lifts_6 : decode cX8_lifts 6 = .ok (.iload_n 2, 1) := by decide +kernel
theorem dX8_lifts_7 : decode cX8_lifts 7 = .ok (.invokevirtual 126, 3) := by decide +kernel
theorem dX8_lifts_10 : decode cX8_lifts 10 = .ok (.aload_n 0, 1) := by decide +kernel
theorem dX8_lifts_11 : decode cX8_lifts 11 = .ok (.getfield 43, 3) := by decide +kernel
theorem dX8_lifts_14 : decode cX8_lifts 14 = .ok (.getfield 138, 3) := by decide +kernel
theorem dX8_lifts_17 : decode cX8_lifts 17 = .ok (.getfield 166, 3) := by decide +kernel
theorem dX8_lifts_20 : decode cX8_lifts 20 = .ok (.iload_n 1, 1) := by decide +kernel
theorem dX8_lifts_21 : decode cX8_lifts 21 = .ok (.invokestatic 119, 3) := by decide +kernel
theorem dX8_lifts_24 : decode cX8_lifts 24 = .ok (.iload_n 2, 1) := by decide +kernel
theorem dX8_lifts_25 : decode cX8_lifts 25 = .ok (.invokestatic 147, 3) := by decide +kernel
theorem dX8_lifts_28 : decode cX8_lifts 28 = .ok (.ireturn, 1) := by decide +kernel
theorem dX8_cardColour_0 : decode cX8_cardColour 0 = .ok (.aload_n 0, 1) := by decide +kernel
theorem dX8_cardColour_1 : decode cX8_cardColour 1 = .ok (.iload_n 1, 1) := by decide +kernel
theorem dX8_cardColour_2 : decode cX8_cardColour 2 = .ok (.invokevirtual 163, 3) := by decide +kernel
theorem dX8_cardColour_5 : decode cX8_cardColour 5 = .ok (.aload_n 0, 1) := by decide +kernel
theorem dX8_cardColour_6 : decode cX8_cardColour 6 = .ok (.getfield 43, 3) := by decide +kernel
theorem dX8_cardColour_9 : decode cX8_cardColour 9 = .ok (.getfield 138, 3) := by decide +kernel
theorem dX8_cardColour_12 : decode cX8_cardColour 12 = .ok (.getfield 169, 3) := by decide +kernel
theorem dX8_cardColour_15 : decode cX8_cardColour 15 = .ok (.iload_n 1, 1) := by decide +kernel
theorem dX8_cardColour_16 : decode cX8_cardColour 16 = .ok (.invokestatic 119, 3) := by decide +kernel
theorem dX8_cardColour_19 : decode cX8_cardColour 19 = .ok (.ireturn, 1) := by decide +kernel
theorem dX8_liftedWarps_0 : decode cX8_liftedWarps 0 = .ok (.aload_n 0, 1) := by decide +kernel
theorem dX8_liftedWarps_1 : decode cX8_liftedWarps 1 = .ok (.iload_n 1, 1) := by decide +kernel
theorem dX8_liftedWarps_2 : decode cX8_liftedWarps 2 = .ok (.invokevirtual 163, 3) := by decide +kernel
theorem dX8_liftedWarps_5 : decode cX8_liftedWarps 5 = .ok (.aload_n 0, 1) := by decide +kernel
theorem dX8_liftedWarps_6 : decode cX8_liftedWarps 6 = .ok (.getfield 43, 3) := by decide +kernel
theorem dX8_liftedWarps_9 : decode cX8_liftedWarps 9 = .ok (.aload_n 0, 1) := by decide +kernel
theorem dX8_liftedWarps_10 : decode cX8_liftedWarps 10 = .ok (.getfield 43, 3) := by decide +kernel
theorem dX8_liftedWarps_13 : decode cX8_liftedWarps 13 = .ok (.getfield 138, 3) := by decide +kernel
theorem dX8_liftedWarps_16 : decode cX8_liftedWarps 16 = .ok (.getfield 166, 3) := by decide +kernel
theorem dX8_liftedWarps_19 : decode cX8_liftedWarps 19 = .ok (.iload_n 1, 1) := by decide +kernel
theorem dX8_liftedWarps_20 : decode cX8_liftedWarps 20 = .ok (.invokestatic 119, 3) := by decide +kernel
theorem dX8_liftedWarps_23 : decode cX8_liftedWarps 23 = .ok (.invokevirtual 129, 3) := by decide +kernel
theorem dX8_liftedWarps_26 : decode cX8_liftedWarps 26 = .ok (.invokestatic 133, 3) := by decide +kernel
theorem dX8_liftedWarps_29 : decode cX8_liftedWarps 29 = .ok (.ireturn, 1) := by decide +kernel
theorem dX8_liftDistance_0 : decode cX8_liftDistance 0 = .ok (.aload_n 0, 1) := by decide +kernel
theorem dX8_liftDistance_1 : decode cX8_liftDistance 1 = .ok (.iload_n 1, 1) := by decide +kernel
theorem dX8_liftDistance_2 : decode cX8_liftDistance 2 = .ok (.invokevirtual 163, 3) := by decide +kernel
theorem dX8_liftDistance_5 : decode cX8_liftDistance 5 = .ok (.aload_n 0, 1) := by decide +kernel
theorem dX8_liftDistance_6 : decode cX8_liftDistance 6 = .ok (.iload_n 2, 1) := by decide +kernel
theorem dX8_liftDistance_7 : decode cX8_liftDistance 7 = .ok (.invokevirtual 163, 3) := by decide +kernel
theorem dX8_liftDistance_10 : decode cX8_liftDistance 10 = .ok (.aload_n 0, 1) := by decide +kernel
theorem dX8_liftDistance_11 : decode cX8_liftDistance 11 = .ok (.getfield 43, 3) := by decide +kernel
theorem dX8_liftDistance_14 : decode cX8_liftDistance 14 = .ok (.getfield 138, 3) := by decide +kernel
theorem dX8_liftDistance_17 : decode cX8_liftDistance 17 = .ok (.getfield 166, 3) := by decide +kernel
theorem dX8_liftDistance_20 : decode cX8_liftDistance 20 = .ok (.iload_n 1, 1) := by decide +kernel
theorem dX8_liftDistance_21 : decode cX8_liftDistance 21 = .ok (.invokestatic 119, 3) := by decide +kernel
theorem dX8_liftDistance_24 : decode cX8_liftDistance 24 = .ok (.aload_n 0, 1) := by decide +kernel
theorem dX8_liftDistance_25 : decode cX8_liftDistance 25 = .ok (.getfield 43, 3) := by decide +kernel
theorem dX8_liftDistance_28 : decode cX8_liftDistance 28 = .ok (.getfield 138, 3) := by decide +kernel
theorem dX8_liftDistance_31 : decode cX8_liftDistance 31 = .ok (.getfield 166, 3) := by decide +kernel
theorem dX8_liftDistance_34 : decode cX8_liftDistance 34 = .ok (.iload_n 2, 1) := by decide +kernel
theorem dX8_liftDistance_35 : decode cX8_liftDistance 35 = .ok (.invokestatic 119, 3) := by decide +kernel
theorem dX8_liftDistance_38 : decode cX8_liftDistance 38 = .ok (.ixor, 1) := by decide +kernel
theorem dX8_liftDistance_39 : decode cX8_liftDistance 39 = .ok (.invokestatic 133, 3) := by decide +kernel
theorem dX8_liftDistance_42 : decode cX8_liftDistance 42 = .ok (.ireturn, 1) := by decide +kernel
theorem dX8_oppositeCard_0 : decode cX8_oppositeCard 0 = .ok (.aload_n 0, 1) := by decide +kernel
theorem dX8_oppositeCard_1 : decode cX8_oppositeCard 1 = .ok (.iload_n 1, 1) := by decide +kernel
theorem dX8_oppositeCard_2 : decode cX8_oppositeCard 2 = .ok (.invokevirtual 163, 3) := by decide +kernel
theorem dX8_oppositeCard_5 : decode cX8_oppositeCard 5 = .ok (.aload_n 0, 1) := by decide +kernel
theorem dX8_oppositeCard_6 : decode cX8_oppositeCard 6 = .ok (.getfield 43, 3) := by decide +kernel
theorem dX8_oppositeCard_9 : decode cX8_oppositeCard 9 = .ok (.aload_n 0, 1) := by decide +kernel
theorem dX8_oppositeCard_10 : decode cX8_oppositeCard 10 = .ok (.getfield 43, 3) := by decide +kernel
theorem dX8_oppositeCard_13 : decode cX8_oppositeCard 13 = .ok (.getfield 138, 3) := by decide +kernel
theorem dX8_oppositeCard_16 : decode cX8_oppositeCard 16 = .ok (.getfield 166, 3) := by decide +kernel
theorem dX8_oppositeCard_19 : decode cX8_oppositeCard 19 = .ok (.iload_n 1, 1) := by decide +kernel
theorem dX8_oppositeCard_20 : decode cX8_oppositeCard 20 = .ok (.invokestatic 119, 3) := by decide +kernel
theorem dX8_oppositeCard_23 : decode cX8_oppositeCard 23 = .ok (.invokevirtual 172, 3) := by decide +kernel
theorem dX8_oppositeCard_26 : decode cX8_oppositeCard 26 = .ok (.istore_n 2, 1) := by decide +kernel
theorem dX8_oppositeCard_27 : decode cX8_oppositeCard 27 = .ok (.iconst 0, 1) := by decide +kernel
theorem dX8_oppositeCard_28 : decode cX8_oppositeCard 28 = .ok (.istore_n 3, 1) := by decide +kernel
theorem dX8_oppositeCard_29 : decode cX8_oppositeCard 29 = .ok (.iload_n 3, 1) := by decide +kernel
theorem dX8_oppositeCard_30 : decode cX8_oppositeCard 30 = .ok (.aload_n 0, 1) := by decide +kernel
theorem dX8_oppositeCard_31 : decode cX8_oppositeCard 31 = .ok (.getfield 43, 3) := by decide +kernel
theorem dX8_oppositeCard_34 : decode cX8_oppositeCard 34 = .ok (.getfield 160, 3) := by decide +kernel
theorem dX8_oppositeCard_37 : decode cX8_oppositeCard 37 = .ok (.if_icmp .ge 29, 3) := by decide +kernel
theorem dX8_oppositeCard_40 : decode cX8_oppositeCard 40 = .ok (.aload_n 0, 1) := by decide +kernel
theorem dX8_oppositeCard_41 : decode cX8_oppositeCard 41 = .ok (.getfield 43, 3) := by decide +kernel
theorem dX8_oppositeCard_44 : decode cX8_oppositeCard 44 = .ok (.getfield 138, 3) := by decide +kernel
theorem dX8_oppositeCard_47 : decode cX8_oppositeCard 47 = .ok (.getfield 166, 3) := by decide +kernel
theorem dX8_oppositeCard_50 : decode cX8_oppositeCard 50 = .ok (.iload_n 3, 1) := by decide +kernel
theorem dX8_oppositeCard_51 : decode cX8_oppositeCard 51 = .ok (.invokestatic 119, 3) := by decide +kernel
theorem dX8_oppositeCard_54 : decode cX8_oppositeCard 54 = .ok (.iload_n 2, 1) := by decide +kernel
theorem dX8_oppositeCard_55 : decode cX8_oppositeCard 55 = .ok (.if_icmp .ne 5, 3) := by decide +kernel
theorem dX8_oppositeCard_58 : decode cX8_oppositeCard 58 = .ok (.iload_n 3, 1) := by decide +kernel
theorem dX8_oppositeCard_59 : decode cX8_oppositeCard 59 = .ok (.ireturn, 1) := by decide +kernel
theorem dX8_oppositeCard_60 : decode cX8_oppositeCard 60 = .ok (.iinc 3 1, 3) := by decide +kernel
theorem dX8_oppositeCard_63 : decode cX8_oppositeCard 63 = .ok (.goto (-34), 3) := by decide +kernel
theorem dX8_oppositeCard_66 : decode cX8_oppositeCard 66 = .ok (.iconst (-1), 1) := by decide +kernel
theorem dX8_oppositeCard_67 : decode cX8_oppositeCard 67 = .ok (.ireturn, 1) := by decide +kernel
theorem dX8_deckLength_0 : decode cX8_deckLength 0 = .ok (.aload_n 0, 1) := by decide +kernel
theorem dX8_deckLength_1 : decode cX8_deckLength 1 = .ok (.invokevirtual 103, 3) := by decide +kernel
theorem dX8_deckLength_4 : decode cX8_deckLength 4 = .ok (.aload_n 0, 1) := by decide +kernel
theorem dX8_deckLength_5 : decode cX8_deckLength 5 = .ok (.getfield 43, 3) := by decide +kernel
theorem dX8_deckLength_8 : decode cX8_deckLength 8 = .ok (.getfield 88, 3) := by decide +kernel
theorem dX8_deckLength_11 : decode cX8_deckLength 11 = .ok (.getfield 92, 3) := by decide +kernel
theorem dX8_deckLength_14 : decode cX8_deckLength 14 = .ok (.ireturn, 1) := by decide +kernel
theorem dX8_deckCard_0 : decode cX8_deckCard 0 = .ok (.aload_n 0, 1) := by decide +kernel
theorem dX8_deckCard_1 : decode cX8_deckCard 1 = .ok (.invokevirtual 103, 3) := by decide +kernel
theorem dX8_deckCard_4 : decode cX8_deckCard 4 = .ok (.iload_n 1, 1) := by decide +kernel
theorem dX8_deckCard_5 : decode cX8_deckCard 5 = .ok (.aload_n 0, 1) := by decide +kernel
theorem dX8_deckCard_6 : decode cX8_deckCard 6 = .ok (.getfield 43, 3) := by decide +kernel
theorem dX8_deckCard_9 : decode cX8_deckCard 9 = .ok (.getfield 88, 3) := by decide +kernel
theorem dX8_deckCard_12 : decode cX8_deckCard 12 = .ok (.getfield 92, 3) := by decide +kernel
theorem dX8_deckCard_15 : decode cX8_deckCard 15 = .ok (.invokestatic 175, 3) := by decide +kernel
theorem dX8_deckCard_18 : decode cX8_deckCard 18 = .ok (.aload_n 0, 1) := by decide +kernel
theorem dX8_deckCard_19 : decode cX8_deckCard 19 = .ok (.getfield 43, 3) := by decide +kernel
theorem dX8_deckCard_22 : decode cX8_deckCard 22 = .ok (.getfield 88, 3) := by decide +kernel
theorem dX8_deckCard_25 : decode cX8_deckCard 25 = .ok (.getfield 179, 3) := by decide +kernel
theorem dX8_deckCard_28 : decode cX8_deckCard 28 = .ok (.iload_n 1, 1) := by decide +kernel
theorem dX8_deckCard_29 : decode cX8_deckCard 29 = .ok (.invokestatic 119, 3) := by decide +kernel
theorem dX8_deckCard_32 : decode cX8_deckCard 32 = .ok (.ireturn, 1) := by decide +kernel
theorem dX8_cardUses_0 : decode cX8_cardUses 0 = .ok (.aload_n 0, 1) := by decide +kernel
theorem dX8_cardUses_1 : decode cX8_cardUses 1 = .ok (.iload_n 1, 1) := by decide +kernel
theorem dX8_cardUses_2 : decode cX8_cardUses 2 = .ok (.invokevirtual 163, 3) := by decide +kernel
theorem dX8_cardUses_5 : decode cX8_cardUses 5 = .ok (.aload_n 0, 1) := by decide +kernel
theorem dX8_cardUses_6 : decode cX8_cardUses 6 = .ok (.getfield 43, 3) := by decide +kernel
theorem dX8_cardUses_9 : decode cX8_cardUses 9 = .ok (.getfield 88, 3) := by decide +kernel
theorem dX8_cardUses_12 : decode cX8_cardUses 12 = .ok (.iload_n 1, 1) := by decide +kernel
theorem dX8_cardUses_13 : decode cX8_cardUses 13 = .ok (.invokevirtual 182, 3) := by decide +kernel
theorem dX8_cardUses_16 : decode cX8_cardUses 16 = .ok (.ireturn, 1) := by decide +kernel
theorem dX8_deckDepth_0 : decode cX8_deckDepth 0 = .ok (.aload_n 0, 1) := by decide +kernel
theorem dX8_deckDepth_1 : decode cX8_deckDepth 1 = .ok (.invokevirtual 103, 3) := by decide +kernel
theorem dX8_deckDepth_4 : decode cX8_deckDepth 4 = .ok (.aload_n 0, 1) := by decide +kernel
theorem dX8_deckDepth_5 : decode cX8_deckDepth 5 = .ok (.getfield 43, 3) := by decide +kernel
theorem dX8_deckDepth_8 : decode cX8_deckDepth 8 = .ok (.getfield 88, 3) := by decide +kernel
theorem dX8_deckDepth_11 : decode cX8_deckDepth 11 = .ok (.getfield 185, 3) := by decide +kernel
theorem dX8_deckDepth_14 : decode cX8_deckDepth 14 = .ok (.ireturn, 1) := by decide +kernel
theorem dX8_deckPeriod_0 : decode cX8_deckPeriod 0 = .ok (.aload_n 0, 1) := by decide +kernel
theorem dX8_deckPeriod_1 : decode cX8_deckPeriod 1 = .ok (.invokevirtual 103, 3) := by decide +kernel
theorem dX8_deckPeriod_4 : decode cX8_deckPeriod 4 = .ok (.aload_n 0, 1) := by decide +kernel
theorem dX8_deckPeriod_5 : decode cX8_deckPeriod 5 = .ok (.getfield 43, 3) := by decide +kernel
theorem dX8_deckPeriod_8 : decode cX8_deckPeriod 8 = .ok (.getfield 88, 3) := by decide +kernel
theorem dX8_deckPeriod_11 : decode cX8_deckPeriod 11 = .ok (.invokevirtual 188, 3) := by decide +kernel
theorem dX8_deckPeriod_14 : decode cX8_deckPeriod 14 = .ok (.ireturn, 1) := by decide +kernel
theorem dX8_isPalindrome_0 : decode cX8_isPalindrome 0 = .ok (.aload_n 0, 1) := by decide +kernel
theorem dX8_isPalindrome_1 : decode cX8_isPalindrome 1 = .ok (.invokevirtual 103, 3) := by decide +kernel
theorem dX8_isPalindrome_4 : decode cX8_isPalindrome 4 = .ok (.aload_n 0, 1) := by decide +kernel
theorem dX8_isPalindrome_5 : decode cX8_isPalindrome 5 = .ok (.getfield 43, 3) := by decide +kernel
theorem dX8_isPalindrome_8 : decode cX8_isPalindrome 8 = .ok (.getfield 88, 3) := by decide +kernel
theorem dX8_isPalindrome_11 : decode cX8_isPalindrome 11 = .ok (.invokevirtual 192, 3) := by decide +kernel
theorem dX8_isPalindrome_14 : decode cX8_isPalindrome 14 = .ok (.ireturn, 1) := by decide +kernel
theorem dX8_rowCount_0 : decode cX8_rowCount 0 = .ok (.aload_n 0, 1) := by decide +kernel
theorem dX8_rowCount_1 : decode cX8_rowCount 1 = .ok (.invokevirtual 103, 3) := by decide +kernel
theorem dX8_rowCount_4 : decode cX8_rowCount 4 = .ok (.aload_n 0, 1) := by decide +kernel
theorem dX8_rowCount_5 : decode cX8_rowCount 5 = .ok (.getfield 43, 3) := by decide +kernel
theorem dX8_rowCount_8 : decode cX8_rowCount 8 = .ok (.getfield 138, 3) := by decide +kernel
theorem dX8_rowCount_11 : decode cX8_rowCount 11 = .ok (.getfield 196, 3) := by decide +kernel
theorem dX8_rowCount_14 : decode cX8_rowCount 14 = .ok (.ireturn, 1) := by decide +kernel
theorem dX8_cellColour_0 : decode cX8_cellColour 0 = .ok (.aload_n 0, 1) := by decide +kernel
theorem dX8_cellColour_1 : decode cX8_cellColour 1 = .ok (.iload_n 1, 1) := by decide +kernel
theorem dX8_cellColour_2 : decode cX8_cellColour 2 = .ok (.invokevirtual 199, 3) := by decide +kernel
theorem dX8_cellColour_5 : decode cX8_cellColour 5 = .ok (.aload_n 0, 1) := by decide +kernel
theorem dX8_cellColour_6 : decode cX8_cellColour 6 = .ok (.iload_n 2, 1) := by decide +kernel
theorem dX8_cellColour_7 : decode cX8_cellColour 7 = .ok (.invokevirtual 112, 3) := by decide +kernel
theorem dX8_cellColour_10 : decode cX8_cellColour 10 = .ok (.aload_n 0, 1) := by decide +kernel
theorem dX8_cellColour_11 : decode cX8_cellColour 11 = .ok (.getfield 43, 3) := by decide +kernel
theorem dX8_cellColour_14 : decode cX8_cellColour 14 = .ok (.iload_n 1, 1) := by decide +kernel
theorem dX8_cellColour_15 : decode cX8_cellColour 15 = .ok (.iload_n 2, 1) := by decide +kernel
theorem dX8_cellColour_16 : decode cX8_cellColour 16 = .ok (.invokevirtual 202, 3) := by decide +kernel
theorem dX8_cellColour_19 : decode cX8_cellColour 19 = .ok (.ireturn, 1) := by decide +kernel
theorem dX8_showsWarp_0 : decode cX8_showsWarp 0 = .ok (.aload_n 0, 1) := by decide +kernel
theorem dX8_showsWarp_1 : decode cX8_showsWarp 1 = .ok (.iload_n 1, 1) := by decide +kernel
theorem dX8_showsWarp_2 : decode cX8_showsWarp 2 = .ok (.invokevirtual 199, 3) := by decide +kernel
theorem dX8_showsWarp_5 : decode cX8_showsWarp 5 = .ok (.aload_n 0, 1) := by decide +kernel
theorem dX8_showsWarp_6 : decode cX8_showsWarp 6 = .ok (.iload_n 2, 1) := by decide +kernel
theorem dX8_showsWarp_7 : decode cX8_showsWarp 7 = .ok (.invokevirtual 112, 3) := by decide +kernel
theorem dX8_showsWarp_10 : decode cX8_showsWarp 10 = .ok (.aload_n 0, 1) := by decide +kernel
theorem dX8_showsWarp_11 : decode cX8_showsWarp 11 = .ok (.getfield 43, 3) := by decide +kernel
theorem dX8_showsWarp_14 : decode cX8_showsWarp 14 = .ok (.getfield 138, 3) := by decide +kernel
theorem dX8_showsWarp_17 : decode cX8_showsWarp 17 = .ok (.getfield 206, 3) := by decide +kernel
theorem dX8_showsWarp_20 : decode cX8_showsWarp 20 = .ok (.iload_n 1, 1) := by decide +kernel
theorem dX8_showsWarp_21 : decode cX8_showsWarp 21 = .ok (.invokestatic 119, 3) := by decide +kernel
theorem dX8_showsWarp_24 : decode cX8_showsWarp 24 = .ok (.iload_n 2, 1) := by decide +kernel
theorem dX8_showsWarp_25 : decode cX8_showsWarp 25 = .ok (.invokestatic 147, 3) := by decide +kernel
theorem dX8_showsWarp_28 : decode cX8_showsWarp 28 = .ok (.ireturn, 1) := by decide +kernel
theorem dX8_longestWarpFloat_0 : decode cX8_longestWarpFloat 0 = .ok (.aload_n 0, 1) := by decide +kernel
theorem dX8_longestWarpFloat_1 : decode cX8_longestWarpFloat 1 = .ok (.iload_n 1, 1) := by decide +kernel
theorem dX8_longestWarpFloat_2 : decode cX8_longestWarpFloat 2 = .ok (.invokevirtual 112, 3) := by decide +kernel
theorem dX8_longestWarpFloat_5 : decode cX8_longestWarpFloat 5 = .ok (.aload_n 0, 1) := by decide +kernel
theorem dX8_longestWarpFloat_6 : decode cX8_longestWarpFloat 6 = .ok (.getfield 43, 3) := by decide +kernel
theorem dX8_longestWarpFloat_9 : decode cX8_longestWarpFloat 9 = .ok (.iload_n 1, 1) := by decide +kernel
theorem dX8_longestWarpFloat_10 : decode cX8_longestWarpFloat 10 = .ok (.invokevirtual 209, 3) := by decide +kernel
theorem dX8_longestWarpFloat_13 : decode cX8_longestWarpFloat 13 = .ok (.ireturn, 1) := by decide +kernel
theorem dX8_longestWeftFloat_0 : decode cX8_longestWeftFloat 0 = .ok (.aload_n 0, 1) := by decide +kernel
theorem dX8_longestWeftFloat_1 : decode cX8_longestWeftFloat 1 = .ok (.iload_n 1, 1) := by decide +kernel
theorem dX8_longestWeftFloat_2 : decode cX8_longestWeftFloat 2 = .ok (.invokevirtual 199, 3) := by decide +kernel
theorem dX8_longestWeftFloat_5 : decode cX8_longestWeftFloat 5 = .ok (.aload_n 0, 1) := by decide +kernel
theorem dX8_longestWeftFloat_6 : decode cX8_longestWeftFloat 6 = .ok (.getfield 43, 3) := by decide +kernel
theorem dX8_longestWeftFloat_9 : decode cX8_longestWeftFloat 9 = .ok (.iload_n 1, 1) := by decide +kernel
theorem dX8_longestWeftFloat_10 : decode cX8_longestWeftFloat 10 = .ok (.invokevirtual 212, 3) := by decide +kernel
theorem dX8_longestWeftFloat_13 : decode cX8_longestWeftFloat 13 = .ok (.ireturn, 1) := by decide +kernel
theorem dX8_cellsOfColour_0 : decode cX8_cellsOfColour 0 = .ok (.aload_n 0, 1) := by decide +kernel
theorem dX8_cellsOfColour_1 : decode cX8_cellsOfColour 1 = .ok (.iload_n 1, 1) := by decide +kernel
theorem dX8_cellsOfColour_2 : decode cX8_cellsOfColour 2 = .ok (.invokevirtual 215, 3) := by decide +kernel
theorem dX8_cellsOfColour_5 : decode cX8_cellsOfColour 5 = .ok (.aload_n 0, 1) := by decide +kernel
theorem dX8_cellsOfColour_6 : decode cX8_cellsOfColour 6 = .ok (.getfield 43, 3) := by decide +kernel
theorem dX8_cellsOfColour_9 : decode cX8_cellsOfColour 9 = .ok (.iload_n 1, 1) := by decide +kernel
theorem dX8_cellsOfColour_10 : decode cX8_cellsOfColour 10 = .ok (.invokevirtual 218, 3) := by decide +kernel
theorem dX8_cellsOfColour_13 : decode cX8_cellsOfColour 13 = .ok (.ireturn, 1) := by decide +kernel
theorem dX8_rowPeriod_0 : decode cX8_rowPeriod 0 = .ok (.aload_n 0, 1) := by decide +kernel
theorem dX8_rowPeriod_1 : decode cX8_rowPeriod 1 = .ok (.invokevirtual 103, 3) := by decide +kernel
theorem dX8_rowPeriod_4 : decode cX8_rowPeriod 4 = .ok (.aload_n 0, 1) := by decide +kernel
theorem dX8_rowPeriod_5 : decode cX8_rowPeriod 5 = .ok (.getfield 43, 3) := by decide +kernel
theorem dX8_rowPeriod_8 : decode cX8_rowPeriod 8 = .ok (.invokevirtual 221, 3) := by decide +kernel
theorem dX8_rowPeriod_11 : decode cX8_rowPeriod 11 = .ok (.ireturn, 1) := by decide +kernel
theorem dX8_warpShare_0 : decode cX8_warpShare 0 = .ok (.aload_n 0, 1) := by decide +kernel
theorem dX8_warpShare_1 : decode cX8_warpShare 1 = .ok (.invokevirtual 103, 3) := by decide +kernel
theorem dX8_warpShare_4 : decode cX8_warpShare 4 = .ok (.aload_n 0, 1) := by decide +kernel
theorem dX8_warpShare_5 : decode cX8_warpShare 5 = .ok (.getfield 43, 3) := by decide +kernel
theorem dX8_warpShare_8 : decode cX8_warpShare 8 = .ok (.invokevirtual 224, 3) := by decide +kernel
theorem dX8_warpShare_11 : decode cX8_warpShare 11 = .ok (.istore_n 1, 1) := by decide +kernel
theorem dX8_warpShare_12 : decode cX8_warpShare 12 = .ok (.iload_n 1, 1) := by decide +kernel
theorem dX8_warpShare_13 : decode cX8_warpShare 13 = .ok (.ifCond .gt 5, 3) := by decide +kernel
theorem dX8_warpShare_16 : decode cX8_warpShare 16 = .ok (.fconst 0, 1) := by decide +kernel
theorem dX8_warpShare_17 : decode cX8_warpShare 17 = .ok (.freturn, 1) := by decide +kernel
theorem dX8_warpShare_18 : decode cX8_warpShare 18 = .ok (.aload_n 0, 1) := by decide +kernel
theorem dX8_warpShare_19 : decode cX8_warpShare 19 = .ok (.getfield 43, 3) := by decide +kernel
theorem dX8_warpShare_22 : decode cX8_warpShare 22 = .ok (.invokevirtual 227, 3) := by decide +kernel
theorem dX8_warpShare_25 : decode cX8_warpShare 25 = .ok (.i2f, 1) := by decide +kernel
theorem dX8_warpShare_26 : decode cX8_warpShare 26 = .ok (.iload_n 1, 1) := by decide +kernel
theorem dX8_warpShare_27 : decode cX8_warpShare 27 = .ok (.i2f, 1) := by decide +kernel
theorem dX8_warpShare_28 : decode cX8_warpShare 28 = .ok (.fdiv, 1) := by decide +kernel
theorem dX8_warpShare_29 : decode cX8_warpShare 29 = .ok (.freturn, 1) := by decide +kernel
theorem dX8_averageLifts_0 : decode cX8_averageLifts 0 = .ok (.aload_n 0, 1) := by decide +kernel
theorem dX8_averageLifts_1 : decode cX8_averageLifts 1 = .ok (.invokevirtual 103, 3) := by decide +kernel
theorem dX8_averageLifts_4 : decode cX8_averageLifts 4 = .ok (.aload_n 0, 1) := by decide +kernel
theorem dX8_averageLifts_5 : decode cX8_averageLifts 5 = .ok (.getfield 43, 3) := by decide +kernel
theorem dX8_averageLifts_8 : decode cX8_averageLifts 8 = .ok (.getfield 160, 3) := by decide +kernel
theorem dX8_averageLifts_11 : decode cX8_averageLifts 11 = .ok (.istore_n 1, 1) := by decide +kernel
theorem dX8_averageLifts_12 : decode cX8_averageLifts 12 = .ok (.iload_n 1, 1) := by decide +kernel
theorem dX8_averageLifts_13 : decode cX8_averageLifts 13 = .ok (.ifCond .gt 5, 3) := by decide +kernel
theorem dX8_averageLifts_16 : decode cX8_averageLifts 16 = .ok (.dconst 0, 1) := by decide +kernel
theorem dX8_averageLifts_17 : decode cX8_averageLifts 17 = .ok (.dreturn, 1) := by decide +kernel
theorem dX8_averageLifts_18 : decode cX8_averageLifts 18 = .ok (.iconst 0, 1) := by decide +kernel
theorem dX8_averageLifts_19 : decode cX8_averageLifts 19 = .ok (.istore_n 2, 1) := by decide +kernel
theorem dX8_averageLifts_20 : decode cX8_averageLifts 20 = .ok (.iconst 0, 1) := by decide +kernel
theorem dX8_averageLifts_21 : decode cX8_averageLifts 21 = .ok (.istore_n 3, 1) := by decide +kernel
theorem dX8_averageLifts_22 : decode cX8_averageLifts 22 = .ok (.iload_n 3, 1) := by decide +kernel
theorem dX8_averageLifts_23 : decode cX8_averageLifts 23 = .ok (.iload_n 1, 1) := by decide +kernel
theorem dX8_averageLifts_24 : decode cX8_averageLifts 24 = .ok (.if_icmp .ge 29, 3) := by decide +kernel
theorem dX8_averageLifts_27 : decode cX8_averageLifts 27 = .ok (.iload_n 2, 1) := by decide +kernel
theorem dX8_averageLifts_28 : decode cX8_averageLifts 28 = .ok (.aload_n 0, 1) := by decide +kernel
theorem dX8_averageLifts_29 : decode cX8_averageLifts 29 = .ok (.getfield 43, 3) := by decide +kernel
theorem dX8_averageLifts_32 : decode cX8_averageLifts 32 = .ok (.getfield 138, 3) := by decide +kernel
theorem dX8_averageLifts_35 : decode cX8_averageLifts 35 = .ok (.getfield 166, 3) := by decide +kernel
theorem dX8_averageLifts_38 : decode cX8_averageLifts 38 = .ok (.iload_n 3, 1) := by decide +kernel
theorem dX8_averageLifts_39 : decode cX8_averageLifts 39 = .ok (.invokestatic 119, 3) := by decide +kernel
theorem dX8_averageLifts_42 : decode cX8_averageLifts 42 = .ok (.invokestatic 133, 3) := by decide +kernel
theorem dX8_averageLifts_45 : decode cX8_averageLifts 45 = .ok (.iadd, 1) := by decide +kernel
theorem dX8_averageLifts_46 : decode cX8_averageLifts 46 = .ok (.istore_n 2, 1) := by decide +kernel
theorem dX8_averageLifts_47 : decode cX8_averageLifts 47 = .ok (.iinc 3 1, 3) := by decide +kernel
theorem dX8_averageLifts_50 : decode cX8_averageLifts 50 = .ok (.goto (-28), 3) := by decide +kernel
theorem dX8_averageLifts_53 : decode cX8_averageLifts 53 = .ok (.iload_n 2, 1) := by decide +kernel
theorem dX8_averageLifts_54 : decode cX8_averageLifts 54 = .ok (.i2d, 1) := by decide +kernel
theorem dX8_averageLifts_55 : decode cX8_averageLifts 55 = .ok (.iload_n 1, 1) := by decide +kernel
theorem dX8_averageLifts_56 : decode cX8_averageLifts 56 = .ok (.i2d, 1) := by decide +kernel
theorem dX8_averageLifts_57 : decode cX8_averageLifts 57 = .ok (.ddiv, 1) := by decide +kernel
theorem dX8_averageLifts_58 : decode cX8_averageLifts 58 = .ok (.dreturn, 1) := by decide +kernel
theorem dX8_isWrong_0 : decode cX8_isWrong 0 = .ok (.aload_n 0, 1) := by decide +kernel
theorem dX8_isWrong_1 : decode cX8_isWrong 1 = .ok (.iload_n 1, 1) := by decide +kernel
theorem dX8_isWrong_2 : decode cX8_isWrong 2 = .ok (.invokevirtual 199, 3) := by decide +kernel
theorem dX8_isWrong_5 : decode cX8_isWrong 5 = .ok (.aload_n 0, 1) := by decide +kernel
theorem dX8_isWrong_6 : decode cX8_isWrong 6 = .ok (.getfield 43, 3) := by decide +kernel
theorem dX8_isWrong_9 : decode cX8_isWrong 9 = .ok (.iload_n 1, 1) := by decide +kernel
theorem dX8_isWrong_10 : decode cX8_isWrong 10 = .ok (.invokevirtual 230, 3) := by decide +kernel
theorem dX8_isWrong_13 : decode cX8_isWrong 13 = .ok (.ireturn, 1) := by decide +kernel
theorem dX8_wrongCount_0 : decode cX8_wrongCount 0 = .ok (.aload_n 0, 1) := by decide +kernel
theorem dX8_wrongCount_1 : decode cX8_wrongCount 1 = .ok (.invokevirtual 103, 3) := by decide +kernel
theorem dX8_wrongCount_4 : decode cX8_wrongCount 4 = .ok (.aload_n 0, 1) := by decide +kernel
theorem dX8_wrongCount_5 : decode cX8_wrongCount 5 = .ok (.getfield 43, 3) := by decide +kernel
theorem dX8_wrongCount_8 : decode cX8_wrongCount 8 = .ok (.invokevirtual 233, 3) := by decide +kernel
theorem dX8_wrongCount_11 : decode cX8_wrongCount 11 = .ok (.ireturn, 1) := by decide +kernel
theorem dX8_firstWrongRow_0 : decode cX8_firstWrongRow 0 = .ok (.aload_n 0, 1) := by decide +kernel
theorem dX8_firstWrongRow_1 : decode cX8_firstWrongRow 1 = .ok (.invokevirtual 103, 3) := by decide +kernel
theorem dX8_firstWrongRow_4 : decode cX8_firstWrongRow 4 = .ok (.aload_n 0, 1) := by decide +kernel
theorem dX8_firstWrongRow_5 : decode cX8_firstWrongRow 5 = .ok (.getfield 43, 3) := by decide +kernel
theorem dX8_firstWrongRow_8 : decode cX8_firstWrongRow 8 = .ok (.invokevirtual 236, 3) := by decide +kernel
theorem dX8_firstWrongRow_11 : decode cX8_firstWrongRow 11 = .ok (.ireturn, 1) := by decide +kernel
theorem dX8_swapFirst_0 : decode cX8_swapFirst 0 = .ok (.aload_n 0, 1) := by decide +kernel
theorem dX8_swapFirst_1 : decode cX8_swapFirst 1 = .ok (.invokevirtual 103, 3) := by decide +kernel
theorem dX8_swapFirst_4 : decode cX8_swapFirst 4 = .ok (.aload_n 0, 1) := by decide +kernel
theorem dX8_swapFirst_5 : decode cX8_swapFirst 5 = .ok (.getfield 43, 3) := by decide +kernel
theorem dX8_swapFirst_8 : decode cX8_swapFirst 8 = .ok (.invokevirtual 239, 3) := by decide +kernel
theorem dX8_swapFirst_11 : decode cX8_swapFirst 11 = .ok (.istore_n 1, 1) := by decide +kernel
theorem dX8_swapFirst_12 : decode cX8_swapFirst 12 = .ok (.iload_n 1, 1) := by decide +kernel
theorem dX8_swapFirst_13 : decode cX8_swapFirst 13 = .ok (.iconst (-1), 1) := by decide +kernel
theorem dX8_swapFirst_14 : decode cX8_swapFirst 14 = .ok (.if_icmp .ne 7, 3) := by decide +kernel
theorem dX8_swapFirst_17 : decode cX8_swapFirst 17 = .ok (.iconst (-1), 1) := by decide +kernel
theorem dX8_swapFirst_18 : decode cX8_swapFirst 18 = .ok (.goto 7, 3) := by decide +kernel
theorem dX8_swapFirst_21 : decode cX8_swapFirst 21 = .ok (.iload_n 1, 1) := by decide +kernel
theorem dX8_swapFirst_22 : decode cX8_swapFirst 22 = .ok (.bipush 12, 2) := by decide +kernel
theorem dX8_swapFirst_24 : decode cX8_swapFirst 24 = .ok (.idiv, 1) := by decide +kernel
theorem dX8_swapFirst_25 : decode cX8_swapFirst 25 = .ok (.ireturn, 1) := by decide +kernel
theorem dX8_swapSecond_0 : decode cX8_swapSecond 0 = .ok (.aload_n 0, 1) := by decide +kernel
theorem dX8_swapSecond_1 : decode cX8_swapSecond 1 = .ok (.invokevirtual 103, 3) := by decide +kernel
theorem dX8_swapSecond_4 : decode cX8_swapSecond 4 = .ok (.aload_n 0, 1) := by decide +kernel
theorem dX8_swapSecond_5 : decode cX8_swapSecond 5 = .ok (.getfield 43, 3) := by decide +kernel
theorem dX8_swapSecond_8 : decode cX8_swapSecond 8 = .ok (.invokevirtual 239, 3) := by decide +kernel
theorem dX8_swapSecond_11 : decode cX8_swapSecond 11 = .ok (.istore_n 1, 1) := by decide +kernel
theorem dX8_swapSecond_12 : decode cX8_swapSecond 12 = .ok (.iload_n 1, 1) := by decide +kernel
theorem dX8_swapSecond_13 : decode cX8_swapSecond 13 = .ok (.iconst (-1), 1) := by decide +kernel
theorem dX8_swapSecond_14 : decode cX8_swapSecond 14 = .ok (.if_icmp .ne 7, 3) := by decide +kernel
theorem dX8_swapSecond_17 : decode cX8_swapSecond 17 = .ok (.iconst (-1), 1) := by decide +kernel
theorem dX8_swapSecond_18 : decode cX8_swapSecond 18 = .ok (.goto 7, 3) := by decide +kernel
theorem dX8_swapSecond_21 : decode cX8_swapSecond 21 = .ok (.iload_n 1, 1) := by decide +kernel
theorem dX8_swapSecond_22 : decode cX8_swapSecond 22 = .ok (.bipush 12, 2) := by decide +kernel
theorem dX8_swapSecond_24 : decode cX8_swapSecond 24 = .ok (.irem, 1) := by decide +kernel
theorem dX8_swapSecond_25 : decode cX8_swapSecond 25 = .ok (.ireturn, 1) := by decide +kernel
theorem dX8_yarn_0 : decode cX8_yarn 0 = .ok (.aload_n 0, 1) := by decide +kernel
theorem dX8_yarn_1 : decode cX8_yarn 1 = .ok (.iload_n 1, 1) := by decide +kernel
theorem dX8_yarn_2 : decode cX8_yarn 2 = .ok (.invokevirtual 215, 3) := by decide +kernel
theorem dX8_yarn_5 : decode cX8_yarn 5 = .ok (.aload_n 0, 1) := by decide +kernel
theorem dX8_yarn_6 : decode cX8_yarn 6 = .ok (.getfield 43, 3) := by decide +kernel
theorem dX8_yarn_9 : decode cX8_yarn 9 = .ok (.getfield 138, 3) := by decide +kernel
theorem dX8_yarn_12 : decode cX8_yarn 12 = .ok (.getfield 242, 3) := by decide +kernel
theorem dX8_yarn_15 : decode cX8_yarn 15 = .ok (.iload_n 1, 1) := by decide +kernel
theorem dX8_yarn_16 : decode cX8_yarn 16 = .ok (.invokestatic 119, 3) := by decide +kernel
theorem dX8_yarn_19 : decode cX8_yarn 19 = .ok (.ireturn, 1) := by decide +kernel
theorem dX8_yarnNeeded_0 : decode cX8_yarnNeeded 0 = .ok (.aload_n 0, 1) := by decide +kernel
theorem dX8_yarnNeeded_1 : decode cX8_yarnNeeded 1 = .ok (.iload_n 1, 1) := by decide +kernel
theorem dX8_yarnNeeded_2 : decode cX8_yarnNeeded 2 = .ok (.invokevirtual 215, 3) := by decide +kernel
theorem dX8_yarnNeeded_5 : decode cX8_yarnNeeded 5 = .ok (.aload_n 0, 1) := by decide +kernel
theorem dX8_yarnNeeded_6 : decode cX8_yarnNeeded 6 = .ok (.getfield 43, 3) := by decide +kernel
theorem dX8_yarnNeeded_9 : decode cX8_yarnNeeded 9 = .ok (.iload_n 1, 1) := by decide +kernel
theorem dX8_yarnNeeded_10 : decode cX8_yarnNeeded 10 = .ok (.invokevirtual 245, 3) := by decide +kernel
theorem dX8_yarnNeeded_13 : decode cX8_yarnNeeded 13 = .ok (.ireturn, 1) := by decide +kernel
theorem dX8_nextCard_0 : decode cX8_nextCard 0 = .ok (.aload_n 0, 1) := by decide +kernel
theorem dX8_nextCard_1 : decode cX8_nextCard 1 = .ok (.invokevirtual 103, 3) := by decide +kernel
theorem dX8_nextCard_4 : decode cX8_nextCard 4 = .ok (.aload_n 0, 1) := by decide +kernel
theorem dX8_nextCard_5 : decode cX8_nextCard 5 = .ok (.getfield 43, 3) := by decide +kernel
theorem dX8_nextCard_8 : decode cX8_nextCard 8 = .ok (.getfield 88, 3) := by decide +kernel
theorem dX8_nextCard_11 : decode cX8_nextCard 11 = .ok (.aload_n 0, 1) := by decide +kernel
theorem dX8_nextCard_12 : decode cX8_nextCard 12 = .ok (.getfield 43, 3) := by decide +kernel
theorem dX8_nextCard_15 : decode cX8_nextCard 15 = .ok (.getfield 138, 3) := by decide +kernel
theorem dX8_nextCard_18 : decode cX8_nextCard 18 = .ok (.getfield 196, 3) := by decide +kernel
theorem dX8_nextCard_21 : decode cX8_nextCard 21 = .ok (.invokevirtual 248, 3) := by decide +kernel
theorem dX8_nextCard_24 : decode cX8_nextCard 24 = .ok (.ireturn, 1) := by decide +kernel
theorem dX8_weaveObstacle_0 : decode cX8_weaveObstacle 0 = .ok (.aload_n 0, 1) := by decide +kernel
theorem dX8_weaveObstacle_1 : decode cX8_weaveObstacle 1 = .ok (.invokevirtual 103, 3) := by decide +kernel
theorem dX8_weaveObstacle_4 : decode cX8_weaveObstacle 4 = .ok (.aload_n 0, 1) := by decide +kernel
theorem dX8_weaveObstacle_5 : decode cX8_weaveObstacle 5 = .ok (.getfield 43, 3) := by decide +kernel
theorem dX8_weaveObstacle_8 : decode cX8_weaveObstacle 8 = .ok (.aload_n 0, 1) := by decide +kernel
theorem dX8_weaveObstacle_9 : decode cX8_weaveObstacle 9 = .ok (.getfield 43, 3) := by decide +kernel
theorem dX8_weaveObstacle_12 : decode cX8_weaveObstacle 12 = .ok (.getfield 138, 3) := by decide +kernel
theorem dX8_weaveObstacle_15 : decode cX8_weaveObstacle 15 = .ok (.invokevirtual 251, 3) := by decide +kernel
theorem dX8_weaveObstacle_18 : decode cX8_weaveObstacle 18 = .ok (.ireturn, 1) := by decide +kernel
theorem dX8_picksPossible_0 : decode cX8_picksPossible 0 = .ok (.aload_n 0, 1) := by decide +kernel
theorem dX8_picksPossible_1 : decode cX8_picksPossible 1 = .ok (.invokevirtual 103, 3) := by decide +kernel
theorem dX8_picksPossible_4 : decode cX8_picksPossible 4 = .ok (.aload_n 0, 1) := by decide +kernel
theorem dX8_picksPossible_5 : decode cX8_picksPossible 5 = .ok (.getfield 43, 3) := by decide +kernel
theorem dX8_picksPossible_8 : decode cX8_picksPossible 8 = .ok (.getfield 255, 3) := by decide +kernel
theorem dX8_picksPossible_11 : decode cX8_picksPossible 11 = .ok (.aload_n 0, 1) := by decide +kernel
theorem dX8_picksPossible_12 : decode cX8_picksPossible 12 = .ok (.getfield 43, 3) := by decide +kernel
theorem dX8_picksPossible_15 : decode cX8_picksPossible 15 = .ok (.getfield 138, 3) := by decide +kernel
theorem dX8_picksPossible_18 : decode cX8_picksPossible 18 = .ok (.invokevirtual 258, 3) := by decide +kernel
theorem dX8_picksPossible_21 : decode cX8_picksPossible 21 = .ok (.aload_n 0, 1) := by decide +kernel
theorem dX8_picksPossible_22 : decode cX8_picksPossible 22 = .ok (.getfield 43, 3) := by decide +kernel
theorem dX8_picksPossible_25 : decode cX8_picksPossible 25 = .ok (.aload_n 0, 1) := by decide +kernel
theorem dX8_picksPossible_26 : decode cX8_picksPossible 26 = .ok (.getfield 43, 3) := by decide +kernel
theorem dX8_picksPossible_29 : decode cX8_picksPossible 29 = .ok (.getfield 255, 3) := by decide +kernel
theorem dX8_picksPossible_32 : decode cX8_picksPossible 32 = .ok (.bipush 60, 2) := by decide +kernel
theorem dX8_picksPossible_34 : decode cX8_picksPossible 34 = .ok (.invokevirtual 262, 3) := by decide +kernel
theorem dX8_picksPossible_37 : decode cX8_picksPossible 37 = .ok (.ireturn, 1) := by decide +kernel
theorem dX8_picksUntilStuck_0 : decode cX8_picksUntilStuck 0 = .ok (.aload_n 0, 1) := by decide +kernel
theorem dX8_picksUntilStuck_1 : decode cX8_picksUntilStuck 1 = .ok (.invokevirtual 103, 3) := by decide +kernel
theorem dX8_picksUntilStuck_4 : decode cX8_picksUntilStuck 4 = .ok (.aload_n 0, 1) := by decide +kernel
theorem dX8_picksUntilStuck_5 : decode cX8_picksUntilStuck 5 = .ok (.getfield 43, 3) := by decide +kernel
theorem dX8_picksUntilStuck_8 : decode cX8_picksUntilStuck 8 = .ok (.getfield 255, 3) := by decide +kernel
theorem dX8_picksUntilStuck_11 : decode cX8_picksUntilStuck 11 = .ok (.aload_n 0, 1) := by decide +kernel
theorem dX8_picksUntilStuck_12 : decode cX8_picksUntilStuck 12 = .ok (.getfield 43, 3) := by decide +kernel
theorem dX8_picksUntilStuck_15 : decode cX8_picksUntilStuck 15 = .ok (.getfield 138, 3) := by decide +kernel
theorem dX8_picksUntilStuck_18 : decode cX8_picksUntilStuck 18 = .ok (.invokevirtual 258, 3) := by decide +kernel
theorem dX8_picksUntilStuck_21 : decode cX8_picksUntilStuck 21 = .ok (.iconst 1, 1) := by decide +kernel
theorem dX8_picksUntilStuck_22 : decode cX8_picksUntilStuck 22 = .ok (.istore_n 1, 1) := by decide +kernel
theorem dX8_picksUntilStuck_23 : decode cX8_picksUntilStuck 23 = .ok (.iload_n 1, 1) := by decide +kernel
theorem dX8_picksUntilStuck_24 : decode cX8_picksUntilStuck 24 = .ok (.bipush 60, 2) := by decide +kernel
theorem dX8_picksUntilStuck_26 : decode cX8_picksUntilStuck 26 = .ok (.if_icmp .gt 54, 3) := by decide +kernel
theorem dX8_picksUntilStuck_29 : decode cX8_picksUntilStuck 29 = .ok (.aload_n 0, 1) := by decide +kernel
theorem dX8_picksUntilStuck_30 : decode cX8_picksUntilStuck 30 = .ok (.getfield 43, 3) := by decide +kernel
theorem dX8_picksUntilStuck_33 : decode cX8_picksUntilStuck 33 = .ok (.aload_n 0, 1) := by decide +kernel
theorem dX8_picksUntilStuck_34 : decode cX8_picksUntilStuck 34 = .ok (.getfield 43, 3) := by decide +kernel
theorem dX8_picksUntilStuck_37 : decode cX8_picksUntilStuck 37 = .ok (.getfield 255, 3) := by decide +kernel
theorem dX8_picksUntilStuck_40 : decode cX8_picksUntilStuck 40 = .ok (.iconst 1, 1) := by decide +kernel
theorem dX8_picksUntilStuck_41 : decode cX8_picksUntilStuck 41 = .ok (.invokevirtual 262, 3) := by decide +kernel
theorem dX8_picksUntilStuck_44 : decode cX8_picksUntilStuck 44 = .ok (.ifCond .ne 5, 3) := by decide +kernel
theorem dX8_picksUntilStuck_47 : decode cX8_picksUntilStuck 47 = .ok (.iconst (-1), 1) := by decide +kernel
theorem dX8_picksUntilStuck_48 : decode cX8_picksUntilStuck 48 = .ok (.ireturn, 1) := by decide +kernel
theorem dX8_picksUntilStuck_49 : decode cX8_picksUntilStuck 49 = .ok (.aload_n 0, 1) := by decide +kernel
theorem dX8_picksUntilStuck_50 : decode cX8_picksUntilStuck 50 = .ok (.getfield 43, 3) := by decide +kernel
theorem dX8_picksUntilStuck_53 : decode cX8_picksUntilStuck 53 = .ok (.getfield 255, 3) := by decide +kernel
theorem dX8_picksUntilStuck_56 : decode cX8_picksUntilStuck 56 = .ok (.getfield 157, 3) := by decide +kernel
theorem dX8_picksUntilStuck_59 : decode cX8_picksUntilStuck 59 = .ok (.aload_n 0, 1) := by decide +kernel
theorem dX8_picksUntilStuck_60 : decode cX8_picksUntilStuck 60 = .ok (.getfield 43, 3) := by decide +kernel
theorem dX8_picksUntilStuck_63 : decode cX8_picksUntilStuck 63 = .ok (.getfield 138, 3) := by decide +kernel
theorem dX8_picksUntilStuck_66 : decode cX8_picksUntilStuck 66 = .ok (.getfield 157, 3) := by decide +kernel
theorem dX8_picksUntilStuck_69 : decode cX8_picksUntilStuck 69 = .ok (.if_icmp .eq 5, 3) := by decide +kernel
theorem dX8_picksUntilStuck_72 : decode cX8_picksUntilStuck 72 = .ok (.iload_n 1, 1) := by decide +kernel
theorem dX8_picksUntilStuck_73 : decode cX8_picksUntilStuck 73 = .ok (.ireturn, 1) := by decide +kernel
theorem dX8_picksUntilStuck_74 : decode cX8_picksUntilStuck 74 = .ok (.iinc 1 1, 3) := by decide +kernel
theorem dX8_picksUntilStuck_77 : decode cX8_picksUntilStuck 77 = .ok (.goto (-54), 3) := by decide +kernel
theorem dX8_picksUntilStuck_80 : decode cX8_picksUntilStuck 80 = .ok (.iconst (-1), 1) := by decide +kernel
theorem dX8_picksUntilStuck_81 : decode cX8_picksUntilStuck 81 = .ok (.ireturn, 1) := by decide +kernel
theorem dX8_imbalance_0 : decode cX8_imbalance 0 = .ok (.aload_n 0, 1) := by decide +kernel
theorem dX8_imbalance_1 : decode cX8_imbalance 1 = .ok (.invokevirtual 103, 3) := by decide +kernel
theorem dX8_imbalance_4 : decode cX8_imbalance 4 = .ok (.aload_n 0, 1) := by decide +kernel
theorem dX8_imbalance_5 : decode cX8_imbalance 5 = .ok (.getfield 43, 3) := by decide +kernel
theorem dX8_imbalance_8 : decode cX8_imbalance 8 = .ok (.getfield 138, 3) := by decide +kernel
theorem dX8_imbalance_11 : decode cX8_imbalance 11 = .ok (.invokevirtual 266, 3) := by decide +kernel
theorem dX8_imbalance_14 : decode cX8_imbalance 14 = .ok (.aload_n 0, 1) := by decide +kernel
theorem dX8_imbalance_15 : decode cX8_imbalance 15 = .ok (.getfield 43, 3) := by decide +kernel
theorem dX8_imbalance_18 : decode cX8_imbalance 18 = .ok (.invokevirtual 224, 3) := by decide +kernel
theorem dX8_imbalance_21 : decode cX8_imbalance 21 = .ok (.iadd, 1) := by decide +kernel
theorem dX8_imbalance_22 : decode cX8_imbalance 22 = .ok (.aload_n 0, 1) := by decide +kernel
theorem dX8_imbalance_23 : decode cX8_imbalance 23 = .ok (.getfield 43, 3) := by decide +kernel
theorem dX8_imbalance_26 : decode cX8_imbalance 26 = .ok (.getfield 138, 3) := by decide +kernel
theorem dX8_imbalance_29 : decode cX8_imbalance 29 = .ok (.getfield 269, 3) := by decide +kernel
theorem dX8_imbalance_32 : decode cX8_imbalance 32 = .ok (.isub, 1) := by decide +kernel
theorem dX8_imbalance_33 : decode cX8_imbalance 33 = .ok (.istore_n 1, 1) := by decide +kernel
theorem dX8_imbalance_34 : decode cX8_imbalance 34 = .ok (.aload_n 0, 1) := by decide +kernel
theorem dX8_imbalance_35 : decode cX8_imbalance 35 = .ok (.getfield 43, 3) := by decide +kernel
theorem dX8_imbalance_38 : decode cX8_imbalance 38 = .ok (.getfield 138, 3) := by decide +kernel
theorem dX8_imbalance_41 : decode cX8_imbalance 41 = .ok (.getfield 272, 3) := by decide +kernel
theorem dX8_imbalance_44 : decode cX8_imbalance 44 = .ok (.ifCond .eq 7, 3) := by decide +kernel
theorem dX8_imbalance_47 : decode cX8_imbalance 47 = .ok (.iconst 0, 1) := by decide +kernel
theorem dX8_imbalance_48 : decode cX8_imbalance 48 = .ok (.goto 10, 3) := by decide +kernel
theorem dX8_imbalance_51 : decode cX8_imbalance 51 = .ok (.aload_n 0, 1) := by decide +kernel
theorem dX8_imbalance_52 : decode cX8_imbalance 52 = .ok (.getfield 43, 3) := by decide +kernel
theorem dX8_imbalance_55 : decode cX8_imbalance 55 = .ok (.invokevirtual 233, 3) := by decide +kernel
theorem dX8_imbalance_58 : decode cX8_imbalance 58 = .ok (.istore_n 2, 1) := by decide +kernel
theorem dX8_imbalance_59 : decode cX8_imbalance 59 = .ok (.iload_n 1, 1) := by decide +kernel
theorem dX8_imbalance_60 : decode cX8_imbalance 60 = .ok (.invokestatic 275, 3) := by decide +kernel
theorem dX8_imbalance_63 : decode cX8_imbalance 63 = .ok (.iload_n 2, 1) := by decide +kernel
theorem dX8_imbalance_64 : decode cX8_imbalance 64 = .ok (.iadd, 1) := by decide +kernel
theorem dX8_imbalance_65 : decode cX8_imbalance 65 = .ok (.ireturn, 1) := by decide +kernel
theorem dX8_writeRow_0 : decode cX8_writeRow 0 = .ok (.aload_n 0, 1) := by decide +kernel
theorem dX8_writeRow_1 : decode cX8_writeRow 1 = .ok (.iload_n 1, 1) := by decide +kernel
theorem dX8_writeRow_2 : decode cX8_writeRow 2 = .ok (.invokevirtual 199, 3) := by decide +kernel
theorem dX8_writeRow_5 : decode cX8_writeRow 5 = .ok (.aload_n 0, 1) := by decide +kernel
theorem dX8_writeRow_6 : decode cX8_writeRow 6 = .ok (.getfield 19, 3) := by decide +kernel
theorem dX8_writeRow_9 : decode cX8_writeRow 9 = .ok (.iconst 0, 1) := by decide +kernel
theorem dX8_writeRow_10 : decode cX8_writeRow 10 = .ok (.putfield 280, 3) := by decide +kernel
theorem dX8_writeRow_13 : decode cX8_writeRow 13 = .ok (.iconst 0, 1) := by decide +kernel
theorem dX8_writeRow_14 : decode cX8_writeRow 14 = .ok (.istore_n 2, 1) := by decide +kernel
theorem dX8_writeRow_15 : decode cX8_writeRow 15 = .ok (.iload_n 2, 1) := by decide +kernel
theorem dX8_writeRow_16 : decode cX8_writeRow 16 = .ok (.aload_n 0, 1) := by decide +kernel
theorem dX8_writeRow_17 : decode cX8_writeRow 17 = .ok (.getfield 43, 3) := by decide +kernel
theorem dX8_writeRow_20 : decode cX8_writeRow 20 = .ok (.getfield 109, 3) := by decide +kernel
theorem dX8_writeRow_23 : decode cX8_writeRow 23 = .ok (.if_icmp .ge 56, 3) := by decide +kernel
theorem dX8_writeRow_26 : decode cX8_writeRow 26 = .ok (.aload_n 0, 1) := by decide +kernel
theorem dX8_writeRow_27 : decode cX8_writeRow 27 = .ok (.getfield 43, 3) := by decide +kernel
theorem dX8_writeRow_30 : decode cX8_writeRow 30 = .ok (.getfield 138, 3) := by decide +kernel
theorem dX8_writeRow_33 : decode cX8_writeRow 33 = .ok (.getfield 206, 3) := by decide +kernel
theorem dX8_writeRow_36 : decode cX8_writeRow 36 = .ok (.iload_n 1, 1) := by decide +kernel
theorem dX8_writeRow_37 : decode cX8_writeRow 37 = .ok (.invokestatic 119, 3) := by decide +kernel
theorem dX8_writeRow_40 : decode cX8_writeRow 40 = .ok (.iload_n 2, 1) := by decide +kernel
theorem dX8_writeRow_41 : decode cX8_writeRow 41 = .ok (.invokestatic 147, 3) := by decide +kernel
theorem dX8_writeRow_44 : decode cX8_writeRow 44 = .ok (.istore_n 3, 1) := by decide +kernel
theorem dX8_writeRow_45 : decode cX8_writeRow 45 = .ok (.aload_n 0, 1) := by decide +kernel
theorem dX8_writeRow_46 : decode cX8_writeRow 46 = .ok (.getfield 19, 3) := by decide +kernel
theorem dX8_writeRow_49 : decode cX8_writeRow 49 = .ok (.iload_n 3, 1) := by decide +kernel
theorem dX8_writeRow_50 : decode cX8_writeRow 50 = .ok (.ifCond .eq 8, 3) := by decide +kernel
theorem dX8_writeRow_53 : decode cX8_writeRow 53 = .ok (.bipush 65, 2) := by decide +kernel
theorem dX8_writeRow_55 : decode cX8_writeRow 55 = .ok (.goto 5, 3) := by decide +kernel
theorem dX8_writeRow_58 : decode cX8_writeRow 58 = .ok (.bipush 97, 2) := by decide +kernel
theorem dX8_writeRow_60 : decode cX8_writeRow 60 = .ok (.aload_n 0, 1) := by decide +kernel
theorem dX8_writeRow_61 : decode cX8_writeRow 61 = .ok (.getfield 43, 3) := by decide +kernel
theorem dX8_writeRow_64 : decode cX8_writeRow 64 = .ok (.iload_n 1, 1) := by decide +kernel
theorem dX8_writeRow_65 : decode cX8_writeRow 65 = .ok (.iload_n 2, 1) := by decide +kernel
theorem dX8_writeRow_66 : decode cX8_writeRow 66 = .ok (.invokevirtual 202, 3) := by decide +kernel
theorem dX8_writeRow_69 : decode cX8_writeRow 69 = .ok (.iadd, 1) := by decide +kernel
theorem dX8_writeRow_70 : decode cX8_writeRow 70 = .ok (.invokevirtual 281, 3) := by decide +kernel
theorem dX8_writeRow_73 : decode cX8_writeRow 73 = .ok (.iinc 2 1, 3) := by decide +kernel
theorem dX8_writeRow_76 : decode cX8_writeRow 76 = .ok (.goto (-61), 3) := by decide +kernel
theorem dX8_writeRow_79 : decode cX8_writeRow 79 = .ok (.aload_n 0, 1) := by decide +kernel
theorem dX8_writeRow_80 : decode cX8_writeRow 80 = .ok (.getfield 19, 3) := by decide +kernel
theorem dX8_writeRow_83 : decode cX8_writeRow 83 = .ok (.getfield 280, 3) := by decide +kernel
theorem dX8_writeRow_86 : decode cX8_writeRow 86 = .ok (.ireturn, 1) := by decide +kernel
theorem dX8_writeCard_0 : decode cX8_writeCard 0 = .ok (.aload_n 0, 1) := by decide +kernel
theorem dX8_writeCard_1 : decode cX8_writeCard 1 = .ok (.iload_n 1, 1) := by decide +kernel
theorem dX8_writeCard_2 : decode cX8_writeCard 2 = .ok (.invokevirtual 163, 3) := by decide +kernel
theorem dX8_writeCard_5 : decode cX8_writeCard 5 = .ok (.aload_n 0, 1) := by decide +kernel
theorem dX8_writeCard_6 : decode cX8_writeCard 6 = .ok (.getfield 19, 3) := by decide +kernel
theorem dX8_writeCard_9 : decode cX8_writeCard 9 = .ok (.iconst 0, 1) := by decide +kernel
theorem dX8_writeCard_10 : decode cX8_writeCard 10 = .ok (.putfield 280, 3) := by decide +kernel
theorem dX8_writeCard_13 : decode cX8_writeCard 13 = .ok (.iconst 0, 1) := by decide +kernel
theorem dX8_writeCard_14 : decode cX8_writeCard 14 = .ok (.istore_n 2, 1) := by decide +kernel
theorem dX8_writeCard_15 : decode cX8_writeCard 15 = .ok (.iload_n 2, 1) := by decide +kernel
theorem dX8_writeCard_16 : decode cX8_writeCard 16 = .ok (.aload_n 0, 1) := by decide +kernel
theorem dX8_writeCard_17 : decode cX8_writeCard 17 = .ok (.getfield 43, 3) := by decide +kernel
theorem dX8_writeCard_20 : decode cX8_writeCard 20 = .ok (.getfield 106, 3) := by decide +kernel
theorem dX8_writeCard_23 : decode cX8_writeCard 23 = .ok (.if_icmp .ge 44, 3) := by decide +kernel
theorem dX8_writeCard_26 : decode cX8_writeCard 26 = .ok (.aload_n 0, 1) := by decide +kernel
theorem dX8_writeCard_27 : decode cX8_writeCard 27 = .ok (.getfield 19, 3) := by decide +kernel
theorem dX8_writeCard_30 : decode cX8_writeCard 30 = .ok (.aload_n 0, 1) := by decide +kernel
theorem dX8_writeCard_31 : decode cX8_writeCard 31 = .ok (.getfield 43, 3) := by decide +kernel
theorem dX8_writeCard_34 : decode cX8_writeCard 34 = .ok (.getfield 138, 3) := by decide +kernel
theorem dX8_writeCard_37 : decode cX8_writeCard 37 = .ok (.getfield 166, 3) := by decide +kernel
theorem dX8_writeCard_40 : decode cX8_writeCard 40 = .ok (.iload_n 1, 1) := by decide +kernel
theorem dX8_writeCard_41 : decode cX8_writeCard 41 = .ok (.invokestatic 119, 3) := by decide +kernel
theorem dX8_writeCard_44 : decode cX8_writeCard 44 = .ok (.iload_n 2, 1) := by decide +kernel
theorem dX8_writeCard_45 : decode cX8_writeCard 45 = .ok (.invokestatic 147, 3) := by decide +kernel
theorem dX8_writeCard_48 : decode cX8_writeCard 48 = .ok (.ifCond .eq 8, 3) := by decide +kernel
theorem dX8_writeCard_51 : decode cX8_writeCard 51 = .ok (.bipush 111, 2) := by decide +kernel
theorem dX8_writeCard_53 : decode cX8_writeCard 53 = .ok (.goto 5, 3) := by decide +kernel
theorem dX8_writeCard_56 : decode cX8_writeCard 56 = .ok (.bipush 46, 2) := by decide +kernel
theorem dX8_writeCard_58 : decode cX8_writeCard 58 = .ok (.invokevirtual 281, 3) := by decide +kernel
theorem dX8_writeCard_61 : decode cX8_writeCard 61 = .ok (.iinc 2 1, 3) := by decide +kernel
theorem dX8_writeCard_64 : decode cX8_writeCard 64 = .ok (.goto (-49), 3) := by decide +kernel
theorem dX8_writeCard_67 : decode cX8_writeCard 67 = .ok (.aload_n 0, 1) := by decide +kernel
theorem dX8_writeCard_68 : decode cX8_writeCard 68 = .ok (.getfield 19, 3) := by decide +kernel
theorem dX8_writeCard_71 : decode cX8_writeCard 71 = .ok (.bipush 32, 2) := by decide +kernel
theorem dX8_writeCard_73 : decode cX8_writeCard 73 = .ok (.invokevirtual 281, 3) := by decide +kernel
theorem dX8_writeCard_76 : decode cX8_writeCard 76 = .ok (.aload_n 0, 1) := by decide +kernel
theorem dX8_writeCard_77 : decode cX8_writeCard 77 = .ok (.getfield 19, 3) := by decide +kernel
theorem dX8_writeCard_80 : decode cX8_writeCard 80 = .ok (.bipush 97, 2) := by decide +kernel
theorem dX8_writeCard_82 : decode cX8_writeCard 82 = .ok (.aload_n 0, 1) := by decide +kernel
theorem dX8_writeCard_83 : decode cX8_writeCard 83 = .ok (.getfield 43, 3) := by decide +kernel
theorem dX8_writeCard_86 : decode cX8_writeCard 86 = .ok (.getfield 138, 3) := by decide +kernel
theorem dX8_writeCard_89 : decode cX8_writeCard 89 = .ok (.getfield 169, 3) := by decide +kernel
theorem dX8_writeCard_92 : decode cX8_writeCard 92 = .ok (.iload_n 1, 1) := by decide +kernel
theorem dX8_writeCard_93 : decode cX8_writeCard 93 = .ok (.invokestatic 119, 3) := by decide +kernel
theorem dX8_writeCard_96 : decode cX8_writeCard 96 = .ok (.iadd, 1) := by decide +kernel
theorem dX8_writeCard_97 : decode cX8_writeCard 97 = .ok (.invokevirtual 281, 3) := by decide +kernel
theorem dX8_writeCard_100 : decode cX8_writeCard 100 = .ok (.aload_n 0, 1) := by decide +kernel
theorem dX8_writeCard_101 : decode cX8_writeCard 101 = .ok (.getfield 19, 3) := by decide +kernel
theorem dX8_writeCard_104 : decode cX8_writeCard 104 = .ok (.getfield 280, 3) := by decide +kernel
theorem dX8_writeCard_107 : decode cX8_writeCard 107 = .ok (.ireturn, 1) := by decide +kernel
theorem dX8_writeDeck_0 : decode cX8_writeDeck 0 = .ok (.aload_n 0, 1) := by decide +kernel
theorem dX8_writeDeck_1 : decode cX8_writeDeck 1 = .ok (.invokevirtual 103, 3) := by decide +kernel
theorem dX8_writeDeck_4 : decode cX8_writeDeck 4 = .ok (.aload_n 0, 1) := by decide +kernel
theorem dX8_writeDeck_5 : decode cX8_writeDeck 5 = .ok (.getfield 19, 3) := by decide +kernel
theorem dX8_writeDeck_8 : decode cX8_writeDeck 8 = .ok (.iconst 0, 1) := by decide +kernel
theorem dX8_writeDeck_9 : decode cX8_writeDeck 9 = .ok (.putfield 280, 3) := by decide +kernel
theorem dX8_writeDeck_12 : decode cX8_writeDeck 12 = .ok (.aload_n 0, 1) := by decide +kernel
theorem dX8_writeDeck_13 : decode cX8_writeDeck 13 = .ok (.getfield 19, 3) := by decide +kernel
theorem dX8_writeDeck_16 : decode cX8_writeDeck 16 = .ok (.aload_n 0, 1) := by decide +kernel
theorem dX8_writeDeck_17 : decode cX8_writeDeck 17 = .ok (.getfield 43, 3) := by decide +kernel
theorem dX8_writeDeck_20 : decode cX8_writeDeck 20 = .ok (.getfield 88, 3) := by decide +kernel
theorem dX8_writeDeck_23 : decode cX8_writeDeck 23 = .ok (.invokevirtual 284, 3) := by decide +kernel
theorem dX8_writeDeck_26 : decode cX8_writeDeck 26 = .ok (.aload_n 0, 1) := by decide +kernel
theorem dX8_writeDeck_27 : decode cX8_writeDeck 27 = .ok (.getfield 19, 3) := by decide +kernel
theorem dX8_writeDeck_30 : decode cX8_writeDeck 30 = .ok (.getfield 280, 3) := by decide +kernel
theorem dX8_writeDeck_33 : decode cX8_writeDeck 33 = .ok (.ireturn, 1) := by decide +kernel
theorem dX8_outputByte_0 : decode cX8_outputByte 0 = .ok (.iload_n 1, 1) := by decide +kernel
theorem dX8_outputByte_1 : decode cX8_outputByte 1 = .ok (.aload_n 0, 1) := by decide +kernel
theorem dX8_outputByte_2 : decode cX8_outputByte 2 = .ok (.getfield 19, 3) := by decide +kernel
theorem dX8_outputByte_5 : decode cX8_outputByte 5 = .ok (.getfield 280, 3) := by decide +kernel
theorem dX8_outputByte_8 : decode cX8_outputByte 8 = .ok (.invokestatic 175, 3) := by decide +kernel
theorem dX8_outputByte_11 : decode cX8_outputByte 11 = .ok (.aload_n 0, 1) := by decide +kernel
theorem dX8_outputByte_12 : decode cX8_outputByte 12 = .ok (.getfield 19, 3) := by decide +kernel
theorem dX8_outputByte_15 : decode cX8_outputByte 15 = .ok (.getfield 288, 3) := by decide +kernel
theorem dX8_outputByte_18 : decode cX8_outputByte 18 = .ok (.iload_n 1, 1) := by decide +kernel
theorem dX8_outputByte_19 : decode cX8_outputByte 19 = .ok (.invokestatic 119, 3) := by decide +kernel
theorem dX8_outputByte_22 : decode cX8_outputByte 22 = .ok (.ireturn, 1) := by decide +kernel
theorem dX8_weave_0 : decode cX8_weave 0 = .ok (.aload_n 0, 1) := by decide +kernel
theorem dX8_weave_1 : decode cX8_weave 1 = .ok (.invokevirtual 103, 3) := by decide +kernel
theorem dX8_weave_4 : decode cX8_weave 4 = .ok (.iload_n 1, 1) := by decide +kernel
theorem dX8_weave_5 : decode cX8_weave 5 = .ok (.iconst 1, 1) := by decide +kernel
theorem dX8_weave_6 : decode cX8_weave 6 = .ok (.bipush 60, 2) := by decide +kernel
theorem dX8_weave_8 : decode cX8_weave 8 = .ok (.invokestatic 291, 3) := by decide +kernel
theorem dX8_weave_11 : decode cX8_weave 11 = .ok (.aload_n 0, 1) := by decide +kernel
theorem dX8_weave_12 : decode cX8_weave 12 = .ok (.getfield 26, 3) := by decide +kernel
theorem dX8_weave_15 : decode cX8_weave 15 = .ok (.aload_n 0, 1) := by decide +kernel
theorem dX8_weave_16 : decode cX8_weave 16 = .ok (.getfield 43, 3) := by decide +kernel
theorem dX8_weave_19 : decode cX8_weave 19 = .ok (.getfield 138, 3) := by decide +kernel
theorem dX8_weave_22 : decode cX8_weave 22 = .ok (.invokevirtual 295, 3) := by decide +kernel
theorem dX8_weave_25 : decode cX8_weave 25 = .ok (.aload_n 0, 1) := by decide +kernel
theorem dX8_weave_26 : decode cX8_weave 26 = .ok (.getfield 43, 3) := by decide +kernel
theorem dX8_weave_29 : decode cX8_weave 29 = .ok (.aload_n 0, 1) := by decide +kernel
theorem dX8_weave_30 : decode cX8_weave 30 = .ok (.getfield 43, 3) := by decide +kernel
theorem dX8_weave_33 : decode cX8_weave 33 = .ok (.getfield 138, 3) := by decide +kernel
theorem dX8_weave_36 : decode cX8_weave 36 = .ok (.iload_n 1, 1) := by decide +kernel
theorem dX8_weave_37 : decode cX8_weave 37 = .ok (.invokevirtual 262, 3) := by decide +kernel
theorem dX8_weave_40 : decode cX8_weave 40 = .ok (.ireturn, 1) := by decide +kernel
theorem dX8_unweave_0 : decode cX8_unweave 0 = .ok (.aload_n 0, 1) := by decide +kernel
theorem dX8_unweave_1 : decode cX8_unweave 1 = .ok (.invokevirtual 103, 3) := by decide +kernel
theorem dX8_unweave_4 : decode cX8_unweave 4 = .ok (.iload_n 1, 1) := by decide +kernel
theorem dX8_unweave_5 : decode cX8_unweave 5 = .ok (.iconst 1, 1) := by decide +kernel
theorem dX8_unweave_6 : decode cX8_unweave 6 = .ok (.aload_n 0, 1) := by decide +kernel
theorem dX8_unweave_7 : decode cX8_unweave 7 = .ok (.getfield 43, 3) := by decide +kernel
theorem dX8_unweave_10 : decode cX8_unweave 10 = .ok (.getfield 138, 3) := by decide +kernel
theorem dX8_unweave_13 : decode cX8_unweave 13 = .ok (.getfield 196, 3) := by decide +kernel
theorem dX8_unweave_16 : decode cX8_unweave 16 = .ok (.invokestatic 291, 3) := by decide +kernel
theorem dX8_unweave_19 : decode cX8_unweave 19 = .ok (.aload_n 0, 1) := by decide +kernel
theorem dX8_unweave_20 : decode cX8_unweave 20 = .ok (.getfield 26, 3) := by decide +kernel
theorem dX8_unweave_23 : decode cX8_unweave 23 = .ok (.aload_n 0, 1) := by decide +kernel
theorem dX8_unweave_24 : decode cX8_unweave 24 = .ok (.getfield 43, 3) := by decide +kernel
theorem dX8_unweave_27 : decode cX8_unweave 27 = .ok (.getfield 138, 3) := by decide +kernel
theorem dX8_unweave_30 : decode cX8_unweave 30 = .ok (.invokevirtual 295, 3) := by decide +kernel
theorem dX8_unweave_33 : decode cX8_unweave 33 = .ok (.aload_n 0, 1) := by decide +kernel
theorem dX8_unweave_34 : decode cX8_unweave 34 = .ok (.getfield 43, 3) := by decide +kernel
theorem dX8_unweave_37 : decode cX8_unweave 37 = .ok (.iload_n 1, 1) := by decide +kernel
theorem dX8_unweave_38 : decode cX8_unweave 38 = .ok (.invokevirtual 298, 3) := by decide +kernel
theorem dX8_unweave_41 : decode cX8_unweave 41 = .ok (.aload_n 0, 1) := by decide +kernel
theorem dX8_unweave_42 : decode cX8_unweave 42 = .ok (.getfield 43, 3) := by decide +kernel
theorem dX8_unweave_45 : decode cX8_unweave 45 = .ok (.getfield 138, 3) := by decide +kernel
theorem dX8_unweave_48 : decode cX8_unweave 48 = .ok (.getfield 196, 3) := by decide +kernel
theorem dX8_unweave_51 : decode cX8_unweave 51 = .ok (.ireturn, 1) := by decide +kernel
theorem dX8_swapCards_0 : decode cX8_swapCards 0 = .ok (.aload_n 0, 1) := by decide +kernel
theorem dX8_swapCards_1 : decode cX8_swapCards 1 = .ok (.iload_n 1, 1) := by decide +kernel
theorem dX8_swapCards_2 : decode cX8_swapCards 2 = .ok (.invokevirtual 163, 3) := by decide +kernel
theorem dX8_swapCards_5 : decode cX8_swapCards 5 = .ok (.aload_n 0, 1) := by decide +kernel
theorem dX8_swapCards_6 : decode cX8_swapCards 6 = .ok (.iload_n 2, 1) := by decide +kernel
theorem dX8_swapCards_7 : decode cX8_swapCards 7 = .ok (.invokevirtual 163, 3) := by decide +kernel
theorem dX8_swapCards_10 : decode cX8_swapCards 10 = .ok (.aload_n 0, 1) := by decide +kernel
theorem dX8_swapCards_11 : decode cX8_swapCards 11 = .ok (.getfield 26, 3) := by decide +kernel
theorem dX8_swapCards_14 : decode cX8_swapCards 14 = .ok (.aload_n 0, 1) := by decide +kernel
theorem dX8_swapCards_15 : decode cX8_swapCards 15 = .ok (.getfield 43, 3) := by decide +kernel
theorem dX8_swapCards_18 : decode cX8_swapCards 18 = .ok (.getfield 138, 3) := by decide +kernel
theorem dX8_swapCards_21 : decode cX8_swapCards 21 = .ok (.invokevirtual 295, 3) := by decide +kernel
theorem dX8_swapCards_24 : decode cX8_swapCards 24 = .ok (.aload_n 0, 1) := by decide +kernel
theorem dX8_swapCards_25 : decode cX8_swapCards 25 = .ok (.getfield 43, 3) := by decide +kernel
theorem dX8_swapCards_28 : decode cX8_swapCards 28 = .ok (.getfield 138, 3) := by decide +kernel
theorem dX8_swapCards_31 : decode cX8_swapCards 31 = .ok (.iload_n 1, 1) := by decide +kernel
theorem dX8_swapCards_32 : decode cX8_swapCards 32 = .ok (.iload_n 2, 1) := by decide +kernel
theorem dX8_swapCards_33 : decode cX8_swapCards 33 = .ok (.invokevirtual 301, 3) := by decide +kernel
theorem dX8_swapCards_36 : decode cX8_swapCards 36 = .ok (.aload_n 0, 1) := by decide +kernel
theorem dX8_swapCards_37 : decode cX8_swapCards 37 = .ok (.getfield 43, 3) := by decide +kernel
theorem dX8_swapCards_40 : decode cX8_swapCards 40 = .ok (.getfield 88, 3) := by decide +kernel
theorem dX8_swapCards_43 : decode cX8_swapCards 43 = .ok (.iload_n 1, 1) := by decide +kernel
theorem dX8_swapCards_44 : decode cX8_swapCards 44 = .ok (.invokevirtual 182, 3) := by decide +kernel
theorem dX8_swapCards_47 : decode cX8_swapCards 47 = .ok (.istore_n 3, 1) := by decide +kernel
theorem dX8_swapCards_48 : decode cX8_swapCards 48 = .ok (.iload_n 1, 1) := by decide +kernel
theorem dX8_swapCards_49 : decode cX8_swapCards 49 = .ok (.iload_n 2, 1) := by decide +kernel
theorem dX8_swapCards_50 : decode cX8_swapCards 50 = .ok (.if_icmp .ne 7, 3) := by decide +kernel
theorem dX8_swapCards_53 : decode cX8_swapCards 53 = .ok (.iload_n 3, 1) := by decide +kernel
theorem dX8_swapCards_54 : decode cX8_swapCards 54 = .ok (.goto 16, 3) := by decide +kernel
theorem dX8_swapCards_57 : decode cX8_swapCards 57 = .ok (.iload_n 3, 1) := by decide +kernel
theorem dX8_swapCards_58 : decode cX8_swapCards 58 = .ok (.aload_n 0, 1) := by decide +kernel
theorem dX8_swapCards_59 : decode cX8_swapCards 59 = .ok (.getfield 43, 3) := by decide +kernel
theorem dX8_swapCards_62 : decode cX8_swapCards 62 = .ok (.getfield 88, 3) := by decide +kernel
theorem dX8_swapCards_65 : decode cX8_swapCards 65 = .ok (.iload_n 2, 1) := by decide +kernel
theorem dX8_swapCards_66 : decode cX8_swapCards 66 = .ok (.invokevirtual 182, 3) := by decide +kernel
theorem dX8_swapCards_69 : decode cX8_swapCards 69 = .ok (.iadd, 1) := by decide +kernel
theorem dX8_swapCards_70 : decode cX8_swapCards 70 = .ok (.ireturn, 1) := by decide +kernel
theorem dX8_punch_0 : decode cX8_punch 0 = .ok (.aload_n 0, 1) := by decide +kernel
theorem dX8_punch_1 : decode cX8_punch 1 = .ok (.iload_n 1, 1) := by decide +kernel
theorem dX8_punch_2 : decode cX8_punch 2 = .ok (.invokevirtual 163, 3) := by decide +kernel
theorem dX8_punch_5 : decode cX8_punch 5 = .ok (.aload_n 0, 1) := by decide +kernel
theorem dX8_punch_6 : decode cX8_punch 6 = .ok (.iload_n 2, 1) := by decide +kernel
theorem dX8_punch_7 : decode cX8_punch 7 = .ok (.invokevirtual 126, 3) := by decide +kernel
theorem dX8_punch_10 : decode cX8_punch 10 = .ok (.aload_n 0, 1) := by decide +kernel
theorem dX8_punch_11 : decode cX8_punch 11 = .ok (.getfield 26, 3) := by decide +kernel
theorem dX8_punch_14 : decode cX8_punch 14 = .ok (.aload_n 0, 1) := by decide +kernel
theorem dX8_punch_15 : decode cX8_punch 15 = .ok (.getfield 43, 3) := by decide +kernel
theorem dX8_punch_18 : decode cX8_punch 18 = .ok (.getfield 138, 3) := by decide +kernel
theorem dX8_punch_21 : decode cX8_punch 21 = .ok (.invokevirtual 295, 3) := by decide +kernel
theorem dX8_punch_24 : decode cX8_punch 24 = .ok (.aload_n 0, 1) := by decide +kernel
theorem dX8_punch_25 : decode cX8_punch 25 = .ok (.getfield 43, 3) := by decide +kernel
theorem dX8_punch_28 : decode cX8_punch 28 = .ok (.getfield 138, 3) := by decide +kernel
theorem dX8_punch_31 : decode cX8_punch 31 = .ok (.iload_n 1, 1) := by decide +kernel
theorem dX8_punch_32 : decode cX8_punch 32 = .ok (.iload_n 2, 1) := by decide +kernel
theorem dX8_punch_33 : decode cX8_punch 33 = .ok (.invokevirtual 304, 3) := by decide +kernel
theorem dX8_punch_36 : decode cX8_punch 36 = .ok (.aload_n 0, 1) := by decide +kernel
theorem dX8_punch_37 : decode cX8_punch 37 = .ok (.getfield 43, 3) := by decide +kernel
theorem dX8_punch_40 : decode cX8_punch 40 = .ok (.getfield 138, 3) := by decide +kernel
theorem dX8_punch_43 : decode cX8_punch 43 = .ok (.getfield 166, 3) := by decide +kernel
theorem dX8_punch_46 : decode cX8_punch 46 = .ok (.iload_n 1, 1) := by decide +kernel
theorem dX8_punch_47 : decode cX8_punch 47 = .ok (.invokestatic 119, 3) := by decide +kernel
theorem dX8_punch_50 : decode cX8_punch 50 = .ok (.iload_n 2, 1) := by decide +kernel
theorem dX8_punch_51 : decode cX8_punch 51 = .ok (.invokestatic 147, 3) := by decide +kernel
theorem dX8_punch_54 : decode cX8_punch 54 = .ok (.ireturn, 1) := by decide +kernel
theorem dX8_setCardColour_0 : decode cX8_setCardColour 0 = .ok (.aload_n 0, 1) := by decide +kernel
theorem dX8_setCardColour_1 : decode cX8_setCardColour 1 = .ok (.iload_n 1, 1) := by decide +kernel
theorem dX8_setCardColour_2 : decode cX8_setCardColour 2 = .ok (.invokevirtual 163, 3) := by decide +kernel
theorem dX8_setCardColour_5 : decode cX8_setCardColour 5 = .ok (.aload_n 0, 1) := by decide +kernel
theorem dX8_setCardColour_6 : decode cX8_setCardColour 6 = .ok (.iload_n 2, 1) := by decide +kernel
theorem dX8_setCardColour_7 : decode cX8_setCardColour 7 = .ok (.invokevirtual 215, 3) := by decide +kernel
theorem dX8_setCardColour_10 : decode cX8_setCardColour 10 = .ok (.aload_n 0, 1) := by decide +kernel
theorem dX8_setCardColour_11 : decode cX8_setCardColour 11 = .ok (.getfield 26, 3) := by decide +kernel
theorem dX8_setCardColour_14 : decode cX8_setCardColour 14 = .ok (.aload_n 0, 1) := by decide +kernel
theorem dX8_setCardColour_15 : decode cX8_setCardColour 15 = .ok (.getfield 43, 3) := by decide +kernel
theorem dX8_setCardColour_18 : decode cX8_setCardColour 18 = .ok (.getfield 138, 3) := by decide +kernel
theorem dX8_setCardColour_21 : decode cX8_setCardColour 21 = .ok (.invokevirtual 295, 3) := by decide +kernel
theorem dX8_setCardColour_24 : decode cX8_setCardColour 24 = .ok (.aload_n 0, 1) := by decide +kernel
theorem dX8_setCardColour_25 : decode cX8_setCardColour 25 = .ok (.getfield 43, 3) := by decide +kernel
theorem dX8_setCardColour_28 : decode cX8_setCardColour 28 = .ok (.getfield 138, 3) := by decide +kernel
theorem dX8_setCardColour_31 : decode cX8_setCardColour 31 = .ok (.getfield 169, 3) := by decide +kernel
theorem dX8_setCardColour_34 : decode cX8_setCardColour 34 = .ok (.iload_n 1, 1) := by decide +kernel
theorem dX8_setCardColour_35 : decode cX8_setCardColour 35 = .ok (.invokestatic 119, 3) := by decide +kernel
theorem dX8_setCardColour_38 : decode cX8_setCardColour 38 = .ok (.istore_n 3, 1) := by decide +kernel
theorem dX8_setCardColour_39 : decode cX8_setCardColour 39 = .ok (.aload_n 0, 1) := by decide +kernel
theorem dX8_setCardColour_40 : decode cX8_setCardColour 40 = .ok (.getfield 43, 3) := by decide +kernel
theorem dX8_setCardColour_43 : decode cX8_setCardColour 43 = .ok (.getfield 138, 3) := by decide +kernel
theorem dX8_setCardColour_46 : decode cX8_setCardColour 46 = .ok (.iload_n 1, 1) := by decide +kernel
theorem dX8_setCardColour_47 : decode cX8_setCardColour 47 = .ok (.iload_n 2, 1) := by decide +kernel
theorem dX8_setCardColour_48 : decode cX8_setCardColour 48 = .ok (.invokevirtual 307, 3) := by decide +kernel
theorem dX8_setCardColour_51 : decode cX8_setCardColour 51 = .ok (.iload_n 3, 1) := by decide +kernel
theorem dX8_setCardColour_52 : decode cX8_setCardColour 52 = .ok (.ireturn, 1) := by decide +kernel
theorem dX8_bringYarn_0 : decode cX8_bringYarn 0 = .ok (.aload_n 0, 1) := by decide +kernel
theorem dX8_bringYarn_1 : decode cX8_bringYarn 1 = .ok (.iload_n 1, 1) := by decide +kernel
theorem dX8_bringYarn_2 : decode cX8_bringYarn 2 = .ok (.invokevirtual 215, 3) := by decide +kernel
theorem dX8_bringYarn_5 : decode cX8_bringYarn 5 = .ok (.iload_n 2, 1) := by decide +kernel
theorem dX8_bringYarn_6 : decode cX8_bringYarn 6 = .ok (.iconst 1, 1) := by decide +kernel
theorem dX8_bringYarn_7 : decode cX8_bringYarn 7 = .ok (.sipush 999, 3) := by decide +kernel
theorem dX8_bringYarn_10 : decode cX8_bringYarn 10 = .ok (.invokestatic 291, 3) := by decide +kernel
theorem dX8_bringYarn_13 : decode cX8_bringYarn 13 = .ok (.aload_n 0, 1) := by decide +kernel
theorem dX8_bringYarn_14 : decode cX8_bringYarn 14 = .ok (.getfield 26, 3) := by decide +kernel
theorem dX8_bringYarn_17 : decode cX8_bringYarn 17 = .ok (.aload_n 0, 1) := by decide +kernel
theorem dX8_bringYarn_18 : decode cX8_bringYarn 18 = .ok (.getfield 43, 3) := by decide +kernel
theorem dX8_bringYarn_21 : decode cX8_bringYarn 21 = .ok (.getfield 138, 3) := by decide +kernel
theorem dX8_bringYarn_24 : decode cX8_bringYarn 24 = .ok (.invokevirtual 295, 3) := by decide +kernel
theorem dX8_bringYarn_27 : decode cX8_bringYarn 27 = .ok (.aload_n 0, 1) := by decide +kernel
theorem dX8_bringYarn_28 : decode cX8_bringYarn 28 = .ok (.getfield 43, 3) := by decide +kernel
theorem dX8_bringYarn_31 : decode cX8_bringYarn 31 = .ok (.getfield 138, 3) := by decide +kernel
theorem dX8_bringYarn_34 : decode cX8_bringYarn 34 = .ok (.iload_n 1, 1) := by decide +kernel
theorem dX8_bringYarn_35 : decode cX8_bringYarn 35 = .ok (.iload_n 2, 1) := by decide +kernel
theorem dX8_bringYarn_36 : decode cX8_bringYarn 36 = .ok (.invokevirtual 310, 3) := by decide +kernel
theorem dX8_bringYarn_39 : decode cX8_bringYarn 39 = .ok (.aload_n 0, 1) := by decide +kernel
theorem dX8_bringYarn_40 : decode cX8_bringYarn 40 = .ok (.getfield 43, 3) := by decide +kernel
theorem dX8_bringYarn_43 : decode cX8_bringYarn 43 = .ok (.getfield 138, 3) := by decide +kernel
theorem dX8_bringYarn_46 : decode cX8_bringYarn 46 = .ok (.getfield 242, 3) := by decide +kernel
theorem dX8_bringYarn_49 : decode cX8_bringYarn 49 = .ok (.iload_n 1, 1) := by decide +kernel
theorem dX8_bringYarn_50 : decode cX8_bringYarn 50 = .ok (.invokestatic 119, 3) := by decide +kernel
theorem dX8_bringYarn_53 : decode cX8_bringYarn 53 = .ok (.ireturn, 1) := by decide +kernel
theorem dX8_oil_0 : decode cX8_oil 0 = .ok (.aload_n 0, 1) := by decide +kernel
theorem dX8_oil_1 : decode cX8_oil 1 = .ok (.iload_n 1, 1) := by decide +kernel
theorem dX8_oil_2 : decode cX8_oil 2 = .ok (.invokevirtual 126, 3) := by decide +kernel
theorem dX8_oil_5 : decode cX8_oil 5 = .ok (.aload_n 0, 1) := by decide +kernel
theorem dX8_oil_6 : decode cX8_oil 6 = .ok (.getfield 26, 3) := by decide +kernel
theorem dX8_oil_9 : decode cX8_oil 9 = .ok (.aload_n 0, 1) := by decide +kernel
theorem dX8_oil_10 : decode cX8_oil 10 = .ok (.getfield 43, 3) := by decide +kernel
theorem dX8_oil_13 : decode cX8_oil 13 = .ok (.getfield 138, 3) := by decide +kernel
theorem dX8_oil_16 : decode cX8_oil 16 = .ok (.invokevirtual 295, 3) := by decide +kernel
theorem dX8_oil_19 : decode cX8_oil 19 = .ok (.aload_n 0, 1) := by decide +kernel
theorem dX8_oil_20 : decode cX8_oil 20 = .ok (.getfield 43, 3) := by decide +kernel
theorem dX8_oil_23 : decode cX8_oil 23 = .ok (.getfield 138, 3) := by decide +kernel
theorem dX8_oil_26 : decode cX8_oil 26 = .ok (.getfield 154, 3) := by decide +kernel
theorem dX8_oil_29 : decode cX8_oil 29 = .ok (.iload_n 1, 1) := by decide +kernel
theorem dX8_oil_30 : decode cX8_oil 30 = .ok (.invokestatic 119, 3) := by decide +kernel
theorem dX8_oil_33 : decode cX8_oil 33 = .ok (.istore_n 2, 1) := by decide +kernel
theorem dX8_oil_34 : decode cX8_oil 34 = .ok (.aload_n 0, 1) := by decide +kernel
theorem dX8_oil_35 : decode cX8_oil 35 = .ok (.getfield 43, 3) := by decide +kernel
theorem dX8_oil_38 : decode cX8_oil 38 = .ok (.getfield 138, 3) := by decide +kernel
theorem dX8_oil_41 : decode cX8_oil 41 = .ok (.iload_n 1, 1) := by decide +kernel
theorem dX8_oil_42 : decode cX8_oil 42 = .ok (.invokevirtual 313, 3) := by decide +kernel
theorem dX8_oil_45 : decode cX8_oil 45 = .ok (.iload_n 2, 1) := by decide +kernel
theorem dX8_oil_46 : decode cX8_oil 46 = .ok (.ireturn, 1) := by decide +kernel
theorem dX8_mend_0 : decode cX8_mend 0 = .ok (.aload_n 0, 1) := by decide +kernel
theorem dX8_mend_1 : decode cX8_mend 1 = .ok (.iload_n 1, 1) := by decide +kernel
theorem dX8_mend_2 : decode cX8_mend 2 = .ok (.invokevirtual 112, 3) := by decide +kernel
theorem dX8_mend_5 : decode cX8_mend 5 = .ok (.aload_n 0, 1) := by decide +kernel
theorem dX8_mend_6 : decode cX8_mend 6 = .ok (.getfield 43, 3) := by decide +kernel
theorem dX8_mend_9 : decode cX8_mend 9 = .ok (.getfield 138, 3) := by decide +kernel
theorem dX8_mend_12 : decode cX8_mend 12 = .ok (.getfield 142, 3) := by decide +kernel
theorem dX8_mend_15 : decode cX8_mend 15 = .ok (.iload_n 1, 1) := by decide +kernel
theorem dX8_mend_16 : decode cX8_mend 16 = .ok (.invokestatic 147, 3) := by decide +kernel
theorem dX8_mend_19 : decode cX8_mend 19 = .ok (.ifCond .ne 14, 3) := by decide +kernel
theorem dX8_mend_22 : decode cX8_mend 22 = .ok (.new 76, 3) := by decide +kernel
theorem dX8_mend_25 : decode cX8_mend 25 = .ok (.dup, 1) := by decide +kernel
theorem dX8_mend_26 : decode cX8_mend 26 = .ok (.ldc_w 316, 3) := by decide +kernel
theorem dX8_mend_29 : decode cX8_mend 29 = .ok (.invokespecial 80, 3) := by decide +kernel
theorem dX8_mend_32 : decode cX8_mend 32 = .ok (.athrow, 1) := by decide +kernel
theorem dX8_mend_33 : decode cX8_mend 33 = .ok (.aload_n 0, 1) := by decide +kernel
theorem dX8_mend_34 : decode cX8_mend 34 = .ok (.getfield 26, 3) := by decide +kernel
theorem dX8_mend_37 : decode cX8_mend 37 = .ok (.aload_n 0, 1) := by decide +kernel
theorem dX8_mend_38 : decode cX8_mend 38 = .ok (.getfield 43, 3) := by decide +kernel
theorem dX8_mend_41 : decode cX8_mend 41 = .ok (.getfield 138, 3) := by decide +kernel
theorem dX8_mend_44 : decode cX8_mend 44 = .ok (.invokevirtual 295, 3) := by decide +kernel
theorem dX8_mend_47 : decode cX8_mend 47 = .ok (.aload_n 0, 1) := by decide +kernel
theorem dX8_mend_48 : decode cX8_mend 48 = .ok (.getfield 43, 3) := by decide +kernel
theorem dX8_mend_51 : decode cX8_mend 51 = .ok (.getfield 138, 3) := by decide +kernel
theorem dX8_mend_54 : decode cX8_mend 54 = .ok (.iload_n 1, 1) := by decide +kernel
theorem dX8_mend_55 : decode cX8_mend 55 = .ok (.invokevirtual 318, 3) := by decide +kernel
theorem dX8_mend_58 : decode cX8_mend 58 = .ok (.aload_n 0, 1) := by decide +kernel
theorem dX8_mend_59 : decode cX8_mend 59 = .ok (.getfield 43, 3) := by decide +kernel
theorem dX8_mend_62 : decode cX8_mend 62 = .ok (.getfield 138, 3) := by decide +kernel
theorem dX8_mend_65 : decode cX8_mend 65 = .ok (.getfield 142, 3) := by decide +kernel
theorem dX8_mend_68 : decode cX8_mend 68 = .ok (.invokestatic 133, 3) := by decide +kernel
theorem dX8_mend_71 : decode cX8_mend 71 = .ok (.ireturn, 1) := by decide +kernel
theorem dX8_undo_0 : decode cX8_undo 0 = .ok (.aload_n 0, 1) := by decide +kernel
theorem dX8_undo_1 : decode cX8_undo 1 = .ok (.getfield 26, 3) := by decide +kernel
theorem dX8_undo_4 : decode cX8_undo 4 = .ok (.aload_n 0, 1) := by decide +kernel
theorem dX8_undo_5 : decode cX8_undo 5 = .ok (.getfield 43, 3) := by decide +kernel
theorem dX8_undo_8 : decode cX8_undo 8 = .ok (.getfield 138, 3) := by decide +kernel
theorem dX8_undo_11 : decode cX8_undo 11 = .ok (.invokevirtual 321, 3) := by decide +kernel
theorem dX8_undo_14 : decode cX8_undo 14 = .ok (.ifCond .ne 14, 3) := by decide +kernel
theorem dX8_undo_17 : decode cX8_undo 17 = .ok (.new 325, 3) := by decide +kernel
theorem dX8_undo_20 : decode cX8_undo 20 = .ok (.dup, 1) := by decide +kernel
theorem dX8_undo_21 : decode cX8_undo 21 = .ok (.ldc_w 327, 3) := by decide +kernel
theorem dX8_undo_24 : decode cX8_undo 24 = .ok (.invokespecial 329, 3) := by decide +kernel
theorem dX8_undo_27 : decode cX8_undo 27 = .ok (.athrow, 1) := by decide +kernel
theorem dX8_undo_28 : decode cX8_undo 28 = .ok (.aload_n 0, 1) := by decide +kernel
theorem dX8_undo_29 : decode cX8_undo 29 = .ok (.getfield 26, 3) := by decide +kernel
theorem dX8_undo_32 : decode cX8_undo 32 = .ok (.getfield 330, 3) := by decide +kernel
theorem dX8_undo_35 : decode cX8_undo 35 = .ok (.ireturn, 1) := by decide +kernel
theorem dX8_undoCount_0 : decode cX8_undoCount 0 = .ok (.aload_n 0, 1) := by decide +kernel
theorem dX8_undoCount_1 : decode cX8_undoCount 1 = .ok (.getfield 26, 3) := by decide +kernel
theorem dX8_undoCount_4 : decode cX8_undoCount 4 = .ok (.getfield 330, 3) := by decide +kernel
theorem dX8_undoCount_7 : decode cX8_undoCount 7 = .ok (.ireturn, 1) := by decide +kernel
theorem dX8_saveState_0 : decode cX8_saveState 0 = .ok (.aload_n 0, 1) := by decide +kernel
theorem dX8_saveState_1 : decode cX8_saveState 1 = .ok (.invokevirtual 103, 3) := by decide +kernel
theorem dX8_saveState_4 : decode cX8_saveState 4 = .ok (.iload_n 1, 1) := by decide +kernel
theorem dX8_saveState_5 : decode cX8_saveState 5 = .ok (.iconst 2, 1) := by decide +kernel
theorem dX8_saveState_6 : decode cX8_saveState 6 = .ok (.invokestatic 175, 3) := by decide +kernel
theorem dX8_saveState_9 : decode cX8_saveState 9 = .ok (.iload_n 1, 1) := by decide +kernel
theorem dX8_saveState_10 : decode cX8_saveState 10 = .ok (.ifCond .ne 10, 3) := by decide +kernel
theorem dX8_saveState_13 : decode cX8_saveState 13 = .ok (.aload_n 0, 1) := by decide +kernel
theorem dX8_saveState_14 : decode cX8_saveState 14 = .ok (.getfield 33, 3) := by decide +kernel
theorem dX8_saveState_17 : decode cX8_saveState 17 = .ok (.goto 7, 3) := by decide +kernel
theorem dX8_saveState_20 : decode cX8_saveState 20 = .ok (.aload_n 0, 1) := by decide +kernel
theorem dX8_saveState_21 : decode cX8_saveState 21 = .ok (.getfield 37, 3) := by decide +kernel
theorem dX8_saveState_24 : decode cX8_saveState 24 = .ok (.astore_n 2, 1) := by decide +kernel
theorem dX8_saveState_25 : decode cX8_saveState 25 = .ok (.aload_n 2, 1) := by decide +kernel
theorem dX8_saveState_26 : decode cX8_saveState 26 = .ok (.getfield 333, 3) := by decide +kernel
theorem dX8_saveState_29 : decode cX8_saveState 29 = .ok (.aload_n 0, 1) := by decide +kernel
theorem dX8_saveState_30 : decode cX8_saveState 30 = .ok (.getfield 43, 3) := by decide +kernel
theorem dX8_saveState_33 : decode cX8_saveState 33 = .ok (.getfield 138, 3) := by decide +kernel
theorem dX8_saveState_36 : decode cX8_saveState 36 = .ok (.invokevirtual 258, 3) := by decide +kernel
theorem dX8_saveState_39 : decode cX8_saveState 39 = .ok (.aload_n 2, 1) := by decide +kernel
theorem dX8_saveState_40 : decode cX8_saveState 40 = .ok (.iconst 1, 1) := by decide +kernel
theorem dX8_saveState_41 : decode cX8_saveState 41 = .ok (.putfield 85, 3) := by decide +kernel
theorem dX8_saveState_44 : decode cX8_saveState 44 = .ok (.aload_n 0, 1) := by decide +kernel
theorem dX8_saveState_45 : decode cX8_saveState 45 = .ok (.getfield 43, 3) := by decide +kernel
theorem dX8_saveState_48 : decode cX8_saveState 48 = .ok (.getfield 138, 3) := by decide +kernel
theorem dX8_saveState_51 : decode cX8_saveState 51 = .ok (.getfield 196, 3) := by decide +kernel
theorem dX8_saveState_54 : decode cX8_saveState 54 = .ok (.ireturn, 1) := by decide +kernel
theorem dX8_restoreState_0 : decode cX8_restoreState 0 = .ok (.iload_n 1, 1) := by decide +kernel
theorem dX8_restoreState_1 : decode cX8_restoreState 1 = .ok (.iconst 2, 1) := by decide +kernel
theorem dX8_restoreState_2 : decode cX8_restoreState 2 = .ok (.invokestatic 175, 3) := by decide +kernel
theorem dX8_restoreState_5 : decode cX8_restoreState 5 = .ok (.iload_n 1, 1) := by decide +kernel
theorem dX8_restoreState_6 : decode cX8_restoreState 6 = .ok (.ifCond .ne 10, 3) := by decide +kernel
theorem dX8_restoreState_9 : decode cX8_restoreState 9 = .ok (.aload_n 0, 1) := by decide +kernel
theorem dX8_restoreState_10 : decode cX8_restoreState 10 = .ok (.getfield 33, 3) := by decide +kernel
theorem dX8_restoreState_13 : decode cX8_restoreState 13 = .ok (.goto 7, 3) := by decide +kernel
theorem dX8_restoreState_16 : decode cX8_restoreState 16 = .ok (.aload_n 0, 1) := by decide +kernel
theorem dX8_restoreState_17 : decode cX8_restoreState 17 = .ok (.getfield 37, 3) := by decide +kernel
theorem dX8_restoreState_20 : decode cX8_restoreState 20 = .ok (.astore_n 2, 1) := by decide +kernel
theorem dX8_restoreState_21 : decode cX8_restoreState 21 = .ok (.aload_n 2, 1) := by decide +kernel
theorem dX8_restoreState_22 : decode cX8_restoreState 22 = .ok (.getfield 85, 3) := by decide +kernel
theorem dX8_restoreState_25 : decode cX8_restoreState 25 = .ok (.ifCond .ne 14, 3) := by decide +kernel
theorem dX8_restoreState_28 : decode cX8_restoreState 28 = .ok (.new 325, 3) := by decide +kernel
theorem dX8_restoreState_31 : decode cX8_restoreState 31 = .ok (.dup, 1) := by decide +kernel
theorem dX8_restoreState_32 : decode cX8_restoreState 32 = .ok (.ldc_w 336, 3) := by decide +kernel
theorem dX8_restoreState_35 : decode cX8_restoreState 35 = .ok (.invokespecial 329, 3) := by decide +kernel
theorem dX8_restoreState_38 : decode cX8_restoreState 38 = .ok (.athrow, 1) := by decide +kernel
theorem dX8_restoreState_39 : decode cX8_restoreState 39 = .ok (.aload_n 0, 1) := by decide +kernel
theorem dX8_restoreState_40 : decode cX8_restoreState 40 = .ok (.getfield 43, 3) := by decide +kernel
theorem dX8_restoreState_43 : decode cX8_restoreState 43 = .ok (.getfield 138, 3) := by decide +kernel
theorem dX8_restoreState_46 : decode cX8_restoreState 46 = .ok (.aload_n 2, 1) := by decide +kernel
theorem dX8_restoreState_47 : decode cX8_restoreState 47 = .ok (.getfield 333, 3) := by decide +kernel
theorem dX8_restoreState_50 : decode cX8_restoreState 50 = .ok (.invokevirtual 258, 3) := by decide +kernel
theorem dX8_restoreState_53 : decode cX8_restoreState 53 = .ok (.aload_n 0, 1) := by decide +kernel
theorem dX8_restoreState_54 : decode cX8_restoreState 54 = .ok (.getfield 26, 3) := by decide +kernel
theorem dX8_restoreState_57 : decode cX8_restoreState 57 = .ok (.invokevirtual 82, 3) := by decide +kernel
theorem dX8_restoreState_60 : decode cX8_restoreState 60 = .ok (.aload_n 0, 1) := by decide +kernel
theorem dX8_restoreState_61 : decode cX8_restoreState 61 = .ok (.getfield 43, 3) := by decide +kernel
theorem dX8_restoreState_64 : decode cX8_restoreState 64 = .ok (.getfield 138, 3) := by decide +kernel
theorem dX8_restoreState_67 : decode cX8_restoreState 67 = .ok (.getfield 196, 3) := by decide +kernel
theorem dX8_restoreState_70 : decode cX8_restoreState 70 = .ok (.ireturn, 1) := by decide +kernel
theorem dX8_requireLoaded_0 : decode cX8_requireLoaded 0 = .ok (.aload_n 0, 1) := by decide +kernel
theorem dX8_requireLoaded_1 : decode cX8_requireLoaded 1 = .ok (.getfield 47, 3) := by decide +kernel
theorem dX8_requireLoaded_4 : decode cX8_requireLoaded 4 = .ok (.ifCond .ne 14, 3) := by decide +kernel
theorem dX8_requireLoaded_7 : decode cX8_requireLoaded 7 = .ok (.new 325, 3) := by decide +kernel
theorem dX8_requireLoaded_10 : decode cX8_requireLoaded 10 = .ok (.dup, 1) := by decide +kernel
theorem dX8_requireLoaded_11 : decode cX8_requireLoaded 11 = .ok (.ldc_w 338, 3) := by decide +kernel
theorem dX8_requireLoaded_14 : decode cX8_requireLoaded 14 = .ok (.invokespecial 329, 3) := by decide +kernel
theorem dX8_requireLoaded_17 : decode cX8_requireLoaded 17 = .ok (.athrow, 1) := by decide +kernel
theorem dX8_requireLoaded_18 : decode cX8_requireLoaded 18 = .ok (.return_, 1) := by decide +kernel
theorem dX8_requireWarp_0 : decode cX8_requireWarp 0 = .ok (.aload_n 0, 1) := by decide +kernel
theorem dX8_requireWarp_1 : decode cX8_requireWarp 1 = .ok (.invokevirtual 103, 3) := by decide +kernel
theorem dX8_requireWarp_4 : decode cX8_requireWarp 4 = .ok (.iload_n 1, 1) := by decide +kernel
theorem dX8_requireWarp_5 : decode cX8_requireWarp 5 = .ok (.aload_n 0, 1) := by decide +kernel
theorem dX8_requireWarp_6 : decode cX8_requireWarp 6 = .ok (.getfield 43, 3) := by decide +kernel
theorem dX8_requireWarp_9 : decode cX8_requireWarp 9 = .ok (.getfield 109, 3) := by decide +kernel
theorem dX8_requireWarp_12 : decode cX8_requireWarp 12 = .ok (.invokestatic 175, 3) := by decide +kernel
theorem dX8_requireWarp_15 : decode cX8_requireWarp 15 = .ok (.return_, 1) := by decide +kernel
theorem dX8_requireHarness_0 : decode cX8_requireHarness 0 = .ok (.aload_n 0, 1) := by decide +kernel
theorem dX8_requireHarness_1 : decode cX8_requireHarness 1 = .ok (.invokevirtual 103, 3) := by decide +kernel
theorem dX8_requireHarness_4 : decode cX8_requireHarness 4 = .ok (.iload_n 1, 1) := by decide +kernel
theorem dX8_requireHarness_5 : decode cX8_requireHarness 5 = .ok (.aload_n 0, 1) := by decide +kernel
theorem dX8_requireHarness_6 : decode cX8_requireHarness 6 = .ok (.getfield 43, 3) := by decide +kernel
theorem dX8_requireHarness_9 : decode cX8_requireHarness 9 = .ok (.getfield 106, 3) := by decide +kernel
theorem dX8_requireHarness_12 : decode cX8_requireHarness 12 = .ok (.invokestatic 175, 3) := by decide +kernel
theorem dX8_requireHarness_15 : decode cX8_requireHarness 15 = .ok (.return_, 1) := by decide +kernel
theorem dX8_requireCard_0 : decode cX8_requireCard 0 = .ok (.aload_n 0, 1) := by decide +kernel
theorem dX8_requireCard_1 : decode cX8_requireCard 1 = .ok (.invokevirtual 103, 3) := by decide +kernel
theorem dX8_requireCard_4 : decode cX8_requireCard 4 = .ok (.iload_n 1, 1) := by decide +kernel
theorem dX8_requireCard_5 : decode cX8_requireCard 5 = .ok (.aload_n 0, 1) := by decide +kernel
theorem dX8_requireCard_6 : decode cX8_requireCard 6 = .ok (.getfield 43, 3) := by decide +kernel
theorem dX8_requireCard_9 : decode cX8_requireCard 9 = .ok (.getfield 160, 3) := by decide +kernel
theorem dX8_requireCard_12 : decode cX8_requireCard 12 = .ok (.invokestatic 175, 3) := by decide +kernel
theorem dX8_requireCard_15 : decode cX8_requireCard 15 = .ok (.return_, 1) := by decide +kernel
theorem dX8_requireRow_0 : decode cX8_requireRow 0 = .ok (.aload_n 0, 1) := by decide +kernel
theorem dX8_requireRow_1 : decode cX8_requireRow 1 = .ok (.invokevirtual 103, 3) := by decide +kernel
theorem dX8_requireRow_4 : decode cX8_requireRow 4 = .ok (.iload_n 1, 1) := by decide +kernel
theorem dX8_requireRow_5 : decode cX8_requireRow 5 = .ok (.aload_n 0, 1) := by decide +kernel
theorem dX8_requireRow_6 : decode cX8_requireRow 6 = .ok (.getfield 43, 3) := by decide +kernel
theorem dX8_requireRow_9 : decode cX8_requireRow 9 = .ok (.getfield 138, 3) := by decide +kernel
theorem dX8_requireRow_12 : decode cX8_requireRow 12 = .ok (.getfield 196, 3) := by decide +kernel
theorem dX8_requireRow_15 : decode cX8_requireRow 15 = .ok (.invokestatic 175, 3) := by decide +kernel
theorem dX8_requireRow_18 : decode cX8_requireRow 18 = .ok (.return_, 1) := by decide +kernel
theorem dX8_requireColour_0 : decode cX8_requireColour 0 = .ok (.aload_n 0, 1) := by decide +kernel
theorem dX8_requireColour_1 : decode cX8_requireColour 1 = .ok (.invokevirtual 103, 3) := by decide +kernel
theorem dX8_requireColour_4 : decode cX8_requireColour 4 = .ok (.iload_n 1, 1) := by decide +kernel
theorem dX8_requireColour_5 : decode cX8_requireColour 5 = .ok (.iconst 0, 1) := by decide +kernel
theorem dX8_requireColour_6 : decode cX8_requireColour 6 = .ok (.iconst 5, 1) := by decide +kernel
theorem dX8_requireColour_7 : decode cX8_requireColour 7 = .ok (.invokestatic 291, 3) := by decide +kernel
theorem dX8_requireColour_10 : decode cX8_requireColour 10 = .ok (.return_, 1) := by decide +kernel
theorem dX8_requireIndex_0 : decode cX8_requireIndex 0 = .ok (.iload_n 0, 1) := by decide +kernel
theorem dX8_requireIndex_1 : decode cX8_requireIndex 1 = .ok (.ifCond .lt 8, 3) := by decide +kernel
theorem dX8_requireIndex_4 : decode cX8_requireIndex 4 = .ok (.iload_n 0, 1) := by decide +kernel
theorem dX8_requireIndex_5 : decode cX8_requireIndex 5 = .ok (.iload_n 1, 1) := by decide +kernel
theorem dX8_requireIndex_6 : decode cX8_requireIndex 6 = .ok (.if_icmp .lt 14, 3) := by decide +kernel
theorem dX8_requireIndex_9 : decode cX8_requireIndex 9 = .ok (.new 65, 3) := by decide +kernel
theorem dX8_requireIndex_12 : decode cX8_requireIndex 12 = .ok (.dup, 1) := by decide +kernel
theorem dX8_requireIndex_13 : decode cX8_requireIndex 13 = .ok (.ldc_w 340, 3) := by decide +kernel
theorem dX8_requireIndex_16 : decode cX8_requireIndex 16 = .ok (.invokespecial 69, 3) := by decide +kernel
theorem dX8_requireIndex_19 : decode cX8_requireIndex 19 = .ok (.athrow, 1) := by decide +kernel
theorem dX8_requireIndex_20 : decode cX8_requireIndex 20 = .ok (.return_, 1) := by decide +kernel
theorem dX8_requireRange_0 : decode cX8_requireRange 0 = .ok (.iload_n 0, 1) := by decide +kernel
theorem dX8_requireRange_1 : decode cX8_requireRange 1 = .ok (.iload_n 1, 1) := by decide +kernel
theorem dX8_requireRange_2 : decode cX8_requireRange 2 = .ok (.if_icmp .lt 8, 3) := by decide +kernel
theorem dX8_requireRange_5 : decode cX8_requireRange 5 = .ok (.iload_n 0, 1) := by decide +kernel
theorem dX8_requireRange_6 : decode cX8_requireRange 6 = .ok (.iload_n 2, 1) := by decide +kernel
theorem dX8_requireRange_7 : decode cX8_requireRange 7 = .ok (.if_icmp .le 14, 3) := by decide +kernel
theorem dX8_requireRange_10 : decode cX8_requireRange 10 = .ok (.new 76, 3) := by decide +kernel
theorem dX8_requireRange_13 : decode cX8_requireRange 13 = .ok (.dup, 1) := by decide +kernel
theorem dX8_requireRange_14 : decode cX8_requireRange 14 = .ok (.ldc_w 342, 3) := by decide +kernel
theorem dX8_requireRange_17 : decode cX8_requireRange 17 = .ok (.invokespecial 80, 3) := by decide +kernel
theorem dX8_requireRange_20 : decode cX8_requireRange 20 = .ok (.athrow, 1) := by decide +kernel
theorem dX8_requireRange_21 : decode cX8_requireRange 21 = .ok (.return_, 1) := by decide +kernel
theorem dX8_at_0 : decode cX8_at 0 = .ok (.iload_n 1, 1) := by decide +kernel
theorem dX8_at_1 : decode cX8_at 1 = .ok (.ifCond .lt 15, 3) := by decide +kernel
theorem dX8_at_4 : decode cX8_at 4 = .ok (.iload_n 1, 1) := by decide +kernel
theorem dX8_at_5 : decode cX8_at 5 = .ok (.aload_n 0, 1) := by decide +kernel
theorem dX8_at_6 : decode cX8_at 6 = .ok (.arraylength, 1) := by decide +kernel
theorem dX8_at_7 : decode cX8_at 7 = .ok (.if_icmp .ge 9, 3) := by decide +kernel
theorem dX8_at_10 : decode cX8_at 10 = .ok (.aload_n 0, 1) := by decide +kernel
theorem dX8_at_11 : decode cX8_at 11 = .ok (.iload_n 1, 1) := by decide +kernel
theorem dX8_at_12 : decode cX8_at 12 = .ok (.iaload, 1) := by decide +kernel
theorem dX8_at_13 : decode cX8_at 13 = .ok (.goto 4, 3) := by decide +kernel
theorem dX8_at_16 : decode cX8_at 16 = .ok (.iconst 0, 1) := by decide +kernel
theorem dX8_at_17 : decode cX8_at 17 = .ok (.ireturn, 1) := by decide +kernel
theorem dX8_put_0 : decode cX8_put 0 = .ok (.iload_n 1, 1) := by decide +kernel
theorem dX8_put_1 : decode cX8_put 1 = .ok (.ifCond .lt 13, 3) := by decide +kernel
theorem dX8_put_4 : decode cX8_put 4 = .ok (.iload_n 1, 1) := by decide +kernel
theorem dX8_put_5 : decode cX8_put 5 = .ok (.aload_n 0, 1) := by decide +kernel
theorem dX8_put_6 : decode cX8_put 6 = .ok (.arraylength, 1) := by decide +kernel
theorem dX8_put_7 : decode cX8_put 7 = .ok (.if_icmp .ge 7, 3) := by decide +kernel
theorem dX8_put_10 : decode cX8_put 10 = .ok (.aload_n 0, 1) := by decide +kernel
theorem dX8_put_11 : decode cX8_put 11 = .ok (.iload_n 1, 1) := by decide +kernel
theorem dX8_put_12 : decode cX8_put 12 = .ok (.iload_n 2, 1) := by decide +kernel
theorem dX8_put_13 : decode cX8_put 13 = .ok (.iastore, 1) := by decide +kernel
theorem dX8_put_14 : decode cX8_put 14 = .ok (.return_, 1) := by decide +kernel
theorem dX8_copy_0 : decode cX8_copy 0 = .ok (.aload_n 0, 1) := by decide +kernel
theorem dX8_copy_1 : decode cX8_copy 1 = .ok (.iconst 0, 1) := by decide +kernel
theorem dX8_copy_2 : decode cX8_copy 2 = .ok (.aload_n 1, 1) := by decide +kernel
theorem dX8_copy_3 : decode cX8_copy 3 = .ok (.iconst 0, 1) := by decide +kernel
theorem dX8_copy_4 : decode cX8_copy 4 = .ok (.aload_n 0, 1) := by decide +kernel
theorem dX8_copy_5 : decode cX8_copy 5 = .ok (.arraylength, 1) := by decide +kernel
theorem dX8_copy_6 : decode cX8_copy 6 = .ok (.aload_n 1, 1) := by decide +kernel
theorem dX8_copy_7 : decode cX8_copy 7 = .ok (.arraylength, 1) := by decide +kernel
theorem dX8_copy_8 : decode cX8_copy 8 = .ok (.invokestatic 344, 3) := by decide +kernel
theorem dX8_copy_11 : decode cX8_copy 11 = .ok (.invokestatic 347, 3) := by decide +kernel
theorem dX8_copy_14 : decode cX8_copy 14 = .ok (.return_, 1) := by decide +kernel
theorem dX8_has_0 : decode cX8_has 0 = .ok (.iload_n 0, 1) := by decide +kernel
theorem dX8_has_1 : decode cX8_has 1 = .ok (.iload_n 1, 1) := by decide +kernel
theorem dX8_has_2 : decode cX8_has 2 = .ok (.ishr, 1) := by decide +kernel
theorem dX8_has_3 : decode cX8_has 3 = .ok (.iconst 1, 1) := by decide +kernel
theorem dX8_has_4 : decode cX8_has 4 = .ok (.iand, 1) := by decide +kernel
theorem dX8_has_5 : decode cX8_has 5 = .ok (.ifCond .eq 7, 3) := by decide +kernel
theorem dX8_has_8 : decode cX8_has 8 = .ok (.iconst 1, 1) := by decide +kernel
theorem dX8_has_9 : decode cX8_has 9 = .ok (.goto 4, 3) := by decide +kernel
theorem dX8_has_12 : decode cX8_has 12 = .ok (.iconst 0, 1) := by decide +kernel
theorem dX8_has_13 : decode cX8_has 13 = .ok (.ireturn, 1) := by decide +kernel
theorem dJ6_bitCount_0f7a4_0 : decode cJ6_bitCount_0f7a4 0 = .ok (.iload_n 0, 1) := by decide +kernel
theorem dJ6_bitCount_0f7a4_1 : decode cJ6_bitCount_0f7a4 1 = .ok (.iload_n 0, 1) := by decide +kernel
theorem dJ6_bitCount_0f7a4_2 : decode cJ6_bitCount_0f7a4 2 = .ok (.iconst 1, 1) := by decide +kernel
theorem dJ6_bitCount_0f7a4_3 : decode cJ6_bitCount_0f7a4 3 = .ok (.iushr, 1) := by decide +kernel
theorem dJ6_bitCount_0f7a4_4 : decode cJ6_bitCount_0f7a4 4 = .ok (.ldc_w 265, 3) := by decide +kernel
theorem dJ6_bitCount_0f7a4_7 : decode cJ6_bitCount_0f7a4 7 = .ok (.iand, 1) := by decide +kernel
theorem dJ6_bitCount_0f7a4_8 : decode cJ6_bitCount_0f7a4 8 = .ok (.isub, 1) := by decide +kernel
theorem dJ6_bitCount_0f7a4_9 : decode cJ6_bitCount_0f7a4 9 = .ok (.istore_n 0, 1) := by decide +kernel
theorem dJ6_bitCount_0f7a4_10 : decode cJ6_bitCount_0f7a4 10 = .ok (.iload_n 0, 1) := by decide +kernel
theorem dJ6_bitCount_0f7a4_11 : decode cJ6_bitCount_0f7a4 11 = .ok (.ldc_w 266, 3) := by decide +kernel
theorem dJ6_bitCount_0f7a4_14 : decode cJ6_bitCount_0f7a4 14 = .ok (.iand, 1) := by decide +kernel
theorem dJ6_bitCount_0f7a4_15 : decode cJ6_bitCount_0f7a4 15 = .ok (.iload_n 0, 1) := by decide +kernel
theorem dJ6_bitCount_0f7a4_16 : decode cJ6_bitCount_0f7a4 16 = .ok (.iconst 2, 1) := by decide +kernel
theorem dJ6_bitCount_0f7a4_17 : decode cJ6_bitCount_0f7a4 17 = .ok (.iushr, 1) := by decide +kernel
theorem dJ6_bitCount_0f7a4_18 : decode cJ6_bitCount_0f7a4 18 = .ok (.ldc_w 266, 3) := by decide +kernel
theorem dJ6_bitCount_0f7a4_21 : decode cJ6_bitCount_0f7a4 21 = .ok (.iand, 1) := by decide +kernel
theorem dJ6_bitCount_0f7a4_22 : decode cJ6_bitCount_0f7a4 22 = .ok (.iadd, 1) := by decide +kernel
theorem dJ6_bitCount_0f7a4_23 : decode cJ6_bitCount_0f7a4 23 = .ok (.istore_n 0, 1) := by decide +kernel
theorem dJ6_bitCount_0f7a4_24 : decode cJ6_bitCount_0f7a4 24 = .ok (.iload_n 0, 1) := by decide +kernel
theorem dJ6_bitCount_0f7a4_25 : decode cJ6_bitCount_0f7a4 25 = .ok (.iload_n 0, 1) := by decide +kernel
theorem dJ6_bitCount_0f7a4_26 : decode cJ6_bitCount_0f7a4 26 = .ok (.iconst 4, 1) := by decide +kernel
theorem dJ6_bitCount_0f7a4_27 : decode cJ6_bitCount_0f7a4 27 = .ok (.iushr, 1) := by decide +kernel
theorem dJ6_bitCount_0f7a4_28 : decode cJ6_bitCount_0f7a4 28 = .ok (.iadd, 1) := by decide +kernel
theorem dJ6_bitCount_0f7a4_29 : decode cJ6_bitCount_0f7a4 29 = .ok (.ldc_w 267, 3) := by decide +kernel
theorem dJ6_bitCount_0f7a4_32 : decode cJ6_bitCount_0f7a4 32 = .ok (.iand, 1) := by decide +kernel
theorem dJ6_bitCount_0f7a4_33 : decode cJ6_bitCount_0f7a4 33 = .ok (.istore_n 0, 1) := by decide +kernel
theorem dJ6_bitCount_0f7a4_34 : decode cJ6_bitCount_0f7a4 34 = .ok (.iload_n 0, 1) := by decide +kernel
theorem dJ6_bitCount_0f7a4_35 : decode cJ6_bitCount_0f7a4 35 = .ok (.iload_n 0, 1) := by decide +kernel
theorem dJ6_bitCount_0f7a4_36 : decode cJ6_bitCount_0f7a4 36 = .ok (.bipush 8, 2) := by decide +kernel
theorem dJ6_bitCount_0f7a4_38 : decode cJ6_bitCount_0f7a4 38 = .ok (.iushr, 1) := by decide +kernel
theorem dJ6_bitCount_0f7a4_39 : decode cJ6_bitCount_0f7a4 39 = .ok (.iadd, 1) := by decide +kernel
theorem dJ6_bitCount_0f7a4_40 : decode cJ6_bitCount_0f7a4 40 = .ok (.istore_n 0, 1) := by decide +kernel
theorem dJ6_bitCount_0f7a4_41 : decode cJ6_bitCount_0f7a4 41 = .ok (.iload_n 0, 1) := by decide +kernel
theorem dJ6_bitCount_0f7a4_42 : decode cJ6_bitCount_0f7a4 42 = .ok (.iload_n 0, 1) := by decide +kernel
theorem dJ6_bitCount_0f7a4_43 : decode cJ6_bitCount_0f7a4 43 = .ok (.bipush 16, 2) := by decide +kernel
theorem dJ6_bitCount_0f7a4_45 : decode cJ6_bitCount_0f7a4 45 = .ok (.iushr, 1) := by decide +kernel
theorem dJ6_bitCount_0f7a4_46 : decode cJ6_bitCount_0f7a4 46 = .ok (.iadd, 1) := by decide +kernel
theorem dJ6_bitCount_0f7a4_47 : decode cJ6_bitCount_0f7a4 47 = .ok (.istore_n 0, 1) := by decide +kernel
theorem dJ6_bitCount_0f7a4_48 : decode cJ6_bitCount_0f7a4 48 = .ok (.iload_n 0, 1) := by decide +kernel
theorem dJ6_bitCount_0f7a4_49 : decode cJ6_bitCount_0f7a4 49 = .ok (.bipush 63, 2) := by decide +kernel
theorem dJ6_bitCount_0f7a4_51 : decode cJ6_bitCount_0f7a4 51 = .ok (.iand, 1) := by decide +kernel
theorem dJ6_bitCount_0f7a4_52 : decode cJ6_bitCount_0f7a4 52 = .ok (.ireturn, 1) := by decide +kernel
theorem dJ9_abs_0f7a4_0 : decode cJ9_abs_0f7a4 0 = .ok (.iload_n 0, 1) := by decide +kernel
theorem dJ9_abs_0f7a4_1 : decode cJ9_abs_0f7a4 1 = .ok (.ifCond .ge 8, 3) := by decide +kernel
theorem dJ9_abs_0f7a4_4 : decode cJ9_abs_0f7a4 4 = .ok (.iload_n 0, 1) := by decide +kernel
theorem dJ9_abs_0f7a4_5 : decode cJ9_abs_0f7a4 5 = .ok (.ineg, 1) := by decide +kernel
theorem dJ9_abs_0f7a4_6 : decode cJ9_abs_0f7a4 6 = .ok (.goto 4, 3) := by decide +kernel
theorem dJ9_abs_0f7a4_9 : decode cJ9_abs_0f7a4 9 = .ok (.iload_n 0, 1) := by decide +kernel
theorem dJ9_abs_0f7a4_10 : decode cJ9_abs_0f7a4 10 = .ok (.ireturn, 1) := by decide +kernel
theorem dJ9_max_7cf53_0 : decode cJ9_max_7cf53 0 = .ok (.iload_n 0, 1) := by decide +kernel
theorem dJ9_max_7cf53_1 : decode cJ9_max_7cf53 1 = .ok (.iload_n 1, 1) := by decide +kernel
theorem dJ9_max_7cf53_2 : decode cJ9_max_7cf53 2 = .ok (.if_icmp .lt 7, 3) := by decide +kernel
theorem dJ9_max_7cf53_5 : decode cJ9_max_7cf53 5 = .ok (.iload_n 0, 1) := by decide +kernel
theorem dJ9_max_7cf53_6 : decode cJ9_max_7cf53 6 = .ok (.goto 4, 3) := by decide +kernel
theorem dJ9_max_7cf53_9 : decode cJ9_max_7cf53 9 = .ok (.iload_n 1, 1) := by decide +kernel
theorem dJ9_max_7cf53_10 : decode cJ9_max_7cf53 10 = .ok (.ireturn, 1) := by decide +kernel
theorem dJ9_min_7cf53_0 : decode cJ9_min_7cf53 0 = .ok (.iload_n 0, 1) := by decide +kernel
theorem dJ9_min_7cf53_1 : decode cJ9_min_7cf53 1 = .ok (.iload_n 1, 1) := by decide +kernel
theorem dJ9_min_7cf53_2 : decode cJ9_min_7cf53 2 = .ok (.if_icmp .gt 7, 3) := by decide +kernel
theorem dJ9_min_7cf53_5 : decode cJ9_min_7cf53 5 = .ok (.iload_n 0, 1) := by decide +kernel
theorem dJ9_min_7cf53_6 : decode cJ9_min_7cf53 6 = .ok (.goto 4, 3) := by decide +kernel
theorem dJ9_min_7cf53_9 : decode cJ9_min_7cf53 9 = .ok (.iload_n 1, 1) := by decide +kernel
theorem dJ9_min_7cf53_10 : decode cJ9_min_7cf53 10 = .ok (.ireturn, 1) := by decide +kernel
theorem dJ0_length_8abf5_0 : decode cJ0_length_8abf5 0 = .ok (.aload_n 0, 1) := by decide +kernel
theorem dJ0_length_8abf5_1 : decode cJ0_length_8abf5 1 = .ok (.getfield 9, 3) := by decide +kernel
theorem dJ0_length_8abf5_4 : decode cJ0_length_8abf5 4 = .ok (.arraylength, 1) := by decide +kernel
theorem dJ0_length_8abf5_5 : decode cJ0_length_8abf5 5 = .ok (.aload_n 0, 1) := by decide +kernel
theorem dJ0_length_8abf5_6 : decode cJ0_length_8abf5 6 = .ok (.invokevirtual 335, 3) := by decide +kernel
theorem dJ0_length_8abf5_9 : decode cJ0_length_8abf5 9 = .ok (.ishr, 1) := by decide +kernel
theorem dJ0_length_8abf5_10 : decode cJ0_length_8abf5 10 = .ok (.ireturn, 1) := by decide +kernel
theorem dJ0_charAt_5068e_0 : decode cJ0_charAt_5068e 0 = .ok (.aload_n 0, 1) := by decide +kernel
theorem dJ0_charAt_5068e_1 : decode cJ0_charAt_5068e 1 = .ok (.invokevirtual 492, 3) := by decide +kernel
theorem dJ0_charAt_5068e_4 : decode cJ0_charAt_5068e 4 = .ok (.ifCond .eq 12, 3) := by decide +kernel
theorem dJ0_charAt_5068e_7 : decode cJ0_charAt_5068e 7 = .ok (.aload_n 0, 1) := by decide +kernel
theorem dJ0_charAt_5068e_8 : decode cJ0_charAt_5068e 8 = .ok (.getfield 9, 3) := by decide +kernel
theorem dJ0_charAt_5068e_11 : decode cJ0_charAt_5068e 11 = .ok (.iload_n 1, 1) := by decide +kernel
theorem dJ0_charAt_5068e_12 : decode cJ0_charAt_5068e 12 = .ok (.invokestatic 495, 3) := by decide +kernel
theorem dJ0_charAt_5068e_15 : decode cJ0_charAt_5068e 15 = .ok (.ireturn, 1) := by decide +kernel
theorem dJ0_charAt_5068e_16 : decode cJ0_charAt_5068e 16 = .ok (.aload_n 0, 1) := by decide +kernel
theorem dJ0_charAt_5068e_17 : decode cJ0_charAt_5068e 17 = .ok (.getfield 9, 3) := by decide +kernel
theorem dJ0_charAt_5068e_20 : decode cJ0_charAt_5068e 20 = .ok (.iload_n 1, 1) := by decide +kernel
theorem dJ0_charAt_5068e_21 : decode cJ0_charAt_5068e 21 = .ok (.invokestatic 498, 3) := by decide +kernel
theorem dJ0_charAt_5068e_24 : decode cJ0_charAt_5068e 24 = .ok (.ireturn, 1) := by decide +kernel
theorem dJ0_coder_7d493_0 : decode cJ0_coder_7d493 0 = .ok (.getstatic 38, 3) := by decide +kernel
theorem dJ0_coder_7d493_3 : decode cJ0_coder_7d493 3 = .ok (.ifCond .eq 10, 3) := by decide +kernel
theorem dJ0_coder_7d493_6 : decode cJ0_coder_7d493 6 = .ok (.aload_n 0, 1) := by decide +kernel
theorem dJ0_coder_7d493_7 : decode cJ0_coder_7d493 7 = .ok (.getfield 15, 3) := by decide +kernel
theorem dJ0_coder_7d493_10 : decode cJ0_coder_7d493 10 = .ok (.goto 4, 3) := by decide +kernel
theorem dJ0_coder_7d493_13 : decode cJ0_coder_7d493 13 = .ok (.iconst 1, 1) := by decide +kernel
theorem dJ0_coder_7d493_14 : decode cJ0_coder_7d493 14 = .ok (.ireturn, 1) := by decide +kernel
theorem dJ0_isLatin1_aae02_0 : decode cJ0_isLatin1_aae02 0 = .ok (.getstatic 38, 3) := by decide +kernel
theorem dJ0_isLatin1_aae02_3 : decode cJ0_isLatin1_aae02 3 = .ok (.ifCond .eq 14, 3) := by decide +kernel
theorem dJ0_isLatin1_aae02_6 : decode cJ0_isLatin1_aae02 6 = .ok (.aload_n 0, 1) := by decide +kernel
theorem dJ0_isLatin1_aae02_7 : decode cJ0_isLatin1_aae02 7 = .ok (.getfield 15, 3) := by decide +kernel
theorem dJ0_isLatin1_aae02_10 : decode cJ0_isLatin1_aae02 10 = .ok (.ifCond .ne 7, 3) := by decide +kernel
theorem dJ0_isLatin1_aae02_13 : decode cJ0_isLatin1_aae02 13 = .ok (.iconst 1, 1) := by decide +kernel
theorem dJ0_isLatin1_aae02_14 : decode cJ0_isLatin1_aae02 14 = .ok (.goto 4, 3) := by decide +kernel
theorem dJ0_isLatin1_aae02_17 : decode cJ0_isLatin1_aae02 17 = .ok (.iconst 0, 1) := by decide +kernel
theorem dJ0_isLatin1_aae02_18 : decode cJ0_isLatin1_aae02 18 = .ok (.ireturn, 1) := by decide +kernel
theorem dJ0_checkIndex_df160_0 : decode cJ0_checkIndex_df160 0 = .ok (.iload_n 0, 1) := by decide +kernel
theorem dJ0_checkIndex_df160_1 : decode cJ0_checkIndex_df160 1 = .ok (.iload_n 1, 1) := by decide +kernel
theorem dJ0_checkIndex_df160_2 : decode cJ0_checkIndex_df160 2 = .ok (.getstatic 1053, 3) := by decide +kernel
theorem dJ0_checkIndex_df160_5 : decode cJ0_checkIndex_df160 5 = .ok (.invokestatic 1059, 3) := by decide +kernel
theorem dJ0_checkIndex_df160_8 : decode cJ0_checkIndex_df160 8 = .ok (.pop, 1) := by decide +kernel
theorem dJ0_checkIndex_df160_9 : decode cJ0_checkIndex_df160 9 = .ok (.return_, 1) := by decide +kernel
theorem dJ1_charAt_3b067_0 : decode cJ1_charAt_3b067 0 = .ok (.iload_n 1, 1) := by decide +kernel
theorem dJ1_charAt_3b067_1 : decode cJ1_charAt_3b067 1 = .ok (.aload_n 0, 1) := by decide +kernel
theorem dJ1_charAt_3b067_2 : decode cJ1_charAt_3b067 2 = .ok (.arraylength, 1) := by decide +kernel
theorem dJ1_charAt_3b067_3 : decode cJ1_charAt_3b067 3 = .ok (.invokestatic 9, 3) := by decide +kernel
theorem dJ1_charAt_3b067_6 : decode cJ1_charAt_3b067 6 = .ok (.aload_n 0, 1) := by decide +kernel
theorem dJ1_charAt_3b067_7 : decode cJ1_charAt_3b067 7 = .ok (.iload_n 1, 1) := by decide +kernel
theorem dJ1_charAt_3b067_8 : decode cJ1_charAt_3b067 8 = .ok (.baload, 1) := by decide +kernel
theorem dJ1_charAt_3b067_9 : decode cJ1_charAt_3b067 9 = .ok (.sipush 255, 3) := by decide +kernel
theorem dJ1_charAt_3b067_12 : decode cJ1_charAt_3b067 12 = .ok (.iand, 1) := by decide +kernel
theorem dJ1_charAt_3b067_13 : decode cJ1_charAt_3b067 13 = .ok (.i2c, 1) := by decide +kernel
theorem dJ1_charAt_3b067_14 : decode cJ1_charAt_3b067 14 = .ok (.ireturn, 1) := by decide +kernel
theorem dJ2_getChar_3b067_0 : decode cJ2_getChar_3b067 0 = .ok (.getstatic 44, 3) := by decide +kernel
theorem dJ2_getChar_3b067_3 : decode cJ2_getChar_3b067 3 = .ok (.ifCond .ne 25, 3) := by decide +kernel
theorem dJ2_getChar_3b067_6 : decode cJ2_getChar_3b067 6 = .ok (.iload_n 1, 1) := by decide +kernel
theorem dJ2_getChar_3b067_7 : decode cJ2_getChar_3b067 7 = .ok (.ifCond .lt 11, 3) := by decide +kernel
theorem dJ2_getChar_3b067_10 : decode cJ2_getChar_3b067 10 = .ok (.iload_n 1, 1) := by decide +kernel
theorem dJ2_getChar_3b067_11 : decode cJ2_getChar_3b067 11 = .ok (.aload_n 0, 1) := by decide +kernel
theorem dJ2_getChar_3b067_12 : decode cJ2_getChar_3b067 12 = .ok (.invokestatic 48, 3) := by decide +kernel
theorem dJ2_getChar_3b067_15 : decode cJ2_getChar_3b067 15 = .ok (.if_icmp .lt 13, 3) := by decide +kernel
theorem dJ2_getChar_3b067_18 : decode cJ2_getChar_3b067 18 = .ok (.new 52, 3) := by decide +kernel
theorem dJ2_getChar_3b067_21 : decode cJ2_getChar_3b067 21 = .ok (.dup, 1) := by decide +kernel
theorem dJ2_getChar_3b067_22 : decode cJ2_getChar_3b067 22 = .ok (.ldc 54, 2) := by decide +kernel
theorem dJ2_getChar_3b067_24 : decode cJ2_getChar_3b067 24 = .ok (.invokespecial 56, 3) := by decide +kernel
theorem dJ2_getChar_3b067_27 : decode cJ2_getChar_3b067 27 = .ok (.athrow, 1) := by decide +kernel
theorem dJ2_getChar_3b067_28 : decode cJ2_getChar_3b067 28 = .ok (.iload_n 1, 1) := by decide +kernel
theorem dJ2_getChar_3b067_29 : decode cJ2_getChar_3b067 29 = .ok (.iconst 1, 1) := by decide +kernel
theorem dJ2_getChar_3b067_30 : decode cJ2_getChar_3b067 30 = .ok (.ishl, 1) := by decide +kernel
theorem dJ2_getChar_3b067_31 : decode cJ2_getChar_3b067 31 = .ok (.istore_n 1, 1) := by decide +kernel
theorem dJ2_getChar_3b067_32 : decode cJ2_getChar_3b067 32 = .ok (.aload_n 0, 1) := by decide +kernel
theorem dJ2_getChar_3b067_33 : decode cJ2_getChar_3b067 33 = .ok (.iload_n 1, 1) := by decide +kernel
theorem dJ2_getChar_3b067_34 : decode cJ2_getChar_3b067 34 = .ok (.iinc 1 1, 3) := by decide +kernel
theorem dJ2_getChar_3b067_37 : decode cJ2_getChar_3b067 37 = .ok (.baload, 1) := by decide +kernel
theorem dJ2_getChar_3b067_38 : decode cJ2_getChar_3b067 38 = .ok (.sipush 255, 3) := by decide +kernel
theorem dJ2_getChar_3b067_41 : decode cJ2_getChar_3b067 41 = .ok (.iand, 1) := by decide +kernel
theorem dJ2_getChar_3b067_42 : decode cJ2_getChar_3b067 42 = .ok (.getstatic 59, 3) := by decide +kernel
theorem dJ2_getChar_3b067_45 : decode cJ2_getChar_3b067 45 = .ok (.ishl, 1) := by decide +kernel
theorem dJ2_getChar_3b067_46 : decode cJ2_getChar_3b067 46 = .ok (.aload_n 0, 1) := by decide +kernel
theorem dJ2_getChar_3b067_47 : decode cJ2_getChar_3b067 47 = .ok (.iload_n 1, 1) := by decide +kernel
theorem dJ2_getChar_3b067_48 : decode cJ2_getChar_3b067 48 = .ok (.baload, 1) := by decide +kernel
theorem dJ2_getChar_3b067_49 : decode cJ2_getChar_3b067 49 = .ok (.sipush 255, 3) := by decide +kernel
theorem dJ2_getChar_3b067_52 : decode cJ2_getChar_3b067 52 = .ok (.iand, 1) := by decide +kernel
theorem dJ2_getChar_3b067_53 : decode cJ2_getChar_3b067 53 = .ok (.getstatic 63, 3) := by decide +kernel
theorem dJ2_getChar_3b067_56 : decode cJ2_getChar_3b067 56 = .ok (.ishl, 1) := by decide +kernel
theorem dJ2_getChar_3b067_57 : decode cJ2_getChar_3b067 57 = .ok (.ior, 1) := by decide +kernel
theorem dJ2_getChar_3b067_58 : decode cJ2_getChar_3b067 58 = .ok (.i2c, 1) := by decide +kernel
theorem dJ2_getChar_3b067_59 : decode cJ2_getChar_3b067 59 = .ok (.ireturn, 1) := by decide +kernel
theorem dJ2_length_9d52b_0 : decode cJ2_length_9d52b 0 = .ok (.aload_n 0, 1) := by decide +kernel
theorem dJ2_length_9d52b_1 : decode cJ2_length_9d52b 1 = .ok (.arraylength, 1) := by decide +kernel
theorem dJ2_length_9d52b_2 : decode cJ2_length_9d52b 2 = .ok (.iconst 1, 1) := by decide +kernel
theorem dJ2_length_9d52b_3 : decode cJ2_length_9d52b 3 = .ok (.ishr, 1) := by decide +kernel
theorem dJ2_length_9d52b_4 : decode cJ2_length_9d52b 4 = .ok (.ireturn, 1) := by decide +kernel
theorem dJ2_charAt_3b067_0 : decode cJ2_charAt_3b067 0 = .ok (.iload_n 1, 1) := by decide +kernel
theorem dJ2_charAt_3b067_1 : decode cJ2_charAt_3b067 1 = .ok (.aload_n 0, 1) := by decide +kernel
theorem dJ2_charAt_3b067_2 : decode cJ2_charAt_3b067 2 = .ok (.invokestatic 67, 3) := by decide +kernel
theorem dJ2_charAt_3b067_5 : decode cJ2_charAt_3b067 5 = .ok (.aload_n 0, 1) := by decide +kernel
theorem dJ2_charAt_3b067_6 : decode cJ2_charAt_3b067 6 = .ok (.iload_n 1, 1) := by decide +kernel
theorem dJ2_charAt_3b067_7 : decode cJ2_charAt_3b067 7 = .ok (.invokestatic 71, 3) := by decide +kernel
theorem dJ2_charAt_3b067_10 : decode cJ2_charAt_3b067 10 = .ok (.ireturn, 1) := by decide +kernel
theorem dJ2_checkIndex_2214a_0 : decode cJ2_checkIndex_2214a 0 = .ok (.iload_n 0, 1) := by decide +kernel
theorem dJ2_checkIndex_2214a_1 : decode cJ2_checkIndex_2214a 1 = .ok (.aload_n 1, 1) := by decide +kernel
theorem dJ2_checkIndex_2214a_2 : decode cJ2_checkIndex_2214a 2 = .ok (.invokestatic 48, 3) := by decide +kernel
theorem dJ2_checkIndex_2214a_5 : decode cJ2_checkIndex_2214a 5 = .ok (.invokestatic 414, 3) := by decide +kernel
theorem dJ2_checkIndex_2214a_8 : decode cJ2_checkIndex_2214a 8 = .ok (.return_, 1) := by decide +kernel
theorem dJ7_fill_53178_0 : decode cJ7_fill_53178 0 = .ok (.iconst 0, 1) := by decide +kernel
theorem dJ7_fill_53178_1 : decode cJ7_fill_53178 1 = .ok (.istore_n 2, 1) := by decide +kernel
theorem dJ7_fill_53178_2 : decode cJ7_fill_53178 2 = .ok (.aload_n 0, 1) := by decide +kernel
theorem dJ7_fill_53178_3 : decode cJ7_fill_53178 3 = .ok (.arraylength, 1) := by decide +kernel
theorem dJ7_fill_53178_4 : decode cJ7_fill_53178 4 = .ok (.istore_n 3, 1) := by decide +kernel
theorem dJ7_fill_53178_5 : decode cJ7_fill_53178 5 = .ok (.iload_n 2, 1) := by decide +kernel
theorem dJ7_fill_53178_6 : decode cJ7_fill_53178 6 = .ok (.iload_n 3, 1) := by decide +kernel
theorem dJ7_fill_53178_7 : decode cJ7_fill_53178 7 = .ok (.if_icmp .ge 13, 3) := by decide +kernel
theorem dJ7_fill_53178_10 : decode cJ7_fill_53178 10 = .ok (.aload_n 0, 1) := by decide +kernel
theorem dJ7_fill_53178_11 : decode cJ7_fill_53178 11 = .ok (.iload_n 2, 1) := by decide +kernel
theorem dJ7_fill_53178_12 : decode cJ7_fill_53178 12 = .ok (.iload_n 1, 1) := by decide +kernel
theorem dJ7_fill_53178_13 : decode cJ7_fill_53178 13 = .ok (.iastore, 1) := by decide +kernel
theorem dJ7_fill_53178_14 : decode cJ7_fill_53178 14 = .ok (.iinc 2 1, 3) := by decide +kernel
theorem dJ7_fill_53178_17 : decode cJ7_fill_53178 17 = .ok (.goto (-12), 3) := by decide +kernel
theorem dJ7_fill_53178_20 : decode cJ7_fill_53178 20 = .ok (.return_, 1) := by decide +kernel
theorem dJ3_checkIndex_8e157_0 : decode cJ3_checkIndex_8e157 0 = .ok (.iload_n 0, 1) := by decide +kernel
theorem dJ3_checkIndex_8e157_1 : decode cJ3_checkIndex_8e157 1 = .ok (.ifCond .lt 8, 3) := by decide +kernel
theorem dJ3_checkIndex_8e157_4 : decode cJ3_checkIndex_8e157 4 = .ok (.iload_n 0, 1) := by decide +kernel
theorem dJ3_checkIndex_8e157_5 : decode cJ3_checkIndex_8e157 5 = .ok (.iload_n 1, 1) := by decide +kernel
theorem dJ3_checkIndex_8e157_6 : decode cJ3_checkIndex_8e157 6 = .ok (.if_icmp .lt 10, 3) := by decide +kernel
theorem dJ3_checkIndex_8e157_9 : decode cJ3_checkIndex_8e157 9 = .ok (.aload_n 2, 1) := by decide +kernel
theorem dJ3_checkIndex_8e157_10 : decode cJ3_checkIndex_8e157 10 = .ok (.iload_n 0, 1) := by decide +kernel
theorem dJ3_checkIndex_8e157_11 : decode cJ3_checkIndex_8e157 11 = .ok (.iload_n 1, 1) := by decide +kernel
theorem dJ3_checkIndex_8e157_12 : decode cJ3_checkIndex_8e157 12 = .ok (.invokestatic 95, 3) := by decide +kernel
theorem dJ3_checkIndex_8e157_15 : decode cJ3_checkIndex_8e157 15 = .ok (.athrow, 1) := by decide +kernel
theorem dJ3_checkIndex_8e157_16 : decode cJ3_checkIndex_8e157 16 = .ok (.iload_n 0, 1) := by decide +kernel
theorem dJ3_checkIndex_8e157_17 : decode cJ3_checkIndex_8e157 17 = .ok (.ireturn, 1) := by decide +kernel
