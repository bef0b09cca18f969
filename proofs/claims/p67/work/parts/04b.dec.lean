theorem dX5_readItem_227 : decode cX5_readItem 227 = .ok (.invokevirtual 92, 3) := by decide +kernel
theorem dX5_readItem_230 : decode cX5_readItem 230 = .ok (.ifCond .eq 10, 3) := by decide +kernel
theorem dX5_readItem_233 : decode cX5_readItem 233 = .ok (.aload_n 0, 1) := by decide +kernel
theorem dX5_readItem_234 : decode cX5_readItem 234 = .ok (.invokevirtual 169, 3) := by decide +kernel
theorem dX5_readItem_237 : decode cX5_readItem 237 = .ok (.goto 8, 3) := by decide +kernel
theorem dX5_readItem_240 : decode cX5_readItem 240 = .ok (.aload_n 0, 1) := by decide +kernel
theorem dX5_readItem_241 : decode cX5_readItem 241 = .ok (.iconst 1, 1) := by decide +kernel
theorem dX5_readItem_242 : decode cX5_readItem 242 = .ok (.invokevirtual 52, 3) := by decide +kernel
theorem dX5_readItem_245 : decode cX5_readItem 245 = .ok (.ireturn, 1) := by decide +kernel
theorem dX5_readWarps_0 : decode cX5_readWarps 0 = .ok (.aload_n 0, 1) := by decide +kernel
theorem dX5_readWarps_1 : decode cX5_readWarps 1 = .ok (.getfield 21, 3) := by decide +kernel
theorem dX5_readWarps_4 : decode cX5_readWarps 4 = .ok (.getfield 172, 3) := by decide +kernel
theorem dX5_readWarps_7 : decode cX5_readWarps 7 = .ok (.getfield 176, 3) := by decide +kernel
theorem dX5_readWarps_10 : decode cX5_readWarps 10 = .ok (.ifCond .le 9, 3) := by decide +kernel
theorem dX5_readWarps_13 : decode cX5_readWarps 13 = .ok (.aload_n 0, 1) := by decide +kernel
theorem dX5_readWarps_14 : decode cX5_readWarps 14 = .ok (.iconst 3, 1) := by decide +kernel
theorem dX5_readWarps_15 : decode cX5_readWarps 15 = .ok (.invokevirtual 52, 3) := by decide +kernel
theorem dX5_readWarps_18 : decode cX5_readWarps 18 = .ok (.ireturn, 1) := by decide +kernel
theorem dX5_readWarps_19 : decode cX5_readWarps 19 = .ok (.aload_n 0, 1) := by decide +kernel
theorem dX5_readWarps_20 : decode cX5_readWarps 20 = .ok (.getfield 12, 3) := by decide +kernel
theorem dX5_readWarps_23 : decode cX5_readWarps 23 = .ok (.invokevirtual 56, 3) := by decide +kernel
theorem dX5_readWarps_26 : decode cX5_readWarps 26 = .ok (.aload_n 0, 1) := by decide +kernel
theorem dX5_readWarps_27 : decode cX5_readWarps 27 = .ok (.invokevirtual 181, 3) := by decide +kernel
theorem dX5_readWarps_30 : decode cX5_readWarps 30 = .ok (.ifCond .ne 5, 3) := by decide +kernel
theorem dX5_readWarps_33 : decode cX5_readWarps 33 = .ok (.iconst 0, 1) := by decide +kernel
theorem dX5_readWarps_34 : decode cX5_readWarps 34 = .ok (.ireturn, 1) := by decide +kernel
theorem dX5_readWarps_35 : decode cX5_readWarps 35 = .ok (.aload_n 0, 1) := by decide +kernel
theorem dX5_readWarps_36 : decode cX5_readWarps 36 = .ok (.getfield 32, 3) := by decide +kernel
theorem dX5_readWarps_39 : decode cX5_readWarps 39 = .ok (.istore_n 1, 1) := by decide +kernel
theorem dX5_readWarps_40 : decode cX5_readWarps 40 = .ok (.iconst 0, 1) := by decide +kernel
theorem dX5_readWarps_41 : decode cX5_readWarps 41 = .ok (.istore_n 2, 1) := by decide +kernel
theorem dX5_readWarps_42 : decode cX5_readWarps 42 = .ok (.iload_n 2, 1) := by decide +kernel
theorem dX5_readWarps_43 : decode cX5_readWarps 43 = .ok (.sipush 500, 3) := by decide +kernel
theorem dX5_readWarps_46 : decode cX5_readWarps 46 = .ok (.if_icmp .ge 61, 3) := by decide +kernel
theorem dX5_readWarps_49 : decode cX5_readWarps 49 = .ok (.iload_n 2, 1) := by decide +kernel
theorem dX5_readWarps_50 : decode cX5_readWarps 50 = .ok (.ifCond .eq 14, 3) := by decide +kernel
theorem dX5_readWarps_53 : decode cX5_readWarps 53 = .ok (.aload_n 0, 1) := by decide +kernel
theorem dX5_readWarps_54 : decode cX5_readWarps 54 = .ok (.getfield 12, 3) := by decide +kernel
theorem dX5_readWarps_57 : decode cX5_readWarps 57 = .ok (.getfield 49, 3) := by decide +kernel
theorem dX5_readWarps_60 : decode cX5_readWarps 60 = .ok (.iconst 2, 1) := by decide +kernel
theorem dX5_readWarps_61 : decode cX5_readWarps 61 = .ok (.if_icmp .ne 46, 3) := by decide +kernel
theorem dX5_readWarps_64 : decode cX5_readWarps 64 = .ok (.aload_n 0, 1) := by decide +kernel
theorem dX5_readWarps_65 : decode cX5_readWarps 65 = .ok (.invokevirtual 84, 3) := by decide +kernel
theorem dX5_readWarps_68 : decode cX5_readWarps 68 = .ok (.ifCond .ne 5, 3) := by decide +kernel
theorem dX5_readWarps_71 : decode cX5_readWarps 71 = .ok (.iconst 0, 1) := by decide +kernel
theorem dX5_readWarps_72 : decode cX5_readWarps 72 = .ok (.ireturn, 1) := by decide +kernel
theorem dX5_readWarps_73 : decode cX5_readWarps 73 = .ok (.aload_n 0, 1) := by decide +kernel
theorem dX5_readWarps_74 : decode cX5_readWarps 74 = .ok (.getfield 21, 3) := by decide +kernel
theorem dX5_readWarps_77 : decode cX5_readWarps 77 = .ok (.aload_n 0, 1) := by decide +kernel
theorem dX5_readWarps_78 : decode cX5_readWarps 78 = .ok (.getfield 32, 3) := by decide +kernel
theorem dX5_readWarps_81 : decode cX5_readWarps 81 = .ok (.iload_n 1, 1) := by decide +kernel
theorem dX5_readWarps_82 : decode cX5_readWarps 82 = .ok (.invokevirtual 184, 3) := by decide +kernel
theorem dX5_readWarps_85 : decode cX5_readWarps 85 = .ok (.ifCond .ne 9, 3) := by decide +kernel
theorem dX5_readWarps_88 : decode cX5_readWarps 88 = .ok (.aload_n 0, 1) := by decide +kernel
theorem dX5_readWarps_89 : decode cX5_readWarps 89 = .ok (.iconst 4, 1) := by decide +kernel
theorem dX5_readWarps_90 : decode cX5_readWarps 90 = .ok (.invokevirtual 52, 3) := by decide +kernel
theorem dX5_readWarps_93 : decode cX5_readWarps 93 = .ok (.ireturn, 1) := by decide +kernel
theorem dX5_readWarps_94 : decode cX5_readWarps 94 = .ok (.aload_n 0, 1) := by decide +kernel
theorem dX5_readWarps_95 : decode cX5_readWarps 95 = .ok (.getfield 12, 3) := by decide +kernel
theorem dX5_readWarps_98 : decode cX5_readWarps 98 = .ok (.invokevirtual 56, 3) := by decide +kernel
theorem dX5_readWarps_101 : decode cX5_readWarps 101 = .ok (.iinc 2 1, 3) := by decide +kernel
theorem dX5_readWarps_104 : decode cX5_readWarps 104 = .ok (.goto (-62), 3) := by decide +kernel
theorem dX5_readWarps_107 : decode cX5_readWarps 107 = .ok (.iconst 1, 1) := by decide +kernel
theorem dX5_readWarps_108 : decode cX5_readWarps 108 = .ok (.ireturn, 1) := by decide +kernel
theorem dX5_readCard_0 : decode cX5_readCard 0 = .ok (.aload_n 0, 1) := by decide +kernel
theorem dX5_readCard_1 : decode cX5_readCard 1 = .ok (.getfield 21, 3) := by decide +kernel
theorem dX5_readCard_4 : decode cX5_readCard 4 = .ok (.getfield 75, 3) := by decide +kernel
theorem dX5_readCard_7 : decode cX5_readCard 7 = .ok (.bipush 12, 2) := by decide +kernel
theorem dX5_readCard_9 : decode cX5_readCard 9 = .ok (.if_icmp .lt 9, 3) := by decide +kernel
theorem dX5_readCard_12 : decode cX5_readCard 12 = .ok (.aload_n 0, 1) := by decide +kernel
theorem dX5_readCard_13 : decode cX5_readCard 13 = .ok (.iconst 4, 1) := by decide +kernel
theorem dX5_readCard_14 : decode cX5_readCard 14 = .ok (.invokevirtual 52, 3) := by decide +kernel
theorem dX5_readCard_17 : decode cX5_readCard 17 = .ok (.ireturn, 1) := by decide +kernel
theorem dX5_readCard_18 : decode cX5_readCard 18 = .ok (.aload_n 0, 1) := by decide +kernel
theorem dX5_readCard_19 : decode cX5_readCard 19 = .ok (.getfield 12, 3) := by decide +kernel
theorem dX5_readCard_22 : decode cX5_readCard 22 = .ok (.invokevirtual 56, 3) := by decide +kernel
theorem dX5_readCard_25 : decode cX5_readCard 25 = .ok (.aload_n 0, 1) := by decide +kernel
theorem dX5_readCard_26 : decode cX5_readCard 26 = .ok (.invokevirtual 181, 3) := by decide +kernel
theorem dX5_readCard_29 : decode cX5_readCard 29 = .ok (.ifCond .ne 5, 3) := by decide +kernel
theorem dX5_readCard_32 : decode cX5_readCard 32 = .ok (.iconst 0, 1) := by decide +kernel
theorem dX5_readCard_33 : decode cX5_readCard 33 = .ok (.ireturn, 1) := by decide +kernel
theorem dX5_readCard_34 : decode cX5_readCard 34 = .ok (.aload_n 0, 1) := by decide +kernel
theorem dX5_readCard_35 : decode cX5_readCard 35 = .ok (.getfield 32, 3) := by decide +kernel
theorem dX5_readCard_38 : decode cX5_readCard 38 = .ok (.istore_n 1, 1) := by decide +kernel
theorem dX5_readCard_39 : decode cX5_readCard 39 = .ok (.iconst 0, 1) := by decide +kernel
theorem dX5_readCard_40 : decode cX5_readCard 40 = .ok (.istore_n 2, 1) := by decide +kernel
theorem dX5_readCard_41 : decode cX5_readCard 41 = .ok (.iconst 0, 1) := by decide +kernel
theorem dX5_readCard_42 : decode cX5_readCard 42 = .ok (.istore_n 3, 1) := by decide +kernel
theorem dX5_readCard_43 : decode cX5_readCard 43 = .ok (.iload_n 3, 1) := by decide +kernel
theorem dX5_readCard_44 : decode cX5_readCard 44 = .ok (.sipush 500, 3) := by decide +kernel
theorem dX5_readCard_47 : decode cX5_readCard 47 = .ok (.if_icmp .ge 62, 3) := by decide +kernel
theorem dX5_readCard_50 : decode cX5_readCard 50 = .ok (.aload_n 0, 1) := by decide +kernel
theorem dX5_readCard_51 : decode cX5_readCard 51 = .ok (.getfield 12, 3) := by decide +kernel
theorem dX5_readCard_54 : decode cX5_readCard 54 = .ok (.getfield 49, 3) := by decide +kernel
theorem dX5_readCard_57 : decode cX5_readCard 57 = .ok (.iconst 2, 1) := by decide +kernel
theorem dX5_readCard_58 : decode cX5_readCard 58 = .ok (.if_icmp .ne 51, 3) := by decide +kernel
theorem dX5_readCard_61 : decode cX5_readCard 61 = .ok (.aload_n 0, 1) := by decide +kernel
theorem dX5_readCard_62 : decode cX5_readCard 62 = .ok (.invokevirtual 84, 3) := by decide +kernel
theorem dX5_readCard_65 : decode cX5_readCard 65 = .ok (.ifCond .ne 5, 3) := by decide +kernel
theorem dX5_readCard_68 : decode cX5_readCard 68 = .ok (.iconst 0, 1) := by decide +kernel
theorem dX5_readCard_69 : decode cX5_readCard 69 = .ok (.ireturn, 1) := by decide +kernel
theorem dX5_readCard_70 : decode cX5_readCard 70 = .ok (.iload_n 2, 1) := by decide +kernel
theorem dX5_readCard_71 : decode cX5_readCard 71 = .ok (.aload_n 0, 1) := by decide +kernel
theorem dX5_readCard_72 : decode cX5_readCard 72 = .ok (.getfield 32, 3) := by decide +kernel
theorem dX5_readCard_75 : decode cX5_readCard 75 = .ok (.invokestatic 187, 3) := by decide +kernel
theorem dX5_readCard_78 : decode cX5_readCard 78 = .ok (.ifCond .eq 9, 3) := by decide +kernel
theorem dX5_readCard_81 : decode cX5_readCard 81 = .ok (.aload_n 0, 1) := by decide +kernel
theorem dX5_readCard_82 : decode cX5_readCard 82 = .ok (.iconst 3, 1) := by decide +kernel
theorem dX5_readCard_83 : decode cX5_readCard 83 = .ok (.invokevirtual 52, 3) := by decide +kernel
theorem dX5_readCard_86 : decode cX5_readCard 86 = .ok (.ireturn, 1) := by decide +kernel
theorem dX5_readCard_87 : decode cX5_readCard 87 = .ok (.iload_n 2, 1) := by decide +kernel
theorem dX5_readCard_88 : decode cX5_readCard 88 = .ok (.iconst 1, 1) := by decide +kernel
theorem dX5_readCard_89 : decode cX5_readCard 89 = .ok (.aload_n 0, 1) := by decide +kernel
theorem dX5_readCard_90 : decode cX5_readCard 90 = .ok (.getfield 32, 3) := by decide +kernel
theorem dX5_readCard_93 : decode cX5_readCard 93 = .ok (.ishl, 1) := by decide +kernel
theorem dX5_readCard_94 : decode cX5_readCard 94 = .ok (.ior, 1) := by decide +kernel
theorem dX5_readCard_95 : decode cX5_readCard 95 = .ok (.istore_n 2, 1) := by decide +kernel
theorem dX5_readCard_96 : decode cX5_readCard 96 = .ok (.aload_n 0, 1) := by decide +kernel
theorem dX5_readCard_97 : decode cX5_readCard 97 = .ok (.getfield 12, 3) := by decide +kernel
theorem dX5_readCard_100 : decode cX5_readCard 100 = .ok (.invokevirtual 56, 3) := by decide +kernel
theorem dX5_readCard_103 : decode cX5_readCard 103 = .ok (.iinc 3 1, 3) := by decide +kernel
theorem dX5_readCard_106 : decode cX5_readCard 106 = .ok (.goto (-63), 3) := by decide +kernel
theorem dX5_readCard_109 : decode cX5_readCard 109 = .ok (.aload_n 0, 1) := by decide +kernel
theorem dX5_readCard_110 : decode cX5_readCard 110 = .ok (.getfield 21, 3) := by decide +kernel
theorem dX5_readCard_113 : decode cX5_readCard 113 = .ok (.iload_n 2, 1) := by decide +kernel
theorem dX5_readCard_114 : decode cX5_readCard 114 = .ok (.iload_n 1, 1) := by decide +kernel
theorem dX5_readCard_115 : decode cX5_readCard 115 = .ok (.invokevirtual 190, 3) := by decide +kernel
theorem dX5_readCard_118 : decode cX5_readCard 118 = .ok (.iconst 1, 1) := by decide +kernel
theorem dX5_readCard_119 : decode cX5_readCard 119 = .ok (.ireturn, 1) := by decide +kernel
theorem dX5_readDeck_0 : decode cX5_readDeck 0 = .ok (.aload_n 0, 1) := by decide +kernel
theorem dX5_readDeck_1 : decode cX5_readDeck 1 = .ok (.getfield 21, 3) := by decide +kernel
theorem dX5_readDeck_4 : decode cX5_readDeck 4 = .ok (.getfield 172, 3) := by decide +kernel
theorem dX5_readDeck_7 : decode cX5_readDeck 7 = .ok (.getfield 176, 3) := by decide +kernel
theorem dX5_readDeck_10 : decode cX5_readDeck 10 = .ok (.ifCond .le 9, 3) := by decide +kernel
theorem dX5_readDeck_13 : decode cX5_readDeck 13 = .ok (.aload_n 0, 1) := by decide +kernel
theorem dX5_readDeck_14 : decode cX5_readDeck 14 = .ok (.iconst 3, 1) := by decide +kernel
theorem dX5_readDeck_15 : decode cX5_readDeck 15 = .ok (.invokevirtual 52, 3) := by decide +kernel
theorem dX5_readDeck_18 : decode cX5_readDeck 18 = .ok (.ireturn, 1) := by decide +kernel
theorem dX5_readDeck_19 : decode cX5_readDeck 19 = .ok (.aload_n 0, 1) := by decide +kernel
theorem dX5_readDeck_20 : decode cX5_readDeck 20 = .ok (.getfield 12, 3) := by decide +kernel
theorem dX5_readDeck_23 : decode cX5_readDeck 23 = .ok (.invokevirtual 56, 3) := by decide +kernel
theorem dX5_readDeck_26 : decode cX5_readDeck 26 = .ok (.iconst 1, 1) := by decide +kernel
theorem dX5_readDeck_27 : decode cX5_readDeck 27 = .ok (.istore_n 1, 1) := by decide +kernel
theorem dX5_readDeck_28 : decode cX5_readDeck 28 = .ok (.iconst 0, 1) := by decide +kernel
theorem dX5_readDeck_29 : decode cX5_readDeck 29 = .ok (.istore_n 2, 1) := by decide +kernel
theorem dX5_readDeck_30 : decode cX5_readDeck 30 = .ok (.iload_n 2, 1) := by decide +kernel
theorem dX5_readDeck_31 : decode cX5_readDeck 31 = .ok (.sipush 500, 3) := by decide +kernel
theorem dX5_readDeck_34 : decode cX5_readDeck 34 = .ok (.if_icmp .ge 153, 3) := by decide +kernel
theorem dX5_readDeck_37 : decode cX5_readDeck 37 = .ok (.aload_n 0, 1) := by decide +kernel
theorem dX5_readDeck_38 : decode cX5_readDeck 38 = .ok (.getfield 21, 3) := by decide +kernel
theorem dX5_readDeck_41 : decode cX5_readDeck 41 = .ok (.getfield 194, 3) := by decide +kernel
theorem dX5_readDeck_44 : decode cX5_readDeck 44 = .ok (.getfield 197, 3) := by decide +kernel
theorem dX5_readDeck_47 : decode cX5_readDeck 47 = .ok (.ifCond .le 7, 3) := by decide +kernel
theorem dX5_readDeck_50 : decode cX5_readDeck 50 = .ok (.iconst 1, 1) := by decide +kernel
theorem dX5_readDeck_51 : decode cX5_readDeck 51 = .ok (.goto 4, 3) := by decide +kernel
theorem dX5_readDeck_54 : decode cX5_readDeck 54 = .ok (.iconst 0, 1) := by decide +kernel
theorem dX5_readDeck_55 : decode cX5_readDeck 55 = .ok (.istore_n 3, 1) := by decide +kernel
theorem dX5_readDeck_56 : decode cX5_readDeck 56 = .ok (.aload_n 0, 1) := by decide +kernel
theorem dX5_readDeck_57 : decode cX5_readDeck 57 = .ok (.getfield 12, 3) := by decide +kernel
theorem dX5_readDeck_60 : decode cX5_readDeck 60 = .ok (.getfield 49, 3) := by decide +kernel
theorem dX5_readDeck_63 : decode cX5_readDeck 63 = .ok (.iconst 2, 1) := by decide +kernel
theorem dX5_readDeck_64 : decode cX5_readDeck 64 = .ok (.if_icmp .ne 17, 3) := by decide +kernel
theorem dX5_readDeck_67 : decode cX5_readDeck 67 = .ok (.aload_n 0, 1) := by decide +kernel
theorem dX5_readDeck_68 : decode cX5_readDeck 68 = .ok (.invokevirtual 202, 3) := by decide +kernel
theorem dX5_readDeck_71 : decode cX5_readDeck 71 = .ok (.ifCond .ne 5, 3) := by decide +kernel
theorem dX5_readDeck_74 : decode cX5_readDeck 74 = .ok (.iconst 0, 1) := by decide +kernel
theorem dX5_readDeck_75 : decode cX5_readDeck 75 = .ok (.ireturn, 1) := by decide +kernel
theorem dX5_readDeck_76 : decode cX5_readDeck 76 = .ok (.iconst 0, 1) := by decide +kernel
theorem dX5_readDeck_77 : decode cX5_readDeck 77 = .ok (.istore_n 1, 1) := by decide +kernel
theorem dX5_readDeck_78 : decode cX5_readDeck 78 = .ok (.goto 103, 3) := by decide +kernel
theorem dX5_readDeck_81 : decode cX5_readDeck 81 = .ok (.aload_n 0, 1) := by decide +kernel
theorem dX5_readDeck_82 : decode cX5_readDeck 82 = .ok (.getfield 12, 3) := by decide +kernel
theorem dX5_readDeck_85 : decode cX5_readDeck 85 = .ok (.ldc 205, 2) := by decide +kernel
theorem dX5_readDeck_87 : decode cX5_readDeck 87 = .ok (.invokevirtual 92, 3) := by decide +kernel
theorem dX5_readDeck_90 : decode cX5_readDeck 90 = .ok (.ifCond .ne 27, 3) := by decide +kernel
theorem dX5_readDeck_93 : decode cX5_readDeck 93 = .ok (.aload_n 0, 1) := by decide +kernel
theorem dX5_readDeck_94 : decode cX5_readDeck 94 = .ok (.getfield 12, 3) := by decide +kernel
theorem dX5_readDeck_97 : decode cX5_readDeck 97 = .ok (.ldc 207, 2) := by decide +kernel
theorem dX5_readDeck_99 : decode cX5_readDeck 99 = .ok (.invokevirtual 92, 3) := by decide +kernel
theorem dX5_readDeck_102 : decode cX5_readDeck 102 = .ok (.ifCond .ne 15, 3) := by decide +kernel
theorem dX5_readDeck_105 : decode cX5_readDeck 105 = .ok (.aload_n 0, 1) := by decide +kernel
theorem dX5_readDeck_106 : decode cX5_readDeck 106 = .ok (.getfield 12, 3) := by decide +kernel
theorem dX5_readDeck_109 : decode cX5_readDeck 109 = .ok (.ldc 209, 2) := by decide +kernel
theorem dX5_readDeck_111 : decode cX5_readDeck 111 = .ok (.invokevirtual 92, 3) := by decide +kernel
theorem dX5_readDeck_114 : decode cX5_readDeck 114 = .ok (.ifCond .eq 17, 3) := by decide +kernel
theorem dX5_readDeck_117 : decode cX5_readDeck 117 = .ok (.aload_n 0, 1) := by decide +kernel
theorem dX5_readDeck_118 : decode cX5_readDeck 118 = .ok (.invokevirtual 211, 3) := by decide +kernel
theorem dX5_readDeck_121 : decode cX5_readDeck 121 = .ok (.ifCond .ne 5, 3) := by decide +kernel
theorem dX5_readDeck_124 : decode cX5_readDeck 124 = .ok (.iconst 0, 1) := by decide +kernel
theorem dX5_readDeck_125 : decode cX5_readDeck 125 = .ok (.ireturn, 1) := by decide +kernel
theorem dX5_readDeck_126 : decode cX5_readDeck 126 = .ok (.iconst 1, 1) := by decide +kernel
theorem dX5_readDeck_127 : decode cX5_readDeck 127 = .ok (.istore_n 1, 1) := by decide +kernel
theorem dX5_readDeck_128 : decode cX5_readDeck 128 = .ok (.goto 53, 3) := by decide +kernel
theorem dX5_readDeck_131 : decode cX5_readDeck 131 = .ok (.aload_n 0, 1) := by decide +kernel
theorem dX5_readDeck_132 : decode cX5_readDeck 132 = .ok (.getfield 12, 3) := by decide +kernel
theorem dX5_readDeck_135 : decode cX5_readDeck 135 = .ok (.getfield 49, 3) := by decide +kernel
theorem dX5_readDeck_138 : decode cX5_readDeck 138 = .ok (.iconst 5, 1) := by decide +kernel
theorem dX5_readDeck_139 : decode cX5_readDeck 139 = .ok (.if_icmp .ne 20, 3) := by decide +kernel
theorem dX5_readDeck_142 : decode cX5_readDeck 142 = .ok (.iload_n 3, 1) := by decide +kernel
theorem dX5_readDeck_143 : decode cX5_readDeck 143 = .ok (.ifCond .eq 16, 3) := by decide +kernel
theorem dX5_readDeck_146 : decode cX5_readDeck 146 = .ok (.iload_n 1, 1) := by decide +kernel
theorem dX5_readDeck_147 : decode cX5_readDeck 147 = .ok (.ifCond .ne 12, 3) := by decide +kernel
theorem dX5_readDeck_150 : decode cX5_readDeck 150 = .ok (.aload_n 0, 1) := by decide +kernel
theorem dX5_readDeck_151 : decode cX5_readDeck 151 = .ok (.invokevirtual 214, 3) := by decide +kernel
theorem dX5_readDeck_154 : decode cX5_readDeck 154 = .ok (.ifCond .ne 27, 3) := by decide +kernel
theorem dX5_readDeck_157 : decode cX5_readDeck 157 = .ok (.iconst 0, 1) := by decide +kernel
theorem dX5_readDeck_158 : decode cX5_readDeck 158 = .ok (.ireturn, 1) := by decide +kernel
theorem dX5_readDeck_159 : decode cX5_readDeck 159 = .ok (.iload_n 3, 1) := by decide +kernel
theorem dX5_readDeck_160 : decode cX5_readDeck 160 = .ok (.ifCond .ne 7, 3) := by decide +kernel
theorem dX5_readDeck_163 : decode cX5_readDeck 163 = .ok (.iload_n 1, 1) := by decide +kernel
theorem dX5_readDeck_164 : decode cX5_readDeck 164 = .ok (.ifCond .eq 11, 3) := by decide +kernel
theorem dX5_readDeck_167 : decode cX5_readDeck 167 = .ok (.aload_n 0, 1) := by decide +kernel
theorem dX5_readDeck_168 : decode cX5_readDeck 168 = .ok (.iconst 1, 1) := by decide +kernel
theorem dX5_readDeck_169 : decode cX5_readDeck 169 = .ok (.invokevirtual 52, 3) := by decide +kernel
theorem dX5_readDeck_172 : decode cX5_readDeck 172 = .ok (.ifCond .eq 7, 3) := by decide +kernel
theorem dX5_readDeck_175 : decode cX5_readDeck 175 = .ok (.iconst 1, 1) := by decide +kernel
theorem dX5_readDeck_176 : decode cX5_readDeck 176 = .ok (.goto 4, 3) := by decide +kernel
theorem dX5_readDeck_179 : decode cX5_readDeck 179 = .ok (.iconst 0, 1) := by decide +kernel
theorem dX5_readDeck_180 : decode cX5_readDeck 180 = .ok (.ireturn, 1) := by decide +kernel
theorem dX5_readDeck_181 : decode cX5_readDeck 181 = .ok (.iinc 2 1, 3) := by decide +kernel
theorem dX5_readDeck_184 : decode cX5_readDeck 184 = .ok (.goto (-154), 3) := by decide +kernel
theorem dX5_readDeck_187 : decode cX5_readDeck 187 = .ok (.aload_n 0, 1) := by decide +kernel
theorem dX5_readDeck_188 : decode cX5_readDeck 188 = .ok (.iconst 1, 1) := by decide +kernel
theorem dX5_readDeck_189 : decode cX5_readDeck 189 = .ok (.invokevirtual 52, 3) := by decide +kernel
theorem dX5_readDeck_192 : decode cX5_readDeck 192 = .ok (.ireturn, 1) := by decide +kernel
theorem dX5_readCardOfDeck_0 : decode cX5_readCardOfDeck 0 = .ok (.aload_n 0, 1) := by decide +kernel
theorem dX5_readCardOfDeck_1 : decode cX5_readCardOfDeck 1 = .ok (.invokevirtual 78, 3) := by decide +kernel
theorem dX5_readCardOfDeck_4 : decode cX5_readCardOfDeck 4 = .ok (.ifCond .ne 5, 3) := by decide +kernel
theorem dX5_readCardOfDeck_7 : decode cX5_readCardOfDeck 7 = .ok (.iconst 0, 1) := by decide +kernel
theorem dX5_readCardOfDeck_8 : decode cX5_readCardOfDeck 8 = .ok (.ireturn, 1) := by decide +kernel
theorem dX5_readCardOfDeck_9 : decode cX5_readCardOfDeck 9 = .ok (.aload_n 0, 1) := by decide +kernel
theorem dX5_readCardOfDeck_10 : decode cX5_readCardOfDeck 10 = .ok (.getfield 21, 3) := by decide +kernel
theorem dX5_readCardOfDeck_13 : decode cX5_readCardOfDeck 13 = .ok (.getfield 194, 3) := by decide +kernel
theorem dX5_readCardOfDeck_16 : decode cX5_readCardOfDeck 16 = .ok (.aload_n 0, 1) := by decide +kernel
theorem dX5_readCardOfDeck_17 : decode cX5_readCardOfDeck 17 = .ok (.getfield 32, 3) := by decide +kernel
theorem dX5_readCardOfDeck_20 : decode cX5_readCardOfDeck 20 = .ok (.invokevirtual 217, 3) := by decide +kernel
theorem dX5_readCardOfDeck_23 : decode cX5_readCardOfDeck 23 = .ok (.ifCond .ne 9, 3) := by decide +kernel
theorem dX5_readCardOfDeck_26 : decode cX5_readCardOfDeck 26 = .ok (.aload_n 0, 1) := by decide +kernel
theorem dX5_readCardOfDeck_27 : decode cX5_readCardOfDeck 27 = .ok (.iconst 4, 1) := by decide +kernel
theorem dX5_readCardOfDeck_28 : decode cX5_readCardOfDeck 28 = .ok (.invokevirtual 52, 3) := by decide +kernel
theorem dX5_readCardOfDeck_31 : decode cX5_readCardOfDeck 31 = .ok (.ireturn, 1) := by decide +kernel
theorem dX5_readCardOfDeck_32 : decode cX5_readCardOfDeck 32 = .ok (.aload_n 0, 1) := by decide +kernel
theorem dX5_readCardOfDeck_33 : decode cX5_readCardOfDeck 33 = .ok (.getfield 12, 3) := by decide +kernel
theorem dX5_readCardOfDeck_36 : decode cX5_readCardOfDeck 36 = .ok (.invokevirtual 56, 3) := by decide +kernel
theorem dX5_readCardOfDeck_39 : decode cX5_readCardOfDeck 39 = .ok (.iconst 1, 1) := by decide +kernel
theorem dX5_readCardOfDeck_40 : decode cX5_readCardOfDeck 40 = .ok (.ireturn, 1) := by decide +kernel
theorem dX5_readOpening_0 : decode cX5_readOpening 0 = .ok (.aload_n 0, 1) := by decide +kernel
theorem dX5_readOpening_1 : decode cX5_readOpening 1 = .ok (.getfield 21, 3) := by decide +kernel
theorem dX5_readOpening_4 : decode cX5_readOpening 4 = .ok (.getfield 194, 3) := by decide +kernel
theorem dX5_readOpening_7 : decode cX5_readOpening 7 = .ok (.invokevirtual 219, 3) := by decide +kernel
theorem dX5_readOpening_10 : decode cX5_readOpening 10 = .ok (.ifCond .eq 9, 3) := by decide +kernel
theorem dX5_readOpening_13 : decode cX5_readOpening 13 = .ok (.aload_n 0, 1) := by decide +kernel
theorem dX5_readOpening_14 : decode cX5_readOpening 14 = .ok (.iconst 4, 1) := by decide +kernel
theorem dX5_readOpening_15 : decode cX5_readOpening 15 = .ok (.invokevirtual 52, 3) := by decide +kernel
theorem dX5_readOpening_18 : decode cX5_readOpening 18 = .ok (.ireturn, 1) := by decide +kernel
theorem dX5_readOpening_19 : decode cX5_readOpening 19 = .ok (.aload_n 0, 1) := by decide +kernel
theorem dX5_readOpening_20 : decode cX5_readOpening 20 = .ok (.getfield 12, 3) := by decide +kernel
theorem dX5_readOpening_23 : decode cX5_readOpening 23 = .ok (.ldc 205, 2) := by decide +kernel
theorem dX5_readOpening_25 : decode cX5_readOpening 25 = .ok (.invokevirtual 92, 3) := by decide +kernel
theorem dX5_readOpening_28 : decode cX5_readOpening 28 = .ok (.istore_n 1, 1) := by decide +kernel
theorem dX5_readOpening_29 : decode cX5_readOpening 29 = .ok (.aload_n 0, 1) := by decide +kernel
theorem dX5_readOpening_30 : decode cX5_readOpening 30 = .ok (.getfield 12, 3) := by decide +kernel
theorem dX5_readOpening_33 : decode cX5_readOpening 33 = .ok (.ldc 207, 2) := by decide +kernel
theorem dX5_readOpening_35 : decode cX5_readOpening 35 = .ok (.invokevirtual 92, 3) := by decide +kernel
theorem dX5_readOpening_38 : decode cX5_readOpening 38 = .ok (.ifCond .eq 8, 3) := by decide +kernel
theorem dX5_readOpening_41 : decode cX5_readOpening 41 = .ok (.bipush 101, 2) := by decide +kernel
theorem dX5_readOpening_43 : decode cX5_readOpening 43 = .ok (.goto 5, 3) := by decide +kernel
theorem dX5_readOpening_46 : decode cX5_readOpening 46 = .ok (.bipush 102, 2) := by decide +kernel
theorem dX5_readOpening_48 : decode cX5_readOpening 48 = .ok (.istore_n 2, 1) := by decide +kernel
theorem dX5_readOpening_49 : decode cX5_readOpening 49 = .ok (.aload_n 0, 1) := by decide +kernel
theorem dX5_readOpening_50 : decode cX5_readOpening 50 = .ok (.getfield 12, 3) := by decide +kernel
theorem dX5_readOpening_53 : decode cX5_readOpening 53 = .ok (.invokevirtual 56, 3) := by decide +kernel
theorem dX5_readOpening_56 : decode cX5_readOpening 56 = .ok (.iload_n 1, 1) := by decide +kernel
theorem dX5_readOpening_57 : decode cX5_readOpening 57 = .ok (.ifCond .eq 31, 3) := by decide +kernel
theorem dX5_readOpening_60 : decode cX5_readOpening 60 = .ok (.aload_n 0, 1) := by decide +kernel
theorem dX5_readOpening_61 : decode cX5_readOpening 61 = .ok (.iconst 1, 1) := by decide +kernel
theorem dX5_readOpening_62 : decode cX5_readOpening 62 = .ok (.bipush 20, 2) := by decide +kernel
theorem dX5_readOpening_64 : decode cX5_readOpening 64 = .ok (.invokevirtual 71, 3) := by decide +kernel
theorem dX5_readOpening_67 : decode cX5_readOpening 67 = .ok (.ifCond .ne 5, 3) := by decide +kernel
theorem dX5_readOpening_70 : decode cX5_readOpening 70 = .ok (.iconst 0, 1) := by decide +kernel
theorem dX5_readOpening_71 : decode cX5_readOpening 71 = .ok (.ireturn, 1) := by decide +kernel
theorem dX5_readOpening_72 : decode cX5_readOpening 72 = .ok (.sipush 200, 3) := by decide +kernel
theorem dX5_readOpening_75 : decode cX5_readOpening 75 = .ok (.aload_n 0, 1) := by decide +kernel
theorem dX5_readOpening_76 : decode cX5_readOpening 76 = .ok (.getfield 32, 3) := by decide +kernel
theorem dX5_readOpening_79 : decode cX5_readOpening 79 = .ok (.iadd, 1) := by decide +kernel
theorem dX5_readOpening_80 : decode cX5_readOpening 80 = .ok (.istore_n 2, 1) := by decide +kernel
theorem dX5_readOpening_81 : decode cX5_readOpening 81 = .ok (.aload_n 0, 1) := by decide +kernel
theorem dX5_readOpening_82 : decode cX5_readOpening 82 = .ok (.getfield 12, 3) := by decide +kernel
theorem dX5_readOpening_85 : decode cX5_readOpening 85 = .ok (.invokevirtual 56, 3) := by decide +kernel
theorem dX5_readOpening_88 : decode cX5_readOpening 88 = .ok (.aload_n 0, 1) := by decide +kernel
theorem dX5_readOpening_89 : decode cX5_readOpening 89 = .ok (.getfield 12, 3) := by decide +kernel
theorem dX5_readOpening_92 : decode cX5_readOpening 92 = .ok (.getfield 49, 3) := by decide +kernel
theorem dX5_readOpening_95 : decode cX5_readOpening 95 = .ok (.iconst 4, 1) := by decide +kernel
theorem dX5_readOpening_96 : decode cX5_readOpening 96 = .ok (.if_icmp .eq 9, 3) := by decide +kernel
theorem dX5_readOpening_99 : decode cX5_readOpening 99 = .ok (.aload_n 0, 1) := by decide +kernel
theorem dX5_readOpening_100 : decode cX5_readOpening 100 = .ok (.iconst 1, 1) := by decide +kernel
theorem dX5_readOpening_101 : decode cX5_readOpening 101 = .ok (.invokevirtual 52, 3) := by decide +kernel
theorem dX5_readOpening_104 : decode cX5_readOpening 104 = .ok (.ireturn, 1) := by decide +kernel
theorem dX5_readOpening_105 : decode cX5_readOpening 105 = .ok (.aload_n 0, 1) := by decide +kernel
theorem dX5_readOpening_106 : decode cX5_readOpening 106 = .ok (.getfield 21, 3) := by decide +kernel
theorem dX5_readOpening_109 : decode cX5_readOpening 109 = .ok (.getfield 194, 3) := by decide +kernel
theorem dX5_readOpening_112 : decode cX5_readOpening 112 = .ok (.iload_n 2, 1) := by decide +kernel
theorem dX5_readOpening_113 : decode cX5_readOpening 113 = .ok (.invokevirtual 222, 3) := by decide +kernel
theorem dX5_readOpening_116 : decode cX5_readOpening 116 = .ok (.aload_n 0, 1) := by decide +kernel
theorem dX5_readOpening_117 : decode cX5_readOpening 117 = .ok (.getfield 12, 3) := by decide +kernel
theorem dX5_readOpening_120 : decode cX5_readOpening 120 = .ok (.invokevirtual 56, 3) := by decide +kernel
theorem dX5_readOpening_123 : decode cX5_readOpening 123 = .ok (.iconst 1, 1) := by decide +kernel
theorem dX5_readOpening_124 : decode cX5_readOpening 124 = .ok (.ireturn, 1) := by decide +kernel
theorem dX5_readClosing_0 : decode cX5_readClosing 0 = .ok (.aload_n 0, 1) := by decide +kernel
theorem dX5_readClosing_1 : decode cX5_readClosing 1 = .ok (.getfield 21, 3) := by decide +kernel
theorem dX5_readClosing_4 : decode cX5_readClosing 4 = .ok (.getfield 194, 3) := by decide +kernel
theorem dX5_readClosing_7 : decode cX5_readClosing 7 = .ok (.invokevirtual 225, 3) := by decide +kernel
theorem dX5_readClosing_10 : decode cX5_readClosing 10 = .ok (.ifCond .ne 9, 3) := by decide +kernel
theorem dX5_readClosing_13 : decode cX5_readClosing 13 = .ok (.aload_n 0, 1) := by decide +kernel
theorem dX5_readClosing_14 : decode cX5_readClosing 14 = .ok (.iconst 4, 1) := by decide +kernel
theorem dX5_readClosing_15 : decode cX5_readClosing 15 = .ok (.invokevirtual 52, 3) := by decide +kernel
theorem dX5_readClosing_18 : decode cX5_readClosing 18 = .ok (.ireturn, 1) := by decide +kernel
theorem dX5_readClosing_19 : decode cX5_readClosing 19 = .ok (.aload_n 0, 1) := by decide +kernel
theorem dX5_readClosing_20 : decode cX5_readClosing 20 = .ok (.getfield 12, 3) := by decide +kernel
theorem dX5_readClosing_23 : decode cX5_readClosing 23 = .ok (.invokevirtual 56, 3) := by decide +kernel
theorem dX5_readClosing_26 : decode cX5_readClosing 26 = .ok (.iconst 1, 1) := by decide +kernel
theorem dX5_readClosing_27 : decode cX5_readClosing 27 = .ok (.ireturn, 1) := by decide +kernel
theorem dX5_readYarn_0 : decode cX5_readYarn 0 = .ok (.aload_n 0, 1) := by decide +kernel
theorem dX5_readYarn_1 : decode cX5_readYarn 1 = .ok (.getfield 12, 3) := by decide +kernel
theorem dX5_readYarn_4 : decode cX5_readYarn 4 = .ok (.invokevirtual 56, 3) := by decide +kernel
theorem dX5_readYarn_7 : decode cX5_readYarn 7 = .ok (.aload_n 0, 1) := by decide +kernel
theorem dX5_readYarn_8 : decode cX5_readYarn 8 = .ok (.invokevirtual 181, 3) := by decide +kernel
theorem dX5_readYarn_11 : decode cX5_readYarn 11 = .ok (.ifCond .ne 5, 3) := by decide +kernel
theorem dX5_readYarn_14 : decode cX5_readYarn 14 = .ok (.iconst 0, 1) := by decide +kernel
theorem dX5_readYarn_15 : decode cX5_readYarn 15 = .ok (.ireturn, 1) := by decide +kernel
theorem dX5_readYarn_16 : decode cX5_readYarn 16 = .ok (.aload_n 0, 1) := by decide +kernel
theorem dX5_readYarn_17 : decode cX5_readYarn 17 = .ok (.getfield 32, 3) := by decide +kernel
theorem dX5_readYarn_20 : decode cX5_readYarn 20 = .ok (.istore_n 1, 1) := by decide +kernel
theorem dX5_readYarn_21 : decode cX5_readYarn 21 = .ok (.aload_n 0, 1) := by decide +kernel
theorem dX5_readYarn_22 : decode cX5_readYarn 22 = .ok (.iconst 1, 1) := by decide +kernel
theorem dX5_readYarn_23 : decode cX5_readYarn 23 = .ok (.sipush 999, 3) := by decide +kernel
theorem dX5_readYarn_26 : decode cX5_readYarn 26 = .ok (.invokevirtual 96, 3) := by decide +kernel
theorem dX5_readYarn_29 : decode cX5_readYarn 29 = .ok (.ifCond .ne 5, 3) := by decide +kernel
theorem dX5_readYarn_32 : decode cX5_readYarn 32 = .ok (.iconst 0, 1) := by decide +kernel
theorem dX5_readYarn_33 : decode cX5_readYarn 33 = .ok (.ireturn, 1) := by decide +kernel
theorem dX5_readYarn_34 : decode cX5_readYarn 34 = .ok (.aload_n 0, 1) := by decide +kernel
theorem dX5_readYarn_35 : decode cX5_readYarn 35 = .ok (.getfield 21, 3) := by decide +kernel
theorem dX5_readYarn_38 : decode cX5_readYarn 38 = .ok (.getfield 172, 3) := by decide +kernel
theorem dX5_readYarn_41 : decode cX5_readYarn 41 = .ok (.iload_n 1, 1) := by decide +kernel
theorem dX5_readYarn_42 : decode cX5_readYarn 42 = .ok (.aload_n 0, 1) := by decide +kernel
theorem dX5_readYarn_43 : decode cX5_readYarn 43 = .ok (.getfield 32, 3) := by decide +kernel
theorem dX5_readYarn_46 : decode cX5_readYarn 46 = .ok (.invokevirtual 228, 3) := by decide +kernel
theorem dX5_readYarn_49 : decode cX5_readYarn 49 = .ok (.iconst 1, 1) := by decide +kernel
theorem dX5_readYarn_50 : decode cX5_readYarn 50 = .ok (.ireturn, 1) := by decide +kernel
theorem dX5_readWeave_0 : decode cX5_readWeave 0 = .ok (.aload_n 0, 1) := by decide +kernel
theorem dX5_readWeave_1 : decode cX5_readWeave 1 = .ok (.getfield 12, 3) := by decide +kernel
theorem dX5_readWeave_4 : decode cX5_readWeave 4 = .ok (.invokevirtual 56, 3) := by decide +kernel
theorem dX5_readWeave_7 : decode cX5_readWeave 7 = .ok (.aload_n 0, 1) := by decide +kernel
theorem dX5_readWeave_8 : decode cX5_readWeave 8 = .ok (.iconst 1, 1) := by decide +kernel
theorem dX5_readWeave_9 : decode cX5_readWeave 9 = .ok (.bipush 60, 2) := by decide +kernel
theorem dX5_readWeave_11 : decode cX5_readWeave 11 = .ok (.invokevirtual 71, 3) := by decide +kernel
theorem dX5_readWeave_14 : decode cX5_readWeave 14 = .ok (.ifCond .ne 5, 3) := by decide +kernel
theorem dX5_readWeave_17 : decode cX5_readWeave 17 = .ok (.iconst 0, 1) := by decide +kernel
theorem dX5_readWeave_18 : decode cX5_readWeave 18 = .ok (.ireturn, 1) := by decide +kernel
theorem dX5_readWeave_19 : decode cX5_readWeave 19 = .ok (.aload_n 0, 1) := by decide +kernel
theorem dX5_readWeave_20 : decode cX5_readWeave 20 = .ok (.getfield 21, 3) := by decide +kernel
theorem dX5_readWeave_23 : decode cX5_readWeave 23 = .ok (.aload_n 0, 1) := by decide +kernel
theorem dX5_readWeave_24 : decode cX5_readWeave 24 = .ok (.getfield 21, 3) := by decide +kernel
theorem dX5_readWeave_27 : decode cX5_readWeave 27 = .ok (.getfield 172, 3) := by decide +kernel
theorem dX5_readWeave_30 : decode cX5_readWeave 30 = .ok (.aload_n 0, 1) := by decide +kernel
theorem dX5_readWeave_31 : decode cX5_readWeave 31 = .ok (.getfield 32, 3) := by decide +kernel
theorem dX5_readWeave_34 : decode cX5_readWeave 34 = .ok (.invokevirtual 231, 3) := by decide +kernel
theorem dX5_readWeave_37 : decode cX5_readWeave 37 = .ok (.aload_n 0, 1) := by decide +kernel
theorem dX5_readWeave_38 : decode cX5_readWeave 38 = .ok (.getfield 32, 3) := by decide +kernel
theorem dX5_readWeave_41 : decode cX5_readWeave 41 = .ok (.if_icmp .ge 9, 3) := by decide +kernel
theorem dX5_readWeave_44 : decode cX5_readWeave 44 = .ok (.aload_n 0, 1) := by decide +kernel
theorem dX5_readWeave_45 : decode cX5_readWeave 45 = .ok (.iconst 3, 1) := by decide +kernel
theorem dX5_readWeave_46 : decode cX5_readWeave 46 = .ok (.invokevirtual 52, 3) := by decide +kernel
theorem dX5_readWeave_49 : decode cX5_readWeave 49 = .ok (.ireturn, 1) := by decide +kernel
theorem dX5_readWeave_50 : decode cX5_readWeave 50 = .ok (.aload_n 0, 1) := by decide +kernel
theorem dX5_readWeave_51 : decode cX5_readWeave 51 = .ok (.getfield 12, 3) := by decide +kernel
theorem dX5_readWeave_54 : decode cX5_readWeave 54 = .ok (.invokevirtual 56, 3) := by decide +kernel
theorem dX5_readWeave_57 : decode cX5_readWeave 57 = .ok (.iconst 1, 1) := by decide +kernel
theorem dX5_readWeave_58 : decode cX5_readWeave 58 = .ok (.ireturn, 1) := by decide +kernel
theorem dX5_readUnweave_0 : decode cX5_readUnweave 0 = .ok (.aload_n 0, 1) := by decide +kernel
theorem dX5_readUnweave_1 : decode cX5_readUnweave 1 = .ok (.getfield 12, 3) := by decide +kernel
theorem dX5_readUnweave_4 : decode cX5_readUnweave 4 = .ok (.invokevirtual 56, 3) := by decide +kernel
theorem dX5_readUnweave_7 : decode cX5_readUnweave 7 = .ok (.aload_n 0, 1) := by decide +kernel
theorem dX5_readUnweave_8 : decode cX5_readUnweave 8 = .ok (.iconst 1, 1) := by decide +kernel
theorem dX5_readUnweave_9 : decode cX5_readUnweave 9 = .ok (.bipush 60, 2) := by decide +kernel
theorem dX5_readUnweave_11 : decode cX5_readUnweave 11 = .ok (.invokevirtual 71, 3) := by decide +kernel
theorem dX5_readUnweave_14 : decode cX5_readUnweave 14 = .ok (.ifCond .ne 5, 3) := by decide +kernel
theorem dX5_readUnweave_17 : decode cX5_readUnweave 17 = .ok (.iconst 0, 1) := by decide +kernel
theorem dX5_readUnweave_18 : decode cX5_readUnweave 18 = .ok (.ireturn, 1) := by decide +kernel
theorem dX5_readUnweave_19 : decode cX5_readUnweave 19 = .ok (.aload_n 0, 1) := by decide +kernel
theorem dX5_readUnweave_20 : decode cX5_readUnweave 20 = .ok (.getfield 32, 3) := by decide +kernel
theorem dX5_readUnweave_23 : decode cX5_readUnweave 23 = .ok (.aload_n 0, 1) := by decide +kernel
theorem dX5_readUnweave_24 : decode cX5_readUnweave 24 = .ok (.getfield 21, 3) := by decide +kernel
theorem dX5_readUnweave_27 : decode cX5_readUnweave 27 = .ok (.getfield 172, 3) := by decide +kernel
theorem dX5_readUnweave_30 : decode cX5_readUnweave 30 = .ok (.getfield 176, 3) := by decide +kernel
theorem dX5_readUnweave_33 : decode cX5_readUnweave 33 = .ok (.if_icmp .le 9, 3) := by decide +kernel
theorem dX5_readUnweave_36 : decode cX5_readUnweave 36 = .ok (.aload_n 0, 1) := by decide +kernel
theorem dX5_readUnweave_37 : decode cX5_readUnweave 37 = .ok (.iconst 3, 1) := by decide +kernel
theorem dX5_readUnweave_38 : decode cX5_readUnweave 38 = .ok (.invokevirtual 52, 3) := by decide +kernel
theorem dX5_readUnweave_41 : decode cX5_readUnweave 41 = .ok (.ireturn, 1) := by decide +kernel
theorem dX5_readUnweave_42 : decode cX5_readUnweave 42 = .ok (.aload_n 0, 1) := by decide +kernel
theorem dX5_readUnweave_43 : decode cX5_readUnweave 43 = .ok (.getfield 21, 3) := by decide +kernel
theorem dX5_readUnweave_46 : decode cX5_readUnweave 46 = .ok (.aload_n 0, 1) := by decide +kernel
theorem dX5_readUnweave_47 : decode cX5_readUnweave 47 = .ok (.getfield 32, 3) := by decide +kernel
theorem dX5_readUnweave_50 : decode cX5_readUnweave 50 = .ok (.invokevirtual 235, 3) := by decide +kernel
theorem dX5_readUnweave_53 : decode cX5_readUnweave 53 = .ok (.aload_n 0, 1) := by decide +kernel
theorem dX5_readUnweave_54 : decode cX5_readUnweave 54 = .ok (.getfield 12, 3) := by decide +kernel
theorem dX5_readUnweave_57 : decode cX5_readUnweave 57 = .ok (.invokevirtual 56, 3) := by decide +kernel
theorem dX5_readUnweave_60 : decode cX5_readUnweave 60 = .ok (.iconst 1, 1) := by decide +kernel
theorem dX5_readUnweave_61 : decode cX5_readUnweave 61 = .ok (.ireturn, 1) := by decide +kernel
theorem dX5_readSwap_0 : decode cX5_readSwap 0 = .ok (.aload_n 0, 1) := by decide +kernel
theorem dX5_readSwap_1 : decode cX5_readSwap 1 = .ok (.getfield 12, 3) := by decide +kernel
theorem dX5_readSwap_4 : decode cX5_readSwap 4 = .ok (.invokevirtual 56, 3) := by decide +kernel
theorem dX5_readSwap_7 : decode cX5_readSwap 7 = .ok (.aload_n 0, 1) := by decide +kernel
theorem dX5_readSwap_8 : decode cX5_readSwap 8 = .ok (.invokevirtual 238, 3) := by decide +kernel
theorem dX5_readSwap_11 : decode cX5_readSwap 11 = .ok (.ifCond .ne 5, 3) := by decide +kernel
theorem dX5_readSwap_14 : decode cX5_readSwap 14 = .ok (.iconst 0, 1) := by decide +kernel
theorem dX5_readSwap_15 : decode cX5_readSwap 15 = .ok (.ireturn, 1) := by decide +kernel
theorem dX5_readSwap_16 : decode cX5_readSwap 16 = .ok (.aload_n 0, 1) := by decide +kernel
theorem dX5_readSwap_17 : decode cX5_readSwap 17 = .ok (.getfield 32, 3) := by decide +kernel
theorem dX5_readSwap_20 : decode cX5_readSwap 20 = .ok (.istore_n 1, 1) := by decide +kernel
theorem dX5_readSwap_21 : decode cX5_readSwap 21 = .ok (.aload_n 0, 1) := by decide +kernel
theorem dX5_readSwap_22 : decode cX5_readSwap 22 = .ok (.invokevirtual 78, 3) := by decide +kernel
theorem dX5_readSwap_25 : decode cX5_readSwap 25 = .ok (.ifCond .ne 5, 3) := by decide +kernel
theorem dX5_readSwap_28 : decode cX5_readSwap 28 = .ok (.iconst 0, 1) := by decide +kernel
theorem dX5_readSwap_29 : decode cX5_readSwap 29 = .ok (.ireturn, 1) := by decide +kernel
theorem dX5_readSwap_30 : decode cX5_readSwap 30 = .ok (.aload_n 0, 1) := by decide +kernel
theorem dX5_readSwap_31 : decode cX5_readSwap 31 = .ok (.getfield 32, 3) := by decide +kernel
theorem dX5_readSwap_34 : decode cX5_readSwap 34 = .ok (.iload_n 1, 1) := by decide +kernel
theorem dX5_readSwap_35 : decode cX5_readSwap 35 = .ok (.if_icmp .ne 9, 3) := by decide +kernel
theorem dX5_readSwap_38 : decode cX5_readSwap 38 = .ok (.aload_n 0, 1) := by decide +kernel
theorem dX5_readSwap_39 : decode cX5_readSwap 39 = .ok (.iconst 3, 1) := by decide +kernel
theorem dX5_readSwap_40 : decode cX5_readSwap 40 = .ok (.invokevirtual 52, 3) := by decide +kernel
theorem dX5_readSwap_43 : decode cX5_readSwap 43 = .ok (.ireturn, 1) := by decide +kernel
theorem dX5_readSwap_44 : decode cX5_readSwap 44 = .ok (.aload_n 0, 1) := by decide +kernel
theorem dX5_readSwap_45 : decode cX5_readSwap 45 = .ok (.getfield 21, 3) := by decide +kernel
theorem dX5_readSwap_48 : decode cX5_readSwap 48 = .ok (.getfield 172, 3) := by decide +kernel
theorem dX5_readSwap_51 : decode cX5_readSwap 51 = .ok (.iload_n 1, 1) := by decide +kernel
theorem dX5_readSwap_52 : decode cX5_readSwap 52 = .ok (.aload_n 0, 1) := by decide +kernel
theorem dX5_readSwap_53 : decode cX5_readSwap 53 = .ok (.getfield 32, 3) := by decide +kernel
theorem dX5_readSwap_56 : decode cX5_readSwap 56 = .ok (.invokevirtual 241, 3) := by decide +kernel
theorem dX5_readSwap_59 : decode cX5_readSwap 59 = .ok (.aload_n 0, 1) := by decide +kernel
theorem dX5_readSwap_60 : decode cX5_readSwap 60 = .ok (.getfield 12, 3) := by decide +kernel
theorem dX5_readSwap_63 : decode cX5_readSwap 63 = .ok (.invokevirtual 56, 3) := by decide +kernel
theorem dX5_readSwap_66 : decode cX5_readSwap 66 = .ok (.iconst 1, 1) := by decide +kernel
theorem dX5_readSwap_67 : decode cX5_readSwap 67 = .ok (.ireturn, 1) := by decide +kernel
theorem dX5_readPunch_0 : decode cX5_readPunch 0 = .ok (.aload_n 0, 1) := by decide +kernel
theorem dX5_readPunch_1 : decode cX5_readPunch 1 = .ok (.getfield 12, 3) := by decide +kernel
theorem dX5_readPunch_4 : decode cX5_readPunch 4 = .ok (.invokevirtual 56, 3) := by decide +kernel
theorem dX5_readPunch_7 : decode cX5_readPunch 7 = .ok (.aload_n 0, 1) := by decide +kernel
theorem dX5_readPunch_8 : decode cX5_readPunch 8 = .ok (.invokevirtual 238, 3) := by decide +kernel
theorem dX5_readPunch_11 : decode cX5_readPunch 11 = .ok (.ifCond .ne 5, 3) := by decide +kernel
theorem dX5_readPunch_14 : decode cX5_readPunch 14 = .ok (.iconst 0, 1) := by decide +kernel
theorem dX5_readPunch_15 : decode cX5_readPunch 15 = .ok (.ireturn, 1) := by decide +kernel
theorem dX5_readPunch_16 : decode cX5_readPunch 16 = .ok (.aload_n 0, 1) := by decide +kernel
theorem dX5_readPunch_17 : decode cX5_readPunch 17 = .ok (.getfield 32, 3) := by decide +kernel
theorem dX5_readPunch_20 : decode cX5_readPunch 20 = .ok (.istore_n 1, 1) := by decide +kernel
theorem dX5_readPunch_21 : decode cX5_readPunch 21 = .ok (.aload_n 0, 1) := by decide +kernel
theorem dX5_readPunch_22 : decode cX5_readPunch 22 = .ok (.invokevirtual 244, 3) := by decide +kernel
theorem dX5_readPunch_25 : decode cX5_readPunch 25 = .ok (.ifCond .ne 5, 3) := by decide +kernel
theorem dX5_readPunch_28 : decode cX5_readPunch 28 = .ok (.iconst 0, 1) := by decide +kernel
theorem dX5_readPunch_29 : decode cX5_readPunch 29 = .ok (.ireturn, 1) := by decide +kernel
theorem dX5_readPunch_30 : decode cX5_readPunch 30 = .ok (.aload_n 0, 1) := by decide +kernel
theorem dX5_readPunch_31 : decode cX5_readPunch 31 = .ok (.getfield 21, 3) := by decide +kernel
theorem dX5_readPunch_34 : decode cX5_readPunch 34 = .ok (.getfield 172, 3) := by decide +kernel
theorem dX5_readPunch_37 : decode cX5_readPunch 37 = .ok (.iload_n 1, 1) := by decide +kernel
theorem dX5_readPunch_38 : decode cX5_readPunch 38 = .ok (.aload_n 0, 1) := by decide +kernel
theorem dX5_readPunch_39 : decode cX5_readPunch 39 = .ok (.getfield 32, 3) := by decide +kernel
theorem dX5_readPunch_42 : decode cX5_readPunch 42 = .ok (.invokevirtual 247, 3) := by decide +kernel
theorem dX5_readPunch_45 : decode cX5_readPunch 45 = .ok (.iconst 1, 1) := by decide +kernel
theorem dX5_readPunch_46 : decode cX5_readPunch 46 = .ok (.ireturn, 1) := by decide +kernel
theorem dX5_readDye_0 : decode cX5_readDye 0 = .ok (.aload_n 0, 1) := by decide +kernel
theorem dX5_readDye_1 : decode cX5_readDye 1 = .ok (.getfield 12, 3) := by decide +kernel
theorem dX5_readDye_4 : decode cX5_readDye 4 = .ok (.invokevirtual 56, 3) := by decide +kernel
theorem dX5_readDye_7 : decode cX5_readDye 7 = .ok (.aload_n 0, 1) := by decide +kernel
theorem dX5_readDye_8 : decode cX5_readDye 8 = .ok (.invokevirtual 238, 3) := by decide +kernel
theorem dX5_readDye_11 : decode cX5_readDye 11 = .ok (.ifCond .ne 5, 3) := by decide +kernel
theorem dX5_readDye_14 : decode cX5_readDye 14 = .ok (.iconst 0, 1) := by decide +kernel
theorem dX5_readDye_15 : decode cX5_readDye 15 = .ok (.ireturn, 1) := by decide +kernel
theorem dX5_readDye_16 : decode cX5_readDye 16 = .ok (.aload_n 0, 1) := by decide +kernel
theorem dX5_readDye_17 : decode cX5_readDye 17 = .ok (.getfield 32, 3) := by decide +kernel
theorem dX5_readDye_20 : decode cX5_readDye 20 = .ok (.istore_n 1, 1) := by decide +kernel
theorem dX5_readDye_21 : decode cX5_readDye 21 = .ok (.aload_n 0, 1) := by decide +kernel
theorem dX5_readDye_22 : decode cX5_readDye 22 = .ok (.invokevirtual 181, 3) := by decide +kernel
theorem dX5_readDye_25 : decode cX5_readDye 25 = .ok (.ifCond .ne 5, 3) := by decide +kernel
theorem dX5_readDye_28 : decode cX5_readDye 28 = .ok (.iconst 0, 1) := by decide +kernel
theorem dX5_readDye_29 : decode cX5_readDye 29 = .ok (.ireturn, 1) := by decide +kernel
theorem dX5_readDye_30 : decode cX5_readDye 30 = .ok (.aload_n 0, 1) := by decide +kernel
theorem dX5_readDye_31 : decode cX5_readDye 31 = .ok (.getfield 21, 3) := by decide +kernel
theorem dX5_readDye_34 : decode cX5_readDye 34 = .ok (.getfield 172, 3) := by decide +kernel
theorem dX5_readDye_37 : decode cX5_readDye 37 = .ok (.iload_n 1, 1) := by decide +kernel
theorem dX5_readDye_38 : decode cX5_readDye 38 = .ok (.aload_n 0, 1) := by decide +kernel
theorem dX5_readDye_39 : decode cX5_readDye 39 = .ok (.getfield 32, 3) := by decide +kernel
theorem dX5_readDye_42 : decode cX5_readDye 42 = .ok (.invokevirtual 250, 3) := by decide +kernel
theorem dX5_readDye_45 : decode cX5_readDye 45 = .ok (.iconst 1, 1) := by decide +kernel
theorem dX5_readDye_46 : decode cX5_readDye 46 = .ok (.ireturn, 1) := by decide +kernel
theorem dX5_readOil_0 : decode cX5_readOil 0 = .ok (.aload_n 0, 1) := by decide +kernel
theorem dX5_readOil_1 : decode cX5_readOil 1 = .ok (.getfield 12, 3) := by decide +kernel
theorem dX5_readOil_4 : decode cX5_readOil 4 = .ok (.invokevirtual 56, 3) := by decide +kernel
theorem dX5_readOil_7 : decode cX5_readOil 7 = .ok (.aload_n 0, 1) := by decide +kernel
theorem dX5_readOil_8 : decode cX5_readOil 8 = .ok (.invokevirtual 244, 3) := by decide +kernel
theorem dX5_readOil_11 : decode cX5_readOil 11 = .ok (.ifCond .ne 5, 3) := by decide +kernel
theorem dX5_readOil_14 : decode cX5_readOil 14 = .ok (.iconst 0, 1) := by decide +kernel
theorem dX5_readOil_15 : decode cX5_readOil 15 = .ok (.ireturn, 1) := by decide +kernel
theorem dX5_readOil_16 : decode cX5_readOil 16 = .ok (.aload_n 0, 1) := by decide +kernel
theorem dX5_readOil_17 : decode cX5_readOil 17 = .ok (.getfield 21, 3) := by decide +kernel
theorem dX5_readOil_20 : decode cX5_readOil 20 = .ok (.getfield 172, 3) := by decide +kernel
theorem dX5_readOil_23 : decode cX5_readOil 23 = .ok (.aload_n 0, 1) := by decide +kernel
theorem dX5_readOil_24 : decode cX5_readOil 24 = .ok (.getfield 32, 3) := by decide +kernel
theorem dX5_readOil_27 : decode cX5_readOil 27 = .ok (.invokevirtual 253, 3) := by decide +kernel
theorem dX5_readOil_30 : decode cX5_readOil 30 = .ok (.iconst 1, 1) := by decide +kernel
theorem dX5_readOil_31 : decode cX5_readOil 31 = .ok (.ireturn, 1) := by decide +kernel
theorem dX5_readInvert_0 : decode cX5_readInvert 0 = .ok (.aload_n 0, 1) := by decide +kernel
theorem dX5_readInvert_1 : decode cX5_readInvert 1 = .ok (.getfield 12, 3) := by decide +kernel
theorem dX5_readInvert_4 : decode cX5_readInvert 4 = .ok (.invokevirtual 56, 3) := by decide +kernel
theorem dX5_readInvert_7 : decode cX5_readInvert 7 = .ok (.aload_n 0, 1) := by decide +kernel
theorem dX5_readInvert_8 : decode cX5_readInvert 8 = .ok (.invokevirtual 238, 3) := by decide +kernel
theorem dX5_readInvert_11 : decode cX5_readInvert 11 = .ok (.ifCond .ne 5, 3) := by decide +kernel
theorem dX5_readInvert_14 : decode cX5_readInvert 14 = .ok (.iconst 0, 1) := by decide +kernel
theorem dX5_readInvert_15 : decode cX5_readInvert 15 = .ok (.ireturn, 1) := by decide +kernel
theorem dX5_readInvert_16 : decode cX5_readInvert 16 = .ok (.aload_n 0, 1) := by decide +kernel
theorem dX5_readInvert_17 : decode cX5_readInvert 17 = .ok (.getfield 21, 3) := by decide +kernel
theorem dX5_readInvert_20 : decode cX5_readInvert 20 = .ok (.getfield 172, 3) := by decide +kernel
theorem dX5_readInvert_23 : decode cX5_readInvert 23 = .ok (.aload_n 0, 1) := by decide +kernel
theorem dX5_readInvert_24 : decode cX5_readInvert 24 = .ok (.getfield 32, 3) := by decide +kernel
theorem dX5_readInvert_27 : decode cX5_readInvert 27 = .ok (.aload_n 0, 1) := by decide +kernel
theorem dX5_readInvert_28 : decode cX5_readInvert 28 = .ok (.getfield 21, 3) := by decide +kernel
theorem dX5_readInvert_31 : decode cX5_readInvert 31 = .ok (.aload_n 0, 1) := by decide +kernel
theorem dX5_readInvert_32 : decode cX5_readInvert 32 = .ok (.getfield 21, 3) := by decide +kernel
theorem dX5_readInvert_35 : decode cX5_readInvert 35 = .ok (.getfield 172, 3) := by decide +kernel
theorem dX5_readInvert_38 : decode cX5_readInvert 38 = .ok (.getfield 256, 3) := by decide +kernel
theorem dX5_readInvert_41 : decode cX5_readInvert 41 = .ok (.aload_n 0, 1) := by decide +kernel
theorem dX5_readInvert_42 : decode cX5_readInvert 42 = .ok (.getfield 32, 3) := by decide +kernel
theorem dX5_readInvert_45 : decode cX5_readInvert 45 = .ok (.invokestatic 260, 3) := by decide +kernel
theorem dX5_readInvert_48 : decode cX5_readInvert 48 = .ok (.invokevirtual 264, 3) := by decide +kernel
theorem dX5_readInvert_51 : decode cX5_readInvert 51 = .ok (.invokevirtual 268, 3) := by decide +kernel
theorem dX5_readInvert_54 : decode cX5_readInvert 54 = .ok (.iconst 1, 1) := by decide +kernel
theorem dX5_readInvert_55 : decode cX5_readInvert 55 = .ok (.ireturn, 1) := by decide +kernel
theorem dX5_readStrain_0 : decode cX5_readStrain 0 = .ok (.aload_n 0, 1) := by decide +kernel
theorem dX5_readStrain_1 : decode cX5_readStrain 1 = .ok (.getfield 12, 3) := by decide +kernel
theorem dX5_readStrain_4 : decode cX5_readStrain 4 = .ok (.invokevirtual 56, 3) := by decide +kernel
theorem dX5_readStrain_7 : decode cX5_readStrain 7 = .ok (.aload_n 0, 1) := by decide +kernel
theorem dX5_readStrain_8 : decode cX5_readStrain 8 = .ok (.iconst 0, 1) := by decide +kernel
theorem dX5_readStrain_9 : decode cX5_readStrain 9 = .ok (.bipush 60, 2) := by decide +kernel
theorem dX5_readStrain_11 : decode cX5_readStrain 11 = .ok (.invokevirtual 96, 3) := by decide +kernel
theorem dX5_readStrain_14 : decode cX5_readStrain 14 = .ok (.ifCond .ne 5, 3) := by decide +kernel
theorem dX5_readStrain_17 : decode cX5_readStrain 17 = .ok (.iconst 0, 1) := by decide +kernel
theorem dX5_readStrain_18 : decode cX5_readStrain 18 = .ok (.ireturn, 1) := by decide +kernel
theorem dX5_readStrain_19 : decode cX5_readStrain 19 = .ok (.aload_n 0, 1) := by decide +kernel
theorem dX5_readStrain_20 : decode cX5_readStrain 20 = .ok (.getfield 21, 3) := by decide +kernel
theorem dX5_readStrain_23 : decode cX5_readStrain 23 = .ok (.aload_n 0, 1) := by decide +kernel
theorem dX5_readStrain_24 : decode cX5_readStrain 24 = .ok (.getfield 32, 3) := by decide +kernel
theorem dX5_readStrain_27 : decode cX5_readStrain 27 = .ok (.putfield 271, 3) := by decide +kernel
theorem dX5_readStrain_30 : decode cX5_readStrain 30 = .ok (.iconst 1, 1) := by decide +kernel
theorem dX5_readStrain_31 : decode cX5_readStrain 31 = .ok (.ireturn, 1) := by decide +kernel
theorem dX5_readMotor_0 : decode cX5_readMotor 0 = .ok (.aload_n 0, 1) := by decide +kernel
theorem dX5_readMotor_1 : decode cX5_readMotor 1 = .ok (.getfield 12, 3) := by decide +kernel
theorem dX5_readMotor_4 : decode cX5_readMotor 4 = .ok (.invokevirtual 56, 3) := by decide +kernel
theorem dX5_readMotor_7 : decode cX5_readMotor 7 = .ok (.aload_n 0, 1) := by decide +kernel
theorem dX5_readMotor_8 : decode cX5_readMotor 8 = .ok (.iconst 1, 1) := by decide +kernel
theorem dX5_readMotor_9 : decode cX5_readMotor 9 = .ok (.bipush 24, 2) := by decide +kernel
theorem dX5_readMotor_11 : decode cX5_readMotor 11 = .ok (.invokevirtual 96, 3) := by decide +kernel
theorem dX5_readMotor_14 : decode cX5_readMotor 14 = .ok (.ifCond .ne 5, 3) := by decide +kernel
theorem dX5_readMotor_17 : decode cX5_readMotor 17 = .ok (.iconst 0, 1) := by decide +kernel
theorem dX5_readMotor_18 : decode cX5_readMotor 18 = .ok (.ireturn, 1) := by decide +kernel
theorem dX5_readMotor_19 : decode cX5_readMotor 19 = .ok (.aload_n 0, 1) := by decide +kernel
theorem dX5_readMotor_20 : decode cX5_readMotor 20 = .ok (.getfield 21, 3) := by decide +kernel
theorem dX5_readMotor_23 : decode cX5_readMotor 23 = .ok (.aload_n 0, 1) := by decide +kernel
theorem dX5_readMotor_24 : decode cX5_readMotor 24 = .ok (.getfield 32, 3) := by decide +kernel
theorem dX5_readMotor_27 : decode cX5_readMotor 27 = .ok (.putfield 273, 3) := by decide +kernel
theorem dX5_readMotor_30 : decode cX5_readMotor 30 = .ok (.iconst 1, 1) := by decide +kernel
theorem dX5_readMotor_31 : decode cX5_readMotor 31 = .ok (.ireturn, 1) := by decide +kernel
theorem dX5_readMend_0 : decode cX5_readMend 0 = .ok (.aload_n 0, 1) := by decide +kernel
theorem dX5_readMend_1 : decode cX5_readMend 1 = .ok (.getfield 12, 3) := by decide +kernel
theorem dX5_readMend_4 : decode cX5_readMend 4 = .ok (.invokevirtual 56, 3) := by decide +kernel
theorem dX5_readMend_7 : decode cX5_readMend 7 = .ok (.aload_n 0, 1) := by decide +kernel
theorem dX5_readMend_8 : decode cX5_readMend 8 = .ok (.iconst 0, 1) := by decide +kernel
theorem dX5_readMend_9 : decode cX5_readMend 9 = .ok (.aload_n 0, 1) := by decide +kernel
theorem dX5_readMend_10 : decode cX5_readMend 10 = .ok (.getfield 21, 3) := by decide +kernel
theorem dX5_readMend_13 : decode cX5_readMend 13 = .ok (.getfield 62, 3) := by decide +kernel
theorem dX5_readMend_16 : decode cX5_readMend 16 = .ok (.iconst 1, 1) := by decide +kernel
theorem dX5_readMend_17 : decode cX5_readMend 17 = .ok (.isub, 1) := by decide +kernel
theorem dX5_readMend_18 : decode cX5_readMend 18 = .ok (.invokevirtual 71, 3) := by decide +kernel
theorem dX5_readMend_21 : decode cX5_readMend 21 = .ok (.ifCond .ne 5, 3) := by decide +kernel
theorem dX5_readMend_24 : decode cX5_readMend 24 = .ok (.iconst 0, 1) := by decide +kernel
theorem dX5_readMend_25 : decode cX5_readMend 25 = .ok (.ireturn, 1) := by decide +kernel
theorem dX5_readMend_26 : decode cX5_readMend 26 = .ok (.aload_n 0, 1) := by decide +kernel
theorem dX5_readMend_27 : decode cX5_readMend 27 = .ok (.getfield 21, 3) := by decide +kernel
theorem dX5_readMend_30 : decode cX5_readMend 30 = .ok (.getfield 172, 3) := by decide +kernel
theorem dX5_readMend_33 : decode cX5_readMend 33 = .ok (.getfield 275, 3) := by decide +kernel
theorem dX5_readMend_36 : decode cX5_readMend 36 = .ok (.aload_n 0, 1) := by decide +kernel
theorem dX5_readMend_37 : decode cX5_readMend 37 = .ok (.getfield 32, 3) := by decide +kernel
theorem dX5_readMend_40 : decode cX5_readMend 40 = .ok (.invokestatic 187, 3) := by decide +kernel
theorem dX5_readMend_43 : decode cX5_readMend 43 = .ok (.ifCond .ne 9, 3) := by decide +kernel
theorem dX5_readMend_46 : decode cX5_readMend 46 = .ok (.aload_n 0, 1) := by decide +kernel
theorem dX5_readMend_47 : decode cX5_readMend 47 = .ok (.iconst 3, 1) := by decide +kernel
theorem dX5_readMend_48 : decode cX5_readMend 48 = .ok (.invokevirtual 52, 3) := by decide +kernel
theorem dX5_readMend_51 : decode cX5_readMend 51 = .ok (.ireturn, 1) := by decide +kernel
theorem dX5_readMend_52 : decode cX5_readMend 52 = .ok (.aload_n 0, 1) := by decide +kernel
theorem dX5_readMend_53 : decode cX5_readMend 53 = .ok (.getfield 21, 3) := by decide +kernel
theorem dX5_readMend_56 : decode cX5_readMend 56 = .ok (.getfield 172, 3) := by decide +kernel
theorem dX5_readMend_59 : decode cX5_readMend 59 = .ok (.aload_n 0, 1) := by decide +kernel
theorem dX5_readMend_60 : decode cX5_readMend 60 = .ok (.getfield 32, 3) := by decide +kernel
theorem dX5_readMend_63 : decode cX5_readMend 63 = .ok (.invokevirtual 278, 3) := by decide +kernel
theorem dX5_readMend_66 : decode cX5_readMend 66 = .ok (.aload_n 0, 1) := by decide +kernel
theorem dX5_readMend_67 : decode cX5_readMend 67 = .ok (.getfield 12, 3) := by decide +kernel
theorem dX5_readMend_70 : decode cX5_readMend 70 = .ok (.invokevirtual 56, 3) := by decide +kernel
theorem dX5_readMend_73 : decode cX5_readMend 73 = .ok (.iconst 1, 1) := by decide +kernel
theorem dX5_readMend_74 : decode cX5_readMend 74 = .ok (.ireturn, 1) := by decide +kernel
theorem dX6_init_0 : decode cX6_init 0 = .ok (.aload_n 0, 1) := by decide +kernel
theorem dX6_init_1 : decode cX6_init 1 = .ok (.invokespecial 1, 3) := by decide +kernel
theorem dX6_init_4 : decode cX6_init 4 = .ok (.aload_n 0, 1) := by decide +kernel
theorem dX6_init_5 : decode cX6_init 5 = .ok (.new 7, 3) := by decide +kernel
theorem dX6_init_8 : decode cX6_init 8 = .ok (.dup, 1) := by decide +kernel
theorem dX6_init_9 : decode cX6_init 9 = .ok (.invokespecial 9, 3) := by decide +kernel
theorem dX6_init_12 : decode cX6_init 12 = .ok (.putfield 10, 3) := by decide +kernel
theorem dX6_init_15 : decode cX6_init 15 = .ok (.aload_n 0, 1) := by decide +kernel
theorem dX6_init_16 : decode cX6_init 16 = .ok (.iconst 0, 1) := by decide +kernel
theorem dX6_init_17 : decode cX6_init 17 = .ok (.putfield 16, 3) := by decide +kernel
theorem dX6_init_20 : decode cX6_init 20 = .ok (.return_, 1) := by decide +kernel
theorem dX7_init_0 : decode cX7_init 0 = .ok (.aload_n 0, 1) := by decide +kernel
theorem dX7_init_1 : decode cX7_init 1 = .ok (.invokespecial 3, 3) := by decide +kernel
theorem dX7_init_4 : decode cX7_init 4 = .ok (.aload_n 0, 1) := by decide +kernel
theorem dX7_init_5 : decode cX7_init 5 = .ok (.iconst 0, 1) := by decide +kernel
theorem dX7_init_6 : decode cX7_init 6 = .ok (.putfield 9, 3) := by decide +kernel
theorem dX7_init_9 : decode cX7_init 9 = .ok (.aload_n 0, 1) := by decide +kernel
theorem dX7_init_10 : decode cX7_init 10 = .ok (.iconst 0, 1) := by decide +kernel
theorem dX7_init_11 : decode cX7_init 11 = .ok (.putfield 15, 3) := by decide +kernel
theorem dX7_init_14 : decode cX7_init 14 = .ok (.aload_n 0, 1) := by decide +kernel
theorem dX7_init_15 : decode cX7_init 15 = .ok (.iconst 0, 1) := by decide +kernel
theorem dX7_init_16 : decode cX7_init 16 = .ok (.putfield 18, 3) := by decide +kernel
theorem dX7_init_19 : decode cX7_init 19 = .ok (.aload_n 0, 1) := by decide +kernel
theorem dX7_init_20 : decode cX7_init 20 = .ok (.iconst 0, 1) := by decide +kernel
theorem dX7_init_21 : decode cX7_init 21 = .ok (.putfield 21, 3) := by decide +kernel
theorem dX7_init_24 : decode cX7_init 24 = .ok (.aload_n 0, 1) := by decide +kernel
theorem dX7_init_25 : decode cX7_init 25 = .ok (.iconst 0, 1) := by decide +kernel
theorem dX7_init_26 : decode cX7_init 26 = .ok (.putfield 24, 3) := by decide +kernel
theorem dX7_init_29 : decode cX7_init 29 = .ok (.aload_n 0, 1) := by decide +kernel
theorem dX7_init_30 : decode cX7_init 30 = .ok (.iconst 0, 1) := by decide +kernel
theorem dX7_init_31 : decode cX7_init 31 = .ok (.putfield 27, 3) := by decide +kernel
theorem dX7_init_34 : decode cX7_init 34 = .ok (.aload_n 0, 1) := by decide +kernel
theorem dX7_init_35 : decode cX7_init 35 = .ok (.bipush 8, 2) := by decide +kernel
theorem dX7_init_37 : decode cX7_init 37 = .ok (.newarray .int, 2) := by decide +kernel
theorem dX7_init_39 : decode cX7_init 39 = .ok (.putfield 31, 3) := by decide +kernel
theorem dX7_init_42 : decode cX7_init 42 = .ok (.aload_n 0, 1) := by decide +kernel
theorem dX7_init_43 : decode cX7_init 43 = .ok (.bipush 6, 2) := by decide +kernel
theorem dX7_init_45 : decode cX7_init 45 = .ok (.newarray .int, 2) := by decide +kernel
theorem dX7_init_47 : decode cX7_init 47 = .ok (.putfield 35, 3) := by decide +kernel
theorem dX7_init_50 : decode cX7_init 50 = .ok (.aload_n 0, 1) := by decide +kernel
theorem dX7_init_51 : decode cX7_init 51 = .ok (.bipush 12, 2) := by decide +kernel
theorem dX7_init_53 : decode cX7_init 53 = .ok (.newarray .int, 2) := by decide +kernel
theorem dX7_init_55 : decode cX7_init 55 = .ok (.putfield 38, 3) := by decide +kernel
theorem dX7_init_58 : decode cX7_init 58 = .ok (.aload_n 0, 1) := by decide +kernel
theorem dX7_init_59 : decode cX7_init 59 = .ok (.bipush 12, 2) := by decide +kernel
theorem dX7_init_61 : decode cX7_init 61 = .ok (.newarray .int, 2) := by decide +kernel
theorem dX7_init_63 : decode cX7_init 63 = .ok (.putfield 41, 3) := by decide +kernel
theorem dX7_init_66 : decode cX7_init 66 = .ok (.aload_n 0, 1) := by decide +kernel
theorem dX7_init_67 : decode cX7_init 67 = .ok (.bipush 60, 2) := by decide +kernel
theorem dX7_init_69 : decode cX7_init 69 = .ok (.newarray .int, 2) := by decide +kernel
theorem dX7_init_71 : decode cX7_init 71 = .ok (.putfield 44, 3) := by decide +kernel
theorem dX7_init_74 : decode cX7_init 74 = .ok (.aload_n 0, 1) := by decide +kernel
theorem dX7_init_75 : decode cX7_init 75 = .ok (.bipush 60, 2) := by decide +kernel
theorem dX7_init_77 : decode cX7_init 77 = .ok (.newarray .int, 2) := by decide +kernel
theorem dX7_init_79 : decode cX7_init 79 = .ok (.putfield 47, 3) := by decide +kernel
theorem dX7_init_82 : decode cX7_init 82 = .ok (.return_, 1) := by decide +kernel
theorem dX7_clear_0 : decode cX7_clear 0 = .ok (.aload_n 0, 1) := by decide +kernel
theorem dX7_clear_1 : decode cX7_clear 1 = .ok (.iconst 0, 1) := by decide +kernel
theorem dX7_clear_2 : decode cX7_clear 2 = .ok (.putfield 9, 3) := by decide +kernel
theorem dX7_clear_5 : decode cX7_clear 5 = .ok (.aload_n 0, 1) := by decide +kernel
theorem dX7_clear_6 : decode cX7_clear 6 = .ok (.iconst 0, 1) := by decide +kernel
theorem dX7_clear_7 : decode cX7_clear 7 = .ok (.putfield 15, 3) := by decide +kernel
theorem dX7_clear_10 : decode cX7_clear 10 = .ok (.aload_n 0, 1) := by decide +kernel
theorem dX7_clear_11 : decode cX7_clear 11 = .ok (.iconst 0, 1) := by decide +kernel
theorem dX7_clear_12 : decode cX7_clear 12 = .ok (.putfield 18, 3) := by decide +kernel
theorem dX7_clear_15 : decode cX7_clear 15 = .ok (.aload_n 0, 1) := by decide +kernel
theorem dX7_clear_16 : decode cX7_clear 16 = .ok (.iconst 0, 1) := by decide +kernel
theorem dX7_clear_17 : decode cX7_clear 17 = .ok (.putfield 21, 3) := by decide +kernel
theorem dX7_clear_20 : decode cX7_clear 20 = .ok (.aload_n 0, 1) := by decide +kernel
theorem dX7_clear_21 : decode cX7_clear 21 = .ok (.iconst 0, 1) := by decide +kernel
theorem dX7_clear_22 : decode cX7_clear 22 = .ok (.putfield 24, 3) := by decide +kernel
theorem dX7_clear_25 : decode cX7_clear 25 = .ok (.aload_n 0, 1) := by decide +kernel
theorem dX7_clear_26 : decode cX7_clear 26 = .ok (.iconst 0, 1) := by decide +kernel
theorem dX7_clear_27 : decode cX7_clear 27 = .ok (.putfield 27, 3) := by decide +kernel
theorem dX7_clear_30 : decode cX7_clear 30 = .ok (.aload_n 0, 1) := by decide +kernel
theorem dX7_clear_31 : decode cX7_clear 31 = .ok (.getfield 31, 3) := by decide +kernel
theorem dX7_clear_34 : decode cX7_clear 34 = .ok (.iconst 0, 1) := by decide +kernel
theorem dX7_clear_35 : decode cX7_clear 35 = .ok (.invokestatic 50, 3) := by decide +kernel
theorem dX7_clear_38 : decode cX7_clear 38 = .ok (.aload_n 0, 1) := by decide +kernel
theorem dX7_clear_39 : decode cX7_clear 39 = .ok (.getfield 35, 3) := by decide +kernel
theorem dX7_clear_42 : decode cX7_clear 42 = .ok (.iconst 0, 1) := by decide +kernel
theorem dX7_clear_43 : decode cX7_clear 43 = .ok (.invokestatic 50, 3) := by decide +kernel
theorem dX7_clear_46 : decode cX7_clear 46 = .ok (.return_, 1) := by decide +kernel
theorem dX7_copyFrom_0 : decode cX7_copyFrom 0 = .ok (.aload_n 0, 1) := by decide +kernel
theorem dX7_copyFrom_1 : decode cX7_copyFrom 1 = .ok (.aload_n 1, 1) := by decide +kernel
theorem dX7_copyFrom_2 : decode cX7_copyFrom 2 = .ok (.getfield 9, 3) := by decide +kernel
theorem dX7_copyFrom_5 : decode cX7_copyFrom 5 = .ok (.putfield 9, 3) := by decide +kernel
theorem dX7_copyFrom_8 : decode cX7_copyFrom 8 = .ok (.aload_n 0, 1) := by decide +kernel
theorem dX7_copyFrom_9 : decode cX7_copyFrom 9 = .ok (.aload_n 1, 1) := by decide +kernel
theorem dX7_copyFrom_10 : decode cX7_copyFrom 10 = .ok (.getfield 15, 3) := by decide +kernel
theorem dX7_copyFrom_13 : decode cX7_copyFrom 13 = .ok (.putfield 15, 3) := by decide +kernel
theorem dX7_copyFrom_16 : decode cX7_copyFrom 16 = .ok (.aload_n 0, 1) := by decide +kernel
theorem dX7_copyFrom_17 : decode cX7_copyFrom 17 = .ok (.aload_n 1, 1) := by decide +kernel
theorem dX7_copyFrom_18 : decode cX7_copyFrom 18 = .ok (.getfield 18, 3) := by decide +kernel
theorem dX7_copyFrom_21 : decode cX7_copyFrom 21 = .ok (.putfield 18, 3) := by decide +kernel
theorem dX7_copyFrom_24 : decode cX7_copyFrom 24 = .ok (.aload_n 0, 1) := by decide +kernel
theorem dX7_copyFrom_25 : decode cX7_copyFrom 25 = .ok (.aload_n 1, 1) := by decide +kernel
theorem dX7_copyFrom_26 : decode cX7_copyFrom 26 = .ok (.getfield 21, 3) := by decide +kernel
theorem dX7_copyFrom_29 : decode cX7_copyFrom 29 = .ok (.putfield 21, 3) := by decide +kernel
theorem dX7_copyFrom_32 : decode cX7_copyFrom 32 = .ok (.aload_n 0, 1) := by decide +kernel
theorem dX7_copyFrom_33 : decode cX7_copyFrom 33 = .ok (.aload_n 1, 1) := by decide +kernel
theorem dX7_copyFrom_34 : decode cX7_copyFrom 34 = .ok (.getfield 24, 3) := by decide +kernel
theorem dX7_copyFrom_37 : decode cX7_copyFrom 37 = .ok (.putfield 24, 3) := by decide +kernel
theorem dX7_copyFrom_40 : decode cX7_copyFrom 40 = .ok (.aload_n 0, 1) := by decide +kernel
theorem dX7_copyFrom_41 : decode cX7_copyFrom 41 = .ok (.aload_n 1, 1) := by decide +kernel
theorem dX7_copyFrom_42 : decode cX7_copyFrom 42 = .ok (.getfield 27, 3) := by decide +kernel
theorem dX7_copyFrom_45 : decode cX7_copyFrom 45 = .ok (.putfield 27, 3) := by decide +kernel
theorem dX7_copyFrom_48 : decode cX7_copyFrom 48 = .ok (.aload_n 1, 1) := by decide +kernel
theorem dX7_copyFrom_49 : decode cX7_copyFrom 49 = .ok (.getfield 31, 3) := by decide +kernel
theorem dX7_copyFrom_52 : decode cX7_copyFrom 52 = .ok (.aload_n 0, 1) := by decide +kernel
theorem dX7_copyFrom_53 : decode cX7_copyFrom 53 = .ok (.getfield 31, 3) := by decide +kernel
theorem dX7_copyFrom_56 : decode cX7_copyFrom 56 = .ok (.invokestatic 56, 3) := by decide +kernel
theorem dX7_copyFrom_59 : decode cX7_copyFrom 59 = .ok (.aload_n 1, 1) := by decide +kernel
theorem dX7_copyFrom_60 : decode cX7_copyFrom 60 = .ok (.getfield 35, 3) := by decide +kernel
theorem dX7_copyFrom_63 : decode cX7_copyFrom 63 = .ok (.aload_n 0, 1) := by decide +kernel
theorem dX7_copyFrom_64 : decode cX7_copyFrom 64 = .ok (.getfield 35, 3) := by decide +kernel
theorem dX7_copyFrom_67 : decode cX7_copyFrom 67 = .ok (.invokestatic 56, 3) := by decide +kernel
theorem dX7_copyFrom_70 : decode cX7_copyFrom 70 = .ok (.aload_n 1, 1) := by decide +kernel
theorem dX7_copyFrom_71 : decode cX7_copyFrom 71 = .ok (.getfield 38, 3) := by decide +kernel
theorem dX7_copyFrom_74 : decode cX7_copyFrom 74 = .ok (.aload_n 0, 1) := by decide +kernel
theorem dX7_copyFrom_75 : decode cX7_copyFrom 75 = .ok (.getfield 38, 3) := by decide +kernel
theorem dX7_copyFrom_78 : decode cX7_copyFrom 78 = .ok (.invokestatic 56, 3) := by decide +kernel
theorem dX7_copyFrom_81 : decode cX7_copyFrom 81 = .ok (.aload_n 1, 1) := by decide +kernel
theorem dX7_copyFrom_82 : decode cX7_copyFrom 82 = .ok (.getfield 41, 3) := by decide +kernel
theorem dX7_copyFrom_85 : decode cX7_copyFrom 85 = .ok (.aload_n 0, 1) := by decide +kernel
theorem dX7_copyFrom_86 : decode cX7_copyFrom 86 = .ok (.getfield 41, 3) := by decide +kernel
theorem dX7_copyFrom_89 : decode cX7_copyFrom 89 = .ok (.invokestatic 56, 3) := by decide +kernel
theorem dX7_copyFrom_92 : decode cX7_copyFrom 92 = .ok (.aload_n 1, 1) := by decide +kernel
theorem dX7_copyFrom_93 : decode cX7_copyFrom 93 = .ok (.getfield 44, 3) := by decide +kernel
theorem dX7_copyFrom_96 : decode cX7_copyFrom 96 = .ok (.aload_n 0, 1) := by decide +kernel
theorem dX7_copyFrom_97 : decode cX7_copyFrom 97 = .ok (.getfield 44, 3) := by decide +kernel
theorem dX7_copyFrom_100 : decode cX7_copyFrom 100 = .ok (.invokestatic 56, 3) := by decide +kernel
theorem dX7_copyFrom_103 : decode cX7_copyFrom 103 = .ok (.aload_n 1, 1) := by decide +kernel
theorem dX7_copyFrom_104 : decode cX7_copyFrom 104 = .ok (.getfield 47, 3) := by decide +kernel
theorem dX7_copyFrom_107 : decode cX7_copyFrom 107 = .ok (.aload_n 0, 1) := by decide +kernel
theorem dX7_copyFrom_108 : decode cX7_copyFrom 108 = .ok (.getfield 47, 3) := by decide +kernel
theorem dX7_copyFrom_111 : decode cX7_copyFrom 111 = .ok (.invokestatic 56, 3) := by decide +kernel
theorem dX7_copyFrom_114 : decode cX7_copyFrom 114 = .ok (.return_, 1) := by decide +kernel
theorem dX7_changeLifts_0 : decode cX7_changeLifts 0 = .ok (.aload_n 0, 1) := by decide +kernel
theorem dX7_changeLifts_1 : decode cX7_changeLifts 1 = .ok (.getfield 38, 3) := by decide +kernel
theorem dX7_changeLifts_4 : decode cX7_changeLifts 4 = .ok (.iload_n 1, 1) := by decide +kernel
theorem dX7_changeLifts_5 : decode cX7_changeLifts 5 = .ok (.iload_n 2, 1) := by decide +kernel
theorem dX7_changeLifts_6 : decode cX7_changeLifts 6 = .ok (.invokestatic 60, 3) := by decide +kernel
theorem dX7_changeLifts_9 : decode cX7_changeLifts 9 = .ok (.aload_n 0, 1) := by decide +kernel
theorem dX7_changeLifts_10 : decode cX7_changeLifts 10 = .ok (.iconst 1, 1) := by decide +kernel
theorem dX7_changeLifts_11 : decode cX7_changeLifts 11 = .ok (.putfield 27, 3) := by decide +kernel
theorem dX7_changeLifts_14 : decode cX7_changeLifts 14 = .ok (.return_, 1) := by decide +kernel
theorem dX7_punchCard_0 : decode cX7_punchCard 0 = .ok (.aload_n 0, 1) := by decide +kernel
theorem dX7_punchCard_1 : decode cX7_punchCard 1 = .ok (.iload_n 1, 1) := by decide +kernel
theorem dX7_punchCard_2 : decode cX7_punchCard 2 = .ok (.aload_n 0, 1) := by decide +kernel
theorem dX7_punchCard_3 : decode cX7_punchCard 3 = .ok (.getfield 38, 3) := by decide +kernel
theorem dX7_punchCard_6 : decode cX7_punchCard 6 = .ok (.iload_n 1, 1) := by decide +kernel
theorem dX7_punchCard_7 : decode cX7_punchCard 7 = .ok (.invokestatic 64, 3) := by decide +kernel
theorem dX7_punchCard_10 : decode cX7_punchCard 10 = .ok (.iconst 1, 1) := by decide +kernel
theorem dX7_punchCard_11 : decode cX7_punchCard 11 = .ok (.iload_n 2, 1) := by decide +kernel
theorem dX7_punchCard_12 : decode cX7_punchCard 12 = .ok (.ishl, 1) := by decide +kernel
theorem dX7_punchCard_13 : decode cX7_punchCard 13 = .ok (.ixor, 1) := by decide +kernel
theorem dX7_punchCard_14 : decode cX7_punchCard 14 = .ok (.invokevirtual 68, 3) := by decide +kernel
theorem dX7_punchCard_17 : decode cX7_punchCard 17 = .ok (.return_, 1) := by decide +kernel
theorem dX7_changeColour_0 : decode cX7_changeColour 0 = .ok (.aload_n 0, 1) := by decide +kernel
theorem dX7_changeColour_1 : decode cX7_changeColour 1 = .ok (.getfield 41, 3) := by decide +kernel
theorem dX7_changeColour_4 : decode cX7_changeColour 4 = .ok (.iload_n 1, 1) := by decide +kernel
theorem dX7_changeColour_5 : decode cX7_changeColour 5 = .ok (.iload_n 2, 1) := by decide +kernel
theorem dX7_changeColour_6 : decode cX7_changeColour 6 = .ok (.invokestatic 60, 3) := by decide +kernel
theorem dX7_changeColour_9 : decode cX7_changeColour 9 = .ok (.aload_n 0, 1) := by decide +kernel
theorem dX7_changeColour_10 : decode cX7_changeColour 10 = .ok (.iconst 1, 1) := by decide +kernel
theorem dX7_changeColour_11 : decode cX7_changeColour 11 = .ok (.putfield 27, 3) := by decide +kernel
theorem dX7_changeColour_14 : decode cX7_changeColour 14 = .ok (.return_, 1) := by decide +kernel
theorem dX7_exchangeCards_0 : decode cX7_exchangeCards 0 = .ok (.aload_n 0, 1) := by decide +kernel
theorem dX7_exchangeCards_1 : decode cX7_exchangeCards 1 = .ok (.getfield 38, 3) := by decide +kernel
theorem dX7_exchangeCards_4 : decode cX7_exchangeCards 4 = .ok (.iload_n 1, 1) := by decide +kernel
theorem dX7_exchangeCards_5 : decode cX7_exchangeCards 5 = .ok (.invokestatic 64, 3) := by decide +kernel
theorem dX7_exchangeCards_8 : decode cX7_exchangeCards 8 = .ok (.istore_n 3, 1) := by decide +kernel
theorem dX7_exchangeCards_9 : decode cX7_exchangeCards 9 = .ok (.aload_n 0, 1) := by decide +kernel
theorem dX7_exchangeCards_10 : decode cX7_exchangeCards 10 = .ok (.getfield 41, 3) := by decide +kernel
theorem dX7_exchangeCards_13 : decode cX7_exchangeCards 13 = .ok (.iload_n 1, 1) := by decide +kernel
theorem dX7_exchangeCards_14 : decode cX7_exchangeCards 14 = .ok (.invokestatic 64, 3) := by decide +kernel
theorem dX7_exchangeCards_17 : decode cX7_exchangeCards 17 = .ok (.istore 4, 2) := by decide +kernel
theorem dX7_exchangeCards_19 : decode cX7_exchangeCards 19 = .ok (.aload_n 0, 1) := by decide +kernel
theorem dX7_exchangeCards_20 : decode cX7_exchangeCards 20 = .ok (.iload_n 1, 1) := by decide +kernel
theorem dX7_exchangeCards_21 : decode cX7_exchangeCards 21 = .ok (.aload_n 0, 1) := by decide +kernel
theorem dX7_exchangeCards_22 : decode cX7_exchangeCards 22 = .ok (.getfield 38, 3) := by decide +kernel
theorem dX7_exchangeCards_25 : decode cX7_exchangeCards 25 = .ok (.iload_n 2, 1) := by decide +kernel
theorem dX7_exchangeCards_26 : decode cX7_exchangeCards 26 = .ok (.invokestatic 64, 3) := by decide +kernel
theorem dX7_exchangeCards_29 : decode cX7_exchangeCards 29 = .ok (.invokevirtual 68, 3) := by decide +kernel
theorem dX7_exchangeCards_32 : decode cX7_exchangeCards 32 = .ok (.aload_n 0, 1) := by decide +kernel
theorem dX7_exchangeCards_33 : decode cX7_exchangeCards 33 = .ok (.iload_n 1, 1) := by decide +kernel
theorem dX7_exchangeCards_34 : decode cX7_exchangeCards 34 = .ok (.aload_n 0, 1) := by decide +kernel
theorem dX7_exchangeCards_35 : decode cX7_exchangeCards 35 = .ok (.getfield 41, 3) := by decide +kernel
theorem dX7_exchangeCards_38 : decode cX7_exchangeCards 38 = .ok (.iload_n 2, 1) := by decide +kernel
theorem dX7_exchangeCards_39 : decode cX7_exchangeCards 39 = .ok (.invokestatic 64, 3) := by decide +kernel
theorem dX7_exchangeCards_42 : decode cX7_exchangeCards 42 = .ok (.invokevirtual 72, 3) := by decide +kernel
theorem dX7_exchangeCards_45 : decode cX7_exchangeCards 45 = .ok (.aload_n 0, 1) := by decide +kernel
theorem dX7_exchangeCards_46 : decode cX7_exchangeCards 46 = .ok (.iload_n 2, 1) := by decide +kernel
theorem dX7_exchangeCards_47 : decode cX7_exchangeCards 47 = .ok (.iload_n 3, 1) := by decide +kernel
theorem dX7_exchangeCards_48 : decode cX7_exchangeCards 48 = .ok (.invokevirtual 68, 3) := by decide +kernel
theorem dX7_exchangeCards_51 : decode cX7_exchangeCards 51 = .ok (.aload_n 0, 1) := by decide +kernel
theorem dX7_exchangeCards_52 : decode cX7_exchangeCards 52 = .ok (.iload_n 2, 1) := by decide +kernel
theorem dX7_exchangeCards_53 : decode cX7_exchangeCards 53 = .ok (.iload 4, 2) := by decide +kernel
theorem dX7_exchangeCards_55 : decode cX7_exchangeCards 55 = .ok (.invokevirtual 72, 3) := by decide +kernel
theorem dX7_exchangeCards_58 : decode cX7_exchangeCards 58 = .ok (.return_, 1) := by decide +kernel
theorem dX7_addYarn_0 : decode cX7_addYarn 0 = .ok (.aload_n 0, 1) := by decide +kernel
theorem dX7_addYarn_1 : decode cX7_addYarn 1 = .ok (.getfield 35, 3) := by decide +kernel
theorem dX7_addYarn_4 : decode cX7_addYarn 4 = .ok (.iload_n 1, 1) := by decide +kernel
theorem dX7_addYarn_5 : decode cX7_addYarn 5 = .ok (.aload_n 0, 1) := by decide +kernel
theorem dX7_addYarn_6 : decode cX7_addYarn 6 = .ok (.getfield 35, 3) := by decide +kernel
theorem dX7_addYarn_9 : decode cX7_addYarn 9 = .ok (.iload_n 1, 1) := by decide +kernel
theorem dX7_addYarn_10 : decode cX7_addYarn 10 = .ok (.invokestatic 64, 3) := by decide +kernel
theorem dX7_addYarn_13 : decode cX7_addYarn 13 = .ok (.iload_n 2, 1) := by decide +kernel
theorem dX7_addYarn_14 : decode cX7_addYarn 14 = .ok (.iadd, 1) := by decide +kernel
theorem dX7_addYarn_15 : decode cX7_addYarn 15 = .ok (.invokestatic 60, 3) := by decide +kernel
theorem dX7_addYarn_18 : decode cX7_addYarn 18 = .ok (.return_, 1) := by decide +kernel
theorem dX7_bring_0 : decode cX7_bring 0 = .ok (.aload_n 0, 1) := by decide +kernel
theorem dX7_bring_1 : decode cX7_bring 1 = .ok (.iload_n 1, 1) := by decide +kernel
theorem dX7_bring_2 : decode cX7_bring 2 = .ok (.iload_n 2, 1) := by decide +kernel
theorem dX7_bring_3 : decode cX7_bring 3 = .ok (.invokevirtual 75, 3) := by decide +kernel
theorem dX7_bring_6 : decode cX7_bring 6 = .ok (.aload_n 0, 1) := by decide +kernel
theorem dX7_bring_7 : decode cX7_bring 7 = .ok (.dup, 1) := by decide +kernel
theorem dX7_bring_8 : decode cX7_bring 8 = .ok (.getfield 24, 3) := by decide +kernel
theorem dX7_bring_11 : decode cX7_bring 11 = .ok (.iload_n 2, 1) := by decide +kernel
theorem dX7_bring_12 : decode cX7_bring 12 = .ok (.iadd, 1) := by decide +kernel
theorem dX7_bring_13 : decode cX7_bring 13 = .ok (.putfield 24, 3) := by decide +kernel
theorem dX7_bring_16 : decode cX7_bring 16 = .ok (.return_, 1) := by decide +kernel
theorem dX7_yarnOfAllColours_0 : decode cX7_yarnOfAllColours 0 = .ok (.iconst 0, 1) := by decide +kernel
theorem dX7_yarnOfAllColours_1 : decode cX7_yarnOfAllColours 1 = .ok (.istore_n 1, 1) := by decide +kernel
theorem dX7_yarnOfAllColours_2 : decode cX7_yarnOfAllColours 2 = .ok (.iconst 0, 1) := by decide +kernel
theorem dX7_yarnOfAllColours_3 : decode cX7_yarnOfAllColours 3 = .ok (.istore_n 2, 1) := by decide +kernel
theorem dX7_yarnOfAllColours_4 : decode cX7_yarnOfAllColours 4 = .ok (.iload_n 2, 1) := by decide +kernel
theorem dX7_yarnOfAllColours_5 : decode cX7_yarnOfAllColours 5 = .ok (.bipush 6, 2) := by decide +kernel
theorem dX7_yarnOfAllColours_7 : decode cX7_yarnOfAllColours 7 = .ok (.if_icmp .ge 20, 3) := by decide +kernel
theorem dX7_yarnOfAllColours_10 : decode cX7_yarnOfAllColours 10 = .ok (.iload_n 1, 1) := by decide +kernel
theorem dX7_yarnOfAllColours_11 : decode cX7_yarnOfAllColours 11 = .ok (.aload_n 0, 1) := by decide +kernel
theorem dX7_yarnOfAllColours_12 : decode cX7_yarnOfAllColours 12 = .ok (.getfield 35, 3) := by decide +kernel
theorem dX7_yarnOfAllColours_15 : decode cX7_yarnOfAllColours 15 = .ok (.iload_n 2, 1) := by decide +kernel
theorem dX7_yarnOfAllColours_16 : decode cX7_yarnOfAllColours 16 = .ok (.invokestatic 64, 3) := by decide +kernel
theorem dX7_yarnOfAllColours_19 : decode cX7_yarnOfAllColours 19 = .ok (.iadd, 1) := by decide +kernel
theorem dX7_yarnOfAllColours_20 : decode cX7_yarnOfAllColours 20 = .ok (.istore_n 1, 1) := by decide +kernel
theorem dX7_yarnOfAllColours_21 : decode cX7_yarnOfAllColours 21 = .ok (.iinc 2 1, 3) := by decide +kernel
theorem dX7_yarnOfAllColours_24 : decode cX7_yarnOfAllColours 24 = .ok (.goto (-20), 3) := by decide +kernel
theorem dX7_yarnOfAllColours_27 : decode cX7_yarnOfAllColours 27 = .ok (.iload_n 1, 1) := by decide +kernel
theorem dX7_yarnOfAllColours_28 : decode cX7_yarnOfAllColours 28 = .ok (.ireturn, 1) := by decide +kernel
theorem dX7_oilHarness_0 : decode cX7_oilHarness 0 = .ok (.aload_n 0, 1) := by decide +kernel
theorem dX7_oilHarness_1 : decode cX7_oilHarness 1 = .ok (.getfield 31, 3) := by decide +kernel
theorem dX7_oilHarness_4 : decode cX7_oilHarness 4 = .ok (.iload_n 1, 1) := by decide +kernel
theorem dX7_oilHarness_5 : decode cX7_oilHarness 5 = .ok (.iconst 0, 1) := by decide +kernel
theorem dX7_oilHarness_6 : decode cX7_oilHarness 6 = .ok (.invokestatic 60, 3) := by decide +kernel
theorem dX7_oilHarness_9 : decode cX7_oilHarness 9 = .ok (.aload_n 0, 1) := by decide +kernel
theorem dX7_oilHarness_10 : decode cX7_oilHarness 10 = .ok (.dup, 1) := by decide +kernel
theorem dX7_oilHarness_11 : decode cX7_oilHarness 11 = .ok (.getfield 15, 3) := by decide +kernel
theorem dX7_oilHarness_14 : decode cX7_oilHarness 14 = .ok (.iconst 1, 1) := by decide +kernel
theorem dX7_oilHarness_15 : decode cX7_oilHarness 15 = .ok (.iload_n 1, 1) := by decide +kernel
theorem dX7_oilHarness_16 : decode cX7_oilHarness 16 = .ok (.ishl, 1) := by decide +kernel
theorem dX7_oilHarness_17 : decode cX7_oilHarness 17 = .ok (.iconst (-1), 1) := by decide +kernel
theorem dX7_oilHarness_18 : decode cX7_oilHarness 18 = .ok (.ixor, 1) := by decide +kernel
theorem dX7_oilHarness_19 : decode cX7_oilHarness 19 = .ok (.iand, 1) := by decide +kernel
theorem dX7_oilHarness_20 : decode cX7_oilHarness 20 = .ok (.putfield 15, 3) := by decide +kernel
theorem dX7_oilHarness_23 : decode cX7_oilHarness 23 = .ok (.return_, 1) := by decide +kernel
theorem dX7_mendWarp_0 : decode cX7_mendWarp 0 = .ok (.aload_n 0, 1) := by decide +kernel
theorem dX7_mendWarp_1 : decode cX7_mendWarp 1 = .ok (.dup, 1) := by decide +kernel
theorem dX7_mendWarp_2 : decode cX7_mendWarp 2 = .ok (.getfield 18, 3) := by decide +kernel
theorem dX7_mendWarp_5 : decode cX7_mendWarp 5 = .ok (.iconst 1, 1) := by decide +kernel
theorem dX7_mendWarp_6 : decode cX7_mendWarp 6 = .ok (.iload_n 1, 1) := by decide +kernel
theorem dX7_mendWarp_7 : decode cX7_mendWarp 7 = .ok (.ishl, 1) := by decide +kernel
theorem dX7_mendWarp_8 : decode cX7_mendWarp 8 = .ok (.iconst (-1), 1) := by decide +kernel
theorem dX7_mendWarp_9 : decode cX7_mendWarp 9 = .ok (.ixor, 1) := by decide +kernel
theorem dX7_mendWarp_10 : decode cX7_mendWarp 10 = .ok (.iand, 1) := by decide +kernel
theorem dX7_mendWarp_11 : decode cX7_mendWarp 11 = .ok (.putfield 18, 3) := by decide +kernel
theorem dX7_mendWarp_14 : decode cX7_mendWarp 14 = .ok (.return_, 1) := by decide +kernel
theorem dX7_addRow_0 : decode cX7_addRow 0 = .ok (.aload_n 0, 1) := by decide +kernel
theorem dX7_addRow_1 : decode cX7_addRow 1 = .ok (.getfield 44, 3) := by decide +kernel
theorem dX7_addRow_4 : decode cX7_addRow 4 = .ok (.aload_n 0, 1) := by decide +kernel
theorem dX7_addRow_5 : decode cX7_addRow 5 = .ok (.getfield 21, 3) := by decide +kernel
theorem dX7_addRow_8 : decode cX7_addRow 8 = .ok (.iload_n 1, 1) := by decide +kernel
theorem dX7_addRow_9 : decode cX7_addRow 9 = .ok (.invokestatic 60, 3) := by decide +kernel
theorem dX7_addRow_12 : decode cX7_addRow 12 = .ok (.aload_n 0, 1) := by decide +kernel
theorem dX7_addRow_13 : decode cX7_addRow 13 = .ok (.getfield 47, 3) := by decide +kernel
theorem dX7_addRow_16 : decode cX7_addRow 16 = .ok (.aload_n 0, 1) := by decide +kernel
theorem dX7_addRow_17 : decode cX7_addRow 17 = .ok (.getfield 21, 3) := by decide +kernel
theorem dX7_addRow_20 : decode cX7_addRow 20 = .ok (.iload_n 2, 1) := by decide +kernel
theorem dX7_addRow_21 : decode cX7_addRow 21 = .ok (.invokestatic 60, 3) := by decide +kernel
theorem dX7_addRow_24 : decode cX7_addRow 24 = .ok (.aload_n 0, 1) := by decide +kernel
theorem dX7_addRow_25 : decode cX7_addRow 25 = .ok (.dup, 1) := by decide +kernel
theorem dX7_addRow_26 : decode cX7_addRow 26 = .ok (.getfield 21, 3) := by decide +kernel
theorem dX7_addRow_29 : decode cX7_addRow 29 = .ok (.iconst 1, 1) := by decide +kernel
theorem dX7_addRow_30 : decode cX7_addRow 30 = .ok (.iadd, 1) := by decide +kernel
theorem dX7_addRow_31 : decode cX7_addRow 31 = .ok (.putfield 21, 3) := by decide +kernel
theorem dX7_addRow_34 : decode cX7_addRow 34 = .ok (.return_, 1) := by decide +kernel
theorem dX8_init_0 : decode cX8_init 0 = .ok (.aload_n 0, 1) := by decide +kernel
theorem dX8_init_1 : decode cX8_init 1 = .ok (.invokespecial 1, 3) := by decide +kernel
theorem dX8_init_4 : decode cX8_init 4 = .ok (.aload_n 0, 1) := by decide +kernel
theorem dX8_init_5 : decode cX8_init 5 = .ok (.new 7, 3) := by decide +kernel
theorem dX8_init_8 : decode cX8_init 8 = .ok (.dup, 1) := by decide +kernel
theorem dX8_init_9 : decode cX8_init 9 = .ok (.invokespecial 9, 3) := by decide +kernel
theorem dX8_init_12 : decode cX8_init 12 = .ok (.putfield 10, 3) := by decide +kernel
theorem dX8_init_15 : decode cX8_init 15 = .ok (.aload_n 0, 1) := by decide +kernel
theorem dX8_init_16 : decode cX8_init 16 = .ok (.new 16, 3) := by decide +kernel
theorem dX8_init_19 : decode cX8_init 19 = .ok (.dup, 1) := by decide +kernel
theorem dX8_init_20 : decode cX8_init 20 = .ok (.invokespecial 18, 3) := by decide +kernel
theorem dX8_init_23 : decode cX8_init 23 = .ok (.putfield 19, 3) := by decide +kernel
theorem dX8_init_26 : decode cX8_init 26 = .ok (.aload_n 0, 1) := by decide +kernel
theorem dX8_init_27 : decode cX8_init 27 = .ok (.new 23, 3) := by decide +kernel
theorem dX8_init_30 : decode cX8_init 30 = .ok (.dup, 1) := by decide +kernel
theorem dX8_init_31 : decode cX8_init 31 = .ok (.invokespecial 25, 3) := by decide +kernel
theorem dX8_init_34 : decode cX8_init 34 = .ok (.putfield 26, 3) := by decide +kernel
theorem dX8_init_37 : decode cX8_init 37 = .ok (.aload_n 0, 1) := by decide +kernel
theorem dX8_init_38 : decode cX8_init 38 = .ok (.new 30, 3) := by decide +kernel
theorem dX8_init_41 : decode cX8_init 41 = .ok (.dup, 1) := by decide +kernel
theorem dX8_init_42 : decode cX8_init 42 = .ok (.invokespecial 32, 3) := by decide +kernel
theorem dX8_init_45 : decode cX8_init 45 = .ok (.putfield 33, 3) := by decide +kernel
theorem dX8_init_48 : decode cX8_init 48 = .ok (.aload_n 0, 1) := by decide +kernel
theorem dX8_init_49 : decode cX8_init 49 = .ok (.new 30, 3) := by decide +kernel
theorem dX8_init_52 : decode cX8_init 52 = .ok (.dup, 1) := by decide +kernel
theorem dX8_init_53 : decode cX8_init 53 = .ok (.invokespecial 32, 3) := by decide +kernel
theorem dX8_init_56 : decode cX8_init 56 = .ok (.putfield 37, 3) := by decide +kernel
theorem dX8_init_59 : decode cX8_init 59 = .ok (.aload_n 0, 1) := by decide +kernel
theorem dX8_init_60 : decode cX8_init 60 = .ok (.new 40, 3) := by decide +kernel
theorem dX8_init_63 : decode cX8_init 63 = .ok (.dup, 1) := by decide +kernel
theorem dX8_init_64 : decode cX8_init 64 = .ok (.invokespecial 42, 3) := by decide +kernel
theorem dX8_init_67 : decode cX8_init 67 = .ok (.putfield 43, 3) := by decide +kernel
theorem dX8_init_70 : decode cX8_init 70 = .ok (.aload_n 0, 1) := by decide +kernel
theorem dX8_init_71 : decode cX8_init 71 = .ok (.iconst 0, 1) := by decide +kernel
theorem dX8_init_72 : decode cX8_init 72 = .ok (.putfield 47, 3) := by decide +kernel
theorem dX8_init_75 : decode cX8_init 75 = .ok (.return_, 1) := by decide +kernel
theorem dX8_append_0 : decode cX8_append 0 = .ok (.aload_n 0, 1) := by decide +kernel
theorem dX8_append_1 : decode cX8_append 1 = .ok (.getfield 10, 3) := by decide +kernel
theorem dX8_append_4 : decode cX8_append 4 = .ok (.getfield 51, 3) := by decide +kernel
theorem dX8_append_7 : decode cX8_append 7 = .ok (.astore 6, 2) := by decide +kernel
theorem dX8_append_9 : decode cX8_append 9 = .ok (.aload 6, 2) := by decide +kernel
theorem dX8_append_11 : decode cX8_append 11 = .ok (.getfield 55, 3) := by decide +kernel
theorem dX8_append_14 : decode cX8_append 14 = .ok (.sipush 480, 3) := by decide +kernel
theorem dX8_append_17 : decode cX8_append 17 = .ok (.if_icmp .le 5, 3) := by decide +kernel
theorem dX8_append_20 : decode cX8_append 20 = .ok (.iconst (-1), 1) := by decide +kernel
theorem dX8_append_21 : decode cX8_append 21 = .ok (.ireturn, 1) := by decide +kernel
theorem dX8_append_22 : decode cX8_append 22 = .ok (.aload 6, 2) := by decide +kernel
theorem dX8_append_24 : decode cX8_append 24 = .ok (.iload_n 1, 1) := by decide +kernel
theorem dX8_append_25 : decode cX8_append 25 = .ok (.invokevirtual 61, 3) := by decide +kernel
theorem dX8_append_28 : decode cX8_append 28 = .ok (.aload 6, 2) := by decide +kernel
theorem dX8_append_30 : decode cX8_append 30 = .ok (.iload_n 2, 1) := by decide +kernel
theorem dX8_append_31 : decode cX8_append 31 = .ok (.invokevirtual 61, 3) := by decide +kernel
theorem dX8_append_34 : decode cX8_append 34 = .ok (.aload 6, 2) := by decide +kernel
theorem dX8_append_36 : decode cX8_append 36 = .ok (.iload_n 3, 1) := by decide +kernel
theorem dX8_append_37 : decode cX8_append 37 = .ok (.invokevirtual 61, 3) := by decide +kernel
theorem dX8_append_40 : decode cX8_append 40 = .ok (.aload 6, 2) := by decide +kernel
theorem dX8_append_42 : decode cX8_append 42 = .ok (.iload 4, 2) := by decide +kernel
theorem dX8_append_44 : decode cX8_append 44 = .ok (.invokevirtual 61, 3) := by decide +kernel
theorem dX8_append_47 : decode cX8_append 47 = .ok (.aload 6, 2) := by decide +kernel
theorem dX8_append_49 : decode cX8_append 49 = .ok (.iload 5, 2) := by decide +kernel
theorem dX8_append_51 : decode cX8_append 51 = .ok (.invokevirtual 61, 3) := by decide +kernel
theorem dX8_append_54 : decode cX8_append 54 = .ok (.aload 6, 2) := by decide +kernel
theorem dX8_append_56 : decode cX8_append 56 = .ok (.getfield 55, 3) := by decide +kernel
theorem dX8_append_59 : decode cX8_append 59 = .ok (.ireturn, 1) := by decide +kernel
theorem dX8_parseSetup_0 : decode cX8_parseSetup 0 = .ok (.iload_n 1, 1) := by decide +kernel
theorem dX8_parseSetup_1 : decode cX8_parseSetup 1 = .ok (.ifCond .lt 17, 3) := by decide +kernel
theorem dX8_parseSetup_4 : decode cX8_parseSetup 4 = .ok (.iload_n 1, 1) := by decide +kernel
theorem dX8_parseSetup_5 : decode cX8_parseSetup 5 = .ok (.aload_n 0, 1) := by decide +kernel
theorem dX8_parseSetup_6 : decode cX8_parseSetup 6 = .ok (.getfield 10, 3) := by decide +kernel
theorem dX8_parseSetup_9 : decode cX8_parseSetup 9 = .ok (.getfield 51, 3) := by decide +kernel
theorem dX8_parseSetup_12 : decode cX8_parseSetup 12 = .ok (.getfield 55, 3) := by decide +kernel
theorem dX8_parseSetup_15 : decode cX8_parseSetup 15 = .ok (.if_icmp .le 13, 3) := by decide +kernel
theorem dX8_parseSetup_18 : decode cX8_parseSetup 18 = .ok (.new 65, 3) := by decide +kernel
theorem dX8_parseSetup_21 : decode cX8_parseSetup 21 = .ok (.dup, 1) := by decide +kernel
theorem dX8_parseSetup_22 : decode cX8_parseSetup 22 = .ok (.ldc 67, 2) := by decide +kernel
theorem dX8_parseSetup_24 : decode cX8_parseSetup 24 = .ok (.invokespecial 69, 3) := by decide +kernel
theorem dX8_parseSetup_27 : decode cX8_parseSetup 27 = .ok (.athrow, 1) := by decide +kernel
theorem dX8_parseSetup_28 : decode cX8_parseSetup 28 = .ok (.aload_n 0, 1) := by decide +kernel
theorem dX8_parseSetup_29 : decode cX8_parseSetup 29 = .ok (.getfield 10, 3) := by decide +kernel
theorem dX8_parseSetup_32 : decode cX8_parseSetup 32 = .ok (.iload_n 1, 1) := by decide +kernel
theorem dX8_parseSetup_33 : decode cX8_parseSetup 33 = .ok (.invokevirtual 72, 3) := by decide +kernel
theorem dX8_parseSetup_36 : decode cX8_parseSetup 36 = .ok (.ifCond .ne 13, 3) := by decide +kernel
theorem dX8_parseSetup_39 : decode cX8_parseSetup 39 = .ok (.new 76, 3) := by decide +kernel
theorem dX8_parseSetup_42 : decode cX8_parseSetup 42 = .ok (.dup, 1) := by decide +kernel
theorem dX8_parseSetup_43 : decode cX8_parseSetup 43 = .ok (.ldc 78, 2) := by decide +kernel
theorem dX8_parseSetup_45 : decode cX8_parseSetup 45 = .ok (.invokespecial 80, 3) := by decide +kernel
theorem dX8_parseSetup_48 : decode cX8_parseSetup 48 = .ok (.athrow, 1) := by decide +kernel
theorem dX8_parseSetup_49 : decode cX8_parseSetup 49 = .ok (.aload_n 0, 1) := by decide +kernel
theorem dX8_parseSetup_50 : decode cX8_parseSetup 50 = .ok (.getfield 10, 3) := by decide +kernel
theorem dX8_parseSetup_53 : decode cX8_parseSetup 53 = .ok (.getfield 81, 3) := by decide +kernel
theorem dX8_parseSetup_56 : decode cX8_parseSetup 56 = .ok (.astore_n 2, 1) := by decide +kernel
theorem dX8_parseSetup_57 : decode cX8_parseSetup 57 = .ok (.aload_n 0, 1) := by decide +kernel
theorem dX8_parseSetup_58 : decode cX8_parseSetup 58 = .ok (.getfield 10, 3) := by decide +kernel
theorem dX8_parseSetup_61 : decode cX8_parseSetup 61 = .ok (.aload_n 0, 1) := by decide +kernel
theorem dX8_parseSetup_62 : decode cX8_parseSetup 62 = .ok (.getfield 43, 3) := by decide +kernel
theorem dX8_parseSetup_65 : decode cX8_parseSetup 65 = .ok (.putfield 81, 3) := by decide +kernel
theorem dX8_parseSetup_68 : decode cX8_parseSetup 68 = .ok (.aload_n 0, 1) := by decide +kernel
theorem dX8_parseSetup_69 : decode cX8_parseSetup 69 = .ok (.aload_n 2, 1) := by decide +kernel
theorem dX8_parseSetup_70 : decode cX8_parseSetup 70 = .ok (.putfield 43, 3) := by decide +kernel
theorem dX8_parseSetup_73 : decode cX8_parseSetup 73 = .ok (.aload_n 0, 1) := by decide +kernel
theorem dX8_parseSetup_74 : decode cX8_parseSetup 74 = .ok (.iconst 1, 1) := by decide +kernel
theorem dX8_parseSetup_75 : decode cX8_parseSetup 75 = .ok (.putfield 47, 3) := by decide +kernel
theorem dX8_parseSetup_78 : decode cX8_parseSetup 78 = .ok (.aload_n 0, 1) := by decide +kernel
theorem dX8_parseSetup_79 : decode cX8_parseSetup 79 = .ok (.getfield 26, 3) := by decide +kernel
theorem dX8_parseSetup_82 : decode cX8_parseSetup 82 = .ok (.invokevirtual 82, 3) := by decide +kernel
theorem dX8_parseSetup_85 : decode cX8_parseSetup 85 = .ok (.aload_n 0, 1) := by decide +kernel
theorem dX8_parseSetup_86 : decode cX8_parseSetup 86 = .ok (.getfield 33, 3) := by decide +kernel
theorem dX8_parseSetup_89 : decode cX8_parseSetup 89 = .ok (.iconst 0, 1) := by decide +kernel
theorem dX8_parseSetup_90 : decode cX8_parseSetup 90 = .ok (.putfield 85, 3) := by decide +kernel
theorem dX8_parseSetup_93 : decode cX8_parseSetup 93 = .ok (.aload_n 0, 1) := by decide +kernel
theorem dX8_parseSetup_94 : decode cX8_parseSetup 94 = .ok (.getfield 37, 3) := by decide +kernel
theorem dX8_parseSetup_97 : decode cX8_parseSetup 97 = .ok (.iconst 0, 1) := by decide +kernel
theorem dX8_parseSetup_98 : decode cX8_parseSetup 98 = .ok (.putfield 85, 3) := by decide +kernel
theorem dX8_parseSetup_101 : decode cX8_parseSetup 101 = .ok (.aload_n 0, 1) := by decide +kernel
theorem dX8_parseSetup_102 : decode cX8_parseSetup 102 = .ok (.getfield 43, 3) := by decide +kernel
theorem dX8_parseSetup_105 : decode cX8_parseSetup 105 = .ok (.getfield 88, 3) := by decide +kernel
theorem dX8_parseSetup_108 : decode cX8_parseSetup 108 = .ok (.getfield 92, 3) := by decide +kernel
theorem dX8_parseSetup_111 : decode cX8_parseSetup 111 = .ok (.ireturn, 1) := by decide +kernel
theorem dX8_harnessCount_0 : decode cX8_harnessCount 0 = .ok (.aload_n 0, 1) := by decide +kernel
theorem dX8_harnessCount_1 : decode cX8_harnessCount 1 = .ok (.invokevirtual 103, 3) := by decide +kernel
theorem dX8_harnessCount_4 : decode cX8_harnessCount 4 = .ok (.aload_n 0, 1) := by decide +kernel
theorem dX8_harnessCount_5 : decode cX8_harnessCount 5 = .ok (.getfield 43, 3) := by decide +kernel
theorem dX8_harnessCount_8 : decode cX8_harnessCount 8 = .ok (.getfield 106, 3) := by decide +kernel
theorem dX8_harnessCount_11 : decode cX8_harnessCount 11 = .ok (.ireturn, 1) := by decide +kernel
theorem dX8_warpCount_0 : decode cX8_warpCount 0 = .ok (.aload_n 0, 1) := by decide +kernel
theorem dX8_warpCount_1 : decode cX8_warpCount 1 = .ok (.invokevirtual 103, 3) := by decide +kernel
theorem dX8_warpCount_4 : decode cX8_warpCount 4 = .ok (.aload_n 0, 1) := by decide +kernel
theorem dX8_warpCount_5 : decode cX8_warpCount 5 = .ok (.getfield 43, 3) := by decide +kernel
theorem dX8_warpCount_8 : decode cX8_warpCount 8 = .ok (.getfield 109, 3) := by decide +kernel
theorem dX8_warpCount_11 : decode cX8_warpCount 11 = .ok (.ireturn, 1) := by decide +kernel
theorem dX8_brokenCount_0 : decode cX8_brokenCount 0 = .ok (.aload_n 0, 1) := by decide +kernel
theorem dX8_brokenCount_1 : decode cX8_brokenCount 1 = .ok (.invokevirtual 103, 3) := by decide +kernel
theorem dX8_brokenCount_4 : decode cX8_brokenCount 4 = .ok (.aload_n 0, 1) := by decide +kernel
theorem dX8_brokenCount_5 : decode cX8_brokenCount 5 = .ok (.getfield 43, 3) := by decide +kernel
theorem dX8_brokenCount_8 : decode cX8_brokenCount 8 = .ok (.getfield 138, 3) := by decide +kernel
theorem dX8_brokenCount_11 : decode cX8_brokenCount 11 = .ok (.getfield 142, 3) := by decide +kernel
theorem dX8_brokenCount_14 : decode cX8_brokenCount 14 = .ok (.invokestatic 133, 3) := by decide +kernel
theorem dX8_brokenCount_17 : decode cX8_brokenCount 17 = .ok (.ireturn, 1) := by decide +kernel
theorem dX8_isLifted_0 : decode cX8_isLifted 0 = .ok (.aload_n 0, 1) := by decide +kernel
theorem dX8_isLifted_1 : decode cX8_isLifted 1 = .ok (.iload_n 1, 1) := by decide +kernel
theorem dX8_isLifted_2 : decode cX8_isLifted 2 = .ok (.invokevirtual 126, 3) := by decide +kernel
theorem dX8_isLifted_5 : decode cX8_isLifted 5 = .ok (.aload_n 0, 1) := by decide +kernel
theorem dX8_isLifted_6 : decode cX8_isLifted 6 = .ok (.getfield 43, 3) := by decide +kernel
theorem dX8_isLifted_9 : decode cX8_isLifted 9 = .ok (.getfield 138, 3) := by decide +kernel
theorem dX8_isLifted_12 : decode cX8_isLifted 12 = .ok (.getfield 151, 3) := by decide +kernel
theorem dX8_isLifted_15 : decode cX8_isLifted 15 = .ok (.iload_n 1, 1) := by decide +kernel
theorem dX8_isLifted_16 : decode cX8_isLifted 16 = .ok (.invokestatic 147, 3) := by decide +kernel
theorem dX8_isLifted_19 : decode cX8_isLifted 19 = .ok (.ireturn, 1) := by decide +kernel
theorem dX8_wear_0 : decode cX8_wear 0 = .ok (.aload_n 0, 1) := by decide +kernel
theorem dX8_wear_1 : decode cX8_wear 1 = .ok (.iload_n 1, 1) := by decide +kernel
theorem dX8_wear_2 : decode cX8_wear 2 = .ok (.invokevirtual 126, 3) := by decide +kernel
theorem dX8_wear_5 : decode cX8_wear 5 = .ok (.aload_n 0, 1) := by decide +kernel
theorem dX8_wear_6 : decode cX8_wear 6 = .ok (.getfield 43, 3) := by decide +kernel
theorem dX8_wear_9 : decode cX8_wear 9 = .ok (.getfield 138, 3) := by decide +kernel
theorem dX8_wear_12 : decode cX8_wear 12 = .ok (.getfield 154, 3) := by decide +kernel
theorem dX8_wear_15 : decode cX8_wear 15 = .ok (.iload_n 1, 1) := by decide +kernel
theorem dX8_wear_16 : decode cX8_wear 16 = .ok (.invokestatic 119, 3) := by decide +kernel
theorem dX8_wear_19 : decode cX8_wear 19 = .ok (.ireturn, 1) := by decide +kernel
theorem dX8_isStuck_0 : decode cX8_isStuck 0 = .ok (.aload_n 0, 1) := by decide +kernel
theorem dX8_isStuck_1 : decode cX8_isStuck 1 = .ok (.iload_n 1, 1) := by decide +kernel
theorem dX8_isStuck_2 : decode cX8_isStuck 2 = .ok (.invokevirtual 126, 3) := by decide +kernel
theorem dX8_isStuck_5 : decode cX8_isStuck 5 = .ok (.aload_n 0, 1) := by decide +kernel
theorem dX8_isStuck_6 : decode cX8_isStuck 6 = .ok (.getfield 43, 3) := by decide +kernel
theorem dX8_isStuck_9 : decode cX8_isStuck 9 = .ok (.getfield 138, 3) := by decide +kernel
theorem dX8_isStuck_12 : decode cX8_isStuck 12 = .ok (.getfield 157, 3) := by decide +kernel
theorem dX8_isStuck_15 : decode cX8_isStuck 15 = .ok (.iload_n 1, 1) := by decide +kernel
theorem dX8_isStuck_16 : decode cX8_isStuck 16 = .ok (.invokestatic 147, 3) := by decide +kernel
theorem dX8_isStuck_19 : decode cX8_isStuck 19 = .ok (.ireturn, 1) := by decide +kernel
theorem dX8_cardCount_0 : decode cX8_cardCount 0 = .ok (.aload_n 0, 1) := by decide +kernel
theorem dX8_cardCount_1 : decode cX8_cardCount 1 = .ok (.invokevirtual 103, 3) := by decide +kernel
theorem dX8_cardCount_4 : decode cX8_cardCount 4 = .ok (.aload_n 0, 1) := by decide +kernel
theorem dX8_cardCount_5 : decode cX8_cardCount 5 = .ok (.getfield 43, 3) := by decide +kernel
theorem dX8_cardCount_8 : decode cX8_cardCount 8 = .ok (.getfield 160, 3) := by decide +kernel
theorem dX8_cardCount_11 : decode cX8_cardCount 11 = .ok (.ireturn, 1) := by decide +kernel
theorem dX8_lifts_0 : decode cX8_lifts 0 = .ok (.aload_n 0, 1) := by decide +kernel
theorem dX8_lifts_1 : decode cX8_lifts 1 = .ok (.iload_n 1, 1) := by decide +kernel
theorem dX8_lifts_2 : decode cX8_lifts 2 = .ok (.invokevirtual 163, 3) := by decide +kernel
theorem dX8_lifts_5 : decode cX8_lifts 5 = .ok (.aload_n 0, 1) := by decide +kernel
theorem dX8_lifts_6 : decode cX8_lifts 6 = .ok (.iload_n 2, 1) := by decide +kernel
theorem dX8_lifts_7 : decode cX8_lifts 7 = .ok (.invokevirtual 126, 3) := by decide +kernel
theorem dX8_lifts_10 : decode cX8_lifts 10 = .ok (.aload_n 0, 1) := by decide +kernel
theorem dX8_lifts_11 : decode cX8_lifts 11 = .ok (.getfield 43, 3) := by decide +kernel
theorem dX8_lifts_14 : decode cX8_lifts 14 = .ok (.getfield 138, 3) := by decide +kernel
theorem dX8_lifts_17 : decode cX8_lifts 17 = .ok (.getfield 166, 3) := by decide +kernel
theorem dX8_lifts_20 : decode cX8_lifts 20 = .ok (.iload_n 1, 1) := by decide +kernel
theorem dX8_lifts_21 : decode cX8_lifts 21 = .ok (.invokestatic 119, 3) := by decide +kernel
theorem dX8_lifts_24 : decode cX8_lifts 24 = .ok (.iload_n 2, 1) := by decide +kernel
theorem dX8_lifts_25 : decode cX8_lifts 25 = .ok (.invokestatic 147, 3) := by decide +kernel
theorem dX8_lifts_28 : decode cX8_lifts 28 = .ok (.ireturn, 1) := by decide +kernel
theorem dX8_cardColour_0 : decode cX8_cardColour 0 = .ok (.aload_n 0, 1) := by decide +kernel
theorem dX8_cardColour_1 : decode cX8_cardColour 1 = .ok (.iload_n 1, 1) := by decide +kernel
theorem dX8_cardColour_2 : decode cX8_cardColour 2 = .ok (.invokevirtual 163, 3) := by decide +kernel
theorem dX8_cardColour_5 : decode cX8_cardColour 5 = .ok (.aload_n 0, 1) := by decide +kernel
theorem dX8_cardColour_6 : decode cX8_cardColour 6 = .ok (.getfield 43, 3) := by decide +kernel
theorem dX8_cardColour_9 : decode cX8_cardColour 9 = .ok (.getfield 138, 3) := by decide +kernel
theorem dX8_cardColour_12 : decode cX8_cardColour 12 = .ok (.getfield 169, 3) := by decide +kernel
theorem dX8_cardColour_15 : decode cX8_cardColour 15 = .ok (.iload_n 1, 1) := by decide +kernel
theorem dX8_cardColour_16 : decode cX8_cardColour 16 = .ok (.invokestatic 119, 3) := by decide +kernel
theorem dX8_cardColour_19 : decode cX8_cardColour 19 = .ok (.ireturn, 1) := by decide +kernel
theorem dX8_liftedWarps_0 : decode cX8_liftedWarps 0 = .ok (.aload_n 0, 1) := by decide +kernel
theorem dX8_liftedWarps_1 : decode cX8_liftedWarps 1 = .ok (.iload_n 1, 1) := by decide +kernel
theorem dX8_liftedWarps_2 : decode cX8_liftedWarps 2 = .ok (.invokevirtual 163, 3) := by decide +kernel
theorem dX8_liftedWarps_5 : decode cX8_liftedWarps 5 = .ok (.aload_n 0, 1) := by decide +kernel
theorem dX8_liftedWarps_6 : decode cX8_liftedWarps 6 = .ok (.getfield 43, 3) := by decide +kernel
theorem dX8_liftedWarps_9 : decode cX8_liftedWarps 9 = .ok (.aload_n 0, 1) := by decide +kernel
theorem dX8_liftedWarps_10 : decode cX8_liftedWarps 10 = .ok (.getfield 43, 3) := by decide +kernel
theorem dX8_liftedWarps_13 : decode cX8_liftedWarps 13 = .ok (.getfield 138, 3) := by decide +kernel
theorem dX8_liftedWarps_16 : decode cX8_liftedWarps 16 = .ok (.getfield 166, 3) := by decide +kernel
theorem dX8_liftedWarps_19 : decode cX8_liftedWarps 19 = .ok (.iload_n 1, 1) := by decide +kernel
theorem dX8_liftedWarps_20 : decode cX8_liftedWarps 20 = .ok (.invokestatic 119, 3) := by decide +kernel
theorem dX8_liftedWarps_23 : decode cX8_liftedWarps 23 = .ok (.invokevirtual 129, 3) := by decide +kernel
theorem dX8_liftedWarps_26 : decode cX8_liftedWarps 26 = .ok (.invokestatic 133, 3) := by decide +kernel
theorem dX8_liftedWarps_29 : decode cX8_liftedWarps 29 = .ok (.ireturn, 1) := by decide +kernel
theorem dX8_cardUses_0 : decode cX8_cardUses 0 = .ok (.aload_n 0, 1) := by decide +kernel
theorem dX8_cardUses_1 : decode cX8_cardUses 1 = .ok (.iload_n 1, 1) := by decide +kernel
theorem dX8_cardUses_2 : decode cX8_cardUses 2 = .ok (.invokevirtual 163, 3) := by decide +kernel
theorem dX8_cardUses_5 : decode cX8_cardUses 5 = .ok (.aload_n 0, 1) := by decide +kernel
theorem dX8_cardUses_6 : decode cX8_cardUses 6 = .ok (.getfield 43, 3) := by decide +kernel
theorem dX8_cardUses_9 : decode cX8_cardUses 9 = .ok (.getfield 88, 3) := by decide +kernel
theorem dX8_cardUses_12 : decode cX8_cardUses 12 = .ok (.iload_n 1, 1) := by decide +kernel
theorem dX8_cardUses_13 : decode cX8_cardUses 13 = .ok (.invokevirtual 182, 3) := by decide +kernel
theorem dX8_cardUses_16 : decode cX8_cardUses 16 = .ok (.ireturn, 1) := by decide +kernel
theorem dX8_rowCount_0 : decode cX8_rowCount 0 = .ok (.aload_n 0, 1) := by decide +kernel
theorem dX8_rowCount_1 : decode cX8_rowCount 1 = .ok (.invokevirtual 103, 3) := by decide +kernel
theorem dX8_rowCount_4 : decode cX8_rowCount 4 = .ok (.aload_n 0, 1) := by decide +kernel
theorem dX8_rowCount_5 : decode cX8_rowCount 5 = .ok (.getfield 43, 3) := by decide +kernel
theorem dX8_rowCount_8 : decode cX8_rowCount 8 = .ok (.getfield 138, 3) := by decide +kernel
theorem dX8_rowCount_11 : decode cX8_rowCount 11 = .ok (.getfield 196, 3) := by decide +kernel
theorem dX8_rowCount_14 : decode cX8_rowCount 14 = .ok (.ireturn, 1) := by decide +kernel
theorem dX8_cellColour_0 : decode cX8_cellColour 0 = .ok (.aload_n 0, 1) := by decide +kernel
theorem dX8_cellColour_1 : decode cX8_cellColour 1 = .ok (.iload_n 1, 1) := by decide +kernel
theorem dX8_cellColour_2 : decode cX8_cellColour 2 = .ok (.invokevirtual 199, 3) := by decide +kernel
theorem dX8_cellColour_5 : decode cX8_cellColour 5 = .ok (.aload_n 0, 1) := by decide +kernel
theorem dX8_cellColour_6 : decode cX8_cellColour 6 = .ok (.iload_n 2, 1) := by decide +kernel
theorem dX8_cellColour_7 : decode cX8_cellColour 7 = .ok (.invokevirtual 112, 3) := by decide +kernel
theorem dX8_cellColour_10 : decode cX8_cellColour 10 = .ok (.aload_n 0, 1) := by decide +kernel
theorem dX8_cellColour_11 : decode cX8_cellColour 11 = .ok (.getfield 43, 3) := by decide +kernel
theorem dX8_cellColour_14 : decode cX8_cellColour 14 = .ok (.iload_n 1, 1) := by decide +kernel
theorem dX8_cellColour_15 : decode cX8_cellColour 15 = .ok (.iload_n 2, 1) := by decide +kernel
theorem dX8_cellColour_16 : decode cX8_cellColour 16 = .ok (.invokevirtual 202, 3) := by decide +kernel
theorem dX8_cellColour_19 : decode cX8_cellColour 19 = .ok (.ireturn, 1) := by decide +kernel
theorem dX8_showsWarp_0 : decode cX8_showsWarp 0 = .ok (.aload_n 0, 1) := by decide +kernel
theorem dX8_showsWarp_1 : decode cX8_showsWarp 1 = .ok (.iload_n 1, 1) := by decide +kernel
theorem dX8_showsWarp_2 : decode cX8_showsWarp 2 = .ok (.invokevirtual 199, 3) := by decide +kernel
theorem dX8_showsWarp_5 : decode cX8_showsWarp 5 = .ok (.aload_n 0, 1) := by decide +kernel
theorem dX8_showsWarp_6 : decode cX8_showsWarp 6 = .ok (.iload_n 2, 1) := by decide +kernel
theorem dX8_showsWarp_7 : decode cX8_showsWarp 7 = .ok (.invokevirtual 112, 3) := by decide +kernel
theorem dX8_showsWarp_10 : decode cX8_showsWarp 10 = .ok (.aload_n 0, 1) := by decide +kernel
theorem dX8_showsWarp_11 : decode cX8_showsWarp 11 = .ok (.getfield 43, 3) := by decide +kernel
theorem dX8_showsWarp_14 : decode cX8_showsWarp 14 = .ok (.getfield 138, 3) := by decide +kernel
theorem dX8_showsWarp_17 : decode cX8_showsWarp 17 = .ok (.getfield 206, 3) := by decide +kernel
theorem dX8_showsWarp_20 : decode cX8_showsWarp 20 = .ok (.iload_n 1, 1) := by decide +kernel
theorem dX8_showsWarp_21 : decode cX8_showsWarp 21 = .ok (.invokestatic 119, 3) := by decide +kernel
theorem dX8_showsWarp_24 : decode cX8_showsWarp 24 = .ok (.iload_n 2, 1) := by decide +kernel
theorem dX8_showsWarp_25 : decode cX8_showsWarp 25 = .ok (.invokestatic 147, 3) := by decide +kernel
theorem dX8_showsWarp_28 : decode cX8_showsWarp 28 = .ok (.ireturn, 1) := by decide +kernel
theorem dX8_cellsOfColour_0 : decode cX8_cellsOfColour 0 = .ok (.aload_n 0, 1) := by decide +kernel
theorem dX8_cellsOfColour_1 : decode cX8_cellsOfColour 1 = .ok (.iload_n 1, 1) := by decide +kernel
theorem dX8_cellsOfColour_2 : decode cX8_cellsOfColour 2 = .ok (.invokevirtual 215, 3) := by decide +kernel
theorem dX8_cellsOfColour_5 : decode cX8_cellsOfColour 5 = .ok (.aload_n 0, 1) := by decide +kernel
theorem dX8_cellsOfColour_6 : decode cX8_cellsOfColour 6 = .ok (.getfield 43, 3) := by decide +kernel
theorem dX8_cellsOfColour_9 : decode cX8_cellsOfColour 9 = .ok (.iload_n 1, 1) := by decide +kernel
theorem dX8_cellsOfColour_10 : decode cX8_cellsOfColour 10 = .ok (.invokevirtual 218, 3) := by decide +kernel
theorem dX8_cellsOfColour_13 : decode cX8_cellsOfColour 13 = .ok (.ireturn, 1) := by decide +kernel
theorem dX8_rowPeriod_0 : decode cX8_rowPeriod 0 = .ok (.aload_n 0, 1) := by decide +kernel
theorem dX8_rowPeriod_1 : decode cX8_rowPeriod 1 = .ok (.invokevirtual 103, 3) := by decide +kernel
theorem dX8_rowPeriod_4 : decode cX8_rowPeriod 4 = .ok (.aload_n 0, 1) := by decide +kernel
theorem dX8_rowPeriod_5 : decode cX8_rowPeriod 5 = .ok (.getfield 43, 3) := by decide +kernel
theorem dX8_rowPeriod_8 : decode cX8_rowPeriod 8 = .ok (.invokevirtual 221, 3) := by decide +kernel
theorem dX8_rowPeriod_11 : decode cX8_rowPeriod 11 = .ok (.ireturn, 1) := by decide +kernel
theorem dX8_wrongCount_0 : decode cX8_wrongCount 0 = .ok (.aload_n 0, 1) := by decide +kernel
theorem dX8_wrongCount_1 : decode cX8_wrongCount 1 = .ok (.invokevirtual 103, 3) := by decide +kernel
theorem dX8_wrongCount_4 : decode cX8_wrongCount 4 = .ok (.aload_n 0, 1) := by decide +kernel
theorem dX8_wrongCount_5 : decode cX8_wrongCount 5 = .ok (.getfield 43, 3) := by decide +kernel
theorem dX8_wrongCount_8 : decode cX8_wrongCount 8 = .ok (.invokevirtual 233, 3) := by decide +kernel
theorem dX8_wrongCount_11 : decode cX8_wrongCount 11 = .ok (.ireturn, 1) := by decide +kernel
theorem dX8_firstWrongRow_0 : decode cX8_firstWrongRow 0 = .ok (.aload_n 0, 1) := by decide +kernel
theorem dX8_firstWrongRow_1 : decode cX8_firstWrongRow 1 = .ok (.invokevirtual 103, 3) := by decide +kernel
theorem dX8_firstWrongRow_4 : decode cX8_firstWrongRow 4 = .ok (.aload_n 0, 1) := by decide +kernel
theorem dX8_firstWrongRow_5 : decode cX8_firstWrongRow 5 = .ok (.getfield 43, 3) := by decide +kernel
theorem dX8_firstWrongRow_8 : decode cX8_firstWrongRow 8 = .ok (.invokevirtual 236, 3) := by decide +kernel
theorem dX8_firstWrongRow_11 : decode cX8_firstWrongRow 11 = .ok (.ireturn, 1) := by decide +kernel
theorem dX8_swapFirst_0 : decode cX8_swapFirst 0 = .ok (.aload_n 0, 1) := by decide +kernel
theorem dX8_swapFirst_1 : decode cX8_swapFirst 1 = .ok (.invokevirtual 103, 3) := by decide +kernel
theorem dX8_swapFirst_4 : decode cX8_swapFirst 4 = .ok (.aload_n 0, 1) := by decide +kernel
theorem dX8_swapFirst_5 : decode cX8_swapFirst 5 = .ok (.getfield 43, 3) := by decide +kernel
theorem dX8_swapFirst_8 : decode cX8_swapFirst 8 = .ok (.invokevirtual 239, 3) := by decide +kernel
theorem dX8_swapFirst_11 : decode cX8_swapFirst 11 = .ok (.istore_n 1, 1) := by decide +kernel
theorem dX8_swapFirst_12 : decode cX8_swapFirst 12 = .ok (.iload_n 1, 1) := by decide +kernel
theorem dX8_swapFirst_13 : decode cX8_swapFirst 13 = .ok (.iconst (-1), 1) := by decide +kernel
theorem dX8_swapFirst_14 : decode cX8_swapFirst 14 = .ok (.if_icmp .ne 7, 3) := by decide +kernel
theorem dX8_swapFirst_17 : decode cX8_swapFirst 17 = .ok (.iconst (-1), 1) := by decide +kernel
theorem dX8_swapFirst_18 : decode cX8_swapFirst 18 = .ok (.goto 7, 3) := by decide +kernel
theorem dX8_swapFirst_21 : decode cX8_swapFirst 21 = .ok (.iload_n 1, 1) := by decide +kernel
theorem dX8_swapFirst_22 : decode cX8_swapFirst 22 = .ok (.bipush 12, 2) := by decide +kernel
theorem dX8_swapFirst_24 : decode cX8_swapFirst 24 = .ok (.idiv, 1) := by decide +kernel
theorem dX8_swapFirst_25 : decode cX8_swapFirst 25 = .ok (.ireturn, 1) := by decide +kernel
theorem dX8_swapSecond_0 : decode cX8_swapSecond 0 = .ok (.aload_n 0, 1) := by decide +kernel
theorem dX8_swapSecond_1 : decode cX8_swapSecond 1 = .ok (.invokevirtual 103, 3) := by decide +kernel
theorem dX8_swapSecond_4 : decode cX8_swapSecond 4 = .ok (.aload_n 0, 1) := by decide +kernel
theorem dX8_swapSecond_5 : decode cX8_swapSecond 5 = .ok (.getfield 43, 3) := by decide +kernel
theorem dX8_swapSecond_8 : decode cX8_swapSecond 8 = .ok (.invokevirtual 239, 3) := by decide +kernel
theorem dX8_swapSecond_11 : decode cX8_swapSecond 11 = .ok (.istore_n 1, 1) := by decide +kernel
theorem dX8_swapSecond_12 : decode cX8_swapSecond 12 = .ok (.iload_n 1, 1) := by decide +kernel
theorem dX8_swapSecond_13 : decode cX8_swapSecond 13 = .ok (.iconst (-1), 1) := by decide +kernel
theorem dX8_swapSecond_14 : decode cX8_swapSecond 14 = .ok (.if_icmp .ne 7, 3) := by decide +kernel
theorem dX8_swapSecond_17 : decode cX8_swapSecond 17 = .ok (.iconst (-1), 1) := by decide +kernel
theorem dX8_swapSecond_18 : decode cX8_swapSecond 18 = .ok (.goto 7, 3) := by decide +kernel
theorem dX8_swapSecond_21 : decode cX8_swapSecond 21 = .ok (.iload_n 1, 1) := by decide +kernel
theorem dX8_swapSecond_22 : decode cX8_swapSecond 22 = .ok (.bipush 12, 2) := by decide +kernel
theorem dX8_swapSecond_24 : decode cX8_swapSecond 24 = .ok (.irem, 1) := by decide +kernel
theorem dX8_swapSecond_25 : decode cX8_swapSecond 25 = .ok (.ireturn, 1) := by decide +kernel
theorem dX8_yarn_0 : decode cX8_yarn 0 = .ok (.aload_n 0, 1) := by decide +kernel
theorem dX8_yarn_1 : decode cX8_yarn 1 = .ok (.iload_n 1, 1) := by decide +kernel
theorem dX8_yarn_2 : decode cX8_yarn 2 = .ok (.invokevirtual 215, 3) := by decide +kernel
theorem dX8_yarn_5 : decode cX8_yarn 5 = .ok (.aload_n 0, 1) := by decide +kernel
theorem dX8_yarn_6 : decode cX8_yarn 6 = .ok (.getfield 43, 3) := by decide +kernel
theorem dX8_yarn_9 : decode cX8_yarn 9 = .ok (.getfield 138, 3) := by decide +kernel
theorem dX8_yarn_12 : decode cX8_yarn 12 = .ok (.getfield 242, 3) := by decide +kernel
theorem dX8_yarn_15 : decode cX8_yarn 15 = .ok (.iload_n 1, 1) := by decide +kernel
theorem dX8_yarn_16 : decode cX8_yarn 16 = .ok (.invokestatic 119, 3) := by decide +kernel
theorem dX8_yarn_19 : decode cX8_yarn 19 = .ok (.ireturn, 1) := by decide +kernel
theorem dX8_nextCard_0 : decode cX8_nextCard 0 = .ok (.aload_n 0, 1) := by decide +kernel
theorem dX8_nextCard_1 : decode cX8_nextCard 1 = .ok (.invokevirtual 103, 3) := by decide +kernel
theorem dX8_nextCard_4 : decode cX8_nextCard 4 = .ok (.aload_n 0, 1) := by decide +kernel
theorem dX8_nextCard_5 : decode cX8_nextCard 5 = .ok (.getfield 43, 3) := by decide +kernel
theorem dX8_nextCard_8 : decode cX8_nextCard 8 = .ok (.getfield 88, 3) := by decide +kernel
theorem dX8_nextCard_11 : decode cX8_nextCard 11 = .ok (.aload_n 0, 1) := by decide +kernel
theorem dX8_nextCard_12 : decode cX8_nextCard 12 = .ok (.getfield 43, 3) := by decide +kernel
theorem dX8_nextCard_15 : decode cX8_nextCard 15 = .ok (.getfield 138, 3) := by decide +kernel
theorem dX8_nextCard_18 : decode cX8_nextCard 18 = .ok (.getfield 196, 3) := by decide +kernel
theorem dX8_nextCard_21 : decode cX8_nextCard 21 = .ok (.invokevirtual 248, 3) := by decide +kernel
theorem dX8_nextCard_24 : decode cX8_nextCard 24 = .ok (.ireturn, 1) := by decide +kernel
theorem dX8_weaveObstacle_0 : decode cX8_weaveObstacle 0 = .ok (.aload_n 0, 1) := by decide +kernel
theorem dX8_weaveObstacle_1 : decode cX8_weaveObstacle 1 = .ok (.invokevirtual 103, 3) := by decide +kernel
theorem dX8_weaveObstacle_4 : decode cX8_weaveObstacle 4 = .ok (.aload_n 0, 1) := by decide +kernel
theorem dX8_weaveObstacle_5 : decode cX8_weaveObstacle 5 = .ok (.getfield 43, 3) := by decide +kernel
theorem dX8_weaveObstacle_8 : decode cX8_weaveObstacle 8 = .ok (.aload_n 0, 1) := by decide +kernel
theorem dX8_weaveObstacle_9 : decode cX8_weaveObstacle 9 = .ok (.getfield 43, 3) := by decide +kernel
theorem dX8_weaveObstacle_12 : decode cX8_weaveObstacle 12 = .ok (.getfield 138, 3) := by decide +kernel
theorem dX8_weaveObstacle_15 : decode cX8_weaveObstacle 15 = .ok (.invokevirtual 251, 3) := by decide +kernel
theorem dX8_weaveObstacle_18 : decode cX8_weaveObstacle 18 = .ok (.ireturn, 1) := by decide +kernel
theorem dX8_picksPossible_0 : decode cX8_picksPossible 0 = .ok (.aload_n 0, 1) := by decide +kernel
theorem dX8_picksPossible_1 : decode cX8_picksPossible 1 = .ok (.invokevirtual 103, 3) := by decide +kernel
theorem dX8_picksPossible_4 : decode cX8_picksPossible 4 = .ok (.aload_n 0, 1) := by decide +kernel
theorem dX8_picksPossible_5 : decode cX8_picksPossible 5 = .ok (.getfield 43, 3) := by decide +kernel
theorem dX8_picksPossible_8 : decode cX8_picksPossible 8 = .ok (.getfield 255, 3) := by decide +kernel
theorem dX8_picksPossible_11 : decode cX8_picksPossible 11 = .ok (.aload_n 0, 1) := by decide +kernel
theorem dX8_picksPossible_12 : decode cX8_picksPossible 12 = .ok (.getfield 43, 3) := by decide +kernel
theorem dX8_picksPossible_15 : decode cX8_picksPossible 15 = .ok (.getfield 138, 3) := by decide +kernel
theorem dX8_picksPossible_18 : decode cX8_picksPossible 18 = .ok (.invokevirtual 258, 3) := by decide +kernel
theorem dX8_picksPossible_21 : decode cX8_picksPossible 21 = .ok (.aload_n 0, 1) := by decide +kernel
theorem dX8_picksPossible_22 : decode cX8_picksPossible 22 = .ok (.getfield 43, 3) := by decide +kernel
theorem dX8_picksPossible_25 : decode cX8_picksPossible 25 = .ok (.aload_n 0, 1) := by decide +kernel
theorem dX8_picksPossible_26 : decode cX8_picksPossible 26 = .ok (.getfield 43, 3) := by decide +kernel
theorem dX8_picksPossible_29 : decode cX8_picksPossible 29 = .ok (.getfield 255, 3) := by decide +kernel
theorem dX8_picksPossible_32 : decode cX8_picksPossible 32 = .ok (.bipush 60, 2) := by decide +kernel
theorem dX8_picksPossible_34 : decode cX8_picksPossible 34 = .ok (.invokevirtual 262, 3) := by decide +kernel
theorem dX8_picksPossible_37 : decode cX8_picksPossible 37 = .ok (.ireturn, 1) := by decide +kernel
theorem dX8_picksUntilStuck_0 : decode cX8_picksUntilStuck 0 = .ok (.aload_n 0, 1) := by decide +kernel
theorem dX8_picksUntilStuck_1 : decode cX8_picksUntilStuck 1 = .ok (.invokevirtual 103, 3) := by decide +kernel
theorem dX8_picksUntilStuck_4 : decode cX8_picksUntilStuck 4 = .ok (.aload_n 0, 1) := by decide +kernel
theorem dX8_picksUntilStuck_5 : decode cX8_picksUntilStuck 5 = .ok (.getfield 43, 3) := by decide +kernel
theorem dX8_picksUntilStuck_8 : decode cX8_picksUntilStuck 8 = .ok (.getfield 255, 3) := by decide +kernel
theorem dX8_picksUntilStuck_11 : decode cX8_picksUntilStuck 11 = .ok (.aload_n 0, 1) := by decide +kernel
theorem dX8_picksUntilStuck_12 : decode cX8_picksUntilStuck 12 = .ok (.getfield 43, 3) := by decide +kernel
theorem dX8_picksUntilStuck_15 : decode cX8_picksUntilStuck 15 = .ok (.getfield 138, 3) := by decide +kernel
theorem dX8_picksUntilStuck_18 : decode cX8_picksUntilStuck 18 = .ok (.invokevirtual 258, 3) := by decide +kernel
theorem dX8_picksUntilStuck_21 : decode cX8_picksUntilStuck 21 = .ok (.iconst 1, 1) := by decide +kernel
theorem dX8_picksUntilStuck_22 : decode cX8_picksUntilStuck 22 = .ok (.istore_n 1, 1) := by decide +kernel
theorem dX8_picksUntilStuck_23 : decode cX8_picksUntilStuck 23 = .ok (.iload_n 1, 1) := by decide +kernel
theorem dX8_picksUntilStuck_24 : decode cX8_picksUntilStuck 24 = .ok (.bipush 60, 2) := by decide +kernel
theorem dX8_picksUntilStuck_26 : decode cX8_picksUntilStuck 26 = .ok (.if_icmp .gt 54, 3) := by decide +kernel
theorem dX8_picksUntilStuck_29 : decode cX8_picksUntilStuck 29 = .ok (.aload_n 0, 1) := by decide +kernel
theorem dX8_picksUntilStuck_30 : decode cX8_picksUntilStuck 30 = .ok (.getfield 43, 3) := by decide +kernel
theorem dX8_picksUntilStuck_33 : decode cX8_picksUntilStuck 33 = .ok (.aload_n 0, 1) := by decide +kernel
theorem dX8_picksUntilStuck_34 : decode cX8_picksUntilStuck 34 = .ok (.getfield 43, 3) := by decide +kernel
theorem dX8_picksUntilStuck_37 : decode cX8_picksUntilStuck 37 = .ok (.getfield 255, 3) := by decide +kernel
theorem dX8_picksUntilStuck_40 : decode cX8_picksUntilStuck 40 = .ok (.iconst 1, 1) := by decide +kernel
theorem dX8_picksUntilStuck_41 : decode cX8_picksUntilStuck 41 = .ok (.invokevirtual 262, 3) := by decide +kernel
theorem dX8_picksUntilStuck_44 : decode cX8_picksUntilStuck 44 = .ok (.ifCond .ne 5, 3) := by decide +kernel
theorem dX8_picksUntilStuck_47 : decode cX8_picksUntilStuck 47 = .ok (.iconst (-1), 1) := by decide +kernel
theorem dX8_picksUntilStuck_48 : decode cX8_picksUntilStuck 48 = .ok (.ireturn, 1) := by decide +kernel
theorem dX8_picksUntilStuck_49 : decode cX8_picksUntilStuck 49 = .ok (.aload_n 0, 1) := by decide +kernel
theorem dX8_picksUntilStuck_50 : decode cX8_picksUntilStuck 50 = .ok (.getfield 43, 3) := by decide +kernel
theorem dX8_picksUntilStuck_53 : decode cX8_picksUntilStuck 53 = .ok (.getfield 255, 3) := by decide +kernel
theorem dX8_picksUntilStuck_56 : decode cX8_picksUntilStuck 56 = .ok (.getfield 157, 3) := by decide +kernel
theorem dX8_picksUntilStuck_59 : decode cX8_picksUntilStuck 59 = .ok (.aload_n 0, 1) := by decide +kernel
theorem dX8_picksUntilStuck_60 : decode cX8_picksUntilStuck 60 = .ok (.getfield 43, 3) := by decide +kernel
theorem dX8_picksUntilStuck_63 : decode cX8_picksUntilStuck 63 = .ok (.getfield 138, 3) := by decide +kernel
theorem dX8_picksUntilStuck_66 : decode cX8_picksUntilStuck 66 = .ok (.getfield 157, 3) := by decide +kernel
theorem dX8_picksUntilStuck_69 : decode cX8_picksUntilStuck 69 = .ok (.if_icmp .eq 5, 3) := by decide +kernel
theorem dX8_picksUntilStuck_72 : decode cX8_picksUntilStuck 72 = .ok (.iload_n 1, 1) := by decide +kernel
theorem dX8_picksUntilStuck_73 : decode cX8_picksUntilStuck 73 = .ok (.ireturn, 1) := by decide +kernel
theorem dX8_picksUntilStuck_74 : decode cX8_picksUntilStuck 74 = .ok (.iinc 1 1, 3) := by decide +kernel
theorem dX8_picksUntilStuck_77 : decode cX8_picksUntilStuck 77 = .ok (.goto (-54), 3) := by decide +kernel
theorem dX8_picksUntilStuck_80 : decode cX8_picksUntilStuck 80 = .ok (.iconst (-1), 1) := by decide +kernel
theorem dX8_picksUntilStuck_81 : decode cX8_picksUntilStuck 81 = .ok (.ireturn, 1) := by decide +kernel
theorem dX8_imbalance_0 : decode cX8_imbalance 0 = .ok (.aload_n 0, 1) := by decide +kernel
theorem dX8_imbalance_1 : decode cX8_imbalance 1 = .ok (.invokevirtual 103, 3) := by decide +kernel
theorem dX8_imbalance_4 : decode cX8_imbalance 4 = .ok (.aload_n 0, 1) := by decide +kernel
theorem dX8_imbalance_5 : decode cX8_imbalance 5 = .ok (.getfield 43, 3) := by decide +kernel
theorem dX8_imbalance_8 : decode cX8_imbalance 8 = .ok (.getfield 138, 3) := by decide +kernel
theorem dX8_imbalance_11 : decode cX8_imbalance 11 = .ok (.invokevirtual 266, 3) := by decide +kernel
theorem dX8_imbalance_14 : decode cX8_imbalance 14 = .ok (.aload_n 0, 1) := by decide +kernel
theorem dX8_imbalance_15 : decode cX8_imbalance 15 = .ok (.getfield 43, 3) := by decide +kernel
theorem dX8_imbalance_18 : decode cX8_imbalance 18 = .ok (.invokevirtual 224, 3) := by decide +kernel
theorem dX8_imbalance_21 : decode cX8_imbalance 21 = .ok (.iadd, 1) := by decide +kernel
theorem dX8_imbalance_22 : decode cX8_imbalance 22 = .ok (.aload_n 0, 1) := by decide +kernel
theorem dX8_imbalance_23 : decode cX8_imbalance 23 = .ok (.getfield 43, 3) := by decide +kernel
theorem dX8_imbalance_26 : decode cX8_imbalance 26 = .ok (.getfield 138, 3) := by decide +kernel
theorem dX8_imbalance_29 : decode cX8_imbalance 29 = .ok (.getfield 269, 3) := by decide +kernel
theorem dX8_imbalance_32 : decode cX8_imbalance 32 = .ok (.isub, 1) := by decide +kernel
theorem dX8_imbalance_33 : decode cX8_imbalance 33 = .ok (.istore_n 1, 1) := by decide +kernel
theorem dX8_imbalance_34 : decode cX8_imbalance 34 = .ok (.aload_n 0, 1) := by decide +kernel
theorem dX8_imbalance_35 : decode cX8_imbalance 35 = .ok (.getfield 43, 3) := by decide +kernel
theorem dX8_imbalance_38 : decode cX8_imbalance 38 = .ok (.getfield 138, 3) := by decide +kernel
theorem dX8_imbalance_41 : decode cX8_imbalance 41 = .ok (.getfield 272, 3) := by decide +kernel
theorem dX8_imbalance_44 : decode cX8_imbalance 44 = .ok (.ifCond .eq 7, 3) := by decide +kernel
theorem dX8_imbalance_47 : decode cX8_imbalance 47 = .ok (.iconst 0, 1) := by decide +kernel
theorem dX8_imbalance_48 : decode cX8_imbalance 48 = .ok (.goto 10, 3) := by decide +kernel
theorem dX8_imbalance_51 : decode cX8_imbalance 51 = .ok (.aload_n 0, 1) := by decide +kernel
theorem dX8_imbalance_52 : decode cX8_imbalance 52 = .ok (.getfield 43, 3) := by decide +kernel
theorem dX8_imbalance_55 : decode cX8_imbalance 55 = .ok (.invokevirtual 233, 3) := by decide +kernel
theorem dX8_imbalance_58 : decode cX8_imbalance 58 = .ok (.istore_n 2, 1) := by decide +kernel
theorem dX8_imbalance_59 : decode cX8_imbalance 59 = .ok (.iload_n 1, 1) := by decide +kernel
theorem dX8_imbalance_60 : decode cX8_imbalance 60 = .ok (.invokestatic 275, 3) := by decide +kernel
theorem dX8_imbalance_63 : decode cX8_imbalance 63 = .ok (.iload_n 2, 1) := by decide +kernel
theorem dX8_imbalance_64 : decode cX8_imbalance 64 = .ok (.iadd, 1) := by decide +kernel
theorem dX8_imbalance_65 : decode cX8_imbalance 65 = .ok (.ireturn, 1) := by decide +kernel
theorem dX8_weave_0 : decode cX8_weave 0 = .ok (.aload_n 0, 1) := by decide +kernel
theorem dX8_weave_1 : decode cX8_weave 1 = .ok (.invokevirtual 103, 3) := by decide +kernel
theorem dX8_weave_4 : decode cX8_weave 4 = .ok (.iload_n 1, 1) := by decide +kernel
theorem dX8_weave_5 : decode cX8_weave 5 = .ok (.iconst 1, 1) := by decide +kernel
theorem dX8_weave_6 : decode cX8_weave 6 = .ok (.bipush 60, 2) := by decide +kernel
theorem dX8_weave_8 : decode cX8_weave 8 = .ok (.invokestatic 291, 3) := by decide +kernel
theorem dX8_weave_11 : decode cX8_weave 11 = .ok (.aload_n 0, 1) := by decide +kernel
theorem dX8_weave_12 : decode cX8_weave 12 = .ok (.getfield 26, 3) := by decide +kernel
theorem dX8_weave_15 : decode cX8_weave 15 = .ok (.aload_n 0, 1) := by decide +kernel
theorem dX8_weave_16 : decode cX8_weave 16 = .ok (.getfield 43, 3) := by decide +kernel
theorem dX8_weave_19 : decode cX8_weave 19 = .ok (.getfield 138, 3) := by decide +kernel
theorem dX8_weave_22 : decode cX8_weave 22 = .ok (.invokevirtual 295, 3) := by decide +kernel
theorem dX8_weave_25 : decode cX8_weave 25 = .ok (.aload_n 0, 1) := by decide +kernel
theorem dX8_weave_26 : decode cX8_weave 26 = .ok (.getfield 43, 3) := by decide +kernel
theorem dX8_weave_29 : decode cX8_weave 29 = .ok (.aload_n 0, 1) := by decide +kernel
theorem dX8_weave_30 : decode cX8_weave 30 = .ok (.getfield 43, 3) := by decide +kernel
theorem dX8_weave_33 : decode cX8_weave 33 = .ok (.getfield 138, 3) := by decide +kernel
theorem dX8_weave_36 : decode cX8_weave 36 = .ok (.iload_n 1, 1) := by decide +kernel
theorem dX8_weave_37 : decode cX8_weave 37 = .ok (.invokevirtual 262, 3) := by decide +kernel
theorem dX8_weave_40 : decode cX8_weave 40 = .ok (.ireturn, 1) := by decide +kernel
theorem dX8_unweave_0 : decode cX8_unweave 0 = .ok (.aload_n 0, 1) := by decide +kernel
theorem dX8_unweave_1 : decode cX8_unweave 1 = .ok (.invokevirtual 103, 3) := by decide +kernel
theorem dX8_unweave_4 : decode cX8_unweave 4 = .ok (.iload_n 1, 1) := by decide +kernel
theorem dX8_unweave_5 : decode cX8_unweave 5 = .ok (.iconst 1, 1) := by decide +kernel
theorem dX8_unweave_6 : decode cX8_unweave 6 = .ok (.aload_n 0, 1) := by decide +kernel
theorem dX8_unweave_7 : decode cX8_unweave 7 = .ok (.getfield 43, 3) := by decide +kernel
theorem dX8_unweave_10 : decode cX8_unweave 10 = .ok (.getfield 138, 3) := by decide +kernel
theorem dX8_unweave_13 : decode cX8_unweave 13 = .ok (.getfield 196, 3) := by decide +kernel
theorem dX8_unweave_16 : decode cX8_unweave 16 = .ok (.invokestatic 291, 3) := by decide +kernel
theorem dX8_unweave_19 : decode cX8_unweave 19 = .ok (.aload_n 0, 1) := by decide +kernel
theorem dX8_unweave_20 : decode cX8_unweave 20 = .ok (.getfield 26, 3) := by decide +kernel
theorem dX8_unweave_23 : decode cX8_unweave 23 = .ok (.aload_n 0, 1) := by decide +kernel
theorem dX8_unweave_24 : decode cX8_unweave 24 = .ok (.getfield 43, 3) := by decide +kernel
theorem dX8_unweave_27 : decode cX8_unweave 27 = .ok (.getfield 138, 3) := by decide +kernel
theorem dX8_unweave_30 : decode cX8_unweave 30 = .ok (.invokevirtual 295, 3) := by decide +kernel
theorem dX8_unweave_33 : decode cX8_unweave 33 = .ok (.aload_n 0, 1) := by decide +kernel
theorem dX8_unweave_34 : decode cX8_unweave 34 = .ok (.getfield 43, 3) := by decide +kernel
theorem dX8_unweave_37 : decode cX8_unweave 37 = .ok (.iload_n 1, 1) := by decide +kernel
theorem dX8_unweave_38 : decode cX8_unweave 38 = .ok (.invokevirtual 298, 3) := by decide +kernel
theorem dX8_unweave_41 : decode cX8_unweave 41 = .ok (.aload_n 0, 1) := by decide +kernel
theorem dX8_unweave_42 : decode cX8_unweave 42 = .ok (.getfield 43, 3) := by decide +kernel
theorem dX8_unweave_45 : decode cX8_unweave 45 = .ok (.getfield 138, 3) := by decide +kernel
theorem dX8_unweave_48 : decode cX8_unweave 48 = .ok (.getfield 196, 3) := by decide +kernel
theorem dX8_unweave_51 : decode cX8_unweave 51 = .ok (.ireturn, 1) := by decide +kernel
theorem dX8_swapCards_0 : decode cX8_swapCards 0 = .ok (.aload_n 0, 1) := by decide +kernel
theorem dX8_swapCards_1 : decode cX8_swapCards 1 = .ok (.iload_n 1, 1) := by decide +kernel
theorem dX8_swapCards_2 : decode cX8_swapCards 2 = .ok (.invokevirtual 163, 3) := by decide +kernel
theorem dX8_swapCards_5 : decode cX8_swapCards 5 = .ok (.aload_n 0, 1) := by decide +kernel
theorem dX8_swapCards_6 : decode cX8_swapCards 6 = .ok (.iload_n 2, 1) := by decide +kernel
theorem dX8_swapCards_7 : decode cX8_swapCards 7 = .ok (.invokevirtual 163, 3) := by decide +kernel
theorem dX8_swapCards_10 : decode cX8_swapCards 10 = .ok (.aload_n 0, 1) := by decide +kernel
theorem dX8_swapCards_11 : decode cX8_swapCards 11 = .ok (.getfield 26, 3) := by decide +kernel
theorem dX8_swapCards_14 : decode cX8_swapCards 14 = .ok (.aload_n 0, 1) := by decide +kernel
theorem dX8_swapCards_15 : decode cX8_swapCards 15 = .ok (.getfield 43, 3) := by decide +kernel
theorem dX8_swapCards_18 : decode cX8_swapCards 18 = .ok (.getfield 138, 3) := by decide +kernel
theorem dX8_swapCards_21 : decode cX8_swapCards 21 = .ok (.invokevirtual 295, 3) := by decide +kernel
theorem dX8_swapCards_24 : decode cX8_swapCards 24 = .ok (.aload_n 0, 1) := by decide +kernel
theorem dX8_swapCards_25 : decode cX8_swapCards 25 = .ok (.getfield 43, 3) := by decide +kernel
theorem dX8_swapCards_28 : decode cX8_swapCards 28 = .ok (.getfield 138, 3) := by decide +kernel
theorem dX8_swapCards_31 : decode cX8_swapCards 31 = .ok (.iload_n 1, 1) := by decide +kernel
theorem dX8_swapCards_32 : decode cX8_swapCards 32 = .ok (.iload_n 2, 1) := by decide +kernel
theorem dX8_swapCards_33 : decode cX8_swapCards 33 = .ok (.invokevirtual 301, 3) := by decide +kernel
theorem dX8_swapCards_36 : decode cX8_swapCards 36 = .ok (.aload_n 0, 1) := by decide +kernel
theorem dX8_swapCards_37 : decode cX8_swapCards 37 = .ok (.getfield 43, 3) := by decide +kernel
theorem dX8_swapCards_40 : decode cX8_swapCards 40 = .ok (.getfield 88, 3) := by decide +kernel
theorem dX8_swapCards_43 : decode cX8_swapCards 43 = .ok (.iload_n 1, 1) := by decide +kernel
theorem dX8_swapCards_44 : decode cX8_swapCards 44 = .ok (.invokevirtual 182, 3) := by decide +kernel
theorem dX8_swapCards_47 : decode cX8_swapCards 47 = .ok (.istore_n 3, 1) := by decide +kernel
theorem dX8_swapCards_48 : decode cX8_swapCards 48 = .ok (.iload_n 1, 1) := by decide +kernel
theorem dX8_swapCards_49 : decode cX8_swapCards 49 = .ok (.iload_n 2, 1) := by decide +kernel
theorem dX8_swapCards_50 : decode cX8_swapCards 50 = .ok (.if_icmp .ne 7, 3) := by decide +kernel
theorem dX8_swapCards_53 : decode cX8_swapCards 53 = .ok (.iload_n 3, 1) := by decide +kernel
theorem dX8_swapCards_54 : decode cX8_swapCards 54 = .ok (.goto 16, 3) := by decide +kernel
theorem dX8_swapCards_57 : decode cX8_swapCards 57 = .ok (.iload_n 3, 1) := by decide +kernel
theorem dX8_swapCards_58 : decode cX8_swapCards 58 = .ok (.aload_n 0, 1) := by decide +kernel
theorem dX8_swapCards_59 : decode cX8_swapCards 59 = .ok (.getfield 43, 3) := by decide +kernel
theorem dX8_swapCards_62 : decode cX8_swapCards 62 = .ok (.getfield 88, 3) := by decide +kernel
theorem dX8_swapCards_65 : decode cX8_swapCards 65 = .ok (.iload_n 2, 1) := by decide +kernel
theorem dX8_swapCards_66 : decode cX8_swapCards 66 = .ok (.invokevirtual 182, 3) := by decide +kernel
theorem dX8_swapCards_69 : decode cX8_swapCards 69 = .ok (.iadd, 1) := by decide +kernel
theorem dX8_swapCards_70 : decode cX8_swapCards 70 = .ok (.ireturn, 1) := by decide +kernel
theorem dX8_punch_0 : decode cX8_punch 0 = .ok (.aload_n 0, 1) := by decide +kernel
theorem dX8_punch_1 : decode cX8_punch 1 = .ok (.iload_n 1, 1) := by decide +kernel
theorem dX8_punch_2 : decode cX8_punch 2 = .ok (.invokevirtual 163, 3) := by decide +kernel
theorem dX8_punch_5 : decode cX8_punch 5 = .ok (.aload_n 0, 1) := by decide +kernel
theorem dX8_punch_6 : decode cX8_punch 6 = .ok (.iload_n 2, 1) := by decide +kernel
theorem dX8_punch_7 : decode cX8_punch 7 = .ok (.invokevirtual 126, 3) := by decide +kernel
theorem dX8_punch_10 : decode cX8_punch 10 = .ok (.aload_n 0, 1) := by decide +kernel
theorem dX8_punch_11 : decode cX8_punch 11 = .ok (.getfield 26, 3) := by decide +kernel
theorem dX8_punch_14 : decode cX8_punch 14 = .ok (.aload_n 0, 1) := by decide +kernel
theorem dX8_punch_15 : decode cX8_punch 15 = .ok (.getfield 43, 3) := by decide +kernel
theorem dX8_punch_18 : decode cX8_punch 18 = .ok (.getfield 138, 3) := by decide +kernel
theorem dX8_punch_21 : decode cX8_punch 21 = .ok (.invokevirtual 295, 3) := by decide +kernel
theorem dX8_punch_24 : decode cX8_punch 24 = .ok (.aload_n 0, 1) := by decide +kernel
theorem dX8_punch_25 : decode cX8_punch 25 = .ok (.getfield 43, 3) := by decide +kernel
theorem dX8_punch_28 : decode cX8_punch 28 = .ok (.getfield 138, 3) := by decide +kernel
theorem dX8_punch_31 : decode cX8_punch 31 = .ok (.iload_n 1, 1) := by decide +kernel
theorem dX8_punch_32 : decode cX8_punch 32 = .ok (.iload_n 2, 1) := by decide +kernel
theorem dX8_punch_33 : decode cX8_punch 33 = .ok (.invokevirtual 304, 3) := by decide +kernel
theorem dX8_punch_36 : decode cX8_punch 36 = .ok (.aload_n 0, 1) := by decide +kernel
theorem dX8_punch_37 : decode cX8_punch 37 = .ok (.getfield 43, 3) := by decide +kernel
theorem dX8_punch_40 : decode cX8_punch 40 = .ok (.getfield 138, 3) := by decide +kernel
theorem dX8_punch_43 : decode cX8_punch 43 = .ok (.getfield 166, 3) := by decide +kernel
theorem dX8_punch_46 : decode cX8_punch 46 = .ok (.iload_n 1, 1) := by decide +kernel
theorem dX8_punch_47 : decode cX8_punch 47 = .ok (.invokestatic 119, 3) := by decide +kernel
theorem dX8_punch_50 : decode cX8_punch 50 = .ok (.iload_n 2, 1) := by decide +kernel
theorem dX8_punch_51 : decode cX8_punch 51 = .ok (.invokestatic 147, 3) := by decide +kernel
theorem dX8_punch_54 : decode cX8_punch 54 = .ok (.ireturn, 1) := by decide +kernel
theorem dX8_setCardColour_0 : decode cX8_setCardColour 0 = .ok (.aload_n 0, 1) := by decide +kernel
theorem dX8_setCardColour_1 : decode cX8_setCardColour 1 = .ok (.iload_n 1, 1) := by decide +kernel
theorem dX8_setCardColour_2 : decode cX8_setCardColour 2 = .ok (.invokevirtual 163, 3) := by decide +kernel
theorem dX8_setCardColour_5 : decode cX8_setCardColour 5 = .ok (.aload_n 0, 1) := by decide +kernel
theorem dX8_setCardColour_6 : decode cX8_setCardColour 6 = .ok (.iload_n 2, 1) := by decide +kernel
theorem dX8_setCardColour_7 : decode cX8_setCardColour 7 = .ok (.invokevirtual 215, 3) := by decide +kernel
theorem dX8_setCardColour_10 : decode cX8_setCardColour 10 = .ok (.aload_n 0, 1) := by decide +kernel
theorem dX8_setCardColour_11 : decode cX8_setCardColour 11 = .ok (.getfield 26, 3) := by decide +kernel
theorem dX8_setCardColour_14 : decode cX8_setCardColour 14 = .ok (.aload_n 0, 1) := by decide +kernel
theorem dX8_setCardColour_15 : decode cX8_setCardColour 15 = .ok (.getfield 43, 3) := by decide +kernel
theorem dX8_setCardColour_18 : decode cX8_setCardColour 18 = .ok (.getfield 138, 3) := by decide +kernel
theorem dX8_setCardColour_21 : decode cX8_setCardColour 21 = .ok (.invokevirtual 295, 3) := by decide +kernel
theorem dX8_setCardColour_24 : decode cX8_setCardColour 24 = .ok (.aload_n 0, 1) := by decide +kernel
theorem dX8_setCardColour_25 : decode cX8_setCardColour 25 = .ok (.getfield 43, 3) := by decide +kernel
theorem dX8_setCardColour_28 : decode cX8_setCardColour 28 = .ok (.getfield 138, 3) := by decide +kernel
theorem dX8_setCardColour_31 : decode cX8_setCardColour 31 = .ok (.getfield 169, 3) := by decide +kernel
theorem dX8_setCardColour_34 : decode cX8_setCardColour 34 = .ok (.iload_n 1, 1) := by decide +kernel
theorem dX8_setCardColour_35 : decode cX8_setCardColour 35 = .ok (.invokestatic 119, 3) := by decide +kernel
theorem dX8_setCardColour_38 : decode cX8_setCardColour 38 = .ok (.istore_n 3, 1) := by decide +kernel
theorem dX8_setCardColour_39 : decode cX8_setCardColour 39 = .ok (.aload_n 0, 1) := by decide +kernel
theorem dX8_setCardColour_40 : decode cX8_setCardColour 40 = .ok (.getfield 43, 3) := by decide +kernel
theorem dX8_setCardColour_43 : decode cX8_setCardColour 43 = .ok (.getfield 138, 3) := by decide +kernel
theorem dX8_setCardColour_46 : decode cX8_setCardColour 46 = .ok (.iload_n 1, 1) := by decide +kernel
theorem dX8_setCardColour_47 : decode cX8_setCardColour 47 = .ok (.iload_n 2, 1) := by decide +kernel
theorem dX8_setCardColour_48 : decode cX8_setCardColour 48 = .ok (.invokevirtual 307, 3) := by decide +kernel
theorem dX8_setCardColour_51 : decode cX8_setCardColour 51 = .ok (.iload_n 3, 1) := by decide +kernel
theorem dX8_setCardColour_52 : decode cX8_setCardColour 52 = .ok (.ireturn, 1) := by decide +kernel
theorem dX8_bringYarn_0 : decode cX8_bringYarn 0 = .ok (.aload_n 0, 1) := by decide +kernel
theorem dX8_bringYarn_1 : decode cX8_bringYarn 1 = .ok (.iload_n 1, 1) := by decide +kernel
theorem dX8_bringYarn_2 : decode cX8_bringYarn 2 = .ok (.invokevirtual 215, 3) := by decide +kernel
theorem dX8_bringYarn_5 : decode cX8_bringYarn 5 = .ok (.iload_n 2, 1) := by decide +kernel
theorem dX8_bringYarn_6 : decode cX8_bringYarn 6 = .ok (.iconst 1, 1) := by decide +kernel
theorem dX8_bringYarn_7 : decode cX8_bringYarn 7 = .ok (.sipush 999, 3) := by decide +kernel
theorem dX8_bringYarn_10 : decode cX8_bringYarn 10 = .ok (.invokestatic 291, 3) := by decide +kernel
theorem dX8_bringYarn_13 : decode cX8_bringYarn 13 = .ok (.aload_n 0, 1) := by decide +kernel
theorem dX8_bringYarn_14 : decode cX8_bringYarn 14 = .ok (.getfield 26, 3) := by decide +kernel
theorem dX8_bringYarn_17 : decode cX8_bringYarn 17 = .ok (.aload_n 0, 1) := by decide +kernel
theorem dX8_bringYarn_18 : decode cX8_bringYarn 18 = .ok (.getfield 43, 3) := by decide +kernel
theorem dX8_bringYarn_21 : decode cX8_bringYarn 21 = .ok (.getfield 138, 3) := by decide +kernel
theorem dX8_bringYarn_24 : decode cX8_bringYarn 24 = .ok (.invokevirtual 295, 3) := by decide +kernel
theorem dX8_bringYarn_27 : decode cX8_bringYarn 27 = .ok (.aload_n 0, 1) := by decide +kernel
theorem dX8_bringYarn_28 : decode cX8_bringYarn 28 = .ok (.getfield 43, 3) := by decide +kernel
theorem dX8_bringYarn_31 : decode cX8_bringYarn 31 = .ok (.getfield 138, 3) := by decide +kernel
theorem dX8_bringYarn_34 : decode cX8_bringYarn 34 = .ok (.iload_n 1, 1) := by decide +kernel
theorem dX8_bringYarn_35 : decode cX8_bringYarn 35 = .ok (.iload_n 2, 1) := by decide +kernel
theorem dX8_bringYarn_36 : decode cX8_bringYarn 36 = .ok (.invokevirtual 310, 3) := by decide +kernel
theorem dX8_bringYarn_39 : decode cX8_bringYarn 39 = .ok (.aload_n 0, 1) := by decide +kernel
theorem dX8_bringYarn_40 : decode cX8_bringYarn 40 = .ok (.getfield 43, 3) := by decide +kernel
theorem dX8_bringYarn_43 : decode cX8_bringYarn 43 = .ok (.getfield 138, 3) := by decide +kernel
theorem dX8_bringYarn_46 : decode cX8_bringYarn 46 = .ok (.getfield 242, 3) := by decide +kernel
theorem dX8_bringYarn_49 : decode cX8_bringYarn 49 = .ok (.iload_n 1, 1) := by decide +kernel
theorem dX8_bringYarn_50 : decode cX8_bringYarn 50 = .ok (.invokestatic 119, 3) := by decide +kernel
theorem dX8_bringYarn_53 : decode cX8_bringYarn 53 = .ok (.ireturn, 1) := by decide +kernel
theorem dX8_oil_0 : decode cX8_oil 0 = .ok (.aload_n 0, 1) := by decide +kernel
theorem dX8_oil_1 : decode cX8_oil 1 = .ok (.iload_n 1, 1) := by decide +kernel
theorem dX8_oil_2 : decode cX8_oil 2 = .ok (.invokevirtual 126, 3) := by decide +kernel
theorem dX8_oil_5 : decode cX8_oil 5 = .ok (.aload_n 0, 1) := by decide +kernel
theorem dX8_oil_6 : decode cX8_oil 6 = .ok (.getfield 26, 3) := by decide +kernel
theorem dX8_oil_9 : decode cX8_oil 9 = .ok (.aload_n 0, 1) := by decide +kernel
theorem dX8_oil_10 : decode cX8_oil 10 = .ok (.getfield 43, 3) := by decide +kernel
theorem dX8_oil_13 : decode cX8_oil 13 = .ok (.getfield 138, 3) := by decide +kernel
theorem dX8_oil_16 : decode cX8_oil 16 = .ok (.invokevirtual 295, 3) := by decide +kernel
theorem dX8_oil_19 : decode cX8_oil 19 = .ok (.aload_n 0, 1) := by decide +kernel
theorem dX8_oil_20 : decode cX8_oil 20 = .ok (.getfield 43, 3) := by decide +kernel
theorem dX8_oil_23 : decode cX8_oil 23 = .ok (.getfield 138, 3) := by decide +kernel
theorem dX8_oil_26 : decode cX8_oil 26 = .ok (.getfield 154, 3) := by decide +kernel
theorem dX8_oil_29 : decode cX8_oil 29 = .ok (.iload_n 1, 1) := by decide +kernel
theorem dX8_oil_30 : decode cX8_oil 30 = .ok (.invokestatic 119, 3) := by decide +kernel
theorem dX8_oil_33 : decode cX8_oil 33 = .ok (.istore_n 2, 1) := by decide +kernel
theorem dX8_oil_34 : decode cX8_oil 34 = .ok (.aload_n 0, 1) := by decide +kernel
theorem dX8_oil_35 : decode cX8_oil 35 = .ok (.getfield 43, 3) := by decide +kernel
theorem dX8_oil_38 : decode cX8_oil 38 = .ok (.getfield 138, 3) := by decide +kernel
theorem dX8_oil_41 : decode cX8_oil 41 = .ok (.iload_n 1, 1) := by decide +kernel
theorem dX8_oil_42 : decode cX8_oil 42 = .ok (.invokevirtual 313, 3) := by decide +kernel
theorem dX8_oil_45 : decode cX8_oil 45 = .ok (.iload_n 2, 1) := by decide +kernel
theorem dX8_oil_46 : decode cX8_oil 46 = .ok (.ireturn, 1) := by decide +kernel
theorem dX8_undoCount_0 : decode cX8_undoCount 0 = .ok (.aload_n 0, 1) := by decide +kernel
theorem dX8_undoCount_1 : decode cX8_undoCount 1 = .ok (.getfield 26, 3) := by decide +kernel
theorem dX8_undoCount_4 : decode cX8_undoCount 4 = .ok (.getfield 330, 3) := by decide +kernel
theorem dX8_undoCount_7 : decode cX8_undoCount 7 = .ok (.ireturn, 1) := by decide +kernel
theorem dX8_saveState_0 : decode cX8_saveState 0 = .ok (.aload_n 0, 1) := by decide +kernel
theorem dX8_saveState_1 : decode cX8_saveState 1 = .ok (.invokevirtual 103, 3) := by decide +kernel
theorem dX8_saveState_4 : decode cX8_saveState 4 = .ok (.iload_n 1, 1) := by decide +kernel
theorem dX8_saveState_5 : decode cX8_saveState 5 = .ok (.iconst 2, 1) := by decide +kernel
theorem dX8_saveState_6 : decode cX8_saveState 6 = .ok (.invokestatic 175, 3) := by decide +kernel
theorem dX8_saveState_9 : decode cX8_saveState 9 = .ok (.iload_n 1, 1) := by decide +kernel
theorem dX8_saveState_10 : decode cX8_saveState 10 = .ok (.ifCond .ne 10, 3) := by decide +kernel
theorem dX8_saveState_13 : decode cX8_saveState 13 = .ok (.aload_n 0, 1) := by decide +kernel
theorem dX8_saveState_14 : decode cX8_saveState 14 = .ok (.getfield 33, 3) := by decide +kernel
theorem dX8_saveState_17 : decode cX8_saveState 17 = .ok (.goto 7, 3) := by decide +kernel
theorem dX8_saveState_20 : decode cX8_saveState 20 = .ok (.aload_n 0, 1) := by decide +kernel
theorem dX8_saveState_21 : decode cX8_saveState 21 = .ok (.getfield 37, 3) := by decide +kernel
theorem dX8_saveState_24 : decode cX8_saveState 24 = .ok (.astore_n 2, 1) := by decide +kernel
theorem dX8_saveState_25 : decode cX8_saveState 25 = .ok (.aload_n 2, 1) := by decide +kernel
theorem dX8_saveState_26 : decode cX8_saveState 26 = .ok (.getfield 333, 3) := by decide +kernel
theorem dX8_saveState_29 : decode cX8_saveState 29 = .ok (.aload_n 0, 1) := by decide +kernel
theorem dX8_saveState_30 : decode cX8_saveState 30 = .ok (.getfield 43, 3) := by decide +kernel
theorem dX8_saveState_33 : decode cX8_saveState 33 = .ok (.getfield 138, 3) := by decide +kernel
theorem dX8_saveState_36 : decode cX8_saveState 36 = .ok (.invokevirtual 258, 3) := by decide +kernel
theorem dX8_saveState_39 : decode cX8_saveState 39 = .ok (.aload_n 2, 1) := by decide +kernel
theorem dX8_saveState_40 : decode cX8_saveState 40 = .ok (.iconst 1, 1) := by decide +kernel
theorem dX8_saveState_41 : decode cX8_saveState 41 = .ok (.putfield 85, 3) := by decide +kernel
theorem dX8_saveState_44 : decode cX8_saveState 44 = .ok (.aload_n 0, 1) := by decide +kernel
theorem dX8_saveState_45 : decode cX8_saveState 45 = .ok (.getfield 43, 3) := by decide +kernel
theorem dX8_saveState_48 : decode cX8_saveState 48 = .ok (.getfield 138, 3) := by decide +kernel
theorem dX8_saveState_51 : decode cX8_saveState 51 = .ok (.getfield 196, 3) := by decide +kernel
theorem dX8_saveState_54 : decode cX8_saveState 54 = .ok (.ireturn, 1) := by decide +kernel
theorem dX8_restoreState_0 : decode cX8_restoreState 0 = .ok (.iload_n 1, 1) := by decide +kernel
theorem dX8_restoreState_1 : decode cX8_restoreState 1 = .ok (.iconst 2, 1) := by decide +kernel
theorem dX8_restoreState_2 : decode cX8_restoreState 2 = .ok (.invokestatic 175, 3) := by decide +kernel
theorem dX8_restoreState_5 : decode cX8_restoreState 5 = .ok (.iload_n 1, 1) := by decide +kernel
theorem dX8_restoreState_6 : decode cX8_restoreState 6 = .ok (.ifCond .ne 10, 3) := by decide +kernel
theorem dX8_restoreState_9 : decode cX8_restoreState 9 = .ok (.aload_n 0, 1) := by decide +kernel
theorem dX8_restoreState_10 : decode cX8_restoreState 10 = .ok (.getfield 33, 3) := by decide +kernel
theorem dX8_restoreState_13 : decode cX8_restoreState 13 = .ok (.goto 7, 3) := by decide +kernel
theorem dX8_restoreState_16 : decode cX8_restoreState 16 = .ok (.aload_n 0, 1) := by decide +kernel
theorem dX8_restoreState_17 : decode cX8_restoreState 17 = .ok (.getfield 37, 3) := by decide +kernel
theorem dX8_restoreState_20 : decode cX8_restoreState 20 = .ok (.astore_n 2, 1) := by decide +kernel
theorem dX8_restoreState_21 : decode cX8_restoreState 21 = .ok (.aload_n 2, 1) := by decide +kernel
theorem dX8_restoreState_22 : decode cX8_restoreState 22 = .ok (.getfield 85, 3) := by decide +kernel
theorem dX8_restoreState_25 : decode cX8_restoreState 25 = .ok (.ifCond .ne 14, 3) := by decide +kernel
theorem dX8_restoreState_28 : decode cX8_restoreState 28 = .ok (.new 325, 3) := by decide +kernel
theorem dX8_restoreState_31 : decode cX8_restoreState 31 = .ok (.dup, 1) := by decide +kernel
theorem dX8_restoreState_32 : decode cX8_restoreState 32 = .ok (.ldc_w 336, 3) := by decide +kernel
theorem dX8_restoreState_35 : decode cX8_restoreState 35 = .ok (.invokespecial 329, 3) := by decide +kernel
theorem dX8_restoreState_38 : decode cX8_restoreState 38 = .ok (.athrow, 1) := by decide +kernel
theorem dX8_restoreState_39 : decode cX8_restoreState 39 = .ok (.aload_n 0, 1) := by decide +kernel
theorem dX8_restoreState_40 : decode cX8_restoreState 40 = .ok (.getfield 43, 3) := by decide +kernel
theorem dX8_restoreState_43 : decode cX8_restoreState 43 = .ok (.getfield 138, 3) := by decide +kernel
theorem dX8_restoreState_46 : decode cX8_restoreState 46 = .ok (.aload_n 2, 1) := by decide +kernel
theorem dX8_restoreState_47 : decode cX8_restoreState 47 = .ok (.getfield 333, 3) := by decide +kernel
theorem dX8_restoreState_50 : decode cX8_restoreState 50 = .ok (.invokevirtual 258, 3) := by decide +kernel
theorem dX8_restoreState_53 : decode cX8_restoreState 53 = .ok (.aload_n 0, 1) := by decide +kernel
theorem dX8_restoreState_54 : decode cX8_restoreState 54 = .ok (.getfield 26, 3) := by decide +kernel
theorem dX8_restoreState_57 : decode cX8_restoreState 57 = .ok (.invokevirtual 82, 3) := by decide +kernel
theorem dX8_restoreState_60 : decode cX8_restoreState 60 = .ok (.aload_n 0, 1) := by decide +kernel
theorem dX8_restoreState_61 : decode cX8_restoreState 61 = .ok (.getfield 43, 3) := by decide +kernel
theorem dX8_restoreState_64 : decode cX8_restoreState 64 = .ok (.getfield 138, 3) := by decide +kernel
theorem dX8_restoreState_67 : decode cX8_restoreState 67 = .ok (.getfield 196, 3) := by decide +kernel
theorem dX8_restoreState_70 : decode cX8_restoreState 70 = .ok (.ireturn, 1) := by decide +kernel
theorem dX8_requireLoaded_0 : decode cX8_requireLoaded 0 = .ok (.aload_n 0, 1) := by decide +kernel
theorem dX8_requireLoaded_1 : decode cX8_requireLoaded 1 = .ok (.getfield 47, 3) := by decide +kernel
theorem dX8_requireLoaded_4 : decode cX8_requireLoaded 4 = .ok (.ifCond .ne 14, 3) := by decide +kernel
theorem dX8_requireLoaded_7 : decode cX8_requireLoaded 7 = .ok (.new 325, 3) := by decide +kernel
theorem dX8_requireLoaded_10 : decode cX8_requireLoaded 10 = .ok (.dup, 1) := by decide +kernel
theorem dX8_requireLoaded_11 : decode cX8_requireLoaded 11 = .ok (.ldc_w 338, 3) := by decide +kernel
theorem dX8_requireLoaded_14 : decode cX8_requireLoaded 14 = .ok (.invokespecial 329, 3) := by decide +kernel
theorem dX8_requireLoaded_17 : decode cX8_requireLoaded 17 = .ok (.athrow, 1) := by decide +kernel
theorem dX8_requireLoaded_18 : decode cX8_requireLoaded 18 = .ok (.return_, 1) := by decide +kernel
theorem dX8_requireWarp_0 : decode cX8_requireWarp 0 = .ok (.aload_n 0, 1) := by decide +kernel
theorem dX8_requireWarp_1 : decode cX8_requireWarp 1 = .ok (.invokevirtual 103, 3) := by decide +kernel
theorem dX8_requireWarp_4 : decode cX8_requireWarp 4 = .ok (.iload_n 1, 1) := by decide +kernel
theorem dX8_requireWarp_5 : decode cX8_requireWarp 5 = .ok (.aload_n 0, 1) := by decide +kernel
theorem dX8_requireWarp_6 : decode cX8_requireWarp 6 = .ok (.getfield 43, 3) := by decide +kernel
theorem dX8_requireWarp_9 : decode cX8_requireWarp 9 = .ok (.getfield 109, 3) := by decide +kernel
theorem dX8_requireWarp_12 : decode cX8_requireWarp 12 = .ok (.invokestatic 175, 3) := by decide +kernel
theorem dX8_requireWarp_15 : decode cX8_requireWarp 15 = .ok (.return_, 1) := by decide +kernel
theorem dX8_requireHarness_0 : decode cX8_requireHarness 0 = .ok (.aload_n 0, 1) := by decide +kernel
theorem dX8_requireHarness_1 : decode cX8_requireHarness 1 = .ok (.invokevirtual 103, 3) := by decide +kernel
theorem dX8_requireHarness_4 : decode cX8_requireHarness 4 = .ok (.iload_n 1, 1) := by decide +kernel
theorem dX8_requireHarness_5 : decode cX8_requireHarness 5 = .ok (.aload_n 0, 1) := by decide +kernel
theorem dX8_requireHarness_6 : decode cX8_requireHarness 6 = .ok (.getfield 43, 3) := by decide +kernel
theorem dX8_requireHarness_9 : decode cX8_requireHarness 9 = .ok (.getfield 106, 3) := by decide +kernel
theorem dX8_requireHarness_12 : decode cX8_requireHarness 12 = .ok (.invokestatic 175, 3) := by decide +kernel
theorem dX8_requireHarness_15 : decode cX8_requireHarness 15 = .ok (.return_, 1) := by decide +kernel
theorem dX8_requireCard_0 : decode cX8_requireCard 0 = .ok (.aload_n 0, 1) := by decide +kernel
theorem dX8_requireCard_1 : decode cX8_requireCard 1 = .ok (.invokevirtual 103, 3) := by decide +kernel
theorem dX8_requireCard_4 : decode cX8_requireCard 4 = .ok (.iload_n 1, 1) := by decide +kernel
theorem dX8_requireCard_5 : decode cX8_requireCard 5 = .ok (.aload_n 0, 1) := by decide +kernel
theorem dX8_requireCard_6 : decode cX8_requireCard 6 = .ok (.getfield 43, 3) := by decide +kernel
theorem dX8_requireCard_9 : decode cX8_requireCard 9 = .ok (.getfield 160, 3) := by decide +kernel
theorem dX8_requireCard_12 : decode cX8_requireCard 12 = .ok (.invokestatic 175, 3) := by decide +kernel
theorem dX8_requireCard_15 : decode cX8_requireCard 15 = .ok (.return_, 1) := by decide +kernel
theorem dX8_requireRow_0 : decode cX8_requireRow 0 = .ok (.aload_n 0, 1) := by decide +kernel
theorem dX8_requireRow_1 : decode cX8_requireRow 1 = .ok (.invokevirtual 103, 3) := by decide +kernel
theorem dX8_requireRow_4 : decode cX8_requireRow 4 = .ok (.iload_n 1, 1) := by decide +kernel
theorem dX8_requireRow_5 : decode cX8_requireRow 5 = .ok (.aload_n 0, 1) := by decide +kernel
theorem dX8_requireRow_6 : decode cX8_requireRow 6 = .ok (.getfield 43, 3) := by decide +kernel
theorem dX8_requireRow_9 : decode cX8_requireRow 9 = .ok (.getfield 138, 3) := by decide +kernel
theorem dX8_requireRow_12 : decode cX8_requireRow 12 = .ok (.getfield 196, 3) := by decide +kernel
theorem dX8_requireRow_15 : decode cX8_requireRow 15 = .ok (.invokestatic 175, 3) := by decide +kernel
theorem dX8_requireRow_18 : decode cX8_requireRow 18 = .ok (.return_, 1) := by decide +kernel
theorem dX8_requireColour_0 : decode cX8_requireColour 0 = .ok (.aload_n 0, 1) := by decide +kernel
theorem dX8_requireColour_1 : decode cX8_requireColour 1 = .ok (.invokevirtual 103, 3) := by decide +kernel
theorem dX8_requireColour_4 : decode cX8_requireColour 4 = .ok (.iload_n 1, 1) := by decide +kernel
theorem dX8_requireColour_5 : decode cX8_requireColour 5 = .ok (.iconst 0, 1) := by decide +kernel
theorem dX8_requireColour_6 : decode cX8_requireColour 6 = .ok (.iconst 5, 1) := by decide +kernel
theorem dX8_requireColour_7 : decode cX8_requireColour 7 = .ok (.invokestatic 291, 3) := by decide +kernel
theorem dX8_requireColour_10 : decode cX8_requireColour 10 = .ok (.return_, 1) := by decide +kernel
theorem dX8_requireIndex_0 : decode cX8_requireIndex 0 = .ok (.iload_n 0, 1) := by decide +kernel
theorem dX8_requireIndex_1 : decode cX8_requireIndex 1 = .ok (.ifCond .lt 8, 3) := by decide +kernel
theorem dX8_requireIndex_4 : decode cX8_requireIndex 4 = .ok (.iload_n 0, 1) := by decide +kernel
theorem dX8_requireIndex_5 : decode cX8_requireIndex 5 = .ok (.iload_n 1, 1) := by decide +kernel
theorem dX8_requireIndex_6 : decode cX8_requireIndex 6 = .ok (.if_icmp .lt 14, 3) := by decide +kernel
theorem dX8_requireIndex_9 : decode cX8_requireIndex 9 = .ok (.new 65, 3) := by decide +kernel
theorem dX8_requireIndex_12 : decode cX8_requireIndex 12 = .ok (.dup, 1) := by decide +kernel
theorem dX8_requireIndex_13 : decode cX8_requireIndex 13 = .ok (.ldc_w 340, 3) := by decide +kernel
theorem dX8_requireIndex_16 : decode cX8_requireIndex 16 = .ok (.invokespecial 69, 3) := by decide +kernel
theorem dX8_requireIndex_19 : decode cX8_requireIndex 19 = .ok (.athrow, 1) := by decide +kernel
theorem dX8_requireIndex_20 : decode cX8_requireIndex 20 = .ok (.return_, 1) := by decide +kernel
theorem dX8_requireRange_0 : decode cX8_requireRange 0 = .ok (.iload_n 0, 1) := by decide +kernel
theorem dX8_requireRange_1 : decode cX8_requireRange 1 = .ok (.iload_n 1, 1) := by decide +kernel
theorem dX8_requireRange_2 : decode cX8_requireRange 2 = .ok (.if_icmp .lt 8, 3) := by decide +kernel
theorem dX8_requireRange_5 : decode cX8_requireRange 5 = .ok (.iload_n 0, 1) := by decide +kernel
theorem dX8_requireRange_6 : decode cX8_requireRange 6 = .ok (.iload_n 2, 1) := by decide +kernel
theorem dX8_requireRange_7 : decode cX8_requireRange 7 = .ok (.if_icmp .le 14, 3) := by decide +kernel
theorem dX8_requireRange_10 : decode cX8_requireRange 10 = .ok (.new 76, 3) := by decide +kernel
theorem dX8_requireRange_13 : decode cX8_requireRange 13 = .ok (.dup, 1) := by decide +kernel
theorem dX8_requireRange_14 : decode cX8_requireRange 14 = .ok (.ldc_w 342, 3) := by decide +kernel
theorem dX8_requireRange_17 : decode cX8_requireRange 17 = .ok (.invokespecial 80, 3) := by decide +kernel
theorem dX8_requireRange_20 : decode cX8_requireRange 20 = .ok (.athrow, 1) := by decide +kernel
theorem dX8_requireRange_21 : decode cX8_requireRange 21 = .ok (.return_, 1) := by decide +kernel
theorem dX8_at_0 : decode cX8_at 0 = .ok (.iload_n 1, 1) := by decide +kernel
theorem dX8_at_1 : decode cX8_at 1 = .ok (.ifCond .lt 15, 3) := by decide +kernel
theorem dX8_at_4 : decode cX8_at 4 = .ok (.iload_n 1, 1) := by decide +kernel
theorem dX8_at_5 : decode cX8_at 5 = .ok (.aload_n 0, 1) := by decide +kernel
theorem dX8_at_6 : decode cX8_at 6 = .ok (.arraylength, 1) := by decide +kernel
theorem dX8_at_7 : decode cX8_at 7 = .ok (.if_icmp .ge 9, 3) := by decide +kernel
theorem dX8_at_10 : decode cX8_at 10 = .ok (.aload_n 0, 1) := by decide +kernel
theorem dX8_at_11 : decode cX8_at 11 = .ok (.iload_n 1, 1) := by decide +kernel
theorem dX8_at_12 : decode cX8_at 12 = .ok (.iaload, 1) := by decide +kernel
theorem dX8_at_13 : decode cX8_at 13 = .ok (.goto 4, 3) := by decide +kernel
theorem dX8_at_16 : decode cX8_at 16 = .ok (.iconst 0, 1) := by decide +kernel
theorem dX8_at_17 : decode cX8_at 17 = .ok (.ireturn, 1) := by decide +kernel
theorem dX8_put_0 : decode cX8_put 0 = .ok (.iload_n 1, 1) := by decide +kernel
theorem dX8_put_1 : decode cX8_put 1 = .ok (.ifCond .lt 13, 3) := by decide +kernel
theorem dX8_put_4 : decode cX8_put 4 = .ok (.iload_n 1, 1) := by decide +kernel
theorem dX8_put_5 : decode cX8_put 5 = .ok (.aload_n 0, 1) := by decide +kernel
theorem dX8_put_6 : decode cX8_put 6 = .ok (.arraylength, 1) := by decide +kernel
theorem dX8_put_7 : decode cX8_put 7 = .ok (.if_icmp .ge 7, 3) := by decide +kernel
theorem dX8_put_10 : decode cX8_put 10 = .ok (.aload_n 0, 1) := by decide +kernel
theorem dX8_put_11 : decode cX8_put 11 = .ok (.iload_n 1, 1) := by decide +kernel
theorem dX8_put_12 : decode cX8_put 12 = .ok (.iload_n 2, 1) := by decide +kernel
theorem dX8_put_13 : decode cX8_put 13 = .ok (.iastore, 1) := by decide +kernel
theorem dX8_put_14 : decode cX8_put 14 = .ok (.return_, 1) := by decide +kernel
theorem dX8_copy_0 : decode cX8_copy 0 = .ok (.aload_n 0, 1) := by decide +kernel
theorem dX8_copy_1 : decode cX8_copy 1 = .ok (.iconst 0, 1) := by decide +kernel
theorem dX8_copy_2 : decode cX8_copy 2 = .ok (.aload_n 1, 1) := by decide +kernel
theorem dX8_copy_3 : decode cX8_copy 3 = .ok (.iconst 0, 1) := by decide +kernel
theorem dX8_copy_4 : decode cX8_copy 4 = .ok (.aload_n 0, 1) := by decide +kernel
theorem dX8_copy_5 : decode cX8_copy 5 = .ok (.arraylength, 1) := by decide +kernel
theorem dX8_copy_6 : decode cX8_copy 6 = .ok (.aload_n 1, 1) := by decide +kernel
theorem dX8_copy_7 : decode cX8_copy 7 = .ok (.arraylength, 1) := by decide +kernel
theorem dX8_copy_8 : decode cX8_copy 8 = .ok (.invokestatic 344, 3) := by decide +kernel
theorem dX8_copy_11 : decode cX8_copy 11 = .ok (.invokestatic 347, 3) := by decide +kernel
theorem dX8_copy_14 : decode cX8_copy 14 = .ok (.return_, 1) := by decide +kernel
theorem dX8_has_0 : decode cX8_has 0 = .ok (.iload_n 0, 1) := by decide +kernel
theorem dX8_has_1 : decode cX8_has 1 = .ok (.iload_n 1, 1) := by decide +kernel
theorem dX8_has_2 : decode cX8_has 2 = .ok (.ishr, 1) := by decide +kernel
theorem dX8_has_3 : decode cX8_has 3 = .ok (.iconst 1, 1) := by decide +kernel
theorem dX8_has_4 : decode cX8_has 4 = .ok (.iand, 1) := by decide +kernel
theorem dX8_has_5 : decode cX8_has 5 = .ok (.ifCond .eq 7, 3) := by decide +kernel
theorem dX8_has_8 : decode cX8_has 8 = .ok (.iconst 1, 1) := by decide +kernel
theorem dX8_has_9 : decode cX8_has 9 = .ok (.goto 4, 3) := by decide +kernel
theorem dX8_has_12 : decode cX8_has 12 = .ok (.iconst 0, 1) := by decide +kernel
theorem dX8_has_13 : decode cX8_has 13 = .ok (.ireturn, 1) := by decide +kernel
