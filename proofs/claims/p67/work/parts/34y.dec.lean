theorem dL_isAnyStuck_0 : decode cL_isAnyStuck 0 = .ok (.iconst 0, 1) := by decide +kernel
theorem dL_isAnyStuck_1 : decode cL_isAnyStuck 1 = .ok (.istore_n 1, 1) := by decide +kernel
theorem dL_isAnyStuck_2 : decode cL_isAnyStuck 2 = .ok (.iload_n 1, 1) := by decide +kernel
theorem dL_isAnyStuck_3 : decode cL_isAnyStuck 3 = .ok (.aload_n 0, 1) := by decide +kernel
theorem dL_isAnyStuck_4 : decode cL_isAnyStuck 4 = .ok (.invokevirtual 198, 3) := by decide +kernel
theorem dL_isAnyStuck_7 : decode cL_isAnyStuck 7 = .ok (.if_icmp .ge 19, 3) := by decide +kernel
theorem dL_isAnyStuck_10 : decode cL_isAnyStuck 10 = .ok (.aload_n 0, 1) := by decide +kernel
theorem dL_isAnyStuck_11 : decode cL_isAnyStuck 11 = .ok (.iload_n 1, 1) := by decide +kernel
theorem dL_isAnyStuck_12 : decode cL_isAnyStuck 12 = .ok (.invokevirtual 158, 3) := by decide +kernel
theorem dL_isAnyStuck_15 : decode cL_isAnyStuck 15 = .ok (.ifCond .eq 5, 3) := by decide +kernel
theorem dL_isAnyStuck_18 : decode cL_isAnyStuck 18 = .ok (.iconst 1, 1) := by decide +kernel
theorem dL_isAnyStuck_19 : decode cL_isAnyStuck 19 = .ok (.ireturn, 1) := by decide +kernel
theorem dL_isAnyStuck_20 : decode cL_isAnyStuck 20 = .ok (.iinc 1 1, 3) := by decide +kernel
theorem dL_isAnyStuck_23 : decode cL_isAnyStuck 23 = .ok (.goto (-21), 3) := by decide +kernel
theorem dL_isAnyStuck_26 : decode cL_isAnyStuck 26 = .ok (.iconst 0, 1) := by decide +kernel
theorem dL_isAnyStuck_27 : decode cL_isAnyStuck 27 = .ok (.ireturn, 1) := by decide +kernel
theorem dL_isWhole_0 : decode cL_isWhole 0 = .ok (.iconst 0, 1) := by decide +kernel
theorem dL_isWhole_1 : decode cL_isWhole 1 = .ok (.istore_n 1, 1) := by decide +kernel
theorem dL_isWhole_2 : decode cL_isWhole 2 = .ok (.iconst 0, 1) := by decide +kernel
theorem dL_isWhole_3 : decode cL_isWhole 3 = .ok (.istore_n 2, 1) := by decide +kernel
theorem dL_isWhole_4 : decode cL_isWhole 4 = .ok (.iload_n 2, 1) := by decide +kernel
theorem dL_isWhole_5 : decode cL_isWhole 5 = .ok (.bipush 6, 2) := by decide +kernel
theorem dL_isWhole_7 : decode cL_isWhole 7 = .ok (.if_icmp .ge 17, 3) := by decide +kernel
theorem dL_isWhole_10 : decode cL_isWhole 10 = .ok (.iload_n 1, 1) := by decide +kernel
theorem dL_isWhole_11 : decode cL_isWhole 11 = .ok (.aload_n 0, 1) := by decide +kernel
theorem dL_isWhole_12 : decode cL_isWhole 12 = .ok (.iload_n 2, 1) := by decide +kernel
theorem dL_isWhole_13 : decode cL_isWhole 13 = .ok (.invokevirtual 289, 3) := by decide +kernel
theorem dL_isWhole_16 : decode cL_isWhole 16 = .ok (.iadd, 1) := by decide +kernel
theorem dL_isWhole_17 : decode cL_isWhole 17 = .ok (.istore_n 1, 1) := by decide +kernel
theorem dL_isWhole_18 : decode cL_isWhole 18 = .ok (.iinc 2 1, 3) := by decide +kernel
theorem dL_isWhole_21 : decode cL_isWhole 21 = .ok (.goto (-17), 3) := by decide +kernel
theorem dL_isWhole_24 : decode cL_isWhole 24 = .ok (.aload_n 0, 1) := by decide +kernel
theorem dL_isWhole_25 : decode cL_isWhole 25 = .ok (.invokevirtual 292, 3) := by decide +kernel
theorem dL_isWhole_28 : decode cL_isWhole 28 = .ok (.istore_n 2, 1) := by decide +kernel
theorem dL_isWhole_29 : decode cL_isWhole 29 = .ok (.iload_n 1, 1) := by decide +kernel
theorem dL_isWhole_30 : decode cL_isWhole 30 = .ok (.aload_n 0, 1) := by decide +kernel
theorem dL_isWhole_31 : decode cL_isWhole 31 = .ok (.invokevirtual 195, 3) := by decide +kernel
theorem dL_isWhole_34 : decode cL_isWhole 34 = .ok (.aload_n 0, 1) := by decide +kernel
theorem dL_isWhole_35 : decode cL_isWhole 35 = .ok (.invokevirtual 201, 3) := by decide +kernel
theorem dL_isWhole_38 : decode cL_isWhole 38 = .ok (.imul, 1) := by decide +kernel
theorem dL_isWhole_39 : decode cL_isWhole 39 = .ok (.if_icmp .ne 39, 3) := by decide +kernel
theorem dL_isWhole_42 : decode cL_isWhole 42 = .ok (.iload_n 2, 1) := by decide +kernel
theorem dL_isWhole_43 : decode cL_isWhole 43 = .ok (.ifCond .ge 7, 3) := by decide +kernel
theorem dL_isWhole_46 : decode cL_isWhole 46 = .ok (.iconst 1, 1) := by decide +kernel
theorem dL_isWhole_47 : decode cL_isWhole 47 = .ok (.goto 4, 3) := by decide +kernel
theorem dL_isWhole_50 : decode cL_isWhole 50 = .ok (.iconst 0, 1) := by decide +kernel
theorem dL_isWhole_51 : decode cL_isWhole 51 = .ok (.aload_n 0, 1) := by decide +kernel
theorem dL_isWhole_52 : decode cL_isWhole 52 = .ok (.invokevirtual 295, 3) := by decide +kernel
theorem dL_isWhole_55 : decode cL_isWhole 55 = .ok (.ifCond .ne 7, 3) := by decide +kernel
theorem dL_isWhole_58 : decode cL_isWhole 58 = .ok (.iconst 1, 1) := by decide +kernel
theorem dL_isWhole_59 : decode cL_isWhole 59 = .ok (.goto 4, 3) := by decide +kernel
theorem dL_isWhole_62 : decode cL_isWhole 62 = .ok (.iconst 0, 1) := by decide +kernel
theorem dL_isWhole_63 : decode cL_isWhole 63 = .ok (.if_icmp .ne 15, 3) := by decide +kernel
theorem dL_isWhole_66 : decode cL_isWhole 66 = .ok (.iload_n 2, 1) := by decide +kernel
theorem dL_isWhole_67 : decode cL_isWhole 67 = .ok (.ifCond .ge 13, 3) := by decide +kernel
theorem dL_isWhole_70 : decode cL_isWhole 70 = .ok (.aload_n 0, 1) := by decide +kernel
theorem dL_isWhole_71 : decode cL_isWhole 71 = .ok (.invokevirtual 298, 3) := by decide +kernel
theorem dL_isWhole_74 : decode cL_isWhole 74 = .ok (.iconst (-1), 1) := by decide +kernel
theorem dL_isWhole_75 : decode cL_isWhole 75 = .ok (.if_icmp .eq 5, 3) := by decide +kernel
theorem dL_isWhole_78 : decode cL_isWhole 78 = .ok (.iconst 0, 1) := by decide +kernel
theorem dL_isWhole_79 : decode cL_isWhole 79 = .ok (.ireturn, 1) := by decide +kernel
theorem dL_isWhole_80 : decode cL_isWhole 80 = .ok (.aload_n 0, 1) := by decide +kernel
theorem dL_isWhole_81 : decode cL_isWhole 81 = .ok (.invokevirtual 298, 3) := by decide +kernel
theorem dL_isWhole_84 : decode cL_isWhole 84 = .ok (.aload_n 0, 1) := by decide +kernel
theorem dL_isWhole_85 : decode cL_isWhole 85 = .ok (.invokevirtual 301, 3) := by decide +kernel
theorem dL_isWhole_88 : decode cL_isWhole 88 = .ok (.if_icmp .lt 11, 3) := by decide +kernel
theorem dL_isWhole_91 : decode cL_isWhole 91 = .ok (.aload_n 0, 1) := by decide +kernel
theorem dL_isWhole_92 : decode cL_isWhole 92 = .ok (.invokevirtual 298, 3) := by decide +kernel
theorem dL_isWhole_95 : decode cL_isWhole 95 = .ok (.iconst (-1), 1) := by decide +kernel
theorem dL_isWhole_96 : decode cL_isWhole 96 = .ok (.if_icmp .ne 14, 3) := by decide +kernel
theorem dL_isWhole_99 : decode cL_isWhole 99 = .ok (.aload_n 0, 1) := by decide +kernel
theorem dL_isWhole_100 : decode cL_isWhole 100 = .ok (.invokevirtual 304, 3) := by decide +kernel
theorem dL_isWhole_103 : decode cL_isWhole 103 = .ok (.aload_n 0, 1) := by decide +kernel
theorem dL_isWhole_104 : decode cL_isWhole 104 = .ok (.invokevirtual 195, 3) := by decide +kernel
theorem dL_isWhole_107 : decode cL_isWhole 107 = .ok (.if_icmp .le 5, 3) := by decide +kernel
theorem dL_isWhole_110 : decode cL_isWhole 110 = .ok (.iconst 0, 1) := by decide +kernel
theorem dL_isWhole_111 : decode cL_isWhole 111 = .ok (.ireturn, 1) := by decide +kernel
theorem dL_isWhole_112 : decode cL_isWhole 112 = .ok (.aload_n 0, 1) := by decide +kernel
theorem dL_isWhole_113 : decode cL_isWhole 113 = .ok (.invokevirtual 204, 3) := by decide +kernel
theorem dL_isWhole_116 : decode cL_isWhole 116 = .ok (.ifCond .ne 41, 3) := by decide +kernel
theorem dL_isWhole_119 : decode cL_isWhole 119 = .ok (.aload_n 0, 1) := by decide +kernel
theorem dL_isWhole_120 : decode cL_isWhole 120 = .ok (.invokevirtual 234, 3) := by decide +kernel
theorem dL_isWhole_123 : decode cL_isWhole 123 = .ok (.ifCond .lt 34, 3) := by decide +kernel
theorem dL_isWhole_126 : decode cL_isWhole 126 = .ok (.aload_n 0, 1) := by decide +kernel
theorem dL_isWhole_127 : decode cL_isWhole 127 = .ok (.invokevirtual 234, 3) := by decide +kernel
theorem dL_isWhole_130 : decode cL_isWhole 130 = .ok (.ifCond .ne 7, 3) := by decide +kernel
theorem dL_isWhole_133 : decode cL_isWhole 133 = .ok (.iconst 1, 1) := by decide +kernel
theorem dL_isWhole_134 : decode cL_isWhole 134 = .ok (.goto 4, 3) := by decide +kernel
theorem dL_isWhole_137 : decode cL_isWhole 137 = .ok (.iconst 0, 1) := by decide +kernel
theorem dL_isWhole_138 : decode cL_isWhole 138 = .ok (.aload_n 0, 1) := by decide +kernel
theorem dL_isWhole_139 : decode cL_isWhole 139 = .ok (.invokevirtual 268, 3) := by decide +kernel
theorem dL_isWhole_142 : decode cL_isWhole 142 = .ok (.ifCond .le 7, 3) := by decide +kernel
theorem dL_isWhole_145 : decode cL_isWhole 145 = .ok (.iconst 1, 1) := by decide +kernel
theorem dL_isWhole_146 : decode cL_isWhole 146 = .ok (.goto 4, 3) := by decide +kernel
theorem dL_isWhole_149 : decode cL_isWhole 149 = .ok (.iconst 0, 1) := by decide +kernel
theorem dL_isWhole_150 : decode cL_isWhole 150 = .ok (.if_icmp .ne 7, 3) := by decide +kernel
theorem dL_isWhole_153 : decode cL_isWhole 153 = .ok (.iconst 1, 1) := by decide +kernel
theorem dL_isWhole_154 : decode cL_isWhole 154 = .ok (.goto 4, 3) := by decide +kernel
theorem dL_isWhole_157 : decode cL_isWhole 157 = .ok (.iconst 0, 1) := by decide +kernel
theorem dL_isWhole_158 : decode cL_isWhole 158 = .ok (.ireturn, 1) := by decide +kernel
theorem dL_sees_0 : decode cL_sees 0 = .ok (.aload_n 1, 1) := by decide +kernel
theorem dL_sees_1 : decode cL_sees 1 = .ok (.lconst 0, 1) := by decide +kernel
theorem dL_sees_2 : decode cL_sees 2 = .ok (.invokestatic 307, 3) := by decide +kernel
theorem dL_sees_5 : decode cL_sees 5 = .ok (.aload_n 1, 1) := by decide +kernel
theorem dL_sees_6 : decode cL_sees 6 = .ok (.iconst 0, 1) := by decide +kernel
theorem dL_sees_7 : decode cL_sees 7 = .ok (.aload_n 0, 1) := by decide +kernel
theorem dL_sees_8 : decode cL_sees 8 = .ok (.invokevirtual 195, 3) := by decide +kernel
theorem dL_sees_11 : decode cL_sees 11 = .ok (.i2l, 1) := by decide +kernel
theorem dL_sees_12 : decode cL_sees 12 = .ok (.lastore, 1) := by decide +kernel
theorem dL_sees_13 : decode cL_sees 13 = .ok (.aload_n 1, 1) := by decide +kernel
theorem dL_sees_14 : decode cL_sees 14 = .ok (.iconst 1, 1) := by decide +kernel
theorem dL_sees_15 : decode cL_sees 15 = .ok (.aload_n 0, 1) := by decide +kernel
theorem dL_sees_16 : decode cL_sees 16 = .ok (.invokevirtual 311, 3) := by decide +kernel
theorem dL_sees_19 : decode cL_sees 19 = .ok (.i2l, 1) := by decide +kernel
theorem dL_sees_20 : decode cL_sees 20 = .ok (.lastore, 1) := by decide +kernel
theorem dL_sees_21 : decode cL_sees 21 = .ok (.iconst 0, 1) := by decide +kernel
theorem dL_sees_22 : decode cL_sees 22 = .ok (.istore_n 2, 1) := by decide +kernel
theorem dL_sees_23 : decode cL_sees 23 = .ok (.iload_n 2, 1) := by decide +kernel
theorem dL_sees_24 : decode cL_sees 24 = .ok (.bipush 6, 2) := by decide +kernel
theorem dL_sees_26 : decode cL_sees 26 = .ok (.if_icmp .ge 21, 3) := by decide +kernel
theorem dL_sees_29 : decode cL_sees 29 = .ok (.aload_n 1, 1) := by decide +kernel
theorem dL_sees_30 : decode cL_sees 30 = .ok (.bipush 10, 2) := by decide +kernel
theorem dL_sees_32 : decode cL_sees 32 = .ok (.iload_n 2, 1) := by decide +kernel
theorem dL_sees_33 : decode cL_sees 33 = .ok (.iadd, 1) := by decide +kernel
theorem dL_sees_34 : decode cL_sees 34 = .ok (.aload_n 0, 1) := by decide +kernel
theorem dL_sees_35 : decode cL_sees 35 = .ok (.iload_n 2, 1) := by decide +kernel
theorem dL_sees_36 : decode cL_sees 36 = .ok (.invokevirtual 173, 3) := by decide +kernel
theorem dL_sees_39 : decode cL_sees 39 = .ok (.i2l, 1) := by decide +kernel
theorem dL_sees_40 : decode cL_sees 40 = .ok (.lastore, 1) := by decide +kernel
theorem dL_sees_41 : decode cL_sees 41 = .ok (.iinc 2 1, 3) := by decide +kernel
theorem dL_sees_44 : decode cL_sees 44 = .ok (.goto (-21), 3) := by decide +kernel
theorem dL_sees_47 : decode cL_sees 47 = .ok (.iconst 0, 1) := by decide +kernel
theorem dL_sees_48 : decode cL_sees 48 = .ok (.istore_n 2, 1) := by decide +kernel
theorem dL_sees_49 : decode cL_sees 49 = .ok (.iload_n 2, 1) := by decide +kernel
theorem dL_sees_50 : decode cL_sees 50 = .ok (.aload_n 0, 1) := by decide +kernel
theorem dL_sees_51 : decode cL_sees 51 = .ok (.invokevirtual 314, 3) := by decide +kernel
theorem dL_sees_54 : decode cL_sees 54 = .ok (.if_icmp .ge 33, 3) := by decide +kernel
theorem dL_sees_57 : decode cL_sees 57 = .ok (.aload_n 1, 1) := by decide +kernel
theorem dL_sees_58 : decode cL_sees 58 = .ok (.bipush 20, 2) := by decide +kernel
theorem dL_sees_60 : decode cL_sees 60 = .ok (.iload_n 2, 1) := by decide +kernel
theorem dL_sees_61 : decode cL_sees 61 = .ok (.iadd, 1) := by decide +kernel
theorem dL_sees_62 : decode cL_sees 62 = .ok (.aload_n 0, 1) := by decide +kernel
theorem dL_sees_63 : decode cL_sees 63 = .ok (.iload_n 2, 1) := by decide +kernel
theorem dL_sees_64 : decode cL_sees 64 = .ok (.invokevirtual 166, 3) := by decide +kernel
theorem dL_sees_67 : decode cL_sees 67 = .ok (.i2l, 1) := by decide +kernel
theorem dL_sees_68 : decode cL_sees 68 = .ok (.lastore, 1) := by decide +kernel
theorem dL_sees_69 : decode cL_sees 69 = .ok (.aload_n 1, 1) := by decide +kernel
theorem dL_sees_70 : decode cL_sees 70 = .ok (.bipush 24, 2) := by decide +kernel
theorem dL_sees_72 : decode cL_sees 72 = .ok (.iload_n 2, 1) := by decide +kernel
theorem dL_sees_73 : decode cL_sees 73 = .ok (.iadd, 1) := by decide +kernel
theorem dL_sees_74 : decode cL_sees 74 = .ok (.aload_n 0, 1) := by decide +kernel
theorem dL_sees_75 : decode cL_sees 75 = .ok (.iload_n 2, 1) := by decide +kernel
theorem dL_sees_76 : decode cL_sees 76 = .ok (.invokevirtual 317, 3) := by decide +kernel
theorem dL_sees_79 : decode cL_sees 79 = .ok (.i2l, 1) := by decide +kernel
theorem dL_sees_80 : decode cL_sees 80 = .ok (.lastore, 1) := by decide +kernel
theorem dL_sees_81 : decode cL_sees 81 = .ok (.iinc 2 1, 3) := by decide +kernel
theorem dL_sees_84 : decode cL_sees 84 = .ok (.goto (-35), 3) := by decide +kernel
theorem dL_sees_87 : decode cL_sees 87 = .ok (.iconst 0, 1) := by decide +kernel
theorem dL_sees_88 : decode cL_sees 88 = .ok (.istore_n 2, 1) := by decide +kernel
theorem dL_sees_89 : decode cL_sees 89 = .ok (.iload_n 2, 1) := by decide +kernel
theorem dL_sees_90 : decode cL_sees 90 = .ok (.aload_n 0, 1) := by decide +kernel
theorem dL_sees_91 : decode cL_sees 91 = .ok (.invokevirtual 198, 3) := by decide +kernel
theorem dL_sees_94 : decode cL_sees 94 = .ok (.if_icmp .ge 55, 3) := by decide +kernel
theorem dL_sees_97 : decode cL_sees 97 = .ok (.aload_n 1, 1) := by decide +kernel
theorem dL_sees_98 : decode cL_sees 98 = .ok (.bipush 30, 2) := by decide +kernel
theorem dL_sees_100 : decode cL_sees 100 = .ok (.iload_n 2, 1) := by decide +kernel
theorem dL_sees_101 : decode cL_sees 101 = .ok (.iadd, 1) := by decide +kernel
theorem dL_sees_102 : decode cL_sees 102 = .ok (.ldc2_w 320, 3) := by decide +kernel
theorem dL_sees_105 : decode cL_sees 105 = .ok (.aload_n 0, 1) := by decide +kernel
theorem dL_sees_106 : decode cL_sees 106 = .ok (.iload_n 2, 1) := by decide +kernel
theorem dL_sees_107 : decode cL_sees 107 = .ok (.invokevirtual 161, 3) := by decide +kernel
theorem dL_sees_110 : decode cL_sees 110 = .ok (.i2l, 1) := by decide +kernel
theorem dL_sees_111 : decode cL_sees 111 = .ok (.lmul, 1) := by decide +kernel
theorem dL_sees_112 : decode cL_sees 112 = .ok (.aload_n 0, 1) := by decide +kernel
theorem dL_sees_113 : decode cL_sees 113 = .ok (.iload_n 2, 1) := by decide +kernel
theorem dL_sees_114 : decode cL_sees 114 = .ok (.invokevirtual 154, 3) := by decide +kernel
theorem dL_sees_117 : decode cL_sees 117 = .ok (.ifCond .eq 9, 3) := by decide +kernel
theorem dL_sees_120 : decode cL_sees 120 = .ok (.ldc2_w 322, 3) := by decide +kernel
theorem dL_sees_123 : decode cL_sees 123 = .ok (.goto 4, 3) := by decide +kernel
theorem dL_sees_126 : decode cL_sees 126 = .ok (.lconst 0, 1) := by decide +kernel
theorem dL_sees_127 : decode cL_sees 127 = .ok (.ladd, 1) := by decide +kernel
theorem dL_sees_128 : decode cL_sees 128 = .ok (.aload_n 0, 1) := by decide +kernel
theorem dL_sees_129 : decode cL_sees 129 = .ok (.iload_n 2, 1) := by decide +kernel
theorem dL_sees_130 : decode cL_sees 130 = .ok (.invokevirtual 158, 3) := by decide +kernel
theorem dL_sees_133 : decode cL_sees 133 = .ok (.ifCond .eq 7, 3) := by decide +kernel
theorem dL_sees_136 : decode cL_sees 136 = .ok (.lconst 1, 1) := by decide +kernel
theorem dL_sees_137 : decode cL_sees 137 = .ok (.goto 4, 3) := by decide +kernel
theorem dL_sees_140 : decode cL_sees 140 = .ok (.lconst 0, 1) := by decide +kernel
theorem dL_sees_141 : decode cL_sees 141 = .ok (.ladd, 1) := by decide +kernel
theorem dL_sees_142 : decode cL_sees 142 = .ok (.lastore, 1) := by decide +kernel
theorem dL_sees_143 : decode cL_sees 143 = .ok (.iinc 2 1, 3) := by decide +kernel
theorem dL_sees_146 : decode cL_sees 146 = .ok (.goto (-57), 3) := by decide +kernel
theorem dL_sees_149 : decode cL_sees 149 = .ok (.iconst 0, 1) := by decide +kernel
theorem dL_sees_150 : decode cL_sees 150 = .ok (.istore_n 2, 1) := by decide +kernel
theorem dL_sees_151 : decode cL_sees 151 = .ok (.iload_n 2, 1) := by decide +kernel
theorem dL_sees_152 : decode cL_sees 152 = .ok (.aload_n 0, 1) := by decide +kernel
theorem dL_sees_153 : decode cL_sees 153 = .ok (.invokevirtual 195, 3) := by decide +kernel
theorem dL_sees_156 : decode cL_sees 156 = .ok (.if_icmp .ge 64, 3) := by decide +kernel
theorem dL_sees_159 : decode cL_sees 159 = .ok (.iconst 0, 1) := by decide +kernel
theorem dL_sees_160 : decode cL_sees 160 = .ok (.istore_n 3, 1) := by decide +kernel
theorem dL_sees_161 : decode cL_sees 161 = .ok (.iload_n 3, 1) := by decide +kernel
theorem dL_sees_162 : decode cL_sees 162 = .ok (.aload_n 0, 1) := by decide +kernel
theorem dL_sees_163 : decode cL_sees 163 = .ok (.invokevirtual 201, 3) := by decide +kernel
theorem dL_sees_166 : decode cL_sees 166 = .ok (.if_icmp .ge 48, 3) := by decide +kernel
theorem dL_sees_169 : decode cL_sees 169 = .ok (.aload_n 1, 1) := by decide +kernel
theorem dL_sees_170 : decode cL_sees 170 = .ok (.bipush 40, 2) := by decide +kernel
theorem dL_sees_172 : decode cL_sees 172 = .ok (.ldc2_w 324, 3) := by decide +kernel
theorem dL_sees_175 : decode cL_sees 175 = .ok (.aload_n 1, 1) := by decide +kernel
theorem dL_sees_176 : decode cL_sees 176 = .ok (.bipush 40, 2) := by decide +kernel
theorem dL_sees_178 : decode cL_sees 178 = .ok (.laload, 1) := by decide +kernel
theorem dL_sees_179 : decode cL_sees 179 = .ok (.lmul, 1) := by decide +kernel
theorem dL_sees_180 : decode cL_sees 180 = .ok (.ldc2_w 322, 3) := by decide +kernel
theorem dL_sees_183 : decode cL_sees 183 = .ok (.aload_n 0, 1) := by decide +kernel
theorem dL_sees_184 : decode cL_sees 184 = .ok (.iload_n 2, 1) := by decide +kernel
theorem dL_sees_185 : decode cL_sees 185 = .ok (.iload_n 3, 1) := by decide +kernel
theorem dL_sees_186 : decode cL_sees 186 = .ok (.invokevirtual 184, 3) := by decide +kernel
theorem dL_sees_189 : decode cL_sees 189 = .ok (.i2l, 1) := by decide +kernel
theorem dL_sees_190 : decode cL_sees 190 = .ok (.lmul, 1) := by decide +kernel
theorem dL_sees_191 : decode cL_sees 191 = .ok (.ladd, 1) := by decide +kernel
theorem dL_sees_192 : decode cL_sees 192 = .ok (.aload_n 0, 1) := by decide +kernel
theorem dL_sees_193 : decode cL_sees 193 = .ok (.iload_n 2, 1) := by decide +kernel
theorem dL_sees_194 : decode cL_sees 194 = .ok (.iload_n 3, 1) := by decide +kernel
theorem dL_sees_195 : decode cL_sees 195 = .ok (.invokevirtual 192, 3) := by decide +kernel
theorem dL_sees_198 : decode cL_sees 198 = .ok (.ifCond .eq 7, 3) := by decide +kernel
theorem dL_sees_201 : decode cL_sees 201 = .ok (.lconst 1, 1) := by decide +kernel
theorem dL_sees_202 : decode cL_sees 202 = .ok (.goto 4, 3) := by decide +kernel
theorem dL_sees_205 : decode cL_sees 205 = .ok (.lconst 0, 1) := by decide +kernel
theorem dL_sees_206 : decode cL_sees 206 = .ok (.ladd, 1) := by decide +kernel
theorem dL_sees_207 : decode cL_sees 207 = .ok (.lastore, 1) := by decide +kernel
theorem dL_sees_208 : decode cL_sees 208 = .ok (.iinc 3 1, 3) := by decide +kernel
theorem dL_sees_211 : decode cL_sees 211 = .ok (.goto (-50), 3) := by decide +kernel
theorem dL_sees_214 : decode cL_sees 214 = .ok (.iinc 2 1, 3) := by decide +kernel
theorem dL_sees_217 : decode cL_sees 217 = .ok (.goto (-66), 3) := by decide +kernel
theorem dL_sees_220 : decode cL_sees 220 = .ok (.return_, 1) := by decide +kernel
