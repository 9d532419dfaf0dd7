theorem dL_bad_13 : decode cL_bad 13 = .ok (.iload 8, 2) := by decide +kernel
theorem dL_bad_15 : decode cL_bad 15 = .ok (.aload_n 1, 1) := by decide +kernel
theorem dL_bad_16 : decode cL_bad 16 = .ok (.bipush 7, 2) := by decide +kernel
theorem dL_bad_18 : decode cL_bad 18 = .ok (.iload_n 2, 1) := by decide +kernel
theorem dL_bad_19 : decode cL_bad 19 = .ok (.imul, 1) := by decide +kernel
theorem dL_bad_20 : decode cL_bad 20 = .ok (.iconst 1, 1) := by decide +kernel
theorem dL_bad_21 : decode cL_bad 21 = .ok (.iadd, 1) := by decide +kernel
theorem dL_bad_22 : decode cL_bad 22 = .ok (.iaload, 1) := by decide +kernel
theorem dL_bad_23 : decode cL_bad 23 = .ok (.aload_n 1, 1) := by decide +kernel
theorem dL_bad_24 : decode cL_bad 24 = .ok (.bipush 7, 2) := by decide +kernel
theorem dL_bad_26 : decode cL_bad 26 = .ok (.iload_n 2, 1) := by decide +kernel
theorem dL_bad_27 : decode cL_bad 27 = .ok (.imul, 1) := by decide +kernel
theorem dL_bad_28 : decode cL_bad 28 = .ok (.iconst 2, 1) := by decide +kernel
theorem dL_bad_29 : decode cL_bad 29 = .ok (.iadd, 1) := by decide +kernel
theorem dL_bad_30 : decode cL_bad 30 = .ok (.iaload, 1) := by decide +kernel
theorem dL_bad_31 : decode cL_bad 31 = .ok (.iadd, 1) := by decide +kernel
theorem dL_bad_32 : decode cL_bad 32 = .ok (.if_icmp .ge 82, 3) := by decide +kernel
theorem dL_bad_35 : decode cL_bad 35 = .ok (.iconst 0, 1) := by decide +kernel
theorem dL_bad_36 : decode cL_bad 36 = .ok (.istore 9, 2) := by decide +kernel
theorem dL_bad_38 : decode cL_bad 38 = .ok (.iconst 0, 1) := by decide +kernel
theorem dL_bad_39 : decode cL_bad 39 = .ok (.istore 10, 2) := by decide +kernel
theorem dL_bad_41 : decode cL_bad 41 = .ok (.iload 10, 2) := by decide +kernel
theorem dL_bad_43 : decode cL_bad 43 = .ok (.aload 6, 2) := by decide +kernel
theorem dL_bad_45 : decode cL_bad 45 = .ok (.iconst 2, 1) := by decide +kernel
theorem dL_bad_46 : decode cL_bad 46 = .ok (.iaload, 1) := by decide +kernel
theorem dL_bad_47 : decode cL_bad 47 = .ok (.if_icmp .ge 46, 3) := by decide +kernel
theorem dL_bad_50 : decode cL_bad 50 = .ok (.iload 9, 2) := by decide +kernel
theorem dL_bad_52 : decode cL_bad 52 = .ok (.aload_n 0, 1) := by decide +kernel
theorem dL_bad_53 : decode cL_bad 53 = .ok (.iload 10, 2) := by decide +kernel
theorem dL_bad_55 : decode cL_bad 55 = .ok (.aload_n 1, 1) := by decide +kernel
theorem dL_bad_56 : decode cL_bad 56 = .ok (.iload_n 2, 1) := by decide +kernel
theorem dL_bad_57 : decode cL_bad 57 = .ok (.aload_n 3, 1) := by decide +kernel
theorem dL_bad_58 : decode cL_bad 58 = .ok (.invokestatic 16, 3) := by decide +kernel
theorem dL_bad_61 : decode cL_bad 61 = .ok (.ifCond .eq 22, 3) := by decide +kernel
theorem dL_bad_64 : decode cL_bad 64 = .ok (.aload_n 0, 1) := by decide +kernel
theorem dL_bad_65 : decode cL_bad 65 = .ok (.iload 10, 2) := by decide +kernel
theorem dL_bad_67 : decode cL_bad 67 = .ok (.iload 8, 2) := by decide +kernel
theorem dL_bad_69 : decode cL_bad 69 = .ok (.aload 4, 2) := by decide +kernel
theorem dL_bad_71 : decode cL_bad 71 = .ok (.aload 5, 2) := by decide +kernel
theorem dL_bad_73 : decode cL_bad 73 = .ok (.invokestatic 20, 3) := by decide +kernel
theorem dL_bad_76 : decode cL_bad 76 = .ok (.ifCond .eq 7, 3) := by decide +kernel
theorem dL_bad_79 : decode cL_bad 79 = .ok (.iconst 1, 1) := by decide +kernel
theorem dL_bad_80 : decode cL_bad 80 = .ok (.goto 4, 3) := by decide +kernel
theorem dL_bad_83 : decode cL_bad 83 = .ok (.iconst 0, 1) := by decide +kernel
theorem dL_bad_84 : decode cL_bad 84 = .ok (.ior, 1) := by decide +kernel
theorem dL_bad_85 : decode cL_bad 85 = .ok (.istore 9, 2) := by decide +kernel
theorem dL_bad_87 : decode cL_bad 87 = .ok (.iinc 10 1, 3) := by decide +kernel
theorem dL_bad_90 : decode cL_bad 90 = .ok (.goto (-49), 3) := by decide +kernel
theorem dL_bad_93 : decode cL_bad 93 = .ok (.iload 7, 2) := by decide +kernel
theorem dL_bad_95 : decode cL_bad 95 = .ok (.iload 9, 2) := by decide +kernel
theorem dL_bad_97 : decode cL_bad 97 = .ok (.ifCond .eq 7, 3) := by decide +kernel
theorem dL_bad_100 : decode cL_bad 100 = .ok (.iconst 1, 1) := by decide +kernel
theorem dL_bad_101 : decode cL_bad 101 = .ok (.goto 4, 3) := by decide +kernel
theorem dL_bad_104 : decode cL_bad 104 = .ok (.iconst 0, 1) := by decide +kernel
theorem dL_bad_105 : decode cL_bad 105 = .ok (.iadd, 1) := by decide +kernel
theorem dL_bad_106 : decode cL_bad 106 = .ok (.istore 7, 2) := by decide +kernel
theorem dL_bad_108 : decode cL_bad 108 = .ok (.iinc 8 1, 3) := by decide +kernel
theorem dL_bad_111 : decode cL_bad 111 = .ok (.goto (-98), 3) := by decide +kernel
theorem dL_bad_114 : decode cL_bad 114 = .ok (.iload 7, 2) := by decide +kernel
theorem dL_bad_116 : decode cL_bad 116 = .ok (.ireturn, 1) := by decide +kernel
theorem dL_refused_0 : decode cL_refused 0 = .ok (.iload_n 1, 1) := by decide +kernel
theorem dL_refused_1 : decode cL_refused 1 = .ok (.ifCond .ne 11, 3) := by decide +kernel
theorem dL_refused_4 : decode cL_refused 4 = .ok (.aload_n 0, 1) := by decide +kernel
theorem dL_refused_5 : decode cL_refused 5 = .ok (.iload_n 2, 1) := by decide +kernel
theorem dL_refused_6 : decode cL_refused 6 = .ok (.invokevirtual 24, 3) := by decide +kernel
theorem dL_refused_9 : decode cL_refused 9 = .ok (.goto 75, 3) := by decide +kernel
theorem dL_refused_12 : decode cL_refused 12 = .ok (.iload_n 1, 1) := by decide +kernel
theorem dL_refused_13 : decode cL_refused 13 = .ok (.iconst 1, 1) := by decide +kernel
theorem dL_refused_14 : decode cL_refused 14 = .ok (.if_icmp .ne 11, 3) := by decide +kernel
theorem dL_refused_17 : decode cL_refused 17 = .ok (.aload_n 0, 1) := by decide +kernel
theorem dL_refused_18 : decode cL_refused 18 = .ok (.iload_n 2, 1) := by decide +kernel
theorem dL_refused_19 : decode cL_refused 19 = .ok (.invokevirtual 30, 3) := by decide +kernel
theorem dL_refused_22 : decode cL_refused 22 = .ok (.goto 62, 3) := by decide +kernel
theorem dL_refused_25 : decode cL_refused 25 = .ok (.iload_n 1, 1) := by decide +kernel
theorem dL_refused_26 : decode cL_refused 26 = .ok (.iconst 2, 1) := by decide +kernel
theorem dL_refused_27 : decode cL_refused 27 = .ok (.if_icmp .ne 12, 3) := by decide +kernel
theorem dL_refused_30 : decode cL_refused 30 = .ok (.aload_n 0, 1) := by decide +kernel
theorem dL_refused_31 : decode cL_refused 31 = .ok (.iload_n 2, 1) := by decide +kernel
theorem dL_refused_32 : decode cL_refused 32 = .ok (.iload_n 3, 1) := by decide +kernel
theorem dL_refused_33 : decode cL_refused 33 = .ok (.invokevirtual 33, 3) := by decide +kernel
theorem dL_refused_36 : decode cL_refused 36 = .ok (.goto 48, 3) := by decide +kernel
theorem dL_refused_39 : decode cL_refused 39 = .ok (.iload_n 1, 1) := by decide +kernel
theorem dL_refused_40 : decode cL_refused 40 = .ok (.iconst 3, 1) := by decide +kernel
theorem dL_refused_41 : decode cL_refused 41 = .ok (.if_icmp .ne 11, 3) := by decide +kernel
theorem dL_refused_44 : decode cL_refused 44 = .ok (.aload_n 0, 1) := by decide +kernel
theorem dL_refused_45 : decode cL_refused 45 = .ok (.iload_n 2, 1) := by decide +kernel
theorem dL_refused_46 : decode cL_refused 46 = .ok (.invokevirtual 37, 3) := by decide +kernel
theorem dL_refused_49 : decode cL_refused 49 = .ok (.goto 35, 3) := by decide +kernel
theorem dL_refused_52 : decode cL_refused 52 = .ok (.iload_n 1, 1) := by decide +kernel
theorem dL_refused_53 : decode cL_refused 53 = .ok (.iconst 4, 1) := by decide +kernel
theorem dL_refused_54 : decode cL_refused 54 = .ok (.if_icmp .ne 12, 3) := by decide +kernel
theorem dL_refused_57 : decode cL_refused 57 = .ok (.aload_n 0, 1) := by decide +kernel
theorem dL_refused_58 : decode cL_refused 58 = .ok (.iload_n 2, 1) := by decide +kernel
theorem dL_refused_59 : decode cL_refused 59 = .ok (.iload_n 3, 1) := by decide +kernel
theorem dL_refused_60 : decode cL_refused 60 = .ok (.invokevirtual 40, 3) := by decide +kernel
theorem dL_refused_63 : decode cL_refused 63 = .ok (.goto 21, 3) := by decide +kernel
theorem dL_refused_66 : decode cL_refused 66 = .ok (.iload_n 1, 1) := by decide +kernel
theorem dL_refused_67 : decode cL_refused 67 = .ok (.iconst 5, 1) := by decide +kernel
theorem dL_refused_68 : decode cL_refused 68 = .ok (.if_icmp .ne 11, 3) := by decide +kernel
theorem dL_refused_71 : decode cL_refused 71 = .ok (.aload_n 0, 1) := by decide +kernel
theorem dL_refused_72 : decode cL_refused 72 = .ok (.iload_n 2, 1) := by decide +kernel
theorem dL_refused_73 : decode cL_refused 73 = .ok (.invokevirtual 43, 3) := by decide +kernel
theorem dL_refused_76 : decode cL_refused 76 = .ok (.goto 8, 3) := by decide +kernel
theorem dL_refused_79 : decode cL_refused 79 = .ok (.aload_n 0, 1) := by decide +kernel
theorem dL_refused_80 : decode cL_refused 80 = .ok (.iload_n 2, 1) := by decide +kernel
theorem dL_refused_81 : decode cL_refused 81 = .ok (.invokevirtual 46, 3) := by decide +kernel
theorem dL_refused_84 : decode cL_refused 84 = .ok (.iconst 0, 1) := by decide +kernel
theorem dL_refused_85 : decode cL_refused 85 = .ok (.imul, 1) := by decide +kernel
theorem dL_refused_86 : decode cL_refused 86 = .ok (.ireturn, 1) := by decide +kernel
theorem dL_refused_87 : decode cL_refused 87 = .ok (.astore 4, 2) := by decide +kernel
theorem dL_refused_89 : decode cL_refused 89 = .ok (.iconst 1, 1) := by decide +kernel
theorem dL_refused_90 : decode cL_refused 90 = .ok (.ireturn, 1) := by decide +kernel
theorem dL_refused_91 : decode cL_refused 91 = .ok (.astore 4, 2) := by decide +kernel
theorem dL_refused_93 : decode cL_refused 93 = .ok (.iconst 2, 1) := by decide +kernel
theorem dL_refused_94 : decode cL_refused 94 = .ok (.ireturn, 1) := by decide +kernel
theorem dL_refused_95 : decode cL_refused 95 = .ok (.astore 4, 2) := by decide +kernel
theorem dL_refused_97 : decode cL_refused 97 = .ok (.iconst 3, 1) := by decide +kernel
theorem dL_refused_98 : decode cL_refused 98 = .ok (.ireturn, 1) := by decide +kernel
theorem dL_refused_99 : decode cL_refused 99 = .ok (.astore 4, 2) := by decide +kernel
theorem dL_refused_101 : decode cL_refused 101 = .ok (.iconst 4, 1) := by decide +kernel
theorem dL_refused_102 : decode cL_refused 102 = .ok (.ireturn, 1) := by decide +kernel
theorem dL_change_0 : decode cL_change 0 = .ok (.bipush 7, 2) := by decide +kernel
theorem dL_change_2 : decode cL_change 2 = .ok (.iload_n 1, 1) := by decide +kernel
theorem dL_change_3 : decode cL_change 3 = .ok (.imul, 1) := by decide +kernel
theorem dL_change_4 : decode cL_change 4 = .ok (.istore 8, 2) := by decide +kernel
theorem dL_change_6 : decode cL_change 6 = .ok (.iconst 0, 1) := by decide +kernel
theorem dL_change_7 : decode cL_change 7 = .ok (.istore 9, 2) := by decide +kernel
theorem dL_change_9 : decode cL_change 9 = .ok (.iconst (-1), 1) := by decide +kernel
theorem dL_change_10 : decode cL_change 10 = .ok (.istore 10, 2) := by decide +kernel
theorem dL_change_12 : decode cL_change 12 = .ok (.aload_n 3, 1) := by decide +kernel
theorem dL_change_13 : decode cL_change 13 = .ok (.iload 8, 2) := by decide +kernel
theorem dL_change_15 : decode cL_change 15 = .ok (.iconst 1, 1) := by decide +kernel
theorem dL_change_16 : decode cL_change 16 = .ok (.iadd, 1) := by decide +kernel
theorem dL_change_17 : decode cL_change 17 = .ok (.iaload, 1) := by decide +kernel
theorem dL_change_18 : decode cL_change 18 = .ok (.aload_n 3, 1) := by decide +kernel
theorem dL_change_19 : decode cL_change 19 = .ok (.iload 8, 2) := by decide +kernel
theorem dL_change_21 : decode cL_change 21 = .ok (.iconst 2, 1) := by decide +kernel
theorem dL_change_22 : decode cL_change 22 = .ok (.iadd, 1) := by decide +kernel
theorem dL_change_23 : decode cL_change 23 = .ok (.iaload, 1) := by decide +kernel
theorem dL_change_24 : decode cL_change 24 = .ok (.iadd, 1) := by decide +kernel
theorem dL_change_25 : decode cL_change 25 = .ok (.iconst 1, 1) := by decide +kernel
theorem dL_change_26 : decode cL_change 26 = .ok (.isub, 1) := by decide +kernel
theorem dL_change_27 : decode cL_change 27 = .ok (.istore 11, 2) := by decide +kernel
theorem dL_change_29 : decode cL_change 29 = .ok (.iload 11, 2) := by decide +kernel
theorem dL_change_31 : decode cL_change 31 = .ok (.aload_n 3, 1) := by decide +kernel
theorem dL_change_32 : decode cL_change 32 = .ok (.iload 8, 2) := by decide +kernel
theorem dL_change_34 : decode cL_change 34 = .ok (.iconst 1, 1) := by decide +kernel
theorem dL_change_35 : decode cL_change 35 = .ok (.iadd, 1) := by decide +kernel
theorem dL_change_36 : decode cL_change 36 = .ok (.iaload, 1) := by decide +kernel
theorem dL_change_37 : decode cL_change 37 = .ok (.if_icmp .lt 71, 3) := by decide +kernel
theorem dL_change_40 : decode cL_change 40 = .ok (.iconst 0, 1) := by decide +kernel
theorem dL_change_41 : decode cL_change 41 = .ok (.istore 12, 2) := by decide +kernel
theorem dL_change_43 : decode cL_change 43 = .ok (.iload 12, 2) := by decide +kernel
theorem dL_change_45 : decode cL_change 45 = .ok (.aload 7, 2) := by decide +kernel
theorem dL_change_47 : decode cL_change 47 = .ok (.iconst 2, 1) := by decide +kernel
theorem dL_change_48 : decode cL_change 48 = .ok (.iaload, 1) := by decide +kernel
theorem dL_change_49 : decode cL_change 49 = .ok (.if_icmp .ge 53, 3) := by decide +kernel
theorem dL_change_52 : decode cL_change 52 = .ok (.aload_n 2, 1) := by decide +kernel
theorem dL_change_53 : decode cL_change 53 = .ok (.iload 12, 2) := by decide +kernel
theorem dL_change_55 : decode cL_change 55 = .ok (.aload_n 3, 1) := by decide +kernel
theorem dL_change_56 : decode cL_change 56 = .ok (.iload_n 1, 1) := by decide +kernel
theorem dL_change_57 : decode cL_change 57 = .ok (.aload 4, 2) := by decide +kernel
theorem dL_change_59 : decode cL_change 59 = .ok (.invokestatic 16, 3) := by decide +kernel
theorem dL_change_62 : decode cL_change 62 = .ok (.ifCond .eq 34, 3) := by decide +kernel
theorem dL_change_65 : decode cL_change 65 = .ok (.aload_n 2, 1) := by decide +kernel
theorem dL_change_66 : decode cL_change 66 = .ok (.iload 12, 2) := by decide +kernel
theorem dL_change_68 : decode cL_change 68 = .ok (.iload 11, 2) := by decide +kernel
theorem dL_change_70 : decode cL_change 70 = .ok (.aload 5, 2) := by decide +kernel
theorem dL_change_72 : decode cL_change 72 = .ok (.aload 6, 2) := by decide +kernel
theorem dL_change_74 : decode cL_change 74 = .ok (.invokestatic 20, 3) := by decide +kernel
theorem dL_change_77 : decode cL_change 77 = .ok (.ifCond .ne 6, 3) := by decide +kernel
theorem dL_change_80 : decode cL_change 80 = .ok (.goto 16, 3) := by decide +kernel
theorem dL_change_83 : decode cL_change 83 = .ok (.iload 9, 2) := by decide +kernel
theorem dL_change_85 : decode cL_change 85 = .ok (.iconst 1, 1) := by decide +kernel
theorem dL_change_86 : decode cL_change 86 = .ok (.iload 12, 2) := by decide +kernel
theorem dL_change_88 : decode cL_change 88 = .ok (.ishl, 1) := by decide +kernel
theorem dL_change_89 : decode cL_change 89 = .ok (.ior, 1) := by decide +kernel
theorem dL_change_90 : decode cL_change 90 = .ok (.istore 9, 2) := by decide +kernel
theorem dL_change_92 : decode cL_change 92 = .ok (.iload 11, 2) := by decide +kernel
theorem dL_change_94 : decode cL_change 94 = .ok (.istore 10, 2) := by decide +kernel
theorem dL_change_96 : decode cL_change 96 = .ok (.iinc 12 1, 3) := by decide +kernel
theorem dL_change_99 : decode cL_change 99 = .ok (.goto (-56), 3) := by decide +kernel
theorem dL_change_102 : decode cL_change 102 = .ok (.iinc 11 (-1), 3) := by decide +kernel
theorem dL_change_105 : decode cL_change 105 = .ok (.goto (-76), 3) := by decide +kernel
theorem dL_change_108 : decode cL_change 108 = .ok (.aload_n 2, 1) := by decide +kernel
theorem dL_change_109 : decode cL_change 109 = .ok (.aload_n 3, 1) := by decide +kernel
theorem dL_change_110 : decode cL_change 110 = .ok (.iload_n 1, 1) := by decide +kernel
theorem dL_change_111 : decode cL_change 111 = .ok (.aload 4, 2) := by decide +kernel
theorem dL_change_113 : decode cL_change 113 = .ok (.aload 5, 2) := by decide +kernel
theorem dL_change_115 : decode cL_change 115 = .ok (.aload 6, 2) := by decide +kernel
theorem dL_change_117 : decode cL_change 117 = .ok (.aload 7, 2) := by decide +kernel
theorem dL_change_119 : decode cL_change 119 = .ok (.invokestatic 57, 3) := by decide +kernel
theorem dL_change_122 : decode cL_change 122 = .ok (.istore 11, 2) := by decide +kernel
theorem dL_change_124 : decode cL_change 124 = .ok (.aload_n 3, 1) := by decide +kernel
theorem dL_change_125 : decode cL_change 125 = .ok (.iload 8, 2) := by decide +kernel
theorem dL_change_127 : decode cL_change 127 = .ok (.bipush 6, 2) := by decide +kernel
theorem dL_change_129 : decode cL_change 129 = .ok (.iadd, 1) := by decide +kernel
theorem dL_change_130 : decode cL_change 130 = .ok (.iaload, 1) := by decide +kernel
theorem dL_change_131 : decode cL_change 131 = .ok (.ifCond .ge 7, 3) := by decide +kernel
theorem dL_change_134 : decode cL_change 134 = .ok (.iconst 0, 1) := by decide +kernel
theorem dL_change_135 : decode cL_change 135 = .ok (.goto 28, 3) := by decide +kernel
theorem dL_change_138 : decode cL_change 138 = .ok (.aload 7, 2) := by decide +kernel
theorem dL_change_140 : decode cL_change 140 = .ok (.iconst 0, 1) := by decide +kernel
theorem dL_change_141 : decode cL_change 141 = .ok (.iaload, 1) := by decide +kernel
theorem dL_change_142 : decode cL_change 142 = .ok (.aload_n 3, 1) := by decide +kernel
theorem dL_change_143 : decode cL_change 143 = .ok (.iload 8, 2) := by decide +kernel
theorem dL_change_145 : decode cL_change 145 = .ok (.iconst 1, 1) := by decide +kernel
theorem dL_change_146 : decode cL_change 146 = .ok (.iadd, 1) := by decide +kernel
theorem dL_change_147 : decode cL_change 147 = .ok (.iaload, 1) := by decide +kernel
theorem dL_change_148 : decode cL_change 148 = .ok (.aload_n 3, 1) := by decide +kernel
theorem dL_change_149 : decode cL_change 149 = .ok (.iload 8, 2) := by decide +kernel
theorem dL_change_151 : decode cL_change 151 = .ok (.iconst 2, 1) := by decide +kernel
theorem dL_change_152 : decode cL_change 152 = .ok (.iadd, 1) := by decide +kernel
theorem dL_change_153 : decode cL_change 153 = .ok (.iaload, 1) := by decide +kernel
theorem dL_change_154 : decode cL_change 154 = .ok (.iadd, 1) := by decide +kernel
theorem dL_change_155 : decode cL_change 155 = .ok (.if_icmp .ge 7, 3) := by decide +kernel
theorem dL_change_158 : decode cL_change 158 = .ok (.iconst 1, 1) := by decide +kernel
theorem dL_change_159 : decode cL_change 159 = .ok (.goto 4, 3) := by decide +kernel
theorem dL_change_162 : decode cL_change 162 = .ok (.iconst 2, 1) := by decide +kernel
theorem dL_change_163 : decode cL_change 163 = .ok (.istore 12, 2) := by decide +kernel
theorem dL_change_165 : decode cL_change 165 = .ok (.aload_n 0, 1) := by decide +kernel
theorem dL_change_166 : decode cL_change 166 = .ok (.iload_n 1, 1) := by decide +kernel
theorem dL_change_167 : decode cL_change 167 = .ok (.invokevirtual 61, 3) := by decide +kernel
theorem dL_change_170 : decode cL_change 170 = .ok (.iload 11, 2) := by decide +kernel
theorem dL_change_172 : decode cL_change 172 = .ok (.if_icmp .ne 61, 3) := by decide +kernel
theorem dL_change_175 : decode cL_change 175 = .ok (.aload_n 0, 1) := by decide +kernel
theorem dL_change_176 : decode cL_change 176 = .ok (.iload_n 1, 1) := by decide +kernel
theorem dL_change_177 : decode cL_change 177 = .ok (.invokevirtual 64, 3) := by decide +kernel
theorem dL_change_180 : decode cL_change 180 = .ok (.iload 11, 2) := by decide +kernel
theorem dL_change_182 : decode cL_change 182 = .ok (.if_icmp .ne 51, 3) := by decide +kernel
theorem dL_change_185 : decode cL_change 185 = .ok (.aload_n 0, 1) := by decide +kernel
theorem dL_change_186 : decode cL_change 186 = .ok (.iload_n 1, 1) := by decide +kernel
theorem dL_change_187 : decode cL_change 187 = .ok (.invokevirtual 67, 3) := by decide +kernel
theorem dL_change_190 : decode cL_change 190 = .ok (.iload 9, 2) := by decide +kernel
theorem dL_change_192 : decode cL_change 192 = .ok (.if_icmp .ne 41, 3) := by decide +kernel
theorem dL_change_195 : decode cL_change 195 = .ok (.aload_n 0, 1) := by decide +kernel
theorem dL_change_196 : decode cL_change 196 = .ok (.iload_n 1, 1) := by decide +kernel
theorem dL_change_197 : decode cL_change 197 = .ok (.invokevirtual 70, 3) := by decide +kernel
theorem dL_change_200 : decode cL_change 200 = .ok (.iload 10, 2) := by decide +kernel
theorem dL_change_202 : decode cL_change 202 = .ok (.if_icmp .ne 31, 3) := by decide +kernel
theorem dL_change_205 : decode cL_change 205 = .ok (.aload_n 0, 1) := by decide +kernel
theorem dL_change_206 : decode cL_change 206 = .ok (.iload_n 1, 1) := by decide +kernel
theorem dL_change_207 : decode cL_change 207 = .ok (.invokevirtual 73, 3) := by decide +kernel
theorem dL_change_210 : decode cL_change 210 = .ok (.iload 12, 2) := by decide +kernel
theorem dL_change_212 : decode cL_change 212 = .ok (.if_icmp .ne 21, 3) := by decide +kernel
theorem dL_change_215 : decode cL_change 215 = .ok (.aload_n 0, 1) := by decide +kernel
theorem dL_change_216 : decode cL_change 216 = .ok (.iload_n 1, 1) := by decide +kernel
theorem dL_change_217 : decode cL_change 217 = .ok (.invokevirtual 76, 3) := by decide +kernel
theorem dL_change_220 : decode cL_change 220 = .ok (.aload_n 3, 1) := by decide +kernel
theorem dL_change_221 : decode cL_change 221 = .ok (.iload 8, 2) := by decide +kernel
theorem dL_change_223 : decode cL_change 223 = .ok (.iconst 4, 1) := by decide +kernel
theorem dL_change_224 : decode cL_change 224 = .ok (.iadd, 1) := by decide +kernel
theorem dL_change_225 : decode cL_change 225 = .ok (.iaload, 1) := by decide +kernel
theorem dL_change_226 : decode cL_change 226 = .ok (.if_icmp .ne 7, 3) := by decide +kernel
theorem dL_change_229 : decode cL_change 229 = .ok (.iconst 1, 1) := by decide +kernel
theorem dL_change_230 : decode cL_change 230 = .ok (.goto 4, 3) := by decide +kernel
theorem dL_change_233 : decode cL_change 233 = .ok (.iconst 0, 1) := by decide +kernel
theorem dL_change_234 : decode cL_change 234 = .ok (.ireturn, 1) := by decide +kernel
theorem dL_law_0 : decode cL_law 0 = .ok (.new 25, 3) := by decide +kernel
theorem dL_law_3 : decode cL_law 3 = .ok (.dup, 1) := by decide +kernel
theorem dL_law_4 : decode cL_law 4 = .ok (.invokespecial 79, 3) := by decide +kernel
theorem dL_law_7 : decode cL_law 7 = .ok (.astore_n 1, 1) := by decide +kernel
theorem dL_law_8 : decode cL_law 8 = .ok (.bipush 42, 2) := by decide +kernel
theorem dL_law_10 : decode cL_law 10 = .ok (.newarray .int, 2) := by decide +kernel
theorem dL_law_12 : decode cL_law 12 = .ok (.astore_n 2, 1) := by decide +kernel
theorem dL_law_13 : decode cL_law 13 = .ok (.bipush 42, 2) := by decide +kernel
theorem dL_law_15 : decode cL_law 15 = .ok (.newarray .int, 2) := by decide +kernel
theorem dL_law_17 : decode cL_law 17 = .ok (.astore_n 3, 1) := by decide +kernel
theorem dL_law_18 : decode cL_law 18 = .ok (.bipush 8, 2) := by decide +kernel
theorem dL_law_20 : decode cL_law 20 = .ok (.newarray .int, 2) := by decide +kernel
theorem dL_law_22 : decode cL_law 22 = .ok (.astore 4, 2) := by decide +kernel
theorem dL_law_24 : decode cL_law 24 = .ok (.iconst 4, 1) := by decide +kernel
theorem dL_law_25 : decode cL_law 25 = .ok (.newarray .int, 2) := by decide +kernel
theorem dL_law_27 : decode cL_law 27 = .ok (.astore 5, 2) := by decide +kernel
theorem dL_law_29 : decode cL_law 29 = .ok (.iconst 4, 1) := by decide +kernel
theorem dL_law_30 : decode cL_law 30 = .ok (.newarray .int, 2) := by decide +kernel
theorem dL_law_32 : decode cL_law 32 = .ok (.astore 6, 2) := by decide +kernel
theorem dL_law_34 : decode cL_law 34 = .ok (.iconst 4, 1) := by decide +kernel
theorem dL_law_35 : decode cL_law 35 = .ok (.newarray .int, 2) := by decide +kernel
theorem dL_law_37 : decode cL_law 37 = .ok (.astore 7, 2) := by decide +kernel
theorem dL_law_39 : decode cL_law 39 = .ok (.iconst 4, 1) := by decide +kernel
theorem dL_law_40 : decode cL_law 40 = .ok (.newarray .int, 2) := by decide +kernel
theorem dL_law_42 : decode cL_law 42 = .ok (.astore 8, 2) := by decide +kernel
theorem dL_law_44 : decode cL_law 44 = .ok (.aload 4, 2) := by decide +kernel
theorem dL_law_46 : decode cL_law 46 = .ok (.iconst 0, 1) := by decide +kernel
theorem dL_law_47 : decode cL_law 47 = .ok (.iconst 1, 1) := by decide +kernel
theorem dL_law_48 : decode cL_law 48 = .ok (.iastore, 1) := by decide +kernel
theorem dL_law_49 : decode cL_law 49 = .ok (.aload 8, 2) := by decide +kernel
theorem dL_law_51 : decode cL_law 51 = .ok (.iconst 1, 1) := by decide +kernel
theorem dL_law_52 : decode cL_law 52 = .ok (.iconst 1, 1) := by decide +kernel
theorem dL_law_53 : decode cL_law 53 = .ok (.iastore, 1) := by decide +kernel
theorem dL_law_54 : decode cL_law 54 = .ok (.iconst 0, 1) := by decide +kernel
theorem dL_law_55 : decode cL_law 55 = .ok (.istore 9, 2) := by decide +kernel
theorem dL_law_57 : decode cL_law 57 = .ok (.iload 9, 2) := by decide +kernel
theorem dL_law_59 : decode cL_law 59 = .ok (.bipush 60, 2) := by decide +kernel
theorem dL_law_61 : decode cL_law 61 = .ok (.if_icmp .ge 2037, 3) := by decide +kernel
theorem dL_law_64 : decode cL_law 64 = .ok (.aload_n 0, 1) := by decide +kernel
theorem dL_law_65 : decode cL_law 65 = .ok (.iconst 2, 1) := by decide +kernel
theorem dL_law_66 : decode cL_law 66 = .ok (.iload 9, 2) := by decide +kernel
theorem dL_law_68 : decode cL_law 68 = .ok (.imul, 1) := by decide +kernel
theorem dL_law_69 : decode cL_law 69 = .ok (.invokestatic 80, 3) := by decide +kernel
theorem dL_law_72 : decode cL_law 72 = .ok (.istore 10, 2) := by decide +kernel
theorem dL_law_74 : decode cL_law 74 = .ok (.aload_n 0, 1) := by decide +kernel
theorem dL_law_75 : decode cL_law 75 = .ok (.iconst 2, 1) := by decide +kernel
theorem dL_law_76 : decode cL_law 76 = .ok (.iload 9, 2) := by decide +kernel
theorem dL_law_78 : decode cL_law 78 = .ok (.imul, 1) := by decide +kernel
theorem dL_law_79 : decode cL_law 79 = .ok (.iconst 1, 1) := by decide +kernel
theorem dL_law_80 : decode cL_law 80 = .ok (.iadd, 1) := by decide +kernel
theorem dL_law_81 : decode cL_law 81 = .ok (.invokestatic 80, 3) := by decide +kernel
theorem dL_law_84 : decode cL_law 84 = .ok (.istore 11, 2) := by decide +kernel
theorem dL_law_86 : decode cL_law 86 = .ok (.iload 10, 2) := by decide +kernel
theorem dL_law_88 : decode cL_law 88 = .ok (.bipush 18, 2) := by decide +kernel
theorem dL_law_90 : decode cL_law 90 = .ok (.invokestatic 84, 3) := by decide +kernel
theorem dL_law_93 : decode cL_law 93 = .ok (.istore 12, 2) := by decide +kernel
theorem dL_law_95 : decode cL_law 95 = .ok (.iload 10, 2) := by decide +kernel
theorem dL_law_97 : decode cL_law 97 = .ok (.iconst 5, 1) := by decide +kernel
theorem dL_law_98 : decode cL_law 98 = .ok (.ishr, 1) := by decide +kernel
theorem dL_law_99 : decode cL_law 99 = .ok (.aload 8, 2) := by decide +kernel
theorem dL_law_101 : decode cL_law 101 = .ok (.iconst 1, 1) := by decide +kernel
theorem dL_law_102 : decode cL_law 102 = .ok (.iaload, 1) := by decide +kernel
theorem dL_law_103 : decode cL_law 103 = .ok (.invokestatic 84, 3) := by decide +kernel
theorem dL_law_106 : decode cL_law 106 = .ok (.istore 13, 2) := by decide +kernel
theorem dL_law_108 : decode cL_law 108 = .ok (.iload 10, 2) := by decide +kernel
theorem dL_law_110 : decode cL_law 110 = .ok (.bipush 9, 2) := by decide +kernel
theorem dL_law_112 : decode cL_law 112 = .ok (.ishr, 1) := by decide +kernel
theorem dL_law_113 : decode cL_law 113 = .ok (.iconst 4, 1) := by decide +kernel
theorem dL_law_114 : decode cL_law 114 = .ok (.invokestatic 84, 3) := by decide +kernel
theorem dL_law_117 : decode cL_law 117 = .ok (.istore 14, 2) := by decide +kernel
theorem dL_law_119 : decode cL_law 119 = .ok (.iconst 1, 1) := by decide +kernel
theorem dL_law_120 : decode cL_law 120 = .ok (.iload 10, 2) := by decide +kernel
theorem dL_law_122 : decode cL_law 122 = .ok (.bipush 11, 2) := by decide +kernel
theorem dL_law_124 : decode cL_law 124 = .ok (.ishr, 1) := by decide +kernel
theorem dL_law_125 : decode cL_law 125 = .ok (.iconst 3, 1) := by decide +kernel
theorem dL_law_126 : decode cL_law 126 = .ok (.invokestatic 84, 3) := by decide +kernel
theorem dL_law_129 : decode cL_law 129 = .ok (.iadd, 1) := by decide +kernel
theorem dL_law_130 : decode cL_law 130 = .ok (.istore 15, 2) := by decide +kernel
theorem dL_law_132 : decode cL_law 132 = .ok (.aload 8, 2) := by decide +kernel
theorem dL_law_134 : decode cL_law 134 = .ok (.iconst 3, 1) := by decide +kernel
theorem dL_law_135 : decode cL_law 135 = .ok (.iaload, 1) := by decide +kernel
theorem dL_law_136 : decode cL_law 136 = .ok (.ifCond .ne 7, 3) := by decide +kernel
theorem dL_law_139 : decode cL_law 139 = .ok (.iconst 0, 1) := by decide +kernel
theorem dL_law_140 : decode cL_law 140 = .ok (.goto 14, 3) := by decide +kernel
theorem dL_law_143 : decode cL_law 143 = .ok (.iload 11, 2) := by decide +kernel
theorem dL_law_145 : decode cL_law 145 = .ok (.iconst 3, 1) := by decide +kernel
theorem dL_law_146 : decode cL_law 146 = .ok (.ishr, 1) := by decide +kernel
theorem dL_law_147 : decode cL_law 147 = .ok (.aload 8, 2) := by decide +kernel
theorem dL_law_149 : decode cL_law 149 = .ok (.iconst 3, 1) := by decide +kernel
theorem dL_law_150 : decode cL_law 150 = .ok (.iaload, 1) := by decide +kernel
theorem dL_law_151 : decode cL_law 151 = .ok (.invokestatic 84, 3) := by decide +kernel
theorem dL_law_154 : decode cL_law 154 = .ok (.istore 16, 2) := by decide +kernel
theorem dL_law_156 : decode cL_law 156 = .ok (.aload 8, 2) := by decide +kernel
theorem dL_law_158 : decode cL_law 158 = .ok (.iconst 2, 1) := by decide +kernel
theorem dL_law_159 : decode cL_law 159 = .ok (.iaload, 1) := by decide +kernel
theorem dL_law_160 : decode cL_law 160 = .ok (.ifCond .ne 7, 3) := by decide +kernel
theorem dL_law_163 : decode cL_law 163 = .ok (.iconst 0, 1) := by decide +kernel
theorem dL_law_164 : decode cL_law 164 = .ok (.goto 15, 3) := by decide +kernel
theorem dL_law_167 : decode cL_law 167 = .ok (.iload 11, 2) := by decide +kernel
theorem dL_law_169 : decode cL_law 169 = .ok (.bipush 6, 2) := by decide +kernel
theorem dL_law_171 : decode cL_law 171 = .ok (.ishr, 1) := by decide +kernel
theorem dL_law_172 : decode cL_law 172 = .ok (.aload 8, 2) := by decide +kernel
theorem dL_law_174 : decode cL_law 174 = .ok (.iconst 2, 1) := by decide +kernel
theorem dL_law_175 : decode cL_law 175 = .ok (.iaload, 1) := by decide +kernel
theorem dL_law_176 : decode cL_law 176 = .ok (.invokestatic 84, 3) := by decide +kernel
theorem dL_law_179 : decode cL_law 179 = .ok (.istore 17, 2) := by decide +kernel
theorem dL_law_181 : decode cL_law 181 = .ok (.bipush 7, 2) := by decide +kernel
theorem dL_law_183 : decode cL_law 183 = .ok (.aload 8, 2) := by decide +kernel
theorem dL_law_185 : decode cL_law 185 = .ok (.iconst 2, 1) := by decide +kernel
theorem dL_law_186 : decode cL_law 186 = .ok (.iaload, 1) := by decide +kernel
theorem dL_law_187 : decode cL_law 187 = .ok (.imul, 1) := by decide +kernel
theorem dL_law_188 : decode cL_law 188 = .ok (.istore 18, 2) := by decide +kernel
theorem dL_law_190 : decode cL_law 190 = .ok (.iload 12, 2) := by decide +kernel
theorem dL_law_192 : decode cL_law 192 = .ok (.iconst 2, 1) := by decide +kernel
theorem dL_law_193 : decode cL_law 193 = .ok (.if_icmp .ge 59, 3) := by decide +kernel
theorem dL_law_196 : decode cL_law 196 = .ok (.aload 8, 2) := by decide +kernel
theorem dL_law_198 : decode cL_law 198 = .ok (.iconst 1, 1) := by decide +kernel
theorem dL_law_199 : decode cL_law 199 = .ok (.iaload, 1) := by decide +kernel
theorem dL_law_200 : decode cL_law 200 = .ok (.bipush 8, 2) := by decide +kernel
theorem dL_law_202 : decode cL_law 202 = .ok (.if_icmp .ne 6, 3) := by decide +kernel
theorem dL_law_205 : decode cL_law 205 = .ok (.goto 1887, 3) := by decide +kernel
theorem dL_law_208 : decode cL_law 208 = .ok (.aload 4, 2) := by decide +kernel
theorem dL_law_210 : decode cL_law 210 = .ok (.aload 8, 2) := by decide +kernel
theorem dL_law_212 : decode cL_law 212 = .ok (.iconst 1, 1) := by decide +kernel
theorem dL_law_213 : decode cL_law 213 = .ok (.iaload, 1) := by decide +kernel
theorem dL_law_214 : decode cL_law 214 = .ok (.aload 4, 2) := by decide +kernel
theorem dL_law_216 : decode cL_law 216 = .ok (.iload 13, 2) := by decide +kernel
theorem dL_law_218 : decode cL_law 218 = .ok (.iaload, 1) := by decide +kernel
theorem dL_law_219 : decode cL_law 219 = .ok (.iconst 1, 1) := by decide +kernel
theorem dL_law_220 : decode cL_law 220 = .ok (.aload 8, 2) := by decide +kernel
theorem dL_law_222 : decode cL_law 222 = .ok (.iconst 1, 1) := by decide +kernel
theorem dL_law_223 : decode cL_law 223 = .ok (.iaload, 1) := by decide +kernel
theorem dL_law_224 : decode cL_law 224 = .ok (.ishl, 1) := by decide +kernel
theorem dL_law_225 : decode cL_law 225 = .ok (.ior, 1) := by decide +kernel
theorem dL_law_226 : decode cL_law 226 = .ok (.iastore, 1) := by decide +kernel
theorem dL_law_227 : decode cL_law 227 = .ok (.aload 8, 2) := by decide +kernel
theorem dL_law_229 : decode cL_law 229 = .ok (.iconst 1, 1) := by decide +kernel
theorem dL_law_230 : decode cL_law 230 = .ok (.dup2, 1) := by decide +kernel
theorem dL_law_231 : decode cL_law 231 = .ok (.iaload, 1) := by decide +kernel
theorem dL_law_232 : decode cL_law 232 = .ok (.iconst 1, 1) := by decide +kernel
theorem dL_law_233 : decode cL_law 233 = .ok (.iadd, 1) := by decide +kernel
theorem dL_law_234 : decode cL_law 234 = .ok (.iastore, 1) := by decide +kernel
theorem dL_law_235 : decode cL_law 235 = .ok (.aload_n 1, 1) := by decide +kernel
theorem dL_law_236 : decode cL_law 236 = .ok (.iload 13, 2) := by decide +kernel
theorem dL_law_238 : decode cL_law 238 = .ok (.invokevirtual 87, 3) := by decide +kernel
theorem dL_law_241 : decode cL_law 241 = .ok (.aload 8, 2) := by decide +kernel
theorem dL_law_243 : decode cL_law 243 = .ok (.iconst 1, 1) := by decide +kernel
theorem dL_law_244 : decode cL_law 244 = .ok (.iaload, 1) := by decide +kernel
theorem dL_law_245 : decode cL_law 245 = .ok (.iconst 1, 1) := by decide +kernel
theorem dL_law_246 : decode cL_law 246 = .ok (.isub, 1) := by decide +kernel
theorem dL_law_247 : decode cL_law 247 = .ok (.if_icmp .eq 1793, 3) := by decide +kernel
theorem dL_law_250 : decode cL_law 250 = .ok (.iconst 0, 1) := by decide +kernel
theorem dL_law_251 : decode cL_law 251 = .ok (.ireturn, 1) := by decide +kernel
theorem dL_law_252 : decode cL_law 252 = .ok (.iload 12, 2) := by decide +kernel
theorem dL_law_254 : decode cL_law 254 = .ok (.iconst 2, 1) := by decide +kernel
theorem dL_law_255 : decode cL_law 255 = .ok (.if_icmp .ne 46, 3) := by decide +kernel
theorem dL_law_258 : decode cL_law 258 = .ok (.aload 5, 2) := by decide +kernel
theorem dL_law_260 : decode cL_law 260 = .ok (.iload 14, 2) := by decide +kernel
theorem dL_law_262 : decode cL_law 262 = .ok (.iaload, 1) := by decide +kernel
theorem dL_law_263 : decode cL_law 263 = .ok (.istore 19, 2) := by decide +kernel
theorem dL_law_265 : decode cL_law 265 = .ok (.aload 5, 2) := by decide +kernel
theorem dL_law_267 : decode cL_law 267 = .ok (.iload 14, 2) := by decide +kernel
theorem dL_law_269 : decode cL_law 269 = .ok (.iload 11, 2) := by decide +kernel
theorem dL_law_271 : decode cL_law 271 = .ok (.bipush 24, 2) := by decide +kernel
theorem dL_law_273 : decode cL_law 273 = .ok (.invokestatic 84, 3) := by decide +kernel
theorem dL_law_276 : decode cL_law 276 = .ok (.bipush 11, 2) := by decide +kernel
theorem dL_law_278 : decode cL_law 278 = .ok (.isub, 1) := by decide +kernel
theorem dL_law_279 : decode cL_law 279 = .ok (.iastore, 1) := by decide +kernel
theorem dL_law_280 : decode cL_law 280 = .ok (.aload_n 1, 1) := by decide +kernel
theorem dL_law_281 : decode cL_law 281 = .ok (.iload 14, 2) := by decide +kernel
theorem dL_law_283 : decode cL_law 283 = .ok (.aload 5, 2) := by decide +kernel
theorem dL_law_285 : decode cL_law 285 = .ok (.iload 14, 2) := by decide +kernel
theorem dL_law_287 : decode cL_law 287 = .ok (.iaload, 1) := by decide +kernel
theorem dL_law_288 : decode cL_law 288 = .ok (.invokevirtual 90, 3) := by decide +kernel
theorem dL_law_291 : decode cL_law 291 = .ok (.iload 19, 2) := by decide +kernel
theorem dL_law_293 : decode cL_law 293 = .ok (.if_icmp .eq 5, 3) := by decide +kernel
theorem dL_law_296 : decode cL_law 296 = .ok (.iconst 0, 1) := by decide +kernel
theorem dL_law_297 : decode cL_law 297 = .ok (.ireturn, 1) := by decide +kernel
theorem dL_law_298 : decode cL_law 298 = .ok (.goto 1742, 3) := by decide +kernel
theorem dL_law_301 : decode cL_law 301 = .ok (.iload 12, 2) := by decide +kernel
theorem dL_law_303 : decode cL_law 303 = .ok (.iconst 3, 1) := by decide +kernel
theorem dL_law_304 : decode cL_law 304 = .ok (.if_icmp .ne 61, 3) := by decide +kernel
theorem dL_law_307 : decode cL_law 307 = .ok (.iload 11, 2) := by decide +kernel
theorem dL_law_309 : decode cL_law 309 = .ok (.bipush 30, 2) := by decide +kernel
theorem dL_law_311 : decode cL_law 311 = .ok (.invokestatic 84, 3) := by decide +kernel
theorem dL_law_314 : decode cL_law 314 = .ok (.istore 19, 2) := by decide +kernel
theorem dL_law_316 : decode cL_law 316 = .ok (.aload 6, 2) := by decide +kernel
theorem dL_law_318 : decode cL_law 318 = .ok (.iload 14, 2) := by decide +kernel
theorem dL_law_320 : decode cL_law 320 = .ok (.dup2, 1) := by decide +kernel
theorem dL_law_321 : decode cL_law 321 = .ok (.iaload, 1) := by decide +kernel
theorem dL_law_322 : decode cL_law 322 = .ok (.iconst 1, 1) := by decide +kernel
theorem dL_law_323 : decode cL_law 323 = .ok (.iload 19, 2) := by decide +kernel
theorem dL_law_325 : decode cL_law 325 = .ok (.ishl, 1) := by decide +kernel
theorem dL_law_326 : decode cL_law 326 = .ok (.ixor, 1) := by decide +kernel
theorem dL_law_327 : decode cL_law 327 = .ok (.iastore, 1) := by decide +kernel
theorem dL_law_328 : decode cL_law 328 = .ok (.aload_n 1, 1) := by decide +kernel
theorem dL_law_329 : decode cL_law 329 = .ok (.iload 14, 2) := by decide +kernel
theorem dL_law_331 : decode cL_law 331 = .ok (.iload 19, 2) := by decide +kernel
theorem dL_law_333 : decode cL_law 333 = .ok (.iconst 1, 1) := by decide +kernel
theorem dL_law_334 : decode cL_law 334 = .ok (.isub, 1) := by decide +kernel
theorem dL_law_335 : decode cL_law 335 = .ok (.invokevirtual 93, 3) := by decide +kernel
theorem dL_law_338 : decode cL_law 338 = .ok (.aload 6, 2) := by decide +kernel
theorem dL_law_340 : decode cL_law 340 = .ok (.iload 14, 2) := by decide +kernel
theorem dL_law_342 : decode cL_law 342 = .ok (.iaload, 1) := by decide +kernel
theorem dL_law_343 : decode cL_law 343 = .ok (.iload 19, 2) := by decide +kernel
theorem dL_law_345 : decode cL_law 345 = .ok (.ishr, 1) := by decide +kernel
theorem dL_law_346 : decode cL_law 346 = .ok (.iconst 1, 1) := by decide +kernel
theorem dL_law_347 : decode cL_law 347 = .ok (.iand, 1) := by decide +kernel
theorem dL_law_348 : decode cL_law 348 = .ok (.iconst 1, 1) := by decide +kernel
theorem dL_law_349 : decode cL_law 349 = .ok (.if_icmp .ne 7, 3) := by decide +kernel
theorem dL_law_352 : decode cL_law 352 = .ok (.iconst 1, 1) := by decide +kernel
theorem dL_law_353 : decode cL_law 353 = .ok (.goto 4, 3) := by decide +kernel
theorem dL_law_356 : decode cL_law 356 = .ok (.iconst 0, 1) := by decide +kernel
theorem dL_law_357 : decode cL_law 357 = .ok (.if_icmp .eq 5, 3) := by decide +kernel
theorem dL_law_360 : decode cL_law 360 = .ok (.iconst 0, 1) := by decide +kernel
theorem dL_law_361 : decode cL_law 361 = .ok (.ireturn, 1) := by decide +kernel
theorem dL_law_362 : decode cL_law 362 = .ok (.goto 1678, 3) := by decide +kernel
theorem dL_law_365 : decode cL_law 365 = .ok (.iload 12, 2) := by decide +kernel
theorem dL_law_367 : decode cL_law 367 = .ok (.bipush 7, 2) := by decide +kernel
theorem dL_law_369 : decode cL_law 369 = .ok (.if_icmp .ge 305, 3) := by decide +kernel
theorem dL_law_372 : decode cL_law 372 = .ok (.aload 8, 2) := by decide +kernel
theorem dL_law_374 : decode cL_law 374 = .ok (.iconst 2, 1) := by decide +kernel
theorem dL_law_375 : decode cL_law 375 = .ok (.iaload, 1) := by decide +kernel
theorem dL_law_376 : decode cL_law 376 = .ok (.bipush 6, 2) := by decide +kernel
theorem dL_law_378 : decode cL_law 378 = .ok (.if_icmp .ne 6, 3) := by decide +kernel
theorem dL_law_381 : decode cL_law 381 = .ok (.goto 1711, 3) := by decide +kernel
theorem dL_law_384 : decode cL_law 384 = .ok (.aload_n 2, 1) := by decide +kernel
theorem dL_law_385 : decode cL_law 385 = .ok (.iload 18, 2) := by decide +kernel
theorem dL_law_387 : decode cL_law 387 = .ok (.iconst 1, 1) := by decide +kernel
theorem dL_law_388 : decode cL_law 388 = .ok (.iastore, 1) := by decide +kernel
theorem dL_law_389 : decode cL_law 389 = .ok (.aload_n 2, 1) := by decide +kernel
theorem dL_law_390 : decode cL_law 390 = .ok (.iload 18, 2) := by decide +kernel
theorem dL_law_392 : decode cL_law 392 = .ok (.iconst 1, 1) := by decide +kernel
theorem dL_law_393 : decode cL_law 393 = .ok (.iadd, 1) := by decide +kernel
theorem dL_law_394 : decode cL_law 394 = .ok (.iload 12, 2) := by decide +kernel
theorem dL_law_396 : decode cL_law 396 = .ok (.iconst 4, 1) := by decide +kernel
theorem dL_law_397 : decode cL_law 397 = .ok (.isub, 1) := by decide +kernel
theorem dL_law_398 : decode cL_law 398 = .ok (.iastore, 1) := by decide +kernel
theorem dL_law_399 : decode cL_law 399 = .ok (.aload_n 2, 1) := by decide +kernel
theorem dL_law_400 : decode cL_law 400 = .ok (.iload 18, 2) := by decide +kernel
theorem dL_law_402 : decode cL_law 402 = .ok (.iconst 2, 1) := by decide +kernel
theorem dL_law_403 : decode cL_law 403 = .ok (.iadd, 1) := by decide +kernel
theorem dL_law_404 : decode cL_law 404 = .ok (.iload 13, 2) := by decide +kernel
theorem dL_law_406 : decode cL_law 406 = .ok (.iastore, 1) := by decide +kernel
theorem dL_law_407 : decode cL_law 407 = .ok (.aload_n 2, 1) := by decide +kernel
theorem dL_law_408 : decode cL_law 408 = .ok (.iload 18, 2) := by decide +kernel
theorem dL_law_410 : decode cL_law 410 = .ok (.iconst 3, 1) := by decide +kernel
theorem dL_law_411 : decode cL_law 411 = .ok (.iadd, 1) := by decide +kernel
theorem dL_law_412 : decode cL_law 412 = .ok (.iload 12, 2) := by decide +kernel
theorem dL_law_414 : decode cL_law 414 = .ok (.iconst 4, 1) := by decide +kernel
theorem dL_law_415 : decode cL_law 415 = .ok (.if_icmp .ne 7, 3) := by decide +kernel
theorem dL_law_418 : decode cL_law 418 = .ok (.iconst 0, 1) := by decide +kernel
theorem dL_law_419 : decode cL_law 419 = .ok (.goto 5, 3) := by decide +kernel
theorem dL_law_422 : decode cL_law 422 = .ok (.iload 14, 2) := by decide +kernel
theorem dL_law_424 : decode cL_law 424 = .ok (.iastore, 1) := by decide +kernel
theorem dL_law_425 : decode cL_law 425 = .ok (.aload_n 2, 1) := by decide +kernel
theorem dL_law_426 : decode cL_law 426 = .ok (.iload 18, 2) := by decide +kernel
theorem dL_law_428 : decode cL_law 428 = .ok (.iconst 4, 1) := by decide +kernel
theorem dL_law_429 : decode cL_law 429 = .ok (.iadd, 1) := by decide +kernel
theorem dL_law_430 : decode cL_law 430 = .ok (.iload 12, 2) := by decide +kernel
theorem dL_law_432 : decode cL_law 432 = .ok (.iconst 4, 1) := by decide +kernel
theorem dL_law_433 : decode cL_law 433 = .ok (.if_icmp .ne 14, 3) := by decide +kernel
theorem dL_law_436 : decode cL_law 436 = .ok (.iload 11, 2) := by decide +kernel
theorem dL_law_438 : decode cL_law 438 = .ok (.sipush 672, 3) := by decide +kernel
theorem dL_law_441 : decode cL_law 441 = .ok (.invokestatic 84, 3) := by decide +kernel
theorem dL_law_444 : decode cL_law 444 = .ok (.goto 10, 3) := by decide +kernel
theorem dL_law_447 : decode cL_law 447 = .ok (.iload 11, 2) := by decide +kernel
theorem dL_law_449 : decode cL_law 449 = .ok (.bipush 24, 2) := by decide +kernel
theorem dL_law_451 : decode cL_law 451 = .ok (.invokestatic 84, 3) := by decide +kernel
theorem dL_law_454 : decode cL_law 454 = .ok (.iastore, 1) := by decide +kernel
theorem dL_law_455 : decode cL_law 455 = .ok (.aload_n 2, 1) := by decide +kernel
theorem dL_law_456 : decode cL_law 456 = .ok (.iload 18, 2) := by decide +kernel
theorem dL_law_458 : decode cL_law 458 = .ok (.iconst 5, 1) := by decide +kernel
theorem dL_law_459 : decode cL_law 459 = .ok (.iadd, 1) := by decide +kernel
theorem dL_law_460 : decode cL_law 460 = .ok (.iload 12, 2) := by decide +kernel
theorem dL_law_462 : decode cL_law 462 = .ok (.iconst 4, 1) := by decide +kernel
theorem dL_law_463 : decode cL_law 463 = .ok (.if_icmp .ne 33, 3) := by decide +kernel
theorem dL_law_466 : decode cL_law 466 = .ok (.aload_n 2, 1) := by decide +kernel
theorem dL_law_467 : decode cL_law 467 = .ok (.iload 18, 2) := by decide +kernel
theorem dL_law_469 : decode cL_law 469 = .ok (.iconst 4, 1) := by decide +kernel
theorem dL_law_470 : decode cL_law 470 = .ok (.iadd, 1) := by decide +kernel
theorem dL_law_471 : decode cL_law 471 = .ok (.iaload, 1) := by decide +kernel
theorem dL_law_472 : decode cL_law 472 = .ok (.iconst 1, 1) := by decide +kernel
theorem dL_law_473 : decode cL_law 473 = .ok (.iadd, 1) := by decide +kernel
theorem dL_law_474 : decode cL_law 474 = .ok (.iload 11, 2) := by decide +kernel
theorem dL_law_476 : decode cL_law 476 = .ok (.bipush 12, 2) := by decide +kernel
theorem dL_law_478 : decode cL_law 478 = .ok (.ishr, 1) := by decide +kernel
theorem dL_law_479 : decode cL_law 479 = .ok (.sipush 672, 3) := by decide +kernel
theorem dL_law_482 : decode cL_law 482 = .ok (.aload_n 2, 1) := by decide +kernel
theorem dL_law_483 : decode cL_law 483 = .ok (.iload 18, 2) := by decide +kernel
theorem dL_law_485 : decode cL_law 485 = .ok (.iconst 4, 1) := by decide +kernel
theorem dL_law_486 : decode cL_law 486 = .ok (.iadd, 1) := by decide +kernel
theorem dL_law_487 : decode cL_law 487 = .ok (.iaload, 1) := by decide +kernel
theorem dL_law_488 : decode cL_law 488 = .ok (.isub, 1) := by decide +kernel
theorem dL_law_489 : decode cL_law 489 = .ok (.invokestatic 84, 3) := by decide +kernel
theorem dL_law_492 : decode cL_law 492 = .ok (.iadd, 1) := by decide +kernel
theorem dL_law_493 : decode cL_law 493 = .ok (.goto 13, 3) := by decide +kernel
theorem dL_law_496 : decode cL_law 496 = .ok (.iload 11, 2) := by decide +kernel
theorem dL_law_498 : decode cL_law 498 = .ok (.bipush 8, 2) := by decide +kernel
theorem dL_law_500 : decode cL_law 500 = .ok (.ishr, 1) := by decide +kernel
theorem dL_law_501 : decode cL_law 501 = .ok (.bipush 24, 2) := by decide +kernel
theorem dL_law_503 : decode cL_law 503 = .ok (.invokestatic 84, 3) := by decide +kernel
theorem dL_law_506 : decode cL_law 506 = .ok (.iastore, 1) := by decide +kernel
theorem dL_law_507 : decode cL_law 507 = .ok (.aload_n 2, 1) := by decide +kernel
theorem dL_law_508 : decode cL_law 508 = .ok (.iload 18, 2) := by decide +kernel
theorem dL_law_510 : decode cL_law 510 = .ok (.bipush 6, 2) := by decide +kernel
theorem dL_law_512 : decode cL_law 512 = .ok (.iadd, 1) := by decide +kernel
theorem dL_law_513 : decode cL_law 513 = .ok (.iload 15, 2) := by decide +kernel
theorem dL_law_515 : decode cL_law 515 = .ok (.iastore, 1) := by decide +kernel
theorem dL_law_516 : decode cL_law 516 = .ok (.aload 8, 2) := by decide +kernel
theorem dL_law_518 : decode cL_law 518 = .ok (.iconst 2, 1) := by decide +kernel
theorem dL_law_519 : decode cL_law 519 = .ok (.dup2, 1) := by decide +kernel
theorem dL_law_520 : decode cL_law 520 = .ok (.iaload, 1) := by decide +kernel
theorem dL_law_521 : decode cL_law 521 = .ok (.iconst 1, 1) := by decide +kernel
theorem dL_law_522 : decode cL_law 522 = .ok (.iadd, 1) := by decide +kernel
theorem dL_law_523 : decode cL_law 523 = .ok (.iastore, 1) := by decide +kernel
theorem dL_law_524 : decode cL_law 524 = .ok (.iload 12, 2) := by decide +kernel
theorem dL_law_526 : decode cL_law 526 = .ok (.iconst 4, 1) := by decide +kernel
theorem dL_law_527 : decode cL_law 527 = .ok (.if_icmp .ne 26, 3) := by decide +kernel
theorem dL_law_530 : decode cL_law 530 = .ok (.aload_n 1, 1) := by decide +kernel
theorem dL_law_531 : decode cL_law 531 = .ok (.iload 13, 2) := by decide +kernel
theorem dL_law_533 : decode cL_law 533 = .ok (.aload_n 2, 1) := by decide +kernel
theorem dL_law_534 : decode cL_law 534 = .ok (.iload 18, 2) := by decide +kernel
theorem dL_law_536 : decode cL_law 536 = .ok (.iconst 4, 1) := by decide +kernel
theorem dL_law_537 : decode cL_law 537 = .ok (.iadd, 1) := by decide +kernel
theorem dL_law_538 : decode cL_law 538 = .ok (.iaload, 1) := by decide +kernel
theorem dL_law_539 : decode cL_law 539 = .ok (.aload_n 2, 1) := by decide +kernel
theorem dL_law_540 : decode cL_law 540 = .ok (.iload 18, 2) := by decide +kernel
theorem dL_law_542 : decode cL_law 542 = .ok (.iconst 5, 1) := by decide +kernel
theorem dL_law_543 : decode cL_law 543 = .ok (.iadd, 1) := by decide +kernel
theorem dL_law_544 : decode cL_law 544 = .ok (.iaload, 1) := by decide +kernel
theorem dL_law_545 : decode cL_law 545 = .ok (.iload 15, 2) := by decide +kernel
theorem dL_law_547 : decode cL_law 547 = .ok (.invokevirtual 97, 3) := by decide +kernel
theorem dL_law_550 : decode cL_law 550 = .ok (.goto 44, 3) := by decide +kernel
theorem dL_law_553 : decode cL_law 553 = .ok (.iload 12, 2) := by decide +kernel
theorem dL_law_555 : decode cL_law 555 = .ok (.iconst 5, 1) := by decide +kernel
theorem dL_law_556 : decode cL_law 556 = .ok (.if_icmp .ne 28, 3) := by decide +kernel
theorem dL_law_559 : decode cL_law 559 = .ok (.aload_n 1, 1) := by decide +kernel
theorem dL_law_560 : decode cL_law 560 = .ok (.iload 13, 2) := by decide +kernel
theorem dL_law_562 : decode cL_law 562 = .ok (.iload 14, 2) := by decide +kernel
theorem dL_law_564 : decode cL_law 564 = .ok (.aload_n 2, 1) := by decide +kernel
theorem dL_law_565 : decode cL_law 565 = .ok (.iload 18, 2) := by decide +kernel
theorem dL_law_567 : decode cL_law 567 = .ok (.iconst 4, 1) := by decide +kernel
theorem dL_law_568 : decode cL_law 568 = .ok (.iadd, 1) := by decide +kernel
theorem dL_law_569 : decode cL_law 569 = .ok (.iaload, 1) := by decide +kernel
theorem dL_law_570 : decode cL_law 570 = .ok (.aload_n 2, 1) := by decide +kernel
theorem dL_law_571 : decode cL_law 571 = .ok (.iload 18, 2) := by decide +kernel
theorem dL_law_573 : decode cL_law 573 = .ok (.iconst 5, 1) := by decide +kernel
theorem dL_law_574 : decode cL_law 574 = .ok (.iadd, 1) := by decide +kernel
theorem dL_law_575 : decode cL_law 575 = .ok (.iaload, 1) := by decide +kernel
theorem dL_law_576 : decode cL_law 576 = .ok (.iload 15, 2) := by decide +kernel
theorem dL_law_578 : decode cL_law 578 = .ok (.invokevirtual 101, 3) := by decide +kernel
theorem dL_law_581 : decode cL_law 581 = .ok (.goto 13, 3) := by decide +kernel
theorem dL_law_584 : decode cL_law 584 = .ok (.aload_n 1, 1) := by decide +kernel
theorem dL_law_585 : decode cL_law 585 = .ok (.iload 13, 2) := by decide +kernel
theorem dL_law_587 : decode cL_law 587 = .ok (.iload 14, 2) := by decide +kernel
theorem dL_law_589 : decode cL_law 589 = .ok (.iload 15, 2) := by decide +kernel
theorem dL_law_591 : decode cL_law 591 = .ok (.invokevirtual 105, 3) := by decide +kernel
theorem dL_law_594 : decode cL_law 594 = .ok (.istore 19, 2) := by decide +kernel
theorem dL_law_596 : decode cL_law 596 = .ok (.iload 19, 2) := by decide +kernel
theorem dL_law_598 : decode cL_law 598 = .ok (.aload 8, 2) := by decide +kernel
theorem dL_law_600 : decode cL_law 600 = .ok (.iconst 2, 1) := by decide +kernel
theorem dL_law_601 : decode cL_law 601 = .ok (.iaload, 1) := by decide +kernel
theorem dL_law_602 : decode cL_law 602 = .ok (.iconst 1, 1) := by decide +kernel
theorem dL_law_603 : decode cL_law 603 = .ok (.isub, 1) := by decide +kernel
theorem dL_law_604 : decode cL_law 604 = .ok (.if_icmp .eq 5, 3) := by decide +kernel
theorem dL_law_607 : decode cL_law 607 = .ok (.iconst 0, 1) := by decide +kernel
theorem dL_law_608 : decode cL_law 608 = .ok (.ireturn, 1) := by decide +kernel
theorem dL_law_609 : decode cL_law 609 = .ok (.iconst 0, 1) := by decide +kernel
theorem dL_law_610 : decode cL_law 610 = .ok (.istore 20, 2) := by decide +kernel
theorem dL_law_612 : decode cL_law 612 = .ok (.iconst 0, 1) := by decide +kernel
theorem dL_law_613 : decode cL_law 613 = .ok (.istore 21, 2) := by decide +kernel
theorem dL_law_615 : decode cL_law 615 = .ok (.iload 21, 2) := by decide +kernel
theorem dL_law_617 : decode cL_law 617 = .ok (.sipush 672, 3) := by decide +kernel
theorem dL_law_620 : decode cL_law 620 = .ok (.if_icmp .ge 38, 3) := by decide +kernel
theorem dL_law_623 : decode cL_law 623 = .ok (.iload 20, 2) := by decide +kernel
theorem dL_law_625 : decode cL_law 625 = .ok (.aload_n 2, 1) := by decide +kernel
theorem dL_law_626 : decode cL_law 626 = .ok (.aload 8, 2) := by decide +kernel
theorem dL_law_628 : decode cL_law 628 = .ok (.iconst 2, 1) := by decide +kernel
theorem dL_law_629 : decode cL_law 629 = .ok (.iaload, 1) := by decide +kernel
theorem dL_law_630 : decode cL_law 630 = .ok (.iconst 1, 1) := by decide +kernel
theorem dL_law_631 : decode cL_law 631 = .ok (.isub, 1) := by decide +kernel
theorem dL_law_632 : decode cL_law 632 = .ok (.iload 21, 2) := by decide +kernel
theorem dL_law_634 : decode cL_law 634 = .ok (.aload 5, 2) := by decide +kernel
theorem dL_law_636 : decode cL_law 636 = .ok (.aload 6, 2) := by decide +kernel
theorem dL_law_638 : decode cL_law 638 = .ok (.invokestatic 20, 3) := by decide +kernel
theorem dL_law_641 : decode cL_law 641 = .ok (.ifCond .eq 7, 3) := by decide +kernel
theorem dL_law_644 : decode cL_law 644 = .ok (.iconst 1, 1) := by decide +kernel
theorem dL_law_645 : decode cL_law 645 = .ok (.goto 4, 3) := by decide +kernel
theorem dL_law_648 : decode cL_law 648 = .ok (.iconst 0, 1) := by decide +kernel
theorem dL_law_649 : decode cL_law 649 = .ok (.iadd, 1) := by decide +kernel
theorem dL_law_650 : decode cL_law 650 = .ok (.istore 20, 2) := by decide +kernel
theorem dL_law_652 : decode cL_law 652 = .ok (.iinc 21 1, 3) := by decide +kernel
theorem dL_law_655 : decode cL_law 655 = .ok (.goto (-40), 3) := by decide +kernel
theorem dL_law_658 : decode cL_law 658 = .ok (.aload_n 1, 1) := by decide +kernel
theorem dL_law_659 : decode cL_law 659 = .ok (.iload 19, 2) := by decide +kernel
theorem dL_law_661 : decode cL_law 661 = .ok (.invokevirtual 46, 3) := by decide +kernel
theorem dL_law_664 : decode cL_law 664 = .ok (.iload 20, 2) := by decide +kernel
theorem dL_law_666 : decode cL_law 666 = .ok (.if_icmp .eq 5, 3) := by decide +kernel
theorem dL_law_669 : decode cL_law 669 = .ok (.iconst 0, 1) := by decide +kernel
theorem dL_law_670 : decode cL_law 670 = .ok (.ireturn, 1) := by decide +kernel
theorem dL_law_671 : decode cL_law 671 = .ok (.goto 1369, 3) := by decide +kernel
theorem dL_law_674 : decode cL_law 674 = .ok (.iload 12, 2) := by decide +kernel
theorem dL_law_676 : decode cL_law 676 = .ok (.bipush 7, 2) := by decide +kernel
theorem dL_law_678 : decode cL_law 678 = .ok (.if_icmp .ne 116, 3) := by decide +kernel
theorem dL_law_681 : decode cL_law 681 = .ok (.iload 11, 2) := by decide +kernel
theorem dL_law_683 : decode cL_law 683 = .ok (.iconst 3, 1) := by decide +kernel
theorem dL_law_684 : decode cL_law 684 = .ok (.invokestatic 84, 3) := by decide +kernel
theorem dL_law_687 : decode cL_law 687 = .ok (.ifCond .le 6, 3) := by decide +kernel
theorem dL_law_690 : decode cL_law 690 = .ok (.goto 1402, 3) := by decide +kernel
theorem dL_law_693 : decode cL_law 693 = .ok (.aload 8, 2) := by decide +kernel
theorem dL_law_695 : decode cL_law 695 = .ok (.iconst 2, 1) := by decide +kernel
theorem dL_law_696 : decode cL_law 696 = .ok (.iaload, 1) := by decide +kernel
theorem dL_law_697 : decode cL_law 697 = .ok (.ifCond .eq 13, 3) := by decide +kernel
theorem dL_law_700 : decode cL_law 700 = .ok (.aload_n 2, 1) := by decide +kernel
theorem dL_law_701 : decode cL_law 701 = .ok (.bipush 7, 2) := by decide +kernel
theorem dL_law_703 : decode cL_law 703 = .ok (.iload 17, 2) := by decide +kernel
theorem dL_law_705 : decode cL_law 705 = .ok (.imul, 1) := by decide +kernel
theorem dL_law_706 : decode cL_law 706 = .ok (.iaload, 1) := by decide +kernel
theorem dL_law_707 : decode cL_law 707 = .ok (.ifCond .ne 30, 3) := by decide +kernel
theorem dL_law_710 : decode cL_law 710 = .ok (.aload_n 1, 1) := by decide +kernel
theorem dL_law_711 : decode cL_law 711 = .ok (.iconst 3, 1) := by decide +kernel
theorem dL_law_712 : decode cL_law 712 = .ok (.iload 17, 2) := by decide +kernel
theorem dL_law_714 : decode cL_law 714 = .ok (.iconst 0, 1) := by decide +kernel
theorem dL_law_715 : decode cL_law 715 = .ok (.invokestatic 109, 3) := by decide +kernel
theorem dL_law_718 : decode cL_law 718 = .ok (.iconst 2, 1) := by decide +kernel
theorem dL_law_719 : decode cL_law 719 = .ok (.if_icmp .ne 16, 3) := by decide +kernel
theorem dL_law_722 : decode cL_law 722 = .ok (.aload_n 1, 1) := by decide +kernel
theorem dL_law_723 : decode cL_law 723 = .ok (.bipush 6, 2) := by decide +kernel
theorem dL_law_725 : decode cL_law 725 = .ok (.iload 17, 2) := by decide +kernel
theorem dL_law_727 : decode cL_law 727 = .ok (.iconst 0, 1) := by decide +kernel
theorem dL_law_728 : decode cL_law 728 = .ok (.invokestatic 109, 3) := by decide +kernel
theorem dL_law_731 : decode cL_law 731 = .ok (.iconst 2, 1) := by decide +kernel
theorem dL_law_732 : decode cL_law 732 = .ok (.if_icmp .eq 1360, 3) := by decide +kernel
theorem dL_law_735 : decode cL_law 735 = .ok (.iconst 0, 1) := by decide +kernel
theorem dL_law_736 : decode cL_law 736 = .ok (.ireturn, 1) := by decide +kernel
theorem dL_law_737 : decode cL_law 737 = .ok (.aload_n 2, 1) := by decide +kernel
theorem dL_law_738 : decode cL_law 738 = .ok (.bipush 7, 2) := by decide +kernel
theorem dL_law_740 : decode cL_law 740 = .ok (.iload 17, 2) := by decide +kernel
theorem dL_law_742 : decode cL_law 742 = .ok (.imul, 1) := by decide +kernel
theorem dL_law_743 : decode cL_law 743 = .ok (.iconst 0, 1) := by decide +kernel
theorem dL_law_744 : decode cL_law 744 = .ok (.iastore, 1) := by decide +kernel
