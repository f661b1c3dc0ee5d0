theorem dL_cell_0 : decode cL_cell 0 = .ok (.iload_n 1, 1) := by decide +kernel
theorem dL_cell_1 : decode cL_cell 1 = .ok (.aload_n 0, 1) := by decide +kernel
theorem dL_cell_2 : decode cL_cell 2 = .ok (.arraylength, 1) := by decide +kernel
theorem dL_cell_3 : decode cL_cell 3 = .ok (.if_icmp .ge 9, 3) := by decide +kernel
theorem dL_cell_6 : decode cL_cell 6 = .ok (.aload_n 0, 1) := by decide +kernel
theorem dL_cell_7 : decode cL_cell 7 = .ok (.iload_n 1, 1) := by decide +kernel
theorem dL_cell_8 : decode cL_cell 8 = .ok (.iaload, 1) := by decide +kernel
theorem dL_cell_9 : decode cL_cell 9 = .ok (.goto 11, 3) := by decide +kernel
theorem dL_cell_12 : decode cL_cell 12 = .ok (.ldc 7, 2) := by decide +kernel
theorem dL_cell_14 : decode cL_cell 14 = .ok (.iload_n 1, 1) := by decide +kernel
theorem dL_cell_15 : decode cL_cell 15 = .ok (.imul, 1) := by decide +kernel
theorem dL_cell_16 : decode cL_cell 16 = .ok (.sipush 2111, 3) := by decide +kernel
theorem dL_cell_19 : decode cL_cell 19 = .ok (.iadd, 1) := by decide +kernel
theorem dL_cell_20 : decode cL_cell 20 = .ok (.ldc 8, 2) := by decide +kernel
theorem dL_cell_22 : decode cL_cell 22 = .ok (.iand, 1) := by decide +kernel
theorem dL_cell_23 : decode cL_cell 23 = .ok (.ireturn, 1) := by decide +kernel
theorem dL_account_0 : decode cL_account 0 = .ok (.aload_n 0, 1) := by decide +kernel
theorem dL_account_1 : decode cL_account 1 = .ok (.iload_n 1, 1) := by decide +kernel
theorem dL_account_2 : decode cL_account 2 = .ok (.iconst 0, 1) := by decide +kernel
theorem dL_account_3 : decode cL_account 3 = .ok (.invokevirtual 9, 3) := by decide +kernel
theorem dL_account_6 : decode cL_account 6 = .ok (.ldc 15, 2) := by decide +kernel
theorem dL_account_8 : decode cL_account 8 = .ok (.isub, 1) := by decide +kernel
theorem dL_account_9 : decode cL_account 9 = .ok (.ireturn, 1) := by decide +kernel
theorem dL_sums_0 : decode cL_sums 0 = .ok (.aload_n 0, 1) := by decide +kernel
theorem dL_sums_1 : decode cL_sums 1 = .ok (.bipush 9, 2) := by decide +kernel
theorem dL_sums_3 : decode cL_sums 3 = .ok (.invokevirtual 16, 3) := by decide +kernel
theorem dL_sums_6 : decode cL_sums 6 = .ok (.ldc 15, 2) := by decide +kernel
theorem dL_sums_8 : decode cL_sums 8 = .ok (.isub, 1) := by decide +kernel
theorem dL_sums_9 : decode cL_sums 9 = .ok (.istore_n 1, 1) := by decide +kernel
theorem dL_sums_10 : decode cL_sums 10 = .ok (.iconst 0, 1) := by decide +kernel
theorem dL_sums_11 : decode cL_sums 11 = .ok (.istore_n 2, 1) := by decide +kernel
theorem dL_sums_12 : decode cL_sums 12 = .ok (.iconst 0, 1) := by decide +kernel
theorem dL_sums_13 : decode cL_sums 13 = .ok (.istore_n 3, 1) := by decide +kernel
theorem dL_sums_14 : decode cL_sums 14 = .ok (.iconst 0, 1) := by decide +kernel
theorem dL_sums_15 : decode cL_sums 15 = .ok (.istore 4, 2) := by decide +kernel
theorem dL_sums_17 : decode cL_sums 17 = .ok (.iconst 0, 1) := by decide +kernel
theorem dL_sums_18 : decode cL_sums 18 = .ok (.istore 5, 2) := by decide +kernel
theorem dL_sums_20 : decode cL_sums 20 = .ok (.iload 5, 2) := by decide +kernel
theorem dL_sums_22 : decode cL_sums 22 = .ok (.bipush 10, 2) := by decide +kernel
theorem dL_sums_24 : decode cL_sums 24 = .ok (.if_icmp .ge 50, 3) := by decide +kernel
theorem dL_sums_27 : decode cL_sums 27 = .ok (.iload_n 1, 1) := by decide +kernel
theorem dL_sums_28 : decode cL_sums 28 = .ok (.aload_n 0, 1) := by decide +kernel
theorem dL_sums_29 : decode cL_sums 29 = .ok (.iload 5, 2) := by decide +kernel
theorem dL_sums_31 : decode cL_sums 31 = .ok (.invokestatic 20, 3) := by decide +kernel
theorem dL_sums_34 : decode cL_sums 34 = .ok (.iadd, 1) := by decide +kernel
theorem dL_sums_35 : decode cL_sums 35 = .ok (.istore_n 1, 1) := by decide +kernel
theorem dL_sums_36 : decode cL_sums 36 = .ok (.iload_n 2, 1) := by decide +kernel
theorem dL_sums_37 : decode cL_sums 37 = .ok (.aload_n 0, 1) := by decide +kernel
theorem dL_sums_38 : decode cL_sums 38 = .ok (.iload 5, 2) := by decide +kernel
theorem dL_sums_40 : decode cL_sums 40 = .ok (.iconst 1, 1) := by decide +kernel
theorem dL_sums_41 : decode cL_sums 41 = .ok (.invokevirtual 9, 3) := by decide +kernel
theorem dL_sums_44 : decode cL_sums 44 = .ok (.iadd, 1) := by decide +kernel
theorem dL_sums_45 : decode cL_sums 45 = .ok (.istore_n 2, 1) := by decide +kernel
theorem dL_sums_46 : decode cL_sums 46 = .ok (.iload_n 3, 1) := by decide +kernel
theorem dL_sums_47 : decode cL_sums 47 = .ok (.aload_n 0, 1) := by decide +kernel
theorem dL_sums_48 : decode cL_sums 48 = .ok (.iload 5, 2) := by decide +kernel
theorem dL_sums_50 : decode cL_sums 50 = .ok (.iconst 2, 1) := by decide +kernel
theorem dL_sums_51 : decode cL_sums 51 = .ok (.invokevirtual 9, 3) := by decide +kernel
theorem dL_sums_54 : decode cL_sums 54 = .ok (.iadd, 1) := by decide +kernel
theorem dL_sums_55 : decode cL_sums 55 = .ok (.istore_n 3, 1) := by decide +kernel
theorem dL_sums_56 : decode cL_sums 56 = .ok (.iload 4, 2) := by decide +kernel
theorem dL_sums_58 : decode cL_sums 58 = .ok (.aload_n 0, 1) := by decide +kernel
theorem dL_sums_59 : decode cL_sums 59 = .ok (.iload 5, 2) := by decide +kernel
theorem dL_sums_61 : decode cL_sums 61 = .ok (.iconst 3, 1) := by decide +kernel
theorem dL_sums_62 : decode cL_sums 62 = .ok (.invokevirtual 9, 3) := by decide +kernel
theorem dL_sums_65 : decode cL_sums 65 = .ok (.iadd, 1) := by decide +kernel
theorem dL_sums_66 : decode cL_sums 66 = .ok (.istore 4, 2) := by decide +kernel
theorem dL_sums_68 : decode cL_sums 68 = .ok (.iinc 5 1, 3) := by decide +kernel
theorem dL_sums_71 : decode cL_sums 71 = .ok (.goto (-51), 3) := by decide +kernel
theorem dL_sums_74 : decode cL_sums 74 = .ok (.iconst 0, 1) := by decide +kernel
theorem dL_sums_75 : decode cL_sums 75 = .ok (.istore 5, 2) := by decide +kernel
theorem dL_sums_77 : decode cL_sums 77 = .ok (.iconst 0, 1) := by decide +kernel
theorem dL_sums_78 : decode cL_sums 78 = .ok (.istore 6, 2) := by decide +kernel
theorem dL_sums_80 : decode cL_sums 80 = .ok (.iload 6, 2) := by decide +kernel
theorem dL_sums_82 : decode cL_sums 82 = .ok (.bipush 6, 2) := by decide +kernel
theorem dL_sums_84 : decode cL_sums 84 = .ok (.if_icmp .ge 22, 3) := by decide +kernel
theorem dL_sums_87 : decode cL_sums 87 = .ok (.iload 5, 2) := by decide +kernel
theorem dL_sums_89 : decode cL_sums 89 = .ok (.aload_n 0, 1) := by decide +kernel
theorem dL_sums_90 : decode cL_sums 90 = .ok (.iconst 3, 1) := by decide +kernel
theorem dL_sums_91 : decode cL_sums 91 = .ok (.iload 6, 2) := by decide +kernel
theorem dL_sums_93 : decode cL_sums 93 = .ok (.iadd, 1) := by decide +kernel
theorem dL_sums_94 : decode cL_sums 94 = .ok (.invokevirtual 16, 3) := by decide +kernel
theorem dL_sums_97 : decode cL_sums 97 = .ok (.iadd, 1) := by decide +kernel
theorem dL_sums_98 : decode cL_sums 98 = .ok (.istore 5, 2) := by decide +kernel
theorem dL_sums_100 : decode cL_sums 100 = .ok (.iinc 6 1, 3) := by decide +kernel
theorem dL_sums_103 : decode cL_sums 103 = .ok (.goto (-23), 3) := by decide +kernel
theorem dL_sums_106 : decode cL_sums 106 = .ok (.iconst 0, 1) := by decide +kernel
theorem dL_sums_107 : decode cL_sums 107 = .ok (.istore 6, 2) := by decide +kernel
theorem dL_sums_109 : decode cL_sums 109 = .ok (.iconst 0, 1) := by decide +kernel
theorem dL_sums_110 : decode cL_sums 110 = .ok (.istore 7, 2) := by decide +kernel
theorem dL_sums_112 : decode cL_sums 112 = .ok (.iload 7, 2) := by decide +kernel
theorem dL_sums_114 : decode cL_sums 114 = .ok (.aload_n 0, 1) := by decide +kernel
theorem dL_sums_115 : decode cL_sums 115 = .ok (.iconst 1, 1) := by decide +kernel
theorem dL_sums_116 : decode cL_sums 116 = .ok (.invokevirtual 16, 3) := by decide +kernel
theorem dL_sums_119 : decode cL_sums 119 = .ok (.if_icmp .ge 35, 3) := by decide +kernel
theorem dL_sums_122 : decode cL_sums 122 = .ok (.iload 6, 2) := by decide +kernel
theorem dL_sums_124 : decode cL_sums 124 = .ok (.aload_n 0, 1) := by decide +kernel
theorem dL_sums_125 : decode cL_sums 125 = .ok (.iload 7, 2) := by decide +kernel
theorem dL_sums_127 : decode cL_sums 127 = .ok (.bipush 6, 2) := by decide +kernel
theorem dL_sums_129 : decode cL_sums 129 = .ok (.invokevirtual 26, 3) := by decide +kernel
theorem dL_sums_132 : decode cL_sums 132 = .ok (.iadd, 1) := by decide +kernel
theorem dL_sums_133 : decode cL_sums 133 = .ok (.istore 6, 2) := by decide +kernel
theorem dL_sums_135 : decode cL_sums 135 = .ok (.iload 4, 2) := by decide +kernel
theorem dL_sums_137 : decode cL_sums 137 = .ok (.aload_n 0, 1) := by decide +kernel
theorem dL_sums_138 : decode cL_sums 138 = .ok (.iload 7, 2) := by decide +kernel
theorem dL_sums_140 : decode cL_sums 140 = .ok (.bipush 12, 2) := by decide +kernel
theorem dL_sums_142 : decode cL_sums 142 = .ok (.invokevirtual 26, 3) := by decide +kernel
theorem dL_sums_145 : decode cL_sums 145 = .ok (.isub, 1) := by decide +kernel
theorem dL_sums_146 : decode cL_sums 146 = .ok (.istore 4, 2) := by decide +kernel
theorem dL_sums_148 : decode cL_sums 148 = .ok (.iinc 7 1, 3) := by decide +kernel
theorem dL_sums_151 : decode cL_sums 151 = .ok (.goto (-39), 3) := by decide +kernel
theorem dL_sums_154 : decode cL_sums 154 = .ok (.iload_n 1, 1) := by decide +kernel
theorem dL_sums_155 : decode cL_sums 155 = .ok (.ifCond .ne 54, 3) := by decide +kernel
theorem dL_sums_158 : decode cL_sums 158 = .ok (.iload 5, 2) := by decide +kernel
theorem dL_sums_160 : decode cL_sums 160 = .ok (.aload_n 0, 1) := by decide +kernel
theorem dL_sums_161 : decode cL_sums 161 = .ok (.iconst 2, 1) := by decide +kernel
theorem dL_sums_162 : decode cL_sums 162 = .ok (.invokevirtual 16, 3) := by decide +kernel
theorem dL_sums_165 : decode cL_sums 165 = .ok (.if_icmp .ne 44, 3) := by decide +kernel
theorem dL_sums_168 : decode cL_sums 168 = .ok (.iload_n 2, 1) := by decide +kernel
theorem dL_sums_169 : decode cL_sums 169 = .ok (.aload_n 0, 1) := by decide +kernel
theorem dL_sums_170 : decode cL_sums 170 = .ok (.iconst 3, 1) := by decide +kernel
theorem dL_sums_171 : decode cL_sums 171 = .ok (.invokevirtual 16, 3) := by decide +kernel
theorem dL_sums_174 : decode cL_sums 174 = .ok (.aload_n 0, 1) := by decide +kernel
theorem dL_sums_175 : decode cL_sums 175 = .ok (.iconst 4, 1) := by decide +kernel
theorem dL_sums_176 : decode cL_sums 176 = .ok (.invokevirtual 16, 3) := by decide +kernel
theorem dL_sums_179 : decode cL_sums 179 = .ok (.iadd, 1) := by decide +kernel
theorem dL_sums_180 : decode cL_sums 180 = .ok (.if_icmp .ne 29, 3) := by decide +kernel
theorem dL_sums_183 : decode cL_sums 183 = .ok (.iload_n 3, 1) := by decide +kernel
theorem dL_sums_184 : decode cL_sums 184 = .ok (.aload_n 0, 1) := by decide +kernel
theorem dL_sums_185 : decode cL_sums 185 = .ok (.iconst 5, 1) := by decide +kernel
theorem dL_sums_186 : decode cL_sums 186 = .ok (.invokevirtual 16, 3) := by decide +kernel
theorem dL_sums_189 : decode cL_sums 189 = .ok (.if_icmp .ne 20, 3) := by decide +kernel
theorem dL_sums_192 : decode cL_sums 192 = .ok (.iload 6, 2) := by decide +kernel
theorem dL_sums_194 : decode cL_sums 194 = .ok (.iload_n 2, 1) := by decide +kernel
theorem dL_sums_195 : decode cL_sums 195 = .ok (.iload_n 3, 1) := by decide +kernel
theorem dL_sums_196 : decode cL_sums 196 = .ok (.iadd, 1) := by decide +kernel
theorem dL_sums_197 : decode cL_sums 197 = .ok (.if_icmp .ne 12, 3) := by decide +kernel
theorem dL_sums_200 : decode cL_sums 200 = .ok (.iload 4, 2) := by decide +kernel
theorem dL_sums_202 : decode cL_sums 202 = .ok (.ifCond .ne 7, 3) := by decide +kernel
theorem dL_sums_205 : decode cL_sums 205 = .ok (.iconst 1, 1) := by decide +kernel
theorem dL_sums_206 : decode cL_sums 206 = .ok (.goto 4, 3) := by decide +kernel
theorem dL_sums_209 : decode cL_sums 209 = .ok (.iconst 0, 1) := by decide +kernel
theorem dL_sums_210 : decode cL_sums 210 = .ok (.ireturn, 1) := by decide +kernel
theorem dL_dates_0 : decode cL_dates 0 = .ok (.iconst 1, 1) := by decide +kernel
theorem dL_dates_1 : decode cL_dates 1 = .ok (.istore_n 1, 1) := by decide +kernel
theorem dL_dates_2 : decode cL_dates 2 = .ok (.iconst 0, 1) := by decide +kernel
theorem dL_dates_3 : decode cL_dates 3 = .ok (.istore_n 2, 1) := by decide +kernel
theorem dL_dates_4 : decode cL_dates 4 = .ok (.iload_n 2, 1) := by decide +kernel
theorem dL_dates_5 : decode cL_dates 5 = .ok (.aload_n 0, 1) := by decide +kernel
theorem dL_dates_6 : decode cL_dates 6 = .ok (.iconst 1, 1) := by decide +kernel
theorem dL_dates_7 : decode cL_dates 7 = .ok (.invokevirtual 16, 3) := by decide +kernel
theorem dL_dates_10 : decode cL_dates 10 = .ok (.if_icmp .ge 718, 3) := by decide +kernel
theorem dL_dates_13 : decode cL_dates 13 = .ok (.iload_n 1, 1) := by decide +kernel
theorem dL_dates_14 : decode cL_dates 14 = .ok (.ifCond .eq 714, 3) := by decide +kernel
theorem dL_dates_17 : decode cL_dates 17 = .ok (.iconst 0, 1) := by decide +kernel
theorem dL_dates_18 : decode cL_dates 18 = .ok (.istore_n 3, 1) := by decide +kernel
theorem dL_dates_19 : decode cL_dates 19 = .ok (.iconst 0, 1) := by decide +kernel
theorem dL_dates_20 : decode cL_dates 20 = .ok (.istore 4, 2) := by decide +kernel
theorem dL_dates_22 : decode cL_dates 22 = .ok (.iconst 0, 1) := by decide +kernel
theorem dL_dates_23 : decode cL_dates 23 = .ok (.istore 5, 2) := by decide +kernel
theorem dL_dates_25 : decode cL_dates 25 = .ok (.bipush (-5), 2) := by decide +kernel
theorem dL_dates_27 : decode cL_dates 27 = .ok (.istore 6, 2) := by decide +kernel
theorem dL_dates_29 : decode cL_dates 29 = .ok (.aload_n 0, 1) := by decide +kernel
theorem dL_dates_30 : decode cL_dates 30 = .ok (.iload_n 2, 1) := by decide +kernel
theorem dL_dates_31 : decode cL_dates 31 = .ok (.iconst 5, 1) := by decide +kernel
theorem dL_dates_32 : decode cL_dates 32 = .ok (.invokevirtual 26, 3) := by decide +kernel
theorem dL_dates_35 : decode cL_dates 35 = .ok (.istore 7, 2) := by decide +kernel
theorem dL_dates_37 : decode cL_dates 37 = .ok (.iconst 0, 1) := by decide +kernel
theorem dL_dates_38 : decode cL_dates 38 = .ok (.istore 8, 2) := by decide +kernel
theorem dL_dates_40 : decode cL_dates 40 = .ok (.iload 8, 2) := by decide +kernel
theorem dL_dates_42 : decode cL_dates 42 = .ok (.aload_n 0, 1) := by decide +kernel
theorem dL_dates_43 : decode cL_dates 43 = .ok (.iconst 2, 1) := by decide +kernel
theorem dL_dates_44 : decode cL_dates 44 = .ok (.invokevirtual 16, 3) := by decide +kernel
theorem dL_dates_47 : decode cL_dates 47 = .ok (.if_icmp .ge 306, 3) := by decide +kernel
theorem dL_dates_50 : decode cL_dates 50 = .ok (.aload_n 0, 1) := by decide +kernel
theorem dL_dates_51 : decode cL_dates 51 = .ok (.iload 8, 2) := by decide +kernel
theorem dL_dates_53 : decode cL_dates 53 = .ok (.iconst 3, 1) := by decide +kernel
theorem dL_dates_54 : decode cL_dates 54 = .ok (.invokevirtual 29, 3) := by decide +kernel
theorem dL_dates_57 : decode cL_dates 57 = .ok (.istore 9, 2) := by decide +kernel
theorem dL_dates_59 : decode cL_dates 59 = .ok (.aload_n 0, 1) := by decide +kernel
theorem dL_dates_60 : decode cL_dates 60 = .ok (.iload 8, 2) := by decide +kernel
theorem dL_dates_62 : decode cL_dates 62 = .ok (.iconst 0, 1) := by decide +kernel
theorem dL_dates_63 : decode cL_dates 63 = .ok (.invokevirtual 29, 3) := by decide +kernel
theorem dL_dates_66 : decode cL_dates 66 = .ok (.iload_n 2, 1) := by decide +kernel
theorem dL_dates_67 : decode cL_dates 67 = .ok (.if_icmp .ne 280, 3) := by decide +kernel
theorem dL_dates_70 : decode cL_dates 70 = .ok (.iload_n 3, 1) := by decide +kernel
theorem dL_dates_71 : decode cL_dates 71 = .ok (.iload 9, 2) := by decide +kernel
theorem dL_dates_73 : decode cL_dates 73 = .ok (.iconst 3, 1) := by decide +kernel
theorem dL_dates_74 : decode cL_dates 74 = .ok (.if_icmp .ge 7, 3) := by decide +kernel
theorem dL_dates_77 : decode cL_dates 77 = .ok (.iconst 1, 1) := by decide +kernel
theorem dL_dates_78 : decode cL_dates 78 = .ok (.goto 4, 3) := by decide +kernel
theorem dL_dates_81 : decode cL_dates 81 = .ok (.iconst 0, 1) := by decide +kernel
theorem dL_dates_82 : decode cL_dates 82 = .ok (.iadd, 1) := by decide +kernel
theorem dL_dates_83 : decode cL_dates 83 = .ok (.istore_n 3, 1) := by decide +kernel
theorem dL_dates_84 : decode cL_dates 84 = .ok (.iload 4, 2) := by decide +kernel
theorem dL_dates_86 : decode cL_dates 86 = .ok (.iload 9, 2) := by decide +kernel
theorem dL_dates_88 : decode cL_dates 88 = .ok (.iconst 1, 1) := by decide +kernel
theorem dL_dates_89 : decode cL_dates 89 = .ok (.if_icmp .ne 7, 3) := by decide +kernel
theorem dL_dates_92 : decode cL_dates 92 = .ok (.iconst 1, 1) := by decide +kernel
theorem dL_dates_93 : decode cL_dates 93 = .ok (.goto 4, 3) := by decide +kernel
theorem dL_dates_96 : decode cL_dates 96 = .ok (.iconst 0, 1) := by decide +kernel
theorem dL_dates_97 : decode cL_dates 97 = .ok (.iadd, 1) := by decide +kernel
theorem dL_dates_98 : decode cL_dates 98 = .ok (.istore 4, 2) := by decide +kernel
theorem dL_dates_100 : decode cL_dates 100 = .ok (.iload 5, 2) := by decide +kernel
theorem dL_dates_102 : decode cL_dates 102 = .ok (.iload 9, 2) := by decide +kernel
theorem dL_dates_104 : decode cL_dates 104 = .ok (.iconst 2, 1) := by decide +kernel
theorem dL_dates_105 : decode cL_dates 105 = .ok (.if_icmp .ne 7, 3) := by decide +kernel
theorem dL_dates_108 : decode cL_dates 108 = .ok (.iconst 1, 1) := by decide +kernel
theorem dL_dates_109 : decode cL_dates 109 = .ok (.goto 4, 3) := by decide +kernel
theorem dL_dates_112 : decode cL_dates 112 = .ok (.iconst 0, 1) := by decide +kernel
theorem dL_dates_113 : decode cL_dates 113 = .ok (.iadd, 1) := by decide +kernel
theorem dL_dates_114 : decode cL_dates 114 = .ok (.istore 5, 2) := by decide +kernel
theorem dL_dates_116 : decode cL_dates 116 = .ok (.iload 9, 2) := by decide +kernel
theorem dL_dates_118 : decode cL_dates 118 = .ok (.iconst 1, 1) := by decide +kernel
theorem dL_dates_119 : decode cL_dates 119 = .ok (.if_icmp .ne 30, 3) := by decide +kernel
theorem dL_dates_122 : decode cL_dates 122 = .ok (.iload 6, 2) := by decide +kernel
theorem dL_dates_124 : decode cL_dates 124 = .ok (.ifCond .lt 15, 3) := by decide +kernel
theorem dL_dates_127 : decode cL_dates 127 = .ok (.aload_n 0, 1) := by decide +kernel
theorem dL_dates_128 : decode cL_dates 128 = .ok (.iload 8, 2) := by decide +kernel
theorem dL_dates_130 : decode cL_dates 130 = .ok (.iconst 4, 1) := by decide +kernel
theorem dL_dates_131 : decode cL_dates 131 = .ok (.invokevirtual 29, 3) := by decide +kernel
theorem dL_dates_134 : decode cL_dates 134 = .ok (.iload 6, 2) := by decide +kernel
theorem dL_dates_136 : decode cL_dates 136 = .ok (.if_icmp .ge 13, 3) := by decide +kernel
theorem dL_dates_139 : decode cL_dates 139 = .ok (.aload_n 0, 1) := by decide +kernel
theorem dL_dates_140 : decode cL_dates 140 = .ok (.iload 8, 2) := by decide +kernel
theorem dL_dates_142 : decode cL_dates 142 = .ok (.iconst 4, 1) := by decide +kernel
theorem dL_dates_143 : decode cL_dates 143 = .ok (.invokevirtual 29, 3) := by decide +kernel
theorem dL_dates_146 : decode cL_dates 146 = .ok (.goto 5, 3) := by decide +kernel
theorem dL_dates_149 : decode cL_dates 149 = .ok (.iload 6, 2) := by decide +kernel
theorem dL_dates_151 : decode cL_dates 151 = .ok (.istore 6, 2) := by decide +kernel
theorem dL_dates_153 : decode cL_dates 153 = .ok (.iload_n 1, 1) := by decide +kernel
theorem dL_dates_154 : decode cL_dates 154 = .ok (.ifCond .eq 95, 3) := by decide +kernel
theorem dL_dates_157 : decode cL_dates 157 = .ok (.iload 9, 2) := by decide +kernel
theorem dL_dates_159 : decode cL_dates 159 = .ok (.iconst 1, 1) := by decide +kernel
theorem dL_dates_160 : decode cL_dates 160 = .ok (.if_icmp .gt 8, 3) := by decide +kernel
theorem dL_dates_163 : decode cL_dates 163 = .ok (.iload 7, 2) := by decide +kernel
theorem dL_dates_165 : decode cL_dates 165 = .ok (.ifCond .le 84, 3) := by decide +kernel
theorem dL_dates_168 : decode cL_dates 168 = .ok (.iload 9, 2) := by decide +kernel
theorem dL_dates_170 : decode cL_dates 170 = .ok (.iconst 1, 1) := by decide +kernel
theorem dL_dates_171 : decode cL_dates 171 = .ok (.if_icmp .ne 7, 3) := by decide +kernel
theorem dL_dates_174 : decode cL_dates 174 = .ok (.iconst 1, 1) := by decide +kernel
theorem dL_dates_175 : decode cL_dates 175 = .ok (.goto 4, 3) := by decide +kernel
theorem dL_dates_178 : decode cL_dates 178 = .ok (.iconst 0, 1) := by decide +kernel
theorem dL_dates_179 : decode cL_dates 179 = .ok (.aload_n 0, 1) := by decide +kernel
theorem dL_dates_180 : decode cL_dates 180 = .ok (.iload 8, 2) := by decide +kernel
theorem dL_dates_182 : decode cL_dates 182 = .ok (.iconst 4, 1) := by decide +kernel
theorem dL_dates_183 : decode cL_dates 183 = .ok (.invokevirtual 29, 3) := by decide +kernel
theorem dL_dates_186 : decode cL_dates 186 = .ok (.ifCond .le 7, 3) := by decide +kernel
theorem dL_dates_189 : decode cL_dates 189 = .ok (.iconst 1, 1) := by decide +kernel
theorem dL_dates_190 : decode cL_dates 190 = .ok (.goto 4, 3) := by decide +kernel
theorem dL_dates_193 : decode cL_dates 193 = .ok (.iconst 0, 1) := by decide +kernel
theorem dL_dates_194 : decode cL_dates 194 = .ok (.if_icmp .ne 55, 3) := by decide +kernel
theorem dL_dates_197 : decode cL_dates 197 = .ok (.iload 9, 2) := by decide +kernel
theorem dL_dates_199 : decode cL_dates 199 = .ok (.iconst 2, 1) := by decide +kernel
theorem dL_dates_200 : decode cL_dates 200 = .ok (.if_icmp .ge 7, 3) := by decide +kernel
theorem dL_dates_203 : decode cL_dates 203 = .ok (.iconst 1, 1) := by decide +kernel
theorem dL_dates_204 : decode cL_dates 204 = .ok (.goto 4, 3) := by decide +kernel
theorem dL_dates_207 : decode cL_dates 207 = .ok (.iconst 0, 1) := by decide +kernel
theorem dL_dates_208 : decode cL_dates 208 = .ok (.aload_n 0, 1) := by decide +kernel
theorem dL_dates_209 : decode cL_dates 209 = .ok (.iload 8, 2) := by decide +kernel
theorem dL_dates_211 : decode cL_dates 211 = .ok (.bipush 7, 2) := by decide +kernel
theorem dL_dates_213 : decode cL_dates 213 = .ok (.invokevirtual 29, 3) := by decide +kernel
theorem dL_dates_216 : decode cL_dates 216 = .ok (.ifCond .lt 7, 3) := by decide +kernel
theorem dL_dates_219 : decode cL_dates 219 = .ok (.iconst 1, 1) := by decide +kernel
theorem dL_dates_220 : decode cL_dates 220 = .ok (.goto 4, 3) := by decide +kernel
theorem dL_dates_223 : decode cL_dates 223 = .ok (.iconst 0, 1) := by decide +kernel
theorem dL_dates_224 : decode cL_dates 224 = .ok (.if_icmp .ne 25, 3) := by decide +kernel
theorem dL_dates_227 : decode cL_dates 227 = .ok (.aload_n 0, 1) := by decide +kernel
theorem dL_dates_228 : decode cL_dates 228 = .ok (.iload 8, 2) := by decide +kernel
theorem dL_dates_230 : decode cL_dates 230 = .ok (.bipush 7, 2) := by decide +kernel
theorem dL_dates_232 : decode cL_dates 232 = .ok (.invokevirtual 29, 3) := by decide +kernel
theorem dL_dates_235 : decode cL_dates 235 = .ok (.aload_n 0, 1) := by decide +kernel
theorem dL_dates_236 : decode cL_dates 236 = .ok (.iload 8, 2) := by decide +kernel
theorem dL_dates_238 : decode cL_dates 238 = .ok (.iconst 2, 1) := by decide +kernel
theorem dL_dates_239 : decode cL_dates 239 = .ok (.invokevirtual 29, 3) := by decide +kernel
theorem dL_dates_242 : decode cL_dates 242 = .ok (.if_icmp .gt 7, 3) := by decide +kernel
theorem dL_dates_245 : decode cL_dates 245 = .ok (.iconst 1, 1) := by decide +kernel
theorem dL_dates_246 : decode cL_dates 246 = .ok (.goto 4, 3) := by decide +kernel
theorem dL_dates_249 : decode cL_dates 249 = .ok (.iconst 0, 1) := by decide +kernel
theorem dL_dates_250 : decode cL_dates 250 = .ok (.istore_n 1, 1) := by decide +kernel
theorem dL_dates_251 : decode cL_dates 251 = .ok (.iload_n 1, 1) := by decide +kernel
theorem dL_dates_252 : decode cL_dates 252 = .ok (.ifCond .eq 93, 3) := by decide +kernel
theorem dL_dates_255 : decode cL_dates 255 = .ok (.aload_n 0, 1) := by decide +kernel
theorem dL_dates_256 : decode cL_dates 256 = .ok (.iload 8, 2) := by decide +kernel
theorem dL_dates_258 : decode cL_dates 258 = .ok (.bipush 8, 2) := by decide +kernel
theorem dL_dates_260 : decode cL_dates 260 = .ok (.invokevirtual 29, 3) := by decide +kernel
theorem dL_dates_263 : decode cL_dates 263 = .ok (.iconst 1, 1) := by decide +kernel
theorem dL_dates_264 : decode cL_dates 264 = .ok (.if_icmp .ne 7, 3) := by decide +kernel
theorem dL_dates_267 : decode cL_dates 267 = .ok (.iconst 1, 1) := by decide +kernel
theorem dL_dates_268 : decode cL_dates 268 = .ok (.goto 4, 3) := by decide +kernel
theorem dL_dates_271 : decode cL_dates 271 = .ok (.iconst 0, 1) := by decide +kernel
theorem dL_dates_272 : decode cL_dates 272 = .ok (.iload 9, 2) := by decide +kernel
theorem dL_dates_274 : decode cL_dates 274 = .ok (.ifCond .ne 39, 3) := by decide +kernel
theorem dL_dates_277 : decode cL_dates 277 = .ok (.iload 7, 2) := by decide +kernel
theorem dL_dates_279 : decode cL_dates 279 = .ok (.ifCond .le 34, 3) := by decide +kernel
theorem dL_dates_282 : decode cL_dates 282 = .ok (.iload 7, 2) := by decide +kernel
theorem dL_dates_284 : decode cL_dates 284 = .ok (.aload_n 0, 1) := by decide +kernel
theorem dL_dates_285 : decode cL_dates 285 = .ok (.bipush 12, 2) := by decide +kernel
theorem dL_dates_287 : decode cL_dates 287 = .ok (.invokevirtual 16, 3) := by decide +kernel
theorem dL_dates_290 : decode cL_dates 290 = .ok (.if_icmp .gt 23, 3) := by decide +kernel
theorem dL_dates_293 : decode cL_dates 293 = .ok (.aload_n 0, 1) := by decide +kernel
theorem dL_dates_294 : decode cL_dates 294 = .ok (.iload_n 2, 1) := by decide +kernel
theorem dL_dates_295 : decode cL_dates 295 = .ok (.bipush 7, 2) := by decide +kernel
theorem dL_dates_297 : decode cL_dates 297 = .ok (.invokevirtual 26, 3) := by decide +kernel
theorem dL_dates_300 : decode cL_dates 300 = .ok (.aload_n 0, 1) := by decide +kernel
theorem dL_dates_301 : decode cL_dates 301 = .ok (.iload_n 2, 1) := by decide +kernel
theorem dL_dates_302 : decode cL_dates 302 = .ok (.iconst 1, 1) := by decide +kernel
theorem dL_dates_303 : decode cL_dates 303 = .ok (.invokevirtual 26, 3) := by decide +kernel
theorem dL_dates_306 : decode cL_dates 306 = .ok (.if_icmp .ge 7, 3) := by decide +kernel
theorem dL_dates_309 : decode cL_dates 309 = .ok (.iconst 1, 1) := by decide +kernel
theorem dL_dates_310 : decode cL_dates 310 = .ok (.goto 4, 3) := by decide +kernel
theorem dL_dates_313 : decode cL_dates 313 = .ok (.iconst 0, 1) := by decide +kernel
theorem dL_dates_314 : decode cL_dates 314 = .ok (.if_icmp .ne 31, 3) := by decide +kernel
theorem dL_dates_317 : decode cL_dates 317 = .ok (.iload 9, 2) := by decide +kernel
theorem dL_dates_319 : decode cL_dates 319 = .ok (.iconst 1, 1) := by decide +kernel
theorem dL_dates_320 : decode cL_dates 320 = .ok (.if_icmp .ne 21, 3) := by decide +kernel
theorem dL_dates_323 : decode cL_dates 323 = .ok (.aload_n 0, 1) := by decide +kernel
theorem dL_dates_324 : decode cL_dates 324 = .ok (.iload 8, 2) := by decide +kernel
theorem dL_dates_326 : decode cL_dates 326 = .ok (.iconst 4, 1) := by decide +kernel
theorem dL_dates_327 : decode cL_dates 327 = .ok (.invokevirtual 29, 3) := by decide +kernel
theorem dL_dates_330 : decode cL_dates 330 = .ok (.iconst 2, 1) := by decide +kernel
theorem dL_dates_331 : decode cL_dates 331 = .ok (.aload_n 0, 1) := by decide +kernel
theorem dL_dates_332 : decode cL_dates 332 = .ok (.iload_n 2, 1) := by decide +kernel
theorem dL_dates_333 : decode cL_dates 333 = .ok (.iconst 3, 1) := by decide +kernel
theorem dL_dates_334 : decode cL_dates 334 = .ok (.invokevirtual 26, 3) := by decide +kernel
theorem dL_dates_337 : decode cL_dates 337 = .ok (.imul, 1) := by decide +kernel
theorem dL_dates_338 : decode cL_dates 338 = .ok (.if_icmp .gt 7, 3) := by decide +kernel
theorem dL_dates_341 : decode cL_dates 341 = .ok (.iconst 1, 1) := by decide +kernel
theorem dL_dates_342 : decode cL_dates 342 = .ok (.goto 4, 3) := by decide +kernel
theorem dL_dates_345 : decode cL_dates 345 = .ok (.iconst 0, 1) := by decide +kernel
theorem dL_dates_346 : decode cL_dates 346 = .ok (.istore_n 1, 1) := by decide +kernel
theorem dL_dates_347 : decode cL_dates 347 = .ok (.iinc 8 1, 3) := by decide +kernel
theorem dL_dates_350 : decode cL_dates 350 = .ok (.goto (-310), 3) := by decide +kernel
theorem dL_dates_353 : decode cL_dates 353 = .ok (.aload_n 0, 1) := by decide +kernel
theorem dL_dates_354 : decode cL_dates 354 = .ok (.iload_n 2, 1) := by decide +kernel
theorem dL_dates_355 : decode cL_dates 355 = .ok (.iconst 1, 1) := by decide +kernel
theorem dL_dates_356 : decode cL_dates 356 = .ok (.invokevirtual 26, 3) := by decide +kernel
theorem dL_dates_359 : decode cL_dates 359 = .ok (.iload 7, 2) := by decide +kernel
theorem dL_dates_361 : decode cL_dates 361 = .ok (.aload_n 0, 1) := by decide +kernel
theorem dL_dates_362 : decode cL_dates 362 = .ok (.bipush 10, 2) := by decide +kernel
theorem dL_dates_364 : decode cL_dates 364 = .ok (.invokevirtual 16, 3) := by decide +kernel
theorem dL_dates_367 : decode cL_dates 367 = .ok (.if_icmp .le 12, 3) := by decide +kernel
theorem dL_dates_370 : decode cL_dates 370 = .ok (.aload_n 0, 1) := by decide +kernel
theorem dL_dates_371 : decode cL_dates 371 = .ok (.iload_n 2, 1) := by decide +kernel
theorem dL_dates_372 : decode cL_dates 372 = .ok (.iconst 2, 1) := by decide +kernel
theorem dL_dates_373 : decode cL_dates 373 = .ok (.invokevirtual 26, 3) := by decide +kernel
theorem dL_dates_376 : decode cL_dates 376 = .ok (.goto 4, 3) := by decide +kernel
theorem dL_dates_379 : decode cL_dates 379 = .ok (.iconst 0, 1) := by decide +kernel
theorem dL_dates_380 : decode cL_dates 380 = .ok (.iadd, 1) := by decide +kernel
theorem dL_dates_381 : decode cL_dates 381 = .ok (.iload_n 3, 1) := by decide +kernel
theorem dL_dates_382 : decode cL_dates 382 = .ok (.isub, 1) := by decide +kernel
theorem dL_dates_383 : decode cL_dates 383 = .ok (.istore 8, 2) := by decide +kernel
theorem dL_dates_385 : decode cL_dates 385 = .ok (.iload 8, 2) := by decide +kernel
theorem dL_dates_387 : decode cL_dates 387 = .ok (.bipush 60, 2) := by decide +kernel
theorem dL_dates_389 : decode cL_dates 389 = .ok (.aload_n 0, 1) := by decide +kernel
theorem dL_dates_390 : decode cL_dates 390 = .ok (.iconst 2, 1) := by decide +kernel
theorem dL_dates_391 : decode cL_dates 391 = .ok (.invokevirtual 16, 3) := by decide +kernel
theorem dL_dates_394 : decode cL_dates 394 = .ok (.isub, 1) := by decide +kernel
theorem dL_dates_395 : decode cL_dates 395 = .ok (.if_icmp .le 14, 3) := by decide +kernel
theorem dL_dates_398 : decode cL_dates 398 = .ok (.bipush 60, 2) := by decide +kernel
theorem dL_dates_400 : decode cL_dates 400 = .ok (.aload_n 0, 1) := by decide +kernel
theorem dL_dates_401 : decode cL_dates 401 = .ok (.iconst 2, 1) := by decide +kernel
theorem dL_dates_402 : decode cL_dates 402 = .ok (.invokevirtual 16, 3) := by decide +kernel
theorem dL_dates_405 : decode cL_dates 405 = .ok (.isub, 1) := by decide +kernel
theorem dL_dates_406 : decode cL_dates 406 = .ok (.goto 5, 3) := by decide +kernel
theorem dL_dates_409 : decode cL_dates 409 = .ok (.iload 8, 2) := by decide +kernel
theorem dL_dates_411 : decode cL_dates 411 = .ok (.istore 8, 2) := by decide +kernel
theorem dL_dates_413 : decode cL_dates 413 = .ok (.iload_n 1, 1) := by decide +kernel
theorem dL_dates_414 : decode cL_dates 414 = .ok (.ifCond .eq 91, 3) := by decide +kernel
theorem dL_dates_417 : decode cL_dates 417 = .ok (.aload_n 0, 1) := by decide +kernel
theorem dL_dates_418 : decode cL_dates 418 = .ok (.iload_n 2, 1) := by decide +kernel
theorem dL_dates_419 : decode cL_dates 419 = .ok (.bipush 6, 2) := by decide +kernel
theorem dL_dates_421 : decode cL_dates 421 = .ok (.invokevirtual 26, 3) := by decide +kernel
theorem dL_dates_424 : decode cL_dates 424 = .ok (.iload_n 3, 1) := by decide +kernel
theorem dL_dates_425 : decode cL_dates 425 = .ok (.if_icmp .ne 80, 3) := by decide +kernel
theorem dL_dates_428 : decode cL_dates 428 = .ok (.aload_n 0, 1) := by decide +kernel
theorem dL_dates_429 : decode cL_dates 429 = .ok (.iload_n 2, 1) := by decide +kernel
theorem dL_dates_430 : decode cL_dates 430 = .ok (.bipush 8, 2) := by decide +kernel
theorem dL_dates_432 : decode cL_dates 432 = .ok (.invokevirtual 26, 3) := by decide +kernel
theorem dL_dates_435 : decode cL_dates 435 = .ok (.iload 4, 2) := by decide +kernel
theorem dL_dates_437 : decode cL_dates 437 = .ok (.if_icmp .ne 68, 3) := by decide +kernel
theorem dL_dates_440 : decode cL_dates 440 = .ok (.aload_n 0, 1) := by decide +kernel
theorem dL_dates_441 : decode cL_dates 441 = .ok (.iload_n 2, 1) := by decide +kernel
theorem dL_dates_442 : decode cL_dates 442 = .ok (.bipush 7, 2) := by decide +kernel
theorem dL_dates_444 : decode cL_dates 444 = .ok (.invokevirtual 26, 3) := by decide +kernel
theorem dL_dates_447 : decode cL_dates 447 = .ok (.iload 5, 2) := by decide +kernel
theorem dL_dates_449 : decode cL_dates 449 = .ok (.if_icmp .ne 56, 3) := by decide +kernel
theorem dL_dates_452 : decode cL_dates 452 = .ok (.iload 5, 2) := by decide +kernel
theorem dL_dates_454 : decode cL_dates 454 = .ok (.aload_n 0, 1) := by decide +kernel
theorem dL_dates_455 : decode cL_dates 455 = .ok (.iload_n 2, 1) := by decide +kernel
theorem dL_dates_456 : decode cL_dates 456 = .ok (.iconst 1, 1) := by decide +kernel
theorem dL_dates_457 : decode cL_dates 457 = .ok (.invokevirtual 26, 3) := by decide +kernel
theorem dL_dates_460 : decode cL_dates 460 = .ok (.if_icmp .gt 45, 3) := by decide +kernel
theorem dL_dates_463 : decode cL_dates 463 = .ok (.aload_n 0, 1) := by decide +kernel
theorem dL_dates_464 : decode cL_dates 464 = .ok (.iload_n 2, 1) := by decide +kernel
theorem dL_dates_465 : decode cL_dates 465 = .ok (.bipush 13, 2) := by decide +kernel
theorem dL_dates_467 : decode cL_dates 467 = .ok (.invokevirtual 26, 3) := by decide +kernel
theorem dL_dates_470 : decode cL_dates 470 = .ok (.iload 6, 2) := by decide +kernel
theorem dL_dates_472 : decode cL_dates 472 = .ok (.if_icmp .ne 33, 3) := by decide +kernel
theorem dL_dates_475 : decode cL_dates 475 = .ok (.aload_n 0, 1) := by decide +kernel
theorem dL_dates_476 : decode cL_dates 476 = .ok (.iload_n 2, 1) := by decide +kernel
theorem dL_dates_477 : decode cL_dates 477 = .ok (.bipush 10, 2) := by decide +kernel
theorem dL_dates_479 : decode cL_dates 479 = .ok (.invokevirtual 26, 3) := by decide +kernel
theorem dL_dates_482 : decode cL_dates 482 = .ok (.iload 7, 2) := by decide +kernel
theorem dL_dates_484 : decode cL_dates 484 = .ok (.ifCond .eq 8, 3) := by decide +kernel
theorem dL_dates_487 : decode cL_dates 487 = .ok (.iload 8, 2) := by decide +kernel
theorem dL_dates_489 : decode cL_dates 489 = .ok (.ifCond .ge 7, 3) := by decide +kernel
theorem dL_dates_492 : decode cL_dates 492 = .ok (.iconst 0, 1) := by decide +kernel
theorem dL_dates_493 : decode cL_dates 493 = .ok (.goto 5, 3) := by decide +kernel
theorem dL_dates_496 : decode cL_dates 496 = .ok (.iload 8, 2) := by decide +kernel
theorem dL_dates_498 : decode cL_dates 498 = .ok (.if_icmp .ne 7, 3) := by decide +kernel
theorem dL_dates_501 : decode cL_dates 501 = .ok (.iconst 1, 1) := by decide +kernel
theorem dL_dates_502 : decode cL_dates 502 = .ok (.goto 4, 3) := by decide +kernel
theorem dL_dates_505 : decode cL_dates 505 = .ok (.iconst 0, 1) := by decide +kernel
theorem dL_dates_506 : decode cL_dates 506 = .ok (.istore_n 1, 1) := by decide +kernel
theorem dL_dates_507 : decode cL_dates 507 = .ok (.iload_n 1, 1) := by decide +kernel
theorem dL_dates_508 : decode cL_dates 508 = .ok (.ifCond .eq 120, 3) := by decide +kernel
theorem dL_dates_511 : decode cL_dates 511 = .ok (.iload 7, 2) := by decide +kernel
theorem dL_dates_513 : decode cL_dates 513 = .ok (.ifCond .le 68, 3) := by decide +kernel
theorem dL_dates_516 : decode cL_dates 516 = .ok (.aload_n 0, 1) := by decide +kernel
theorem dL_dates_517 : decode cL_dates 517 = .ok (.aload_n 0, 1) := by decide +kernel
theorem dL_dates_518 : decode cL_dates 518 = .ok (.iload_n 2, 1) := by decide +kernel
theorem dL_dates_519 : decode cL_dates 519 = .ok (.bipush 11, 2) := by decide +kernel
theorem dL_dates_521 : decode cL_dates 521 = .ok (.invokevirtual 26, 3) := by decide +kernel
theorem dL_dates_524 : decode cL_dates 524 = .ok (.iconst 0, 1) := by decide +kernel
theorem dL_dates_525 : decode cL_dates 525 = .ok (.invokevirtual 32, 3) := by decide +kernel
theorem dL_dates_528 : decode cL_dates 528 = .ok (.iload 7, 2) := by decide +kernel
theorem dL_dates_530 : decode cL_dates 530 = .ok (.if_icmp .gt 98, 3) := by decide +kernel
theorem dL_dates_533 : decode cL_dates 533 = .ok (.aload_n 0, 1) := by decide +kernel
theorem dL_dates_534 : decode cL_dates 534 = .ok (.iload_n 2, 1) := by decide +kernel
theorem dL_dates_535 : decode cL_dates 535 = .ok (.bipush 11, 2) := by decide +kernel
theorem dL_dates_537 : decode cL_dates 537 = .ok (.invokevirtual 26, 3) := by decide +kernel
theorem dL_dates_540 : decode cL_dates 540 = .ok (.ifCond .eq 22, 3) := by decide +kernel
theorem dL_dates_543 : decode cL_dates 543 = .ok (.aload_n 0, 1) := by decide +kernel
theorem dL_dates_544 : decode cL_dates 544 = .ok (.aload_n 0, 1) := by decide +kernel
theorem dL_dates_545 : decode cL_dates 545 = .ok (.iload_n 2, 1) := by decide +kernel
theorem dL_dates_546 : decode cL_dates 546 = .ok (.bipush 11, 2) := by decide +kernel
theorem dL_dates_548 : decode cL_dates 548 = .ok (.invokevirtual 26, 3) := by decide +kernel
theorem dL_dates_551 : decode cL_dates 551 = .ok (.iconst 1, 1) := by decide +kernel
theorem dL_dates_552 : decode cL_dates 552 = .ok (.isub, 1) := by decide +kernel
theorem dL_dates_553 : decode cL_dates 553 = .ok (.iconst 0, 1) := by decide +kernel
theorem dL_dates_554 : decode cL_dates 554 = .ok (.invokevirtual 32, 3) := by decide +kernel
theorem dL_dates_557 : decode cL_dates 557 = .ok (.iload 7, 2) := by decide +kernel
theorem dL_dates_559 : decode cL_dates 559 = .ok (.if_icmp .le 69, 3) := by decide +kernel
theorem dL_dates_562 : decode cL_dates 562 = .ok (.aload_n 0, 1) := by decide +kernel
theorem dL_dates_563 : decode cL_dates 563 = .ok (.iload_n 2, 1) := by decide +kernel
theorem dL_dates_564 : decode cL_dates 564 = .ok (.iconst 0, 1) := by decide +kernel
theorem dL_dates_565 : decode cL_dates 565 = .ok (.invokevirtual 35, 3) := by decide +kernel
theorem dL_dates_568 : decode cL_dates 568 = .ok (.aload_n 0, 1) := by decide +kernel
theorem dL_dates_569 : decode cL_dates 569 = .ok (.iload_n 2, 1) := by decide +kernel
theorem dL_dates_570 : decode cL_dates 570 = .ok (.bipush 9, 2) := by decide +kernel
theorem dL_dates_572 : decode cL_dates 572 = .ok (.invokevirtual 26, 3) := by decide +kernel
theorem dL_dates_575 : decode cL_dates 575 = .ok (.if_icmp .ne 53, 3) := by decide +kernel
theorem dL_dates_578 : decode cL_dates 578 = .ok (.goto 46, 3) := by decide +kernel
theorem dL_dates_581 : decode cL_dates 581 = .ok (.aload_n 0, 1) := by decide +kernel
theorem dL_dates_582 : decode cL_dates 582 = .ok (.iload_n 2, 1) := by decide +kernel
theorem dL_dates_583 : decode cL_dates 583 = .ok (.bipush 11, 2) := by decide +kernel
theorem dL_dates_585 : decode cL_dates 585 = .ok (.invokevirtual 26, 3) := by decide +kernel
theorem dL_dates_588 : decode cL_dates 588 = .ok (.bipush (-5), 2) := by decide +kernel
theorem dL_dates_590 : decode cL_dates 590 = .ok (.if_icmp .ne 38, 3) := by decide +kernel
theorem dL_dates_593 : decode cL_dates 593 = .ok (.aload_n 0, 1) := by decide +kernel
theorem dL_dates_594 : decode cL_dates 594 = .ok (.iload_n 2, 1) := by decide +kernel
theorem dL_dates_595 : decode cL_dates 595 = .ok (.bipush 12, 2) := by decide +kernel
theorem dL_dates_597 : decode cL_dates 597 = .ok (.invokevirtual 26, 3) := by decide +kernel
theorem dL_dates_600 : decode cL_dates 600 = .ok (.ifCond .ne 28, 3) := by decide +kernel
theorem dL_dates_603 : decode cL_dates 603 = .ok (.aload_n 0, 1) := by decide +kernel
theorem dL_dates_604 : decode cL_dates 604 = .ok (.iload_n 2, 1) := by decide +kernel
theorem dL_dates_605 : decode cL_dates 605 = .ok (.iconst 0, 1) := by decide +kernel
theorem dL_dates_606 : decode cL_dates 606 = .ok (.invokevirtual 35, 3) := by decide +kernel
theorem dL_dates_609 : decode cL_dates 609 = .ok (.bipush (-5), 2) := by decide +kernel
theorem dL_dates_611 : decode cL_dates 611 = .ok (.if_icmp .ne 17, 3) := by decide +kernel
theorem dL_dates_614 : decode cL_dates 614 = .ok (.aload_n 0, 1) := by decide +kernel
theorem dL_dates_615 : decode cL_dates 615 = .ok (.iload_n 2, 1) := by decide +kernel
theorem dL_dates_616 : decode cL_dates 616 = .ok (.invokevirtual 38, 3) := by decide +kernel
theorem dL_dates_619 : decode cL_dates 619 = .ok (.bipush (-5), 2) := by decide +kernel
theorem dL_dates_621 : decode cL_dates 621 = .ok (.if_icmp .ne 7, 3) := by decide +kernel
theorem dL_dates_624 : decode cL_dates 624 = .ok (.iconst 1, 1) := by decide +kernel
theorem dL_dates_625 : decode cL_dates 625 = .ok (.goto 4, 3) := by decide +kernel
theorem dL_dates_628 : decode cL_dates 628 = .ok (.iconst 0, 1) := by decide +kernel
theorem dL_dates_629 : decode cL_dates 629 = .ok (.istore_n 1, 1) := by decide +kernel
theorem dL_dates_630 : decode cL_dates 630 = .ok (.iconst 0, 1) := by decide +kernel
theorem dL_dates_631 : decode cL_dates 631 = .ok (.istore 9, 2) := by decide +kernel
theorem dL_dates_633 : decode cL_dates 633 = .ok (.iload 9, 2) := by decide +kernel
theorem dL_dates_635 : decode cL_dates 635 = .ok (.aload_n 0, 1) := by decide +kernel
theorem dL_dates_636 : decode cL_dates 636 = .ok (.iload_n 2, 1) := by decide +kernel
theorem dL_dates_637 : decode cL_dates 637 = .ok (.bipush 12, 2) := by decide +kernel
theorem dL_dates_639 : decode cL_dates 639 = .ok (.invokevirtual 26, 3) := by decide +kernel
theorem dL_dates_642 : decode cL_dates 642 = .ok (.if_icmp .ge 53, 3) := by decide +kernel
theorem dL_dates_645 : decode cL_dates 645 = .ok (.iload_n 1, 1) := by decide +kernel
theorem dL_dates_646 : decode cL_dates 646 = .ok (.ifCond .eq 49, 3) := by decide +kernel
theorem dL_dates_649 : decode cL_dates 649 = .ok (.aload_n 0, 1) := by decide +kernel
theorem dL_dates_650 : decode cL_dates 650 = .ok (.iload_n 2, 1) := by decide +kernel
theorem dL_dates_651 : decode cL_dates 651 = .ok (.iload 9, 2) := by decide +kernel
theorem dL_dates_653 : decode cL_dates 653 = .ok (.invokevirtual 41, 3) := by decide +kernel
theorem dL_dates_656 : decode cL_dates 656 = .ok (.ifCond .lt 31, 3) := by decide +kernel
theorem dL_dates_659 : decode cL_dates 659 = .ok (.iload 9, 2) := by decide +kernel
theorem dL_dates_661 : decode cL_dates 661 = .ok (.ifCond .eq 22, 3) := by decide +kernel
theorem dL_dates_664 : decode cL_dates 664 = .ok (.aload_n 0, 1) := by decide +kernel
theorem dL_dates_665 : decode cL_dates 665 = .ok (.iload_n 2, 1) := by decide +kernel
theorem dL_dates_666 : decode cL_dates 666 = .ok (.iload 9, 2) := by decide +kernel
theorem dL_dates_668 : decode cL_dates 668 = .ok (.invokevirtual 41, 3) := by decide +kernel
theorem dL_dates_671 : decode cL_dates 671 = .ok (.aload_n 0, 1) := by decide +kernel
theorem dL_dates_672 : decode cL_dates 672 = .ok (.iload_n 2, 1) := by decide +kernel
theorem dL_dates_673 : decode cL_dates 673 = .ok (.iload 9, 2) := by decide +kernel
theorem dL_dates_675 : decode cL_dates 675 = .ok (.iconst 1, 1) := by decide +kernel
theorem dL_dates_676 : decode cL_dates 676 = .ok (.isub, 1) := by decide +kernel
theorem dL_dates_677 : decode cL_dates 677 = .ok (.invokevirtual 41, 3) := by decide +kernel
theorem dL_dates_680 : decode cL_dates 680 = .ok (.if_icmp .eq 7, 3) := by decide +kernel
theorem dL_dates_683 : decode cL_dates 683 = .ok (.iconst 1, 1) := by decide +kernel
theorem dL_dates_684 : decode cL_dates 684 = .ok (.goto 4, 3) := by decide +kernel
theorem dL_dates_687 : decode cL_dates 687 = .ok (.iconst 0, 1) := by decide +kernel
theorem dL_dates_688 : decode cL_dates 688 = .ok (.istore_n 1, 1) := by decide +kernel
theorem dL_dates_689 : decode cL_dates 689 = .ok (.iinc 9 1, 3) := by decide +kernel
theorem dL_dates_692 : decode cL_dates 692 = .ok (.goto (-59), 3) := by decide +kernel
theorem dL_dates_695 : decode cL_dates 695 = .ok (.iload_n 1, 1) := by decide +kernel
theorem dL_dates_696 : decode cL_dates 696 = .ok (.ifCond .eq 24, 3) := by decide +kernel
theorem dL_dates_699 : decode cL_dates 699 = .ok (.aload_n 0, 1) := by decide +kernel
theorem dL_dates_700 : decode cL_dates 700 = .ok (.iload_n 2, 1) := by decide +kernel
theorem dL_dates_701 : decode cL_dates 701 = .ok (.aload_n 0, 1) := by decide +kernel
theorem dL_dates_702 : decode cL_dates 702 = .ok (.iload_n 2, 1) := by decide +kernel
theorem dL_dates_703 : decode cL_dates 703 = .ok (.bipush 12, 2) := by decide +kernel
theorem dL_dates_705 : decode cL_dates 705 = .ok (.invokevirtual 26, 3) := by decide +kernel
theorem dL_dates_708 : decode cL_dates 708 = .ok (.invokevirtual 41, 3) := by decide +kernel
theorem dL_dates_711 : decode cL_dates 711 = .ok (.bipush (-5), 2) := by decide +kernel
theorem dL_dates_713 : decode cL_dates 713 = .ok (.if_icmp .ne 7, 3) := by decide +kernel
theorem dL_dates_716 : decode cL_dates 716 = .ok (.iconst 1, 1) := by decide +kernel
theorem dL_dates_717 : decode cL_dates 717 = .ok (.goto 4, 3) := by decide +kernel
theorem dL_dates_720 : decode cL_dates 720 = .ok (.iconst 0, 1) := by decide +kernel
theorem dL_dates_721 : decode cL_dates 721 = .ok (.istore_n 1, 1) := by decide +kernel
theorem dL_dates_722 : decode cL_dates 722 = .ok (.iinc 2 1, 3) := by decide +kernel
theorem dL_dates_725 : decode cL_dates 725 = .ok (.goto (-721), 3) := by decide +kernel
theorem dL_dates_728 : decode cL_dates 728 = .ok (.iload_n 1, 1) := by decide +kernel
theorem dL_dates_729 : decode cL_dates 729 = .ok (.ireturn, 1) := by decide +kernel
theorem dL_deed_0 : decode cL_deed 0 = .ok (.aload_n 0, 1) := by decide +kernel
theorem dL_deed_1 : decode cL_deed 1 = .ok (.iconst 2, 1) := by decide +kernel
theorem dL_deed_2 : decode cL_deed 2 = .ok (.invokevirtual 16, 3) := by decide +kernel
theorem dL_deed_5 : decode cL_deed 5 = .ok (.ifCond .ne 7, 3) := by decide +kernel
theorem dL_deed_8 : decode cL_deed 8 = .ok (.iconst 0, 1) := by decide +kernel
theorem dL_deed_9 : decode cL_deed 9 = .ok (.goto 12, 3) := by decide +kernel
theorem dL_deed_12 : decode cL_deed 12 = .ok (.iload_n 1, 1) := by decide +kernel
theorem dL_deed_13 : decode cL_deed 13 = .ok (.iconst 2, 1) := by decide +kernel
theorem dL_deed_14 : decode cL_deed 14 = .ok (.ishr, 1) := by decide +kernel
theorem dL_deed_15 : decode cL_deed 15 = .ok (.aload_n 0, 1) := by decide +kernel
theorem dL_deed_16 : decode cL_deed 16 = .ok (.iconst 2, 1) := by decide +kernel
theorem dL_deed_17 : decode cL_deed 17 = .ok (.invokevirtual 16, 3) := by decide +kernel
theorem dL_deed_20 : decode cL_deed 20 = .ok (.irem, 1) := by decide +kernel
theorem dL_deed_21 : decode cL_deed 21 = .ok (.istore_n 2, 1) := by decide +kernel
theorem dL_deed_22 : decode cL_deed 22 = .ok (.aload_n 0, 1) := by decide +kernel
theorem dL_deed_23 : decode cL_deed 23 = .ok (.iconst 2, 1) := by decide +kernel
theorem dL_deed_24 : decode cL_deed 24 = .ok (.invokevirtual 16, 3) := by decide +kernel
theorem dL_deed_27 : decode cL_deed 27 = .ok (.ifCond .ne 7, 3) := by decide +kernel
theorem dL_deed_30 : decode cL_deed 30 = .ok (.iconst 0, 1) := by decide +kernel
theorem dL_deed_31 : decode cL_deed 31 = .ok (.goto 9, 3) := by decide +kernel
theorem dL_deed_34 : decode cL_deed 34 = .ok (.aload_n 0, 1) := by decide +kernel
theorem dL_deed_35 : decode cL_deed 35 = .ok (.iload_n 2, 1) := by decide +kernel
theorem dL_deed_36 : decode cL_deed 36 = .ok (.iconst 1, 1) := by decide +kernel
theorem dL_deed_37 : decode cL_deed 37 = .ok (.invokevirtual 29, 3) := by decide +kernel
theorem dL_deed_40 : decode cL_deed 40 = .ok (.istore_n 3, 1) := by decide +kernel
theorem dL_deed_41 : decode cL_deed 41 = .ok (.aload_n 0, 1) := by decide +kernel
theorem dL_deed_42 : decode cL_deed 42 = .ok (.iload_n 2, 1) := by decide +kernel
theorem dL_deed_43 : decode cL_deed 43 = .ok (.iconst 3, 1) := by decide +kernel
theorem dL_deed_44 : decode cL_deed 44 = .ok (.invokevirtual 29, 3) := by decide +kernel
theorem dL_deed_47 : decode cL_deed 47 = .ok (.istore 4, 2) := by decide +kernel
theorem dL_deed_49 : decode cL_deed 49 = .ok (.aload_n 0, 1) := by decide +kernel
theorem dL_deed_50 : decode cL_deed 50 = .ok (.iload_n 3, 1) := by decide +kernel
theorem dL_deed_51 : decode cL_deed 51 = .ok (.invokestatic 20, 3) := by decide +kernel
theorem dL_deed_54 : decode cL_deed 54 = .ok (.istore 5, 2) := by decide +kernel
theorem dL_deed_56 : decode cL_deed 56 = .ok (.iload_n 1, 1) := by decide +kernel
theorem dL_deed_57 : decode cL_deed 57 = .ok (.iconst 3, 1) := by decide +kernel
theorem dL_deed_58 : decode cL_deed 58 = .ok (.iand, 1) := by decide +kernel
theorem dL_deed_59 : decode cL_deed 59 = .ok (.tableswitch 408 0 2 #[25, 121, 240], 25) := by decide +kernel
theorem dL_deed_84 : decode cL_deed 84 = .ok (.aload_n 0, 1) := by decide +kernel
theorem dL_deed_85 : decode cL_deed 85 = .ok (.iload_n 2, 1) := by decide +kernel
theorem dL_deed_86 : decode cL_deed 86 = .ok (.bipush 7, 2) := by decide +kernel
theorem dL_deed_88 : decode cL_deed 88 = .ok (.invokevirtual 29, 3) := by decide +kernel
theorem dL_deed_91 : decode cL_deed 91 = .ok (.istore 6, 2) := by decide +kernel
theorem dL_deed_93 : decode cL_deed 93 = .ok (.aload_n 0, 1) := by decide +kernel
theorem dL_deed_94 : decode cL_deed 94 = .ok (.iload_n 2, 1) := by decide +kernel
theorem dL_deed_95 : decode cL_deed 95 = .ok (.invokevirtual 44, 3) := by decide +kernel
theorem dL_deed_98 : decode cL_deed 98 = .ok (.istore 7, 2) := by decide +kernel
theorem dL_deed_100 : decode cL_deed 100 = .ok (.iload 4, 2) := by decide +kernel
theorem dL_deed_102 : decode cL_deed 102 = .ok (.ifCond .eq 9, 3) := by decide +kernel
theorem dL_deed_105 : decode cL_deed 105 = .ok (.iload 4, 2) := by decide +kernel
theorem dL_deed_107 : decode cL_deed 107 = .ok (.iconst 1, 1) := by decide +kernel
theorem dL_deed_108 : decode cL_deed 108 = .ok (.if_icmp .ne 50, 3) := by decide +kernel
theorem dL_deed_111 : decode cL_deed 111 = .ok (.iload 7, 2) := by decide +kernel
theorem dL_deed_113 : decode cL_deed 113 = .ok (.iload 6, 2) := by decide +kernel
theorem dL_deed_115 : decode cL_deed 115 = .ok (.if_icmp .ne 39, 3) := by decide +kernel
theorem dL_deed_118 : decode cL_deed 118 = .ok (.aload_n 0, 1) := by decide +kernel
theorem dL_deed_119 : decode cL_deed 119 = .ok (.iload_n 2, 1) := by decide +kernel
theorem dL_deed_120 : decode cL_deed 120 = .ok (.iconst 3, 1) := by decide +kernel
theorem dL_deed_121 : decode cL_deed 121 = .ok (.invokevirtual 29, 3) := by decide +kernel
theorem dL_deed_124 : decode cL_deed 124 = .ok (.iconst 3, 1) := by decide +kernel
theorem dL_deed_125 : decode cL_deed 125 = .ok (.if_icmp .ne 29, 3) := by decide +kernel
theorem dL_deed_128 : decode cL_deed 128 = .ok (.aload_n 0, 1) := by decide +kernel
theorem dL_deed_129 : decode cL_deed 129 = .ok (.iload_n 3, 1) := by decide +kernel
theorem dL_deed_130 : decode cL_deed 130 = .ok (.invokestatic 20, 3) := by decide +kernel
theorem dL_deed_133 : decode cL_deed 133 = .ok (.iload 5, 2) := by decide +kernel
theorem dL_deed_135 : decode cL_deed 135 = .ok (.iload 6, 2) := by decide +kernel
theorem dL_deed_137 : decode cL_deed 137 = .ok (.iadd, 1) := by decide +kernel
theorem dL_deed_138 : decode cL_deed 138 = .ok (.if_icmp .eq 12, 3) := by decide +kernel
theorem dL_deed_141 : decode cL_deed 141 = .ok (.aload_n 0, 1) := by decide +kernel
theorem dL_deed_142 : decode cL_deed 142 = .ok (.iconst 0, 1) := by decide +kernel
theorem dL_deed_143 : decode cL_deed 143 = .ok (.iconst 0, 1) := by decide +kernel
theorem dL_deed_144 : decode cL_deed 144 = .ok (.invokevirtual 47, 3) := by decide +kernel
theorem dL_deed_147 : decode cL_deed 147 = .ok (.ifCond .ne 7, 3) := by decide +kernel
theorem dL_deed_150 : decode cL_deed 150 = .ok (.iconst 1, 1) := by decide +kernel
theorem dL_deed_151 : decode cL_deed 151 = .ok (.goto 28, 3) := by decide +kernel
theorem dL_deed_154 : decode cL_deed 154 = .ok (.iconst 0, 1) := by decide +kernel
theorem dL_deed_155 : decode cL_deed 155 = .ok (.goto 24, 3) := by decide +kernel
theorem dL_deed_158 : decode cL_deed 158 = .ok (.iload 7, 2) := by decide +kernel
theorem dL_deed_160 : decode cL_deed 160 = .ok (.iload 4, 2) := by decide +kernel
theorem dL_deed_162 : decode cL_deed 162 = .ok (.ifCond .ge 7, 3) := by decide +kernel
theorem dL_deed_165 : decode cL_deed 165 = .ok (.iconst (-1), 1) := by decide +kernel
theorem dL_deed_166 : decode cL_deed 166 = .ok (.goto 5, 3) := by decide +kernel
theorem dL_deed_169 : decode cL_deed 169 = .ok (.bipush (-4), 2) := by decide +kernel
theorem dL_deed_171 : decode cL_deed 171 = .ok (.if_icmp .ne 7, 3) := by decide +kernel
theorem dL_deed_174 : decode cL_deed 174 = .ok (.iconst 1, 1) := by decide +kernel
theorem dL_deed_175 : decode cL_deed 175 = .ok (.goto 4, 3) := by decide +kernel
theorem dL_deed_178 : decode cL_deed 178 = .ok (.iconst 0, 1) := by decide +kernel
theorem dL_deed_179 : decode cL_deed 179 = .ok (.ireturn, 1) := by decide +kernel
theorem dL_deed_180 : decode cL_deed 180 = .ok (.aload_n 0, 1) := by decide +kernel
theorem dL_deed_181 : decode cL_deed 181 = .ok (.iload_n 2, 1) := by decide +kernel
theorem dL_deed_182 : decode cL_deed 182 = .ok (.bipush 8, 2) := by decide +kernel
theorem dL_deed_184 : decode cL_deed 184 = .ok (.invokevirtual 29, 3) := by decide +kernel
theorem dL_deed_187 : decode cL_deed 187 = .ok (.iconst 1, 1) := by decide +kernel
theorem dL_deed_188 : decode cL_deed 188 = .ok (.if_icmp .ne 7, 3) := by decide +kernel
theorem dL_deed_191 : decode cL_deed 191 = .ok (.iconst 1, 1) := by decide +kernel
theorem dL_deed_192 : decode cL_deed 192 = .ok (.goto 4, 3) := by decide +kernel
theorem dL_deed_195 : decode cL_deed 195 = .ok (.iconst 0, 1) := by decide +kernel
theorem dL_deed_196 : decode cL_deed 196 = .ok (.istore 8, 2) := by decide +kernel
theorem dL_deed_198 : decode cL_deed 198 = .ok (.iload 4, 2) := by decide +kernel
theorem dL_deed_200 : decode cL_deed 200 = .ok (.ifCond .ge 7, 3) := by decide +kernel
theorem dL_deed_203 : decode cL_deed 203 = .ok (.iconst 0, 1) := by decide +kernel
theorem dL_deed_204 : decode cL_deed 204 = .ok (.goto 15, 3) := by decide +kernel
theorem dL_deed_207 : decode cL_deed 207 = .ok (.aload_n 0, 1) := by decide +kernel
theorem dL_deed_208 : decode cL_deed 208 = .ok (.aload_n 0, 1) := by decide +kernel
theorem dL_deed_209 : decode cL_deed 209 = .ok (.iload_n 2, 1) := by decide +kernel
theorem dL_deed_210 : decode cL_deed 210 = .ok (.iconst 0, 1) := by decide +kernel
theorem dL_deed_211 : decode cL_deed 211 = .ok (.invokevirtual 29, 3) := by decide +kernel
theorem dL_deed_214 : decode cL_deed 214 = .ok (.bipush 7, 2) := by decide +kernel
theorem dL_deed_216 : decode cL_deed 216 = .ok (.invokevirtual 26, 3) := by decide +kernel
theorem dL_deed_219 : decode cL_deed 219 = .ok (.istore 9, 2) := by decide +kernel
theorem dL_deed_221 : decode cL_deed 221 = .ok (.aload_n 0, 1) := by decide +kernel
theorem dL_deed_222 : decode cL_deed 222 = .ok (.iload_n 2, 1) := by decide +kernel
theorem dL_deed_223 : decode cL_deed 223 = .ok (.invokevirtual 50, 3) := by decide +kernel
theorem dL_deed_226 : decode cL_deed 226 = .ok (.istore 10, 2) := by decide +kernel
theorem dL_deed_228 : decode cL_deed 228 = .ok (.iload 8, 2) := by decide +kernel
theorem dL_deed_230 : decode cL_deed 230 = .ok (.ifCond .eq 47, 3) := by decide +kernel
theorem dL_deed_233 : decode cL_deed 233 = .ok (.iload 10, 2) := by decide +kernel
theorem dL_deed_235 : decode cL_deed 235 = .ok (.iload 9, 2) := by decide +kernel
theorem dL_deed_237 : decode cL_deed 237 = .ok (.iconst 1, 1) := by decide +kernel
theorem dL_deed_238 : decode cL_deed 238 = .ok (.iadd, 1) := by decide +kernel
theorem dL_deed_239 : decode cL_deed 239 = .ok (.if_icmp .ne 34, 3) := by decide +kernel
theorem dL_deed_242 : decode cL_deed 242 = .ok (.aload_n 0, 1) := by decide +kernel
theorem dL_deed_243 : decode cL_deed 243 = .ok (.iload_n 3, 1) := by decide +kernel
theorem dL_deed_244 : decode cL_deed 244 = .ok (.invokestatic 20, 3) := by decide +kernel
theorem dL_deed_247 : decode cL_deed 247 = .ok (.iload 5, 2) := by decide +kernel
theorem dL_deed_249 : decode cL_deed 249 = .ok (.aload_n 0, 1) := by decide +kernel
theorem dL_deed_250 : decode cL_deed 250 = .ok (.bipush 13, 2) := by decide +kernel
theorem dL_deed_252 : decode cL_deed 252 = .ok (.invokevirtual 16, 3) := by decide +kernel
theorem dL_deed_255 : decode cL_deed 255 = .ok (.isub, 1) := by decide +kernel
theorem dL_deed_256 : decode cL_deed 256 = .ok (.if_icmp .ne 17, 3) := by decide +kernel
theorem dL_deed_259 : decode cL_deed 259 = .ok (.aload_n 0, 1) := by decide +kernel
theorem dL_deed_260 : decode cL_deed 260 = .ok (.iload_n 2, 1) := by decide +kernel
theorem dL_deed_261 : decode cL_deed 261 = .ok (.iconst 3, 1) := by decide +kernel
theorem dL_deed_262 : decode cL_deed 262 = .ok (.invokevirtual 29, 3) := by decide +kernel
theorem dL_deed_265 : decode cL_deed 265 = .ok (.iconst 2, 1) := by decide +kernel
theorem dL_deed_266 : decode cL_deed 266 = .ok (.if_icmp .ne 7, 3) := by decide +kernel
theorem dL_deed_269 : decode cL_deed 269 = .ok (.iconst 1, 1) := by decide +kernel
theorem dL_deed_270 : decode cL_deed 270 = .ok (.goto 28, 3) := by decide +kernel
theorem dL_deed_273 : decode cL_deed 273 = .ok (.iconst 0, 1) := by decide +kernel
theorem dL_deed_274 : decode cL_deed 274 = .ok (.goto 24, 3) := by decide +kernel
theorem dL_deed_277 : decode cL_deed 277 = .ok (.iload 10, 2) := by decide +kernel
theorem dL_deed_279 : decode cL_deed 279 = .ok (.iload 4, 2) := by decide +kernel
theorem dL_deed_281 : decode cL_deed 281 = .ok (.ifCond .ge 7, 3) := by decide +kernel
theorem dL_deed_284 : decode cL_deed 284 = .ok (.iconst (-1), 1) := by decide +kernel
theorem dL_deed_285 : decode cL_deed 285 = .ok (.goto 5, 3) := by decide +kernel
theorem dL_deed_288 : decode cL_deed 288 = .ok (.bipush (-4), 2) := by decide +kernel
theorem dL_deed_290 : decode cL_deed 290 = .ok (.if_icmp .ne 7, 3) := by decide +kernel
theorem dL_deed_293 : decode cL_deed 293 = .ok (.iconst 1, 1) := by decide +kernel
theorem dL_deed_294 : decode cL_deed 294 = .ok (.goto 4, 3) := by decide +kernel
theorem dL_deed_297 : decode cL_deed 297 = .ok (.iconst 0, 1) := by decide +kernel
theorem dL_deed_298 : decode cL_deed 298 = .ok (.ireturn, 1) := by decide +kernel
theorem dL_deed_299 : decode cL_deed 299 = .ok (.iload 4, 2) := by decide +kernel
theorem dL_deed_301 : decode cL_deed 301 = .ok (.ifCond .ge 7, 3) := by decide +kernel
theorem dL_deed_304 : decode cL_deed 304 = .ok (.iconst 1, 1) := by decide +kernel
theorem dL_deed_305 : decode cL_deed 305 = .ok (.goto 14, 3) := by decide +kernel
theorem dL_deed_308 : decode cL_deed 308 = .ok (.aload_n 0, 1) := by decide +kernel
theorem dL_deed_309 : decode cL_deed 309 = .ok (.aload_n 0, 1) := by decide +kernel
theorem dL_deed_310 : decode cL_deed 310 = .ok (.iload_n 2, 1) := by decide +kernel
theorem dL_deed_311 : decode cL_deed 311 = .ok (.iconst 0, 1) := by decide +kernel
theorem dL_deed_312 : decode cL_deed 312 = .ok (.invokevirtual 29, 3) := by decide +kernel
theorem dL_deed_315 : decode cL_deed 315 = .ok (.iconst 3, 1) := by decide +kernel
theorem dL_deed_316 : decode cL_deed 316 = .ok (.invokevirtual 26, 3) := by decide +kernel
theorem dL_deed_319 : decode cL_deed 319 = .ok (.istore 11, 2) := by decide +kernel
theorem dL_deed_321 : decode cL_deed 321 = .ok (.iconst 1, 1) := by decide +kernel
theorem dL_deed_322 : decode cL_deed 322 = .ok (.iload_n 1, 1) := by decide +kernel
theorem dL_deed_323 : decode cL_deed 323 = .ok (.bipush 8, 2) := by decide +kernel
theorem dL_deed_325 : decode cL_deed 325 = .ok (.ishr, 1) := by decide +kernel
theorem dL_deed_326 : decode cL_deed 326 = .ok (.iconst 2, 1) := by decide +kernel
theorem dL_deed_327 : decode cL_deed 327 = .ok (.iload 11, 2) := by decide +kernel
theorem dL_deed_329 : decode cL_deed 329 = .ok (.imul, 1) := by decide +kernel
theorem dL_deed_330 : decode cL_deed 330 = .ok (.iconst 2, 1) := by decide +kernel
theorem dL_deed_331 : decode cL_deed 331 = .ok (.iadd, 1) := by decide +kernel
theorem dL_deed_332 : decode cL_deed 332 = .ok (.irem, 1) := by decide +kernel
theorem dL_deed_333 : decode cL_deed 333 = .ok (.iadd, 1) := by decide +kernel
theorem dL_deed_334 : decode cL_deed 334 = .ok (.istore 12, 2) := by decide +kernel
theorem dL_deed_336 : decode cL_deed 336 = .ok (.aload_n 0, 1) := by decide +kernel
theorem dL_deed_337 : decode cL_deed 337 = .ok (.iload_n 2, 1) := by decide +kernel
theorem dL_deed_338 : decode cL_deed 338 = .ok (.iconst 4, 1) := by decide +kernel
theorem dL_deed_339 : decode cL_deed 339 = .ok (.invokevirtual 29, 3) := by decide +kernel
theorem dL_deed_342 : decode cL_deed 342 = .ok (.istore 13, 2) := by decide +kernel
theorem dL_deed_344 : decode cL_deed 344 = .ok (.aload_n 0, 1) := by decide +kernel
theorem dL_deed_345 : decode cL_deed 345 = .ok (.iload_n 2, 1) := by decide +kernel
theorem dL_deed_346 : decode cL_deed 346 = .ok (.iload 12, 2) := by decide +kernel
theorem dL_deed_348 : decode cL_deed 348 = .ok (.invokevirtual 53, 3) := by decide +kernel
theorem dL_deed_351 : decode cL_deed 351 = .ok (.istore 14, 2) := by decide +kernel
theorem dL_deed_353 : decode cL_deed 353 = .ok (.iload 4, 2) := by decide +kernel
theorem dL_deed_355 : decode cL_deed 355 = .ok (.ifCond .eq 33, 3) := by decide +kernel
theorem dL_deed_358 : decode cL_deed 358 = .ok (.iload 4, 2) := by decide +kernel
theorem dL_deed_360 : decode cL_deed 360 = .ok (.iconst 1, 1) := by decide +kernel
theorem dL_deed_361 : decode cL_deed 361 = .ok (.if_icmp .eq 27, 3) := by decide +kernel
theorem dL_deed_364 : decode cL_deed 364 = .ok (.iload 14, 2) := by decide +kernel
theorem dL_deed_366 : decode cL_deed 366 = .ok (.iload 4, 2) := by decide +kernel
theorem dL_deed_368 : decode cL_deed 368 = .ok (.ifCond .ge 7, 3) := by decide +kernel
theorem dL_deed_371 : decode cL_deed 371 = .ok (.iconst (-1), 1) := by decide +kernel
theorem dL_deed_372 : decode cL_deed 372 = .ok (.goto 5, 3) := by decide +kernel
theorem dL_deed_375 : decode cL_deed 375 = .ok (.bipush (-4), 2) := by decide +kernel
theorem dL_deed_377 : decode cL_deed 377 = .ok (.if_icmp .ne 7, 3) := by decide +kernel
theorem dL_deed_380 : decode cL_deed 380 = .ok (.iconst 1, 1) := by decide +kernel
theorem dL_deed_381 : decode cL_deed 381 = .ok (.goto 85, 3) := by decide +kernel
theorem dL_deed_384 : decode cL_deed 384 = .ok (.iconst 0, 1) := by decide +kernel
theorem dL_deed_385 : decode cL_deed 385 = .ok (.goto 81, 3) := by decide +kernel
theorem dL_deed_388 : decode cL_deed 388 = .ok (.iload 12, 2) := by decide +kernel
theorem dL_deed_390 : decode cL_deed 390 = .ok (.iconst 2, 1) := by decide +kernel
theorem dL_deed_391 : decode cL_deed 391 = .ok (.iload 11, 2) := by decide +kernel
theorem dL_deed_393 : decode cL_deed 393 = .ok (.imul, 1) := by decide +kernel
theorem dL_deed_394 : decode cL_deed 394 = .ok (.if_icmp .le 18, 3) := by decide +kernel
theorem dL_deed_397 : decode cL_deed 397 = .ok (.iload 14, 2) := by decide +kernel
theorem dL_deed_399 : decode cL_deed 399 = .ok (.bipush (-2), 2) := by decide +kernel
theorem dL_deed_401 : decode cL_deed 401 = .ok (.if_icmp .ne 7, 3) := by decide +kernel
theorem dL_deed_404 : decode cL_deed 404 = .ok (.iconst 1, 1) := by decide +kernel
theorem dL_deed_405 : decode cL_deed 405 = .ok (.goto 61, 3) := by decide +kernel
theorem dL_deed_408 : decode cL_deed 408 = .ok (.iconst 0, 1) := by decide +kernel
theorem dL_deed_409 : decode cL_deed 409 = .ok (.goto 57, 3) := by decide +kernel
theorem dL_deed_412 : decode cL_deed 412 = .ok (.iload 13, 2) := by decide +kernel
theorem dL_deed_414 : decode cL_deed 414 = .ok (.iload 12, 2) := by decide +kernel
theorem dL_deed_416 : decode cL_deed 416 = .ok (.if_icmp .ne 18, 3) := by decide +kernel
theorem dL_deed_419 : decode cL_deed 419 = .ok (.iload 14, 2) := by decide +kernel
theorem dL_deed_421 : decode cL_deed 421 = .ok (.bipush (-5), 2) := by decide +kernel
theorem dL_deed_423 : decode cL_deed 423 = .ok (.if_icmp .ne 7, 3) := by decide +kernel
theorem dL_deed_426 : decode cL_deed 426 = .ok (.iconst 1, 1) := by decide +kernel
theorem dL_deed_427 : decode cL_deed 427 = .ok (.goto 39, 3) := by decide +kernel
theorem dL_deed_430 : decode cL_deed 430 = .ok (.iconst 0, 1) := by decide +kernel
theorem dL_deed_431 : decode cL_deed 431 = .ok (.goto 35, 3) := by decide +kernel
theorem dL_deed_434 : decode cL_deed 434 = .ok (.iload 14, 2) := by decide +kernel
theorem dL_deed_436 : decode cL_deed 436 = .ok (.iload 13, 2) := by decide +kernel
theorem dL_deed_438 : decode cL_deed 438 = .ok (.ifCond .ge 7, 3) := by decide +kernel
theorem dL_deed_441 : decode cL_deed 441 = .ok (.iconst 0, 1) := by decide +kernel
theorem dL_deed_442 : decode cL_deed 442 = .ok (.goto 5, 3) := by decide +kernel
theorem dL_deed_445 : decode cL_deed 445 = .ok (.iload 13, 2) := by decide +kernel
theorem dL_deed_447 : decode cL_deed 447 = .ok (.if_icmp .ne 18, 3) := by decide +kernel
theorem dL_deed_450 : decode cL_deed 450 = .ok (.aload_n 0, 1) := by decide +kernel
theorem dL_deed_451 : decode cL_deed 451 = .ok (.iload_n 2, 1) := by decide +kernel
theorem dL_deed_452 : decode cL_deed 452 = .ok (.iconst 4, 1) := by decide +kernel
theorem dL_deed_453 : decode cL_deed 453 = .ok (.invokevirtual 29, 3) := by decide +kernel
theorem dL_deed_456 : decode cL_deed 456 = .ok (.iload 12, 2) := by decide +kernel
theorem dL_deed_458 : decode cL_deed 458 = .ok (.if_icmp .ne 7, 3) := by decide +kernel
theorem dL_deed_461 : decode cL_deed 461 = .ok (.iconst 1, 1) := by decide +kernel
theorem dL_deed_462 : decode cL_deed 462 = .ok (.goto 4, 3) := by decide +kernel
theorem dL_deed_465 : decode cL_deed 465 = .ok (.iconst 0, 1) := by decide +kernel
theorem dL_deed_466 : decode cL_deed 466 = .ok (.ireturn, 1) := by decide +kernel
theorem dL_deed_467 : decode cL_deed 467 = .ok (.aload_n 0, 1) := by decide +kernel
theorem dL_deed_468 : decode cL_deed 468 = .ok (.iload_n 2, 1) := by decide +kernel
theorem dL_deed_469 : decode cL_deed 469 = .ok (.iconst 4, 1) := by decide +kernel
theorem dL_deed_470 : decode cL_deed 470 = .ok (.invokevirtual 29, 3) := by decide +kernel
theorem dL_deed_473 : decode cL_deed 473 = .ok (.istore 15, 2) := by decide +kernel
theorem dL_deed_475 : decode cL_deed 475 = .ok (.iload 4, 2) := by decide +kernel
theorem dL_deed_477 : decode cL_deed 477 = .ok (.iconst 1, 1) := by decide +kernel
theorem dL_deed_478 : decode cL_deed 478 = .ok (.if_icmp .ne 30, 3) := by decide +kernel
theorem dL_deed_481 : decode cL_deed 481 = .ok (.aload_n 0, 1) := by decide +kernel
theorem dL_deed_482 : decode cL_deed 482 = .ok (.iload_n 2, 1) := by decide +kernel
theorem dL_deed_483 : decode cL_deed 483 = .ok (.invokevirtual 56, 3) := by decide +kernel
theorem dL_deed_486 : decode cL_deed 486 = .ok (.iload 15, 2) := by decide +kernel
theorem dL_deed_488 : decode cL_deed 488 = .ok (.if_icmp .ne 16, 3) := by decide +kernel
theorem dL_deed_491 : decode cL_deed 491 = .ok (.aload_n 0, 1) := by decide +kernel
theorem dL_deed_492 : decode cL_deed 492 = .ok (.iload_n 2, 1) := by decide +kernel
theorem dL_deed_493 : decode cL_deed 493 = .ok (.iconst 3, 1) := by decide +kernel
theorem dL_deed_494 : decode cL_deed 494 = .ok (.invokevirtual 29, 3) := by decide +kernel
theorem dL_deed_497 : decode cL_deed 497 = .ok (.ifCond .ne 7, 3) := by decide +kernel
theorem dL_deed_500 : decode cL_deed 500 = .ok (.iconst 1, 1) := by decide +kernel
theorem dL_deed_501 : decode cL_deed 501 = .ok (.goto 31, 3) := by decide +kernel
theorem dL_deed_504 : decode cL_deed 504 = .ok (.iconst 0, 1) := by decide +kernel
theorem dL_deed_505 : decode cL_deed 505 = .ok (.goto 27, 3) := by decide +kernel
theorem dL_deed_508 : decode cL_deed 508 = .ok (.aload_n 0, 1) := by decide +kernel
theorem dL_deed_509 : decode cL_deed 509 = .ok (.iload_n 2, 1) := by decide +kernel
theorem dL_deed_510 : decode cL_deed 510 = .ok (.invokevirtual 56, 3) := by decide +kernel
theorem dL_deed_513 : decode cL_deed 513 = .ok (.iload 4, 2) := by decide +kernel
theorem dL_deed_515 : decode cL_deed 515 = .ok (.ifCond .ge 7, 3) := by decide +kernel
theorem dL_deed_518 : decode cL_deed 518 = .ok (.iconst (-1), 1) := by decide +kernel
theorem dL_deed_519 : decode cL_deed 519 = .ok (.goto 5, 3) := by decide +kernel
theorem dL_deed_522 : decode cL_deed 522 = .ok (.bipush (-4), 2) := by decide +kernel
theorem dL_deed_524 : decode cL_deed 524 = .ok (.if_icmp .ne 7, 3) := by decide +kernel
theorem dL_deed_527 : decode cL_deed 527 = .ok (.iconst 1, 1) := by decide +kernel
theorem dL_deed_528 : decode cL_deed 528 = .ok (.goto 4, 3) := by decide +kernel
theorem dL_deed_531 : decode cL_deed 531 = .ok (.iconst 0, 1) := by decide +kernel
theorem dL_deed_532 : decode cL_deed 532 = .ok (.ireturn, 1) := by decide +kernel
theorem dL_acts_0 : decode cL_acts 0 = .ok (.iload_n 1, 1) := by decide +kernel
theorem dL_acts_1 : decode cL_acts 1 = .ok (.iconst 3, 1) := by decide +kernel
theorem dL_acts_2 : decode cL_acts 2 = .ok (.ishr, 1) := by decide +kernel
theorem dL_acts_3 : decode cL_acts 3 = .ok (.istore_n 2, 1) := by decide +kernel
theorem dL_acts_4 : decode cL_acts 4 = .ok (.iload_n 2, 1) := by decide +kernel
theorem dL_acts_5 : decode cL_acts 5 = .ok (.aload_n 0, 1) := by decide +kernel
theorem dL_acts_6 : decode cL_acts 6 = .ok (.iconst 1, 1) := by decide +kernel
theorem dL_acts_7 : decode cL_acts 7 = .ok (.invokevirtual 16, 3) := by decide +kernel
theorem dL_acts_10 : decode cL_acts 10 = .ok (.irem, 1) := by decide +kernel
theorem dL_acts_11 : decode cL_acts 11 = .ok (.istore_n 3, 1) := by decide +kernel
theorem dL_acts_12 : decode cL_acts 12 = .ok (.iload_n 2, 1) := by decide +kernel
theorem dL_acts_13 : decode cL_acts 13 = .ok (.iconst 4, 1) := by decide +kernel
theorem dL_acts_14 : decode cL_acts 14 = .ok (.ishr, 1) := by decide +kernel
theorem dL_acts_15 : decode cL_acts 15 = .ok (.bipush 10, 2) := by decide +kernel
theorem dL_acts_17 : decode cL_acts 17 = .ok (.irem, 1) := by decide +kernel
theorem dL_acts_18 : decode cL_acts 18 = .ok (.istore 4, 2) := by decide +kernel
theorem dL_acts_20 : decode cL_acts 20 = .ok (.aload_n 0, 1) := by decide +kernel
theorem dL_acts_21 : decode cL_acts 21 = .ok (.iload 4, 2) := by decide +kernel
theorem dL_acts_23 : decode cL_acts 23 = .ok (.invokestatic 20, 3) := by decide +kernel
theorem dL_acts_26 : decode cL_acts 26 = .ok (.istore 5, 2) := by decide +kernel
theorem dL_acts_28 : decode cL_acts 28 = .ok (.iload_n 1, 1) := by decide +kernel
theorem dL_acts_29 : decode cL_acts 29 = .ok (.bipush 7, 2) := by decide +kernel
theorem dL_acts_31 : decode cL_acts 31 = .ok (.iand, 1) := by decide +kernel
theorem dL_acts_32 : decode cL_acts 32 = .ok (.tableswitch 476 0 6 #[44, 44, 187, 311, 311, 319, 418], 44) := by decide +kernel
theorem dL_acts_76 : decode cL_acts 76 = .ok (.aload_n 0, 1) := by decide +kernel
theorem dL_acts_77 : decode cL_acts 77 = .ok (.iload_n 3, 1) := by decide +kernel
theorem dL_acts_78 : decode cL_acts 78 = .ok (.bipush 9, 2) := by decide +kernel
theorem dL_acts_80 : decode cL_acts 80 = .ok (.invokevirtual 26, 3) := by decide +kernel
theorem dL_acts_83 : decode cL_acts 83 = .ok (.istore 6, 2) := by decide +kernel
theorem dL_acts_85 : decode cL_acts 85 = .ok (.aload_n 0, 1) := by decide +kernel
theorem dL_acts_86 : decode cL_acts 86 = .ok (.iload_n 3, 1) := by decide +kernel
theorem dL_acts_87 : decode cL_acts 87 = .ok (.bipush 10, 2) := by decide +kernel
theorem dL_acts_89 : decode cL_acts 89 = .ok (.invokevirtual 26, 3) := by decide +kernel
theorem dL_acts_92 : decode cL_acts 92 = .ok (.istore 7, 2) := by decide +kernel
theorem dL_acts_94 : decode cL_acts 94 = .ok (.aload_n 0, 1) := by decide +kernel
theorem dL_acts_95 : decode cL_acts 95 = .ok (.iconst 2, 1) := by decide +kernel
theorem dL_acts_96 : decode cL_acts 96 = .ok (.invokevirtual 16, 3) := by decide +kernel
theorem dL_acts_99 : decode cL_acts 99 = .ok (.istore 8, 2) := by decide +kernel
theorem dL_acts_101 : decode cL_acts 101 = .ok (.aload_n 0, 1) := by decide +kernel
theorem dL_acts_102 : decode cL_acts 102 = .ok (.iload 4, 2) := by decide +kernel
theorem dL_acts_104 : decode cL_acts 104 = .ok (.iload_n 3, 1) := by decide +kernel
theorem dL_acts_105 : decode cL_acts 105 = .ok (.invokevirtual 59, 3) := by decide +kernel
theorem dL_acts_108 : decode cL_acts 108 = .ok (.istore 9, 2) := by decide +kernel
theorem dL_acts_110 : decode cL_acts 110 = .ok (.aload_n 0, 1) := by decide +kernel
theorem dL_acts_111 : decode cL_acts 111 = .ok (.iload_n 3, 1) := by decide +kernel
theorem dL_acts_112 : decode cL_acts 112 = .ok (.iconst 5, 1) := by decide +kernel
theorem dL_acts_113 : decode cL_acts 113 = .ok (.invokevirtual 26, 3) := by decide +kernel
theorem dL_acts_116 : decode cL_acts 116 = .ok (.ifCond .ne 18, 3) := by decide +kernel
theorem dL_acts_119 : decode cL_acts 119 = .ok (.iload 9, 2) := by decide +kernel
theorem dL_acts_121 : decode cL_acts 121 = .ok (.bipush (-4), 2) := by decide +kernel
theorem dL_acts_123 : decode cL_acts 123 = .ok (.if_icmp .ne 7, 3) := by decide +kernel
theorem dL_acts_126 : decode cL_acts 126 = .ok (.iconst 1, 1) := by decide +kernel
theorem dL_acts_127 : decode cL_acts 127 = .ok (.goto 91, 3) := by decide +kernel
theorem dL_acts_130 : decode cL_acts 130 = .ok (.iconst 0, 1) := by decide +kernel
theorem dL_acts_131 : decode cL_acts 131 = .ok (.goto 87, 3) := by decide +kernel
theorem dL_acts_134 : decode cL_acts 134 = .ok (.iload 7, 2) := by decide +kernel
theorem dL_acts_136 : decode cL_acts 136 = .ok (.ifCond .ne 18, 3) := by decide +kernel
theorem dL_acts_139 : decode cL_acts 139 = .ok (.iload 9, 2) := by decide +kernel
theorem dL_acts_141 : decode cL_acts 141 = .ok (.bipush (-3), 2) := by decide +kernel
theorem dL_acts_143 : decode cL_acts 143 = .ok (.if_icmp .ne 7, 3) := by decide +kernel
theorem dL_acts_146 : decode cL_acts 146 = .ok (.iconst 1, 1) := by decide +kernel
theorem dL_acts_147 : decode cL_acts 147 = .ok (.goto 71, 3) := by decide +kernel
theorem dL_acts_150 : decode cL_acts 150 = .ok (.iconst 0, 1) := by decide +kernel
theorem dL_acts_151 : decode cL_acts 151 = .ok (.goto 67, 3) := by decide +kernel
theorem dL_acts_154 : decode cL_acts 154 = .ok (.iload 9, 2) := by decide +kernel
theorem dL_acts_156 : decode cL_acts 156 = .ok (.iload 8, 2) := by decide +kernel
theorem dL_acts_158 : decode cL_acts 158 = .ok (.if_icmp .ne 59, 3) := by decide +kernel
theorem dL_acts_161 : decode cL_acts 161 = .ok (.aload_n 0, 1) := by decide +kernel
theorem dL_acts_162 : decode cL_acts 162 = .ok (.iload 8, 2) := by decide +kernel
theorem dL_acts_164 : decode cL_acts 164 = .ok (.iconst 2, 1) := by decide +kernel
theorem dL_acts_165 : decode cL_acts 165 = .ok (.invokevirtual 29, 3) := by decide +kernel
theorem dL_acts_168 : decode cL_acts 168 = .ok (.iload 6, 2) := by decide +kernel
theorem dL_acts_170 : decode cL_acts 170 = .ok (.if_icmp .ne 47, 3) := by decide +kernel
theorem dL_acts_173 : decode cL_acts 173 = .ok (.aload_n 0, 1) := by decide +kernel
theorem dL_acts_174 : decode cL_acts 174 = .ok (.iload 4, 2) := by decide +kernel
theorem dL_acts_176 : decode cL_acts 176 = .ok (.invokestatic 20, 3) := by decide +kernel
theorem dL_acts_179 : decode cL_acts 179 = .ok (.iload 5, 2) := by decide +kernel
theorem dL_acts_181 : decode cL_acts 181 = .ok (.iload 6, 2) := by decide +kernel
theorem dL_acts_183 : decode cL_acts 183 = .ok (.isub, 1) := by decide +kernel
theorem dL_acts_184 : decode cL_acts 184 = .ok (.if_icmp .ne 33, 3) := by decide +kernel
theorem dL_acts_187 : decode cL_acts 187 = .ok (.aload_n 0, 1) := by decide +kernel
theorem dL_acts_188 : decode cL_acts 188 = .ok (.iload 8, 2) := by decide +kernel
theorem dL_acts_190 : decode cL_acts 190 = .ok (.iconst 5, 1) := by decide +kernel
theorem dL_acts_191 : decode cL_acts 191 = .ok (.invokevirtual 29, 3) := by decide +kernel
theorem dL_acts_194 : decode cL_acts 194 = .ok (.aload_n 0, 1) := by decide +kernel
theorem dL_acts_195 : decode cL_acts 195 = .ok (.iconst 0, 1) := by decide +kernel
theorem dL_acts_196 : decode cL_acts 196 = .ok (.invokevirtual 16, 3) := by decide +kernel
theorem dL_acts_199 : decode cL_acts 199 = .ok (.if_icmp .ne 18, 3) := by decide +kernel
theorem dL_acts_202 : decode cL_acts 202 = .ok (.aload_n 0, 1) := by decide +kernel
theorem dL_acts_203 : decode cL_acts 203 = .ok (.iconst 0, 1) := by decide +kernel
theorem dL_acts_204 : decode cL_acts 204 = .ok (.iconst 2, 1) := by decide +kernel
theorem dL_acts_205 : decode cL_acts 205 = .ok (.invokevirtual 47, 3) := by decide +kernel
theorem dL_acts_208 : decode cL_acts 208 = .ok (.iload 6, 2) := by decide +kernel
theorem dL_acts_210 : decode cL_acts 210 = .ok (.if_icmp .ne 7, 3) := by decide +kernel
theorem dL_acts_213 : decode cL_acts 213 = .ok (.iconst 1, 1) := by decide +kernel
theorem dL_acts_214 : decode cL_acts 214 = .ok (.goto 4, 3) := by decide +kernel
theorem dL_acts_217 : decode cL_acts 217 = .ok (.iconst 0, 1) := by decide +kernel
theorem dL_acts_218 : decode cL_acts 218 = .ok (.ireturn, 1) := by decide +kernel
theorem dL_acts_219 : decode cL_acts 219 = .ok (.aload_n 0, 1) := by decide +kernel
theorem dL_acts_220 : decode cL_acts 220 = .ok (.iload_n 3, 1) := by decide +kernel
theorem dL_acts_221 : decode cL_acts 221 = .ok (.bipush 13, 2) := by decide +kernel
theorem dL_acts_223 : decode cL_acts 223 = .ok (.invokevirtual 26, 3) := by decide +kernel
theorem dL_acts_226 : decode cL_acts 226 = .ok (.istore 10, 2) := by decide +kernel
theorem dL_acts_228 : decode cL_acts 228 = .ok (.aload_n 0, 1) := by decide +kernel
theorem dL_acts_229 : decode cL_acts 229 = .ok (.bipush 9, 2) := by decide +kernel
theorem dL_acts_231 : decode cL_acts 231 = .ok (.invokevirtual 16, 3) := by decide +kernel
theorem dL_acts_234 : decode cL_acts 234 = .ok (.istore 11, 2) := by decide +kernel
theorem dL_acts_236 : decode cL_acts 236 = .ok (.aload_n 0, 1) := by decide +kernel
theorem dL_acts_237 : decode cL_acts 237 = .ok (.iload 4, 2) := by decide +kernel
theorem dL_acts_239 : decode cL_acts 239 = .ok (.iload_n 3, 1) := by decide +kernel
theorem dL_acts_240 : decode cL_acts 240 = .ok (.invokevirtual 62, 3) := by decide +kernel
theorem dL_acts_243 : decode cL_acts 243 = .ok (.istore 12, 2) := by decide +kernel
theorem dL_acts_245 : decode cL_acts 245 = .ok (.iload 12, 2) := by decide +kernel
theorem dL_acts_247 : decode cL_acts 247 = .ok (.bipush (-4), 2) := by decide +kernel
theorem dL_acts_249 : decode cL_acts 249 = .ok (.if_icmp .ne 23, 3) := by decide +kernel
theorem dL_acts_252 : decode cL_acts 252 = .ok (.aload_n 0, 1) := by decide +kernel
theorem dL_acts_253 : decode cL_acts 253 = .ok (.iload_n 3, 1) := by decide +kernel
theorem dL_acts_254 : decode cL_acts 254 = .ok (.bipush 13, 2) := by decide +kernel
theorem dL_acts_256 : decode cL_acts 256 = .ok (.invokevirtual 26, 3) := by decide +kernel
theorem dL_acts_259 : decode cL_acts 259 = .ok (.iload 10, 2) := by decide +kernel
theorem dL_acts_261 : decode cL_acts 261 = .ok (.if_icmp .ne 7, 3) := by decide +kernel
theorem dL_acts_264 : decode cL_acts 264 = .ok (.iconst 1, 1) := by decide +kernel
theorem dL_acts_265 : decode cL_acts 265 = .ok (.goto 77, 3) := by decide +kernel
theorem dL_acts_268 : decode cL_acts 268 = .ok (.iconst 0, 1) := by decide +kernel
theorem dL_acts_269 : decode cL_acts 269 = .ok (.goto 73, 3) := by decide +kernel
theorem dL_acts_272 : decode cL_acts 272 = .ok (.iload 10, 2) := by decide +kernel
theorem dL_acts_274 : decode cL_acts 274 = .ok (.ifCond .le 67, 3) := by decide +kernel
theorem dL_acts_277 : decode cL_acts 277 = .ok (.aload_n 0, 1) := by decide +kernel
theorem dL_acts_278 : decode cL_acts 278 = .ok (.iload 12, 2) := by decide +kernel
theorem dL_acts_280 : decode cL_acts 280 = .ok (.iconst 1, 1) := by decide +kernel
theorem dL_acts_281 : decode cL_acts 281 = .ok (.invokevirtual 29, 3) := by decide +kernel
theorem dL_acts_284 : decode cL_acts 284 = .ok (.iload 4, 2) := by decide +kernel
theorem dL_acts_286 : decode cL_acts 286 = .ok (.if_icmp .ne 55, 3) := by decide +kernel
theorem dL_acts_289 : decode cL_acts 289 = .ok (.aload_n 0, 1) := by decide +kernel
theorem dL_acts_290 : decode cL_acts 290 = .ok (.iload 4, 2) := by decide +kernel
theorem dL_acts_292 : decode cL_acts 292 = .ok (.invokestatic 20, 3) := by decide +kernel
theorem dL_acts_295 : decode cL_acts 295 = .ok (.iload 5, 2) := by decide +kernel
theorem dL_acts_297 : decode cL_acts 297 = .ok (.iload 10, 2) := by decide +kernel
theorem dL_acts_299 : decode cL_acts 299 = .ok (.isub, 1) := by decide +kernel
theorem dL_acts_300 : decode cL_acts 300 = .ok (.if_icmp .ne 41, 3) := by decide +kernel
theorem dL_acts_303 : decode cL_acts 303 = .ok (.aload_n 0, 1) := by decide +kernel
theorem dL_acts_304 : decode cL_acts 304 = .ok (.bipush 9, 2) := by decide +kernel
theorem dL_acts_306 : decode cL_acts 306 = .ok (.invokevirtual 16, 3) := by decide +kernel
theorem dL_acts_309 : decode cL_acts 309 = .ok (.iload 11, 2) := by decide +kernel
theorem dL_acts_311 : decode cL_acts 311 = .ok (.iload 10, 2) := by decide +kernel
theorem dL_acts_313 : decode cL_acts 313 = .ok (.aload_n 0, 1) := by decide +kernel
theorem dL_acts_314 : decode cL_acts 314 = .ok (.bipush 11, 2) := by decide +kernel
theorem dL_acts_316 : decode cL_acts 316 = .ok (.invokevirtual 16, 3) := by decide +kernel
theorem dL_acts_319 : decode cL_acts 319 = .ok (.imul, 1) := by decide +kernel
theorem dL_acts_320 : decode cL_acts 320 = .ok (.bipush 100, 2) := by decide +kernel
theorem dL_acts_322 : decode cL_acts 322 = .ok (.idiv, 1) := by decide +kernel
theorem dL_acts_323 : decode cL_acts 323 = .ok (.iadd, 1) := by decide +kernel
theorem dL_acts_324 : decode cL_acts 324 = .ok (.if_icmp .ne 17, 3) := by decide +kernel
theorem dL_acts_327 : decode cL_acts 327 = .ok (.aload_n 0, 1) := by decide +kernel
theorem dL_acts_328 : decode cL_acts 328 = .ok (.iload 12, 2) := by decide +kernel
theorem dL_acts_330 : decode cL_acts 330 = .ok (.iconst 3, 1) := by decide +kernel
theorem dL_acts_331 : decode cL_acts 331 = .ok (.invokevirtual 29, 3) := by decide +kernel
theorem dL_acts_334 : decode cL_acts 334 = .ok (.ifCond .ne 7, 3) := by decide +kernel
theorem dL_acts_337 : decode cL_acts 337 = .ok (.iconst 1, 1) := by decide +kernel
theorem dL_acts_338 : decode cL_acts 338 = .ok (.goto 4, 3) := by decide +kernel
theorem dL_acts_341 : decode cL_acts 341 = .ok (.iconst 0, 1) := by decide +kernel
theorem dL_acts_342 : decode cL_acts 342 = .ok (.ireturn, 1) := by decide +kernel
theorem dL_acts_343 : decode cL_acts 343 = .ok (.aload_n 0, 1) := by decide +kernel
theorem dL_acts_344 : decode cL_acts 344 = .ok (.iload_n 2, 1) := by decide +kernel
theorem dL_acts_345 : decode cL_acts 345 = .ok (.iconst 1, 1) := by decide +kernel
theorem dL_acts_346 : decode cL_acts 346 = .ok (.ishr, 1) := by decide +kernel
theorem dL_acts_347 : decode cL_acts 347 = .ok (.invokestatic 65, 3) := by decide +kernel
theorem dL_acts_350 : decode cL_acts 350 = .ok (.ireturn, 1) := by decide +kernel
theorem dL_acts_351 : decode cL_acts 351 = .ok (.aload_n 0, 1) := by decide +kernel
theorem dL_acts_352 : decode cL_acts 352 = .ok (.iload_n 3, 1) := by decide +kernel
theorem dL_acts_353 : decode cL_acts 353 = .ok (.bipush 12, 2) := by decide +kernel
theorem dL_acts_355 : decode cL_acts 355 = .ok (.invokevirtual 26, 3) := by decide +kernel
theorem dL_acts_358 : decode cL_acts 358 = .ok (.istore 13, 2) := by decide +kernel
theorem dL_acts_360 : decode cL_acts 360 = .ok (.aload_n 0, 1) := by decide +kernel
theorem dL_acts_361 : decode cL_acts 361 = .ok (.iload 4, 2) := by decide +kernel
theorem dL_acts_363 : decode cL_acts 363 = .ok (.iload_n 3, 1) := by decide +kernel
theorem dL_acts_364 : decode cL_acts 364 = .ok (.invokevirtual 69, 3) := by decide +kernel
theorem dL_acts_367 : decode cL_acts 367 = .ok (.istore 14, 2) := by decide +kernel
theorem dL_acts_369 : decode cL_acts 369 = .ok (.iload 14, 2) := by decide +kernel
theorem dL_acts_371 : decode cL_acts 371 = .ok (.bipush (-4), 2) := by decide +kernel
theorem dL_acts_373 : decode cL_acts 373 = .ok (.if_icmp .eq 71, 3) := by decide +kernel
theorem dL_acts_376 : decode cL_acts 376 = .ok (.iload 14, 2) := by decide +kernel
theorem dL_acts_378 : decode cL_acts 378 = .ok (.bipush (-3), 2) := by decide +kernel
theorem dL_acts_380 : decode cL_acts 380 = .ok (.if_icmp .ne 10, 3) := by decide +kernel
theorem dL_acts_383 : decode cL_acts 383 = .ok (.iload 13, 2) := by decide +kernel
theorem dL_acts_385 : decode cL_acts 385 = .ok (.bipush 6, 2) := by decide +kernel
theorem dL_acts_387 : decode cL_acts 387 = .ok (.if_icmp .eq 57, 3) := by decide +kernel
theorem dL_acts_390 : decode cL_acts 390 = .ok (.iload 14, 2) := by decide +kernel
theorem dL_acts_392 : decode cL_acts 392 = .ok (.iload 13, 2) := by decide +kernel
theorem dL_acts_394 : decode cL_acts 394 = .ok (.iconst 1, 1) := by decide +kernel
theorem dL_acts_395 : decode cL_acts 395 = .ok (.iadd, 1) := by decide +kernel
theorem dL_acts_396 : decode cL_acts 396 = .ok (.if_icmp .ne 52, 3) := by decide +kernel
theorem dL_acts_399 : decode cL_acts 399 = .ok (.aload_n 0, 1) := by decide +kernel
theorem dL_acts_400 : decode cL_acts 400 = .ok (.iload_n 3, 1) := by decide +kernel
theorem dL_acts_401 : decode cL_acts 401 = .ok (.iload 13, 2) := by decide +kernel
theorem dL_acts_403 : decode cL_acts 403 = .ok (.invokevirtual 41, 3) := by decide +kernel
theorem dL_acts_406 : decode cL_acts 406 = .ok (.iload 4, 2) := by decide +kernel
theorem dL_acts_408 : decode cL_acts 408 = .ok (.if_icmp .ne 40, 3) := by decide +kernel
theorem dL_acts_411 : decode cL_acts 411 = .ok (.iload_n 2, 1) := by decide +kernel
theorem dL_acts_412 : decode cL_acts 412 = .ok (.bipush 9, 2) := by decide +kernel
theorem dL_acts_414 : decode cL_acts 414 = .ok (.ishr, 1) := by decide +kernel
theorem dL_acts_415 : decode cL_acts 415 = .ok (.iconst 3, 1) := by decide +kernel
theorem dL_acts_416 : decode cL_acts 416 = .ok (.iand, 1) := by decide +kernel
theorem dL_acts_417 : decode cL_acts 417 = .ok (.ifCond .gt 27, 3) := by decide +kernel
theorem dL_acts_420 : decode cL_acts 420 = .ok (.aload_n 0, 1) := by decide +kernel
theorem dL_acts_421 : decode cL_acts 421 = .ok (.iload 4, 2) := by decide +kernel
theorem dL_acts_423 : decode cL_acts 423 = .ok (.iload_n 3, 1) := by decide +kernel
theorem dL_acts_424 : decode cL_acts 424 = .ok (.invokevirtual 72, 3) := by decide +kernel
theorem dL_acts_427 : decode cL_acts 427 = .ok (.iload 13, 2) := by decide +kernel
theorem dL_acts_429 : decode cL_acts 429 = .ok (.if_icmp .ne 19, 3) := by decide +kernel
theorem dL_acts_432 : decode cL_acts 432 = .ok (.aload_n 0, 1) := by decide +kernel
theorem dL_acts_433 : decode cL_acts 433 = .ok (.iload 4, 2) := by decide +kernel
theorem dL_acts_435 : decode cL_acts 435 = .ok (.iload_n 3, 1) := by decide +kernel
theorem dL_acts_436 : decode cL_acts 436 = .ok (.invokevirtual 72, 3) := by decide +kernel
theorem dL_acts_439 : decode cL_acts 439 = .ok (.bipush (-5), 2) := by decide +kernel
theorem dL_acts_441 : decode cL_acts 441 = .ok (.if_icmp .ne 7, 3) := by decide +kernel
theorem dL_acts_444 : decode cL_acts 444 = .ok (.iconst 1, 1) := by decide +kernel
theorem dL_acts_445 : decode cL_acts 445 = .ok (.goto 4, 3) := by decide +kernel
theorem dL_acts_448 : decode cL_acts 448 = .ok (.iconst 0, 1) := by decide +kernel
theorem dL_acts_449 : decode cL_acts 449 = .ok (.ireturn, 1) := by decide +kernel
theorem dL_acts_450 : decode cL_acts 450 = .ok (.aload_n 0, 1) := by decide +kernel
theorem dL_acts_451 : decode cL_acts 451 = .ok (.iconst 0, 1) := by decide +kernel
theorem dL_acts_452 : decode cL_acts 452 = .ok (.invokevirtual 16, 3) := by decide +kernel
theorem dL_acts_455 : decode cL_acts 455 = .ok (.istore 15, 2) := by decide +kernel
theorem dL_acts_457 : decode cL_acts 457 = .ok (.aload_n 0, 1) := by decide +kernel
theorem dL_acts_458 : decode cL_acts 458 = .ok (.bipush 8, 2) := by decide +kernel
theorem dL_acts_460 : decode cL_acts 460 = .ok (.invokevirtual 16, 3) := by decide +kernel
theorem dL_acts_463 : decode cL_acts 463 = .ok (.istore 16, 2) := by decide +kernel
theorem dL_acts_465 : decode cL_acts 465 = .ok (.aload_n 0, 1) := by decide +kernel
theorem dL_acts_466 : decode cL_acts 466 = .ok (.iconst 1, 1) := by decide +kernel
theorem dL_acts_467 : decode cL_acts 467 = .ok (.iload_n 2, 1) := by decide +kernel
theorem dL_acts_468 : decode cL_acts 468 = .ok (.iconst 4, 1) := by decide +kernel
theorem dL_acts_469 : decode cL_acts 469 = .ok (.irem, 1) := by decide +kernel
theorem dL_acts_470 : decode cL_acts 470 = .ok (.iadd, 1) := by decide +kernel
theorem dL_acts_471 : decode cL_acts 471 = .ok (.invokevirtual 75, 3) := by decide +kernel
theorem dL_acts_474 : decode cL_acts 474 = .ok (.aload_n 0, 1) := by decide +kernel
theorem dL_acts_475 : decode cL_acts 475 = .ok (.bipush 8, 2) := by decide +kernel
theorem dL_acts_477 : decode cL_acts 477 = .ok (.invokevirtual 16, 3) := by decide +kernel
theorem dL_acts_480 : decode cL_acts 480 = .ok (.iload 16, 2) := by decide +kernel
theorem dL_acts_482 : decode cL_acts 482 = .ok (.isub, 1) := by decide +kernel
theorem dL_acts_483 : decode cL_acts 483 = .ok (.if_icmp .ne 23, 3) := by decide +kernel
theorem dL_acts_486 : decode cL_acts 486 = .ok (.aload_n 0, 1) := by decide +kernel
theorem dL_acts_487 : decode cL_acts 487 = .ok (.iconst 0, 1) := by decide +kernel
theorem dL_acts_488 : decode cL_acts 488 = .ok (.invokevirtual 16, 3) := by decide +kernel
theorem dL_acts_491 : decode cL_acts 491 = .ok (.iload 15, 2) := by decide +kernel
theorem dL_acts_493 : decode cL_acts 493 = .ok (.iconst 1, 1) := by decide +kernel
theorem dL_acts_494 : decode cL_acts 494 = .ok (.iadd, 1) := by decide +kernel
theorem dL_acts_495 : decode cL_acts 495 = .ok (.iload_n 2, 1) := by decide +kernel
theorem dL_acts_496 : decode cL_acts 496 = .ok (.iconst 4, 1) := by decide +kernel
theorem dL_acts_497 : decode cL_acts 497 = .ok (.irem, 1) := by decide +kernel
theorem dL_acts_498 : decode cL_acts 498 = .ok (.iadd, 1) := by decide +kernel
theorem dL_acts_499 : decode cL_acts 499 = .ok (.if_icmp .ne 7, 3) := by decide +kernel
theorem dL_acts_502 : decode cL_acts 502 = .ok (.iconst 1, 1) := by decide +kernel
theorem dL_acts_503 : decode cL_acts 503 = .ok (.goto 4, 3) := by decide +kernel
theorem dL_acts_506 : decode cL_acts 506 = .ok (.iconst 0, 1) := by decide +kernel
theorem dL_acts_507 : decode cL_acts 507 = .ok (.ireturn, 1) := by decide +kernel
theorem dL_acts_508 : decode cL_acts 508 = .ok (.iload_n 2, 1) := by decide +kernel
theorem dL_acts_509 : decode cL_acts 509 = .ok (.iconst 3, 1) := by decide +kernel
theorem dL_acts_510 : decode cL_acts 510 = .ok (.iand, 1) := by decide +kernel
theorem dL_acts_511 : decode cL_acts 511 = .ok (.ifCond .ne 28, 3) := by decide +kernel
theorem dL_acts_514 : decode cL_acts 514 = .ok (.aload_n 0, 1) := by decide +kernel
theorem dL_acts_515 : decode cL_acts 515 = .ok (.iconst 3, 1) := by decide +kernel
theorem dL_acts_516 : decode cL_acts 516 = .ok (.iload_n 2, 1) := by decide +kernel
theorem dL_acts_517 : decode cL_acts 517 = .ok (.iconst 2, 1) := by decide +kernel
theorem dL_acts_518 : decode cL_acts 518 = .ok (.ishr, 1) := by decide +kernel
theorem dL_acts_519 : decode cL_acts 519 = .ok (.sipush 3000, 3) := by decide +kernel
theorem dL_acts_522 : decode cL_acts 522 = .ok (.irem, 1) := by decide +kernel
theorem dL_acts_523 : decode cL_acts 523 = .ok (.invokevirtual 78, 3) := by decide +kernel
theorem dL_acts_526 : decode cL_acts 526 = .ok (.bipush (-5), 2) := by decide +kernel
theorem dL_acts_528 : decode cL_acts 528 = .ok (.if_icmp .lt 7, 3) := by decide +kernel
theorem dL_acts_531 : decode cL_acts 531 = .ok (.iconst 1, 1) := by decide +kernel
theorem dL_acts_532 : decode cL_acts 532 = .ok (.goto 70, 3) := by decide +kernel
theorem dL_acts_535 : decode cL_acts 535 = .ok (.iconst 0, 1) := by decide +kernel
theorem dL_acts_536 : decode cL_acts 536 = .ok (.goto 66, 3) := by decide +kernel
theorem dL_acts_539 : decode cL_acts 539 = .ok (.iload_n 2, 1) := by decide +kernel
theorem dL_acts_540 : decode cL_acts 540 = .ok (.iconst 3, 1) := by decide +kernel
theorem dL_acts_541 : decode cL_acts 541 = .ok (.iand, 1) := by decide +kernel
theorem dL_acts_542 : decode cL_acts 542 = .ok (.iconst 1, 1) := by decide +kernel
theorem dL_acts_543 : decode cL_acts 543 = .ok (.if_icmp .ne 27, 3) := by decide +kernel
theorem dL_acts_546 : decode cL_acts 546 = .ok (.aload_n 0, 1) := by decide +kernel
theorem dL_acts_547 : decode cL_acts 547 = .ok (.iconst 1, 1) := by decide +kernel
theorem dL_acts_548 : decode cL_acts 548 = .ok (.iload_n 2, 1) := by decide +kernel
theorem dL_acts_549 : decode cL_acts 549 = .ok (.iconst 2, 1) := by decide +kernel
theorem dL_acts_550 : decode cL_acts 550 = .ok (.ishr, 1) := by decide +kernel
theorem dL_acts_551 : decode cL_acts 551 = .ok (.bipush 51, 2) := by decide +kernel
theorem dL_acts_553 : decode cL_acts 553 = .ok (.irem, 1) := by decide +kernel
theorem dL_acts_554 : decode cL_acts 554 = .ok (.invokevirtual 78, 3) := by decide +kernel
theorem dL_acts_557 : decode cL_acts 557 = .ok (.bipush (-5), 2) := by decide +kernel
theorem dL_acts_559 : decode cL_acts 559 = .ok (.if_icmp .lt 7, 3) := by decide +kernel
theorem dL_acts_562 : decode cL_acts 562 = .ok (.iconst 1, 1) := by decide +kernel
theorem dL_acts_563 : decode cL_acts 563 = .ok (.goto 39, 3) := by decide +kernel
theorem dL_acts_566 : decode cL_acts 566 = .ok (.iconst 0, 1) := by decide +kernel
theorem dL_acts_567 : decode cL_acts 567 = .ok (.goto 35, 3) := by decide +kernel
theorem dL_acts_570 : decode cL_acts 570 = .ok (.aload_n 0, 1) := by decide +kernel
theorem dL_acts_571 : decode cL_acts 571 = .ok (.iload_n 2, 1) := by decide +kernel
theorem dL_acts_572 : decode cL_acts 572 = .ok (.iconst 2, 1) := by decide +kernel
theorem dL_acts_573 : decode cL_acts 573 = .ok (.ishr, 1) := by decide +kernel
theorem dL_acts_574 : decode cL_acts 574 = .ok (.iconst 3, 1) := by decide +kernel
theorem dL_acts_575 : decode cL_acts 575 = .ok (.iand, 1) := by decide +kernel
theorem dL_acts_576 : decode cL_acts 576 = .ok (.iload_n 2, 1) := by decide +kernel
theorem dL_acts_577 : decode cL_acts 577 = .ok (.iconst 4, 1) := by decide +kernel
theorem dL_acts_578 : decode cL_acts 578 = .ok (.ishr, 1) := by decide +kernel
theorem dL_acts_579 : decode cL_acts 579 = .ok (.bipush 40, 2) := by decide +kernel
theorem dL_acts_581 : decode cL_acts 581 = .ok (.irem, 1) := by decide +kernel
theorem dL_acts_582 : decode cL_acts 582 = .ok (.iload_n 2, 1) := by decide +kernel
theorem dL_acts_583 : decode cL_acts 583 = .ok (.bipush 10, 2) := by decide +kernel
theorem dL_acts_585 : decode cL_acts 585 = .ok (.ishr, 1) := by decide +kernel
theorem dL_acts_586 : decode cL_acts 586 = .ok (.bipush 101, 2) := by decide +kernel
theorem dL_acts_588 : decode cL_acts 588 = .ok (.irem, 1) := by decide +kernel
theorem dL_acts_589 : decode cL_acts 589 = .ok (.invokevirtual 81, 3) := by decide +kernel
theorem dL_acts_592 : decode cL_acts 592 = .ok (.bipush (-5), 2) := by decide +kernel
theorem dL_acts_594 : decode cL_acts 594 = .ok (.if_icmp .lt 7, 3) := by decide +kernel
theorem dL_acts_597 : decode cL_acts 597 = .ok (.iconst 1, 1) := by decide +kernel
theorem dL_acts_598 : decode cL_acts 598 = .ok (.goto 4, 3) := by decide +kernel
theorem dL_acts_601 : decode cL_acts 601 = .ok (.iconst 0, 1) := by decide +kernel
theorem dL_acts_602 : decode cL_acts 602 = .ok (.ireturn, 1) := by decide +kernel
theorem dL_law_0 : decode cL_law 0 = .ok (.new 10, 3) := by decide +kernel
theorem dL_law_3 : decode cL_law 3 = .ok (.dup, 1) := by decide +kernel
theorem dL_law_4 : decode cL_law 4 = .ok (.invokespecial 85, 3) := by decide +kernel
theorem dL_law_7 : decode cL_law 7 = .ok (.astore_n 1, 1) := by decide +kernel
theorem dL_law_8 : decode cL_law 8 = .ok (.aload_n 0, 1) := by decide +kernel
theorem dL_law_9 : decode cL_law 9 = .ok (.iconst 0, 1) := by decide +kernel
theorem dL_law_10 : decode cL_law 10 = .ok (.invokestatic 86, 3) := by decide +kernel
theorem dL_law_13 : decode cL_law 13 = .ok (.istore_n 2, 1) := by decide +kernel
theorem dL_law_14 : decode cL_law 14 = .ok (.aload_n 1, 1) := by decide +kernel
theorem dL_law_15 : decode cL_law 15 = .ok (.iconst 0, 1) := by decide +kernel
theorem dL_law_16 : decode cL_law 16 = .ok (.iload_n 2, 1) := by decide +kernel
theorem dL_law_17 : decode cL_law 17 = .ok (.bipush 10, 2) := by decide +kernel
theorem dL_law_19 : decode cL_law 19 = .ok (.irem, 1) := by decide +kernel
theorem dL_law_20 : decode cL_law 20 = .ok (.invokevirtual 78, 3) := by decide +kernel
theorem dL_law_23 : decode cL_law 23 = .ok (.bipush (-2), 2) := by decide +kernel
theorem dL_law_25 : decode cL_law 25 = .ok (.if_icmp .eq 16, 3) := by decide +kernel
theorem dL_law_28 : decode cL_law 28 = .ok (.aload_n 1, 1) := by decide +kernel
theorem dL_law_29 : decode cL_law 29 = .ok (.invokevirtual 90, 3) := by decide +kernel
theorem dL_law_32 : decode cL_law 32 = .ok (.bipush (-100), 2) := by decide +kernel
theorem dL_law_34 : decode cL_law 34 = .ok (.if_icmp .ne 7, 3) := by decide +kernel
theorem dL_law_37 : decode cL_law 37 = .ok (.iconst 1, 1) := by decide +kernel
theorem dL_law_38 : decode cL_law 38 = .ok (.goto 4, 3) := by decide +kernel
theorem dL_law_41 : decode cL_law 41 = .ok (.iconst 0, 1) := by decide +kernel
theorem dL_law_42 : decode cL_law 42 = .ok (.istore_n 3, 1) := by decide +kernel
theorem dL_law_43 : decode cL_law 43 = .ok (.iconst 0, 1) := by decide +kernel
theorem dL_law_44 : decode cL_law 44 = .ok (.istore 4, 2) := by decide +kernel
theorem dL_law_46 : decode cL_law 46 = .ok (.iload 4, 2) := by decide +kernel
theorem dL_law_48 : decode cL_law 48 = .ok (.iconst 2, 1) := by decide +kernel
theorem dL_law_49 : decode cL_law 49 = .ok (.iload_n 2, 1) := by decide +kernel
theorem dL_law_50 : decode cL_law 50 = .ok (.iconst 4, 1) := by decide +kernel
theorem dL_law_51 : decode cL_law 51 = .ok (.ishr, 1) := by decide +kernel
theorem dL_law_52 : decode cL_law 52 = .ok (.iconst 3, 1) := by decide +kernel
theorem dL_law_53 : decode cL_law 53 = .ok (.irem, 1) := by decide +kernel
theorem dL_law_54 : decode cL_law 54 = .ok (.iadd, 1) := by decide +kernel
theorem dL_law_55 : decode cL_law 55 = .ok (.if_icmp .ge 81, 3) := by decide +kernel
theorem dL_law_58 : decode cL_law 58 = .ok (.iload_n 3, 1) := by decide +kernel
theorem dL_law_59 : decode cL_law 59 = .ok (.ifCond .eq 77, 3) := by decide +kernel
theorem dL_law_62 : decode cL_law 62 = .ok (.aload_n 0, 1) := by decide +kernel
theorem dL_law_63 : decode cL_law 63 = .ok (.iconst 1, 1) := by decide +kernel
theorem dL_law_64 : decode cL_law 64 = .ok (.iload 4, 2) := by decide +kernel
theorem dL_law_66 : decode cL_law 66 = .ok (.iadd, 1) := by decide +kernel
theorem dL_law_67 : decode cL_law 67 = .ok (.invokestatic 86, 3) := by decide +kernel
theorem dL_law_70 : decode cL_law 70 = .ok (.istore 5, 2) := by decide +kernel
theorem dL_law_72 : decode cL_law 72 = .ok (.aload_n 1, 1) := by decide +kernel
theorem dL_law_73 : decode cL_law 73 = .ok (.iconst 3, 1) := by decide +kernel
theorem dL_law_74 : decode cL_law 74 = .ok (.iload 5, 2) := by decide +kernel
theorem dL_law_76 : decode cL_law 76 = .ok (.bipush 60, 2) := by decide +kernel
theorem dL_law_78 : decode cL_law 78 = .ok (.irem, 1) := by decide +kernel
theorem dL_law_79 : decode cL_law 79 = .ok (.iadd, 1) := by decide +kernel
theorem dL_law_80 : decode cL_law 80 = .ok (.iconst 1, 1) := by decide +kernel
theorem dL_law_81 : decode cL_law 81 = .ok (.iload 5, 2) := by decide +kernel
theorem dL_law_83 : decode cL_law 83 = .ok (.bipush 6, 2) := by decide +kernel
theorem dL_law_85 : decode cL_law 85 = .ok (.ishr, 1) := by decide +kernel
theorem dL_law_86 : decode cL_law 86 = .ok (.bipush 6, 2) := by decide +kernel
theorem dL_law_88 : decode cL_law 88 = .ok (.irem, 1) := by decide +kernel
theorem dL_law_89 : decode cL_law 89 = .ok (.iadd, 1) := by decide +kernel
theorem dL_law_90 : decode cL_law 90 = .ok (.iload 5, 2) := by decide +kernel
theorem dL_law_92 : decode cL_law 92 = .ok (.bipush 9, 2) := by decide +kernel
theorem dL_law_94 : decode cL_law 94 = .ok (.ishr, 1) := by decide +kernel
theorem dL_law_95 : decode cL_law 95 = .ok (.iconst 4, 1) := by decide +kernel
theorem dL_law_96 : decode cL_law 96 = .ok (.irem, 1) := by decide +kernel
theorem dL_law_97 : decode cL_law 97 = .ok (.bipush 10, 2) := by decide +kernel
theorem dL_law_99 : decode cL_law 99 = .ok (.iload 5, 2) := by decide +kernel
theorem dL_law_101 : decode cL_law 101 = .ok (.bipush 11, 2) := by decide +kernel
theorem dL_law_103 : decode cL_law 103 = .ok (.ishr, 1) := by decide +kernel
theorem dL_law_104 : decode cL_law 104 = .ok (.sipush 3000, 3) := by decide +kernel
theorem dL_law_107 : decode cL_law 107 = .ok (.irem, 1) := by decide +kernel
theorem dL_law_108 : decode cL_law 108 = .ok (.iadd, 1) := by decide +kernel
theorem dL_law_109 : decode cL_law 109 = .ok (.iload 5, 2) := by decide +kernel
theorem dL_law_111 : decode cL_law 111 = .ok (.bipush 23, 2) := by decide +kernel
theorem dL_law_113 : decode cL_law 113 = .ok (.ishr, 1) := by decide +kernel
theorem dL_law_114 : decode cL_law 114 = .ok (.iconst 3, 1) := by decide +kernel
theorem dL_law_115 : decode cL_law 115 = .ok (.irem, 1) := by decide +kernel
theorem dL_law_116 : decode cL_law 116 = .ok (.invokevirtual 94, 3) := by decide +kernel
theorem dL_law_119 : decode cL_law 119 = .ok (.iload 4, 2) := by decide +kernel
theorem dL_law_121 : decode cL_law 121 = .ok (.if_icmp .ne 7, 3) := by decide +kernel
theorem dL_law_124 : decode cL_law 124 = .ok (.iconst 1, 1) := by decide +kernel
theorem dL_law_125 : decode cL_law 125 = .ok (.goto 4, 3) := by decide +kernel
theorem dL_law_128 : decode cL_law 128 = .ok (.iconst 0, 1) := by decide +kernel
theorem dL_law_129 : decode cL_law 129 = .ok (.istore_n 3, 1) := by decide +kernel
theorem dL_law_130 : decode cL_law 130 = .ok (.iinc 4 1, 3) := by decide +kernel
theorem dL_law_133 : decode cL_law 133 = .ok (.goto (-87), 3) := by decide +kernel
theorem dL_law_136 : decode cL_law 136 = .ok (.iconst 0, 1) := by decide +kernel
theorem dL_law_137 : decode cL_law 137 = .ok (.istore 4, 2) := by decide +kernel
theorem dL_law_139 : decode cL_law 139 = .ok (.iload 4, 2) := by decide +kernel
theorem dL_law_141 : decode cL_law 141 = .ok (.bipush 44, 2) := by decide +kernel
theorem dL_law_143 : decode cL_law 143 = .ok (.if_icmp .ge 49, 3) := by decide +kernel
theorem dL_law_146 : decode cL_law 146 = .ok (.iload_n 3, 1) := by decide +kernel
theorem dL_law_147 : decode cL_law 147 = .ok (.ifCond .eq 45, 3) := by decide +kernel
theorem dL_law_150 : decode cL_law 150 = .ok (.aload_n 1, 1) := by decide +kernel
theorem dL_law_151 : decode cL_law 151 = .ok (.aload_n 0, 1) := by decide +kernel
theorem dL_law_152 : decode cL_law 152 = .ok (.bipush 6, 2) := by decide +kernel
theorem dL_law_154 : decode cL_law 154 = .ok (.iload 4, 2) := by decide +kernel
theorem dL_law_156 : decode cL_law 156 = .ok (.iadd, 1) := by decide +kernel
theorem dL_law_157 : decode cL_law 157 = .ok (.invokestatic 86, 3) := by decide +kernel
theorem dL_law_160 : decode cL_law 160 = .ok (.invokestatic 98, 3) := by decide +kernel
theorem dL_law_163 : decode cL_law 163 = .ok (.ifCond .eq 21, 3) := by decide +kernel
theorem dL_law_166 : decode cL_law 166 = .ok (.aload_n 1, 1) := by decide +kernel
theorem dL_law_167 : decode cL_law 167 = .ok (.invokestatic 101, 3) := by decide +kernel
theorem dL_law_170 : decode cL_law 170 = .ok (.ifCond .eq 14, 3) := by decide +kernel
theorem dL_law_173 : decode cL_law 173 = .ok (.aload_n 1, 1) := by decide +kernel
theorem dL_law_174 : decode cL_law 174 = .ok (.invokestatic 105, 3) := by decide +kernel
theorem dL_law_177 : decode cL_law 177 = .ok (.ifCond .eq 7, 3) := by decide +kernel
theorem dL_law_180 : decode cL_law 180 = .ok (.iconst 1, 1) := by decide +kernel
theorem dL_law_181 : decode cL_law 181 = .ok (.goto 4, 3) := by decide +kernel
theorem dL_law_184 : decode cL_law 184 = .ok (.iconst 0, 1) := by decide +kernel
theorem dL_law_185 : decode cL_law 185 = .ok (.istore_n 3, 1) := by decide +kernel
theorem dL_law_186 : decode cL_law 186 = .ok (.iinc 4 1, 3) := by decide +kernel
theorem dL_law_189 : decode cL_law 189 = .ok (.goto (-50), 3) := by decide +kernel
theorem dL_law_192 : decode cL_law 192 = .ok (.aload_n 1, 1) := by decide +kernel
theorem dL_law_193 : decode cL_law 193 = .ok (.iconst 0, 1) := by decide +kernel
theorem dL_law_194 : decode cL_law 194 = .ok (.invokevirtual 16, 3) := by decide +kernel
theorem dL_law_197 : decode cL_law 197 = .ok (.istore 4, 2) := by decide +kernel
theorem dL_law_199 : decode cL_law 199 = .ok (.aload_n 1, 1) := by decide +kernel
theorem dL_law_200 : decode cL_law 200 = .ok (.bipush 9, 2) := by decide +kernel
theorem dL_law_202 : decode cL_law 202 = .ok (.invokevirtual 16, 3) := by decide +kernel
theorem dL_law_205 : decode cL_law 205 = .ok (.istore 5, 2) := by decide +kernel
theorem dL_law_207 : decode cL_law 207 = .ok (.iload_n 3, 1) := by decide +kernel
theorem dL_law_208 : decode cL_law 208 = .ok (.ifCond .eq 60, 3) := by decide +kernel
theorem dL_law_211 : decode cL_law 211 = .ok (.aload_n 1, 1) := by decide +kernel
theorem dL_law_212 : decode cL_law 212 = .ok (.invokevirtual 108, 3) := by decide +kernel
theorem dL_law_215 : decode cL_law 215 = .ok (.iload 4, 2) := by decide +kernel
theorem dL_law_217 : decode cL_law 217 = .ok (.if_icmp .ne 51, 3) := by decide +kernel
theorem dL_law_220 : decode cL_law 220 = .ok (.aload_n 1, 1) := by decide +kernel
theorem dL_law_221 : decode cL_law 221 = .ok (.bipush 20, 2) := by decide +kernel
theorem dL_law_223 : decode cL_law 223 = .ok (.invokevirtual 75, 3) := by decide +kernel
theorem dL_law_226 : decode cL_law 226 = .ok (.ifCond .lt 42, 3) := by decide +kernel
theorem dL_law_229 : decode cL_law 229 = .ok (.aload_n 1, 1) := by decide +kernel
theorem dL_law_230 : decode cL_law 230 = .ok (.invokevirtual 111, 3) := by decide +kernel
theorem dL_law_233 : decode cL_law 233 = .ok (.ifCond .lt 35, 3) := by decide +kernel
theorem dL_law_236 : decode cL_law 236 = .ok (.aload_n 1, 1) := by decide +kernel
theorem dL_law_237 : decode cL_law 237 = .ok (.bipush 9, 2) := by decide +kernel
theorem dL_law_239 : decode cL_law 239 = .ok (.invokevirtual 16, 3) := by decide +kernel
theorem dL_law_242 : decode cL_law 242 = .ok (.iload 5, 2) := by decide +kernel
theorem dL_law_244 : decode cL_law 244 = .ok (.if_icmp .ne 24, 3) := by decide +kernel
theorem dL_law_247 : decode cL_law 247 = .ok (.aload_n 1, 1) := by decide +kernel
theorem dL_law_248 : decode cL_law 248 = .ok (.iconst 3, 1) := by decide +kernel
theorem dL_law_249 : decode cL_law 249 = .ok (.invokevirtual 75, 3) := by decide +kernel
theorem dL_law_252 : decode cL_law 252 = .ok (.ifCond .lt 16, 3) := by decide +kernel
theorem dL_law_255 : decode cL_law 255 = .ok (.aload_n 1, 1) := by decide +kernel
theorem dL_law_256 : decode cL_law 256 = .ok (.invokevirtual 114, 3) := by decide +kernel
theorem dL_law_259 : decode cL_law 259 = .ok (.iload 4, 2) := by decide +kernel
theorem dL_law_261 : decode cL_law 261 = .ok (.if_icmp .ne 7, 3) := by decide +kernel
theorem dL_law_264 : decode cL_law 264 = .ok (.iconst 1, 1) := by decide +kernel
theorem dL_law_265 : decode cL_law 265 = .ok (.goto 4, 3) := by decide +kernel
theorem dL_law_268 : decode cL_law 268 = .ok (.iconst 0, 1) := by decide +kernel
theorem dL_law_269 : decode cL_law 269 = .ok (.istore_n 3, 1) := by decide +kernel
theorem dL_law_270 : decode cL_law 270 = .ok (.iload_n 3, 1) := by decide +kernel
theorem dL_law_271 : decode cL_law 271 = .ok (.ifCond .eq 32, 3) := by decide +kernel
theorem dL_law_274 : decode cL_law 274 = .ok (.aload_n 1, 1) := by decide +kernel
theorem dL_law_275 : decode cL_law 275 = .ok (.bipush 9, 2) := by decide +kernel
theorem dL_law_277 : decode cL_law 277 = .ok (.invokevirtual 16, 3) := by decide +kernel
theorem dL_law_280 : decode cL_law 280 = .ok (.iload 5, 2) := by decide +kernel
theorem dL_law_282 : decode cL_law 282 = .ok (.if_icmp .ne 21, 3) := by decide +kernel
theorem dL_law_285 : decode cL_law 285 = .ok (.aload_n 1, 1) := by decide +kernel
theorem dL_law_286 : decode cL_law 286 = .ok (.invokestatic 101, 3) := by decide +kernel
theorem dL_law_289 : decode cL_law 289 = .ok (.ifCond .eq 14, 3) := by decide +kernel
theorem dL_law_292 : decode cL_law 292 = .ok (.aload_n 1, 1) := by decide +kernel
theorem dL_law_293 : decode cL_law 293 = .ok (.invokestatic 105, 3) := by decide +kernel
theorem dL_law_296 : decode cL_law 296 = .ok (.ifCond .eq 7, 3) := by decide +kernel
theorem dL_law_299 : decode cL_law 299 = .ok (.iconst 1, 1) := by decide +kernel
theorem dL_law_300 : decode cL_law 300 = .ok (.goto 4, 3) := by decide +kernel
theorem dL_law_303 : decode cL_law 303 = .ok (.iconst 0, 1) := by decide +kernel
theorem dL_law_304 : decode cL_law 304 = .ok (.ireturn, 1) := by decide +kernel
