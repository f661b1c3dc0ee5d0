theorem dX7_init_0 : decode cX7_init 0 = .ok (.aload_n 0, 1) := by decide +kernel
theorem dX7_init_1 : decode cX7_init 1 = .ok (.invokespecial 1, 3) := by decide +kernel
theorem dX7_init_4 : decode cX7_init 4 = .ok (.aload_n 0, 1) := by decide +kernel
theorem dX7_init_5 : decode cX7_init 5 = .ok (.sipush 607, 3) := by decide +kernel
theorem dX7_init_8 : decode cX7_init 8 = .ok (.newarray .int, 2) := by decide +kernel
theorem dX7_init_10 : decode cX7_init 10 = .ok (.putfield 7, 3) := by decide +kernel
theorem dX7_init_13 : decode cX7_init 13 = .ok (.aload_n 0, 1) := by decide +kernel
theorem dX7_init_14 : decode cX7_init 14 = .ok (.sipush 607, 3) := by decide +kernel
theorem dX7_init_17 : decode cX7_init 17 = .ok (.newarray .int, 2) := by decide +kernel
theorem dX7_init_19 : decode cX7_init 19 = .ok (.putfield 13, 3) := by decide +kernel
theorem dX7_init_22 : decode cX7_init 22 = .ok (.aload_n 0, 1) := by decide +kernel
theorem dX7_init_23 : decode cX7_init 23 = .ok (.sipush 2428, 3) := by decide +kernel
theorem dX7_init_26 : decode cX7_init 26 = .ok (.newarray .int, 2) := by decide +kernel
theorem dX7_init_28 : decode cX7_init 28 = .ok (.putfield 16, 3) := by decide +kernel
theorem dX7_init_31 : decode cX7_init 31 = .ok (.aload_n 0, 1) := by decide +kernel
theorem dX7_init_32 : decode cX7_init 32 = .ok (.sipush 607, 3) := by decide +kernel
theorem dX7_init_35 : decode cX7_init 35 = .ok (.newarray .int, 2) := by decide +kernel
theorem dX7_init_37 : decode cX7_init 37 = .ok (.putfield 19, 3) := by decide +kernel
theorem dX7_init_40 : decode cX7_init 40 = .ok (.aload_n 0, 1) := by decide +kernel
theorem dX7_init_41 : decode cX7_init 41 = .ok (.bipush 60, 2) := by decide +kernel
theorem dX7_init_43 : decode cX7_init 43 = .ok (.newarray .int, 2) := by decide +kernel
theorem dX7_init_45 : decode cX7_init 45 = .ok (.putfield 22, 3) := by decide +kernel
theorem dX7_init_48 : decode cX7_init 48 = .ok (.aload_n 0, 1) := by decide +kernel
theorem dX7_init_49 : decode cX7_init 49 = .ok (.iconst 4, 1) := by decide +kernel
theorem dX7_init_50 : decode cX7_init 50 = .ok (.newarray .int, 2) := by decide +kernel
theorem dX7_init_52 : decode cX7_init 52 = .ok (.dup, 1) := by decide +kernel
theorem dX7_init_53 : decode cX7_init 53 = .ok (.iconst 0, 1) := by decide +kernel
theorem dX7_init_54 : decode cX7_init 54 = .ok (.iconst 0, 1) := by decide +kernel
theorem dX7_init_55 : decode cX7_init 55 = .ok (.iastore, 1) := by decide +kernel
theorem dX7_init_56 : decode cX7_init 56 = .ok (.dup, 1) := by decide +kernel
theorem dX7_init_57 : decode cX7_init 57 = .ok (.iconst 1, 1) := by decide +kernel
theorem dX7_init_58 : decode cX7_init 58 = .ok (.iconst 0, 1) := by decide +kernel
theorem dX7_init_59 : decode cX7_init 59 = .ok (.iastore, 1) := by decide +kernel
theorem dX7_init_60 : decode cX7_init 60 = .ok (.dup, 1) := by decide +kernel
theorem dX7_init_61 : decode cX7_init 61 = .ok (.iconst 2, 1) := by decide +kernel
theorem dX7_init_62 : decode cX7_init 62 = .ok (.iconst 1, 1) := by decide +kernel
theorem dX7_init_63 : decode cX7_init 63 = .ok (.iastore, 1) := by decide +kernel
theorem dX7_init_64 : decode cX7_init 64 = .ok (.dup, 1) := by decide +kernel
theorem dX7_init_65 : decode cX7_init 65 = .ok (.iconst 3, 1) := by decide +kernel
theorem dX7_init_66 : decode cX7_init 66 = .ok (.iconst 0, 1) := by decide +kernel
theorem dX7_init_67 : decode cX7_init 67 = .ok (.iastore, 1) := by decide +kernel
theorem dX7_init_68 : decode cX7_init 68 = .ok (.putfield 25, 3) := by decide +kernel
theorem dX7_init_71 : decode cX7_init 71 = .ok (.aload_n 0, 1) := by decide +kernel
theorem dX7_init_72 : decode cX7_init 72 = .ok (.iconst 4, 1) := by decide +kernel
theorem dX7_init_73 : decode cX7_init 73 = .ok (.newarray .int, 2) := by decide +kernel
theorem dX7_init_75 : decode cX7_init 75 = .ok (.dup, 1) := by decide +kernel
theorem dX7_init_76 : decode cX7_init 76 = .ok (.iconst 0, 1) := by decide +kernel
theorem dX7_init_77 : decode cX7_init 77 = .ok (.bipush 9, 2) := by decide +kernel
theorem dX7_init_79 : decode cX7_init 79 = .ok (.iastore, 1) := by decide +kernel
theorem dX7_init_80 : decode cX7_init 80 = .ok (.dup, 1) := by decide +kernel
theorem dX7_init_81 : decode cX7_init 81 = .ok (.iconst 1, 1) := by decide +kernel
theorem dX7_init_82 : decode cX7_init 82 = .ok (.bipush 50, 2) := by decide +kernel
theorem dX7_init_84 : decode cX7_init 84 = .ok (.iastore, 1) := by decide +kernel
theorem dX7_init_85 : decode cX7_init 85 = .ok (.dup, 1) := by decide +kernel
theorem dX7_init_86 : decode cX7_init 86 = .ok (.iconst 2, 1) := by decide +kernel
theorem dX7_init_87 : decode cX7_init 87 = .ok (.bipush 60, 2) := by decide +kernel
theorem dX7_init_89 : decode cX7_init 89 = .ok (.iastore, 1) := by decide +kernel
theorem dX7_init_90 : decode cX7_init 90 = .ok (.dup, 1) := by decide +kernel
theorem dX7_init_91 : decode cX7_init 91 = .ok (.iconst 3, 1) := by decide +kernel
theorem dX7_init_92 : decode cX7_init 92 = .ok (.sipush 9999, 3) := by decide +kernel
theorem dX7_init_95 : decode cX7_init 95 = .ok (.iastore, 1) := by decide +kernel
theorem dX7_init_96 : decode cX7_init 96 = .ok (.putfield 28, 3) := by decide +kernel
theorem dX7_init_99 : decode cX7_init 99 = .ok (.aload_n 0, 1) := by decide +kernel
theorem dX7_init_100 : decode cX7_init 100 = .ok (.getfield 7, 3) := by decide +kernel
theorem dX7_init_103 : decode cX7_init 103 = .ok (.iconst 3, 1) := by decide +kernel
theorem dX7_init_104 : decode cX7_init 104 = .ok (.iconst 3, 1) := by decide +kernel
theorem dX7_init_105 : decode cX7_init 105 = .ok (.iastore, 1) := by decide +kernel
theorem dX7_init_106 : decode cX7_init 106 = .ok (.aload_n 0, 1) := by decide +kernel
theorem dX7_init_107 : decode cX7_init 107 = .ok (.getfield 7, 3) := by decide +kernel
theorem dX7_init_110 : decode cX7_init 110 = .ok (.iconst 4, 1) := by decide +kernel
theorem dX7_init_111 : decode cX7_init 111 = .ok (.bipush 10, 2) := by decide +kernel
theorem dX7_init_113 : decode cX7_init 113 = .ok (.iastore, 1) := by decide +kernel
theorem dX7_init_114 : decode cX7_init 114 = .ok (.aload_n 0, 1) := by decide +kernel
theorem dX7_init_115 : decode cX7_init 115 = .ok (.getfield 7, 3) := by decide +kernel
theorem dX7_init_118 : decode cX7_init 118 = .ok (.iconst 5, 1) := by decide +kernel
theorem dX7_init_119 : decode cX7_init 119 = .ok (.bipush 20, 2) := by decide +kernel
theorem dX7_init_121 : decode cX7_init 121 = .ok (.iastore, 1) := by decide +kernel
theorem dX7_init_122 : decode cX7_init 122 = .ok (.aload_n 0, 1) := by decide +kernel
theorem dX7_init_123 : decode cX7_init 123 = .ok (.getfield 7, 3) := by decide +kernel
theorem dX7_init_126 : decode cX7_init 126 = .ok (.bipush 6, 2) := by decide +kernel
theorem dX7_init_128 : decode cX7_init 128 = .ok (.sipush 500, 3) := by decide +kernel
theorem dX7_init_131 : decode cX7_init 131 = .ok (.iastore, 1) := by decide +kernel
theorem dX7_init_132 : decode cX7_init 132 = .ok (.aload_n 0, 1) := by decide +kernel
theorem dX7_init_133 : decode cX7_init 133 = .ok (.getfield 7, 3) := by decide +kernel
theorem dX7_init_136 : decode cX7_init 136 = .ok (.bipush 9, 2) := by decide +kernel
theorem dX7_init_138 : decode cX7_init 138 = .ok (.bipush 30, 2) := by decide +kernel
theorem dX7_init_140 : decode cX7_init 140 = .ok (.iastore, 1) := by decide +kernel
theorem dX7_init_141 : decode cX7_init 141 = .ok (.aload_n 0, 1) := by decide +kernel
theorem dX7_init_142 : decode cX7_init 142 = .ok (.getfield 7, 3) := by decide +kernel
theorem dX7_init_145 : decode cX7_init 145 = .ok (.bipush 10, 2) := by decide +kernel
theorem dX7_init_147 : decode cX7_init 147 = .ok (.bipush 10, 2) := by decide +kernel
theorem dX7_init_149 : decode cX7_init 149 = .ok (.iastore, 1) := by decide +kernel
theorem dX7_init_150 : decode cX7_init 150 = .ok (.aload_n 0, 1) := by decide +kernel
theorem dX7_init_151 : decode cX7_init 151 = .ok (.getfield 7, 3) := by decide +kernel
theorem dX7_init_154 : decode cX7_init 154 = .ok (.bipush 11, 2) := by decide +kernel
theorem dX7_init_156 : decode cX7_init 156 = .ok (.bipush 14, 2) := by decide +kernel
theorem dX7_init_158 : decode cX7_init 158 = .ok (.iastore, 1) := by decide +kernel
theorem dX7_init_159 : decode cX7_init 159 = .ok (.aload_n 0, 1) := by decide +kernel
theorem dX7_init_160 : decode cX7_init 160 = .ok (.getfield 7, 3) := by decide +kernel
theorem dX7_init_163 : decode cX7_init 163 = .ok (.bipush 12, 2) := by decide +kernel
theorem dX7_init_165 : decode cX7_init 165 = .ok (.bipush 30, 2) := by decide +kernel
theorem dX7_init_167 : decode cX7_init 167 = .ok (.iastore, 1) := by decide +kernel
theorem dX7_init_168 : decode cX7_init 168 = .ok (.aload_n 0, 1) := by decide +kernel
theorem dX7_init_169 : decode cX7_init 169 = .ok (.getfield 7, 3) := by decide +kernel
theorem dX7_init_172 : decode cX7_init 172 = .ok (.bipush 13, 2) := by decide +kernel
theorem dX7_init_174 : decode cX7_init 174 = .ok (.bipush 7, 2) := by decide +kernel
theorem dX7_init_176 : decode cX7_init 176 = .ok (.iastore, 1) := by decide +kernel
theorem dX7_init_177 : decode cX7_init 177 = .ok (.aload_n 0, 1) := by decide +kernel
theorem dX7_init_178 : decode cX7_init 178 = .ok (.getfield 7, 3) := by decide +kernel
theorem dX7_init_181 : decode cX7_init 181 = .ok (.bipush 14, 2) := by decide +kernel
theorem dX7_init_183 : decode cX7_init 183 = .ok (.bipush 60, 2) := by decide +kernel
theorem dX7_init_185 : decode cX7_init 185 = .ok (.iastore, 1) := by decide +kernel
theorem dX7_init_186 : decode cX7_init 186 = .ok (.aload_n 0, 1) := by decide +kernel
theorem dX7_init_187 : decode cX7_init 187 = .ok (.getfield 7, 3) := by decide +kernel
theorem dX7_init_190 : decode cX7_init 190 = .ok (.bipush 16, 2) := by decide +kernel
theorem dX7_init_192 : decode cX7_init 192 = .ok (.bipush 100, 2) := by decide +kernel
theorem dX7_init_194 : decode cX7_init 194 = .ok (.iastore, 1) := by decide +kernel
theorem dX7_init_195 : decode cX7_init 195 = .ok (.return_, 1) := by decide +kernel
theorem dX7_in_0 : decode cX7_in 0 = .ok (.iload_n 0, 1) := by decide +kernel
theorem dX7_in_1 : decode cX7_in 1 = .ok (.iload_n 1, 1) := by decide +kernel
theorem dX7_in_2 : decode cX7_in 2 = .ok (.if_icmp .lt 12, 3) := by decide +kernel
theorem dX7_in_5 : decode cX7_in 5 = .ok (.iload_n 0, 1) := by decide +kernel
theorem dX7_in_6 : decode cX7_in 6 = .ok (.iload_n 2, 1) := by decide +kernel
theorem dX7_in_7 : decode cX7_in 7 = .ok (.if_icmp .gt 7, 3) := by decide +kernel
theorem dX7_in_10 : decode cX7_in 10 = .ok (.iconst 1, 1) := by decide +kernel
theorem dX7_in_11 : decode cX7_in 11 = .ok (.goto 4, 3) := by decide +kernel
theorem dX7_in_14 : decode cX7_in 14 = .ok (.iconst 0, 1) := by decide +kernel
theorem dX7_in_15 : decode cX7_in 15 = .ok (.ireturn, 1) := by decide +kernel
theorem dX7_record_0 : decode cX7_record 0 = .ok (.aload_n 0, 1) := by decide +kernel
theorem dX7_record_1 : decode cX7_record 1 = .ok (.getfield 31, 3) := by decide +kernel
theorem dX7_record_4 : decode cX7_record 4 = .ok (.iconst 4, 1) := by decide +kernel
theorem dX7_record_5 : decode cX7_record 5 = .ok (.if_icmp .ne 44, 3) := by decide +kernel
theorem dX7_record_8 : decode cX7_record 8 = .ok (.iconst 0, 1) := by decide +kernel
theorem dX7_record_9 : decode cX7_record 9 = .ok (.istore_n 1, 1) := by decide +kernel
theorem dX7_record_10 : decode cX7_record 10 = .ok (.iload_n 1, 1) := by decide +kernel
theorem dX7_record_11 : decode cX7_record 11 = .ok (.sipush 1821, 3) := by decide +kernel
theorem dX7_record_14 : decode cX7_record 14 = .ok (.if_icmp .ge 25, 3) := by decide +kernel
theorem dX7_record_17 : decode cX7_record 17 = .ok (.aload_n 0, 1) := by decide +kernel
theorem dX7_record_18 : decode cX7_record 18 = .ok (.getfield 16, 3) := by decide +kernel
theorem dX7_record_21 : decode cX7_record 21 = .ok (.iload_n 1, 1) := by decide +kernel
theorem dX7_record_22 : decode cX7_record 22 = .ok (.aload_n 0, 1) := by decide +kernel
theorem dX7_record_23 : decode cX7_record 23 = .ok (.getfield 16, 3) := by decide +kernel
theorem dX7_record_26 : decode cX7_record 26 = .ok (.iload_n 1, 1) := by decide +kernel
theorem dX7_record_27 : decode cX7_record 27 = .ok (.sipush 607, 3) := by decide +kernel
theorem dX7_record_30 : decode cX7_record 30 = .ok (.iadd, 1) := by decide +kernel
theorem dX7_record_31 : decode cX7_record 31 = .ok (.iaload, 1) := by decide +kernel
theorem dX7_record_32 : decode cX7_record 32 = .ok (.iastore, 1) := by decide +kernel
theorem dX7_record_33 : decode cX7_record 33 = .ok (.iinc 1 1, 3) := by decide +kernel
theorem dX7_record_36 : decode cX7_record 36 = .ok (.goto (-26), 3) := by decide +kernel
theorem dX7_record_39 : decode cX7_record 39 = .ok (.aload_n 0, 1) := by decide +kernel
theorem dX7_record_40 : decode cX7_record 40 = .ok (.dup, 1) := by decide +kernel
theorem dX7_record_41 : decode cX7_record 41 = .ok (.getfield 31, 3) := by decide +kernel
theorem dX7_record_44 : decode cX7_record 44 = .ok (.iconst 1, 1) := by decide +kernel
theorem dX7_record_45 : decode cX7_record 45 = .ok (.isub, 1) := by decide +kernel
theorem dX7_record_46 : decode cX7_record 46 = .ok (.putfield 31, 3) := by decide +kernel
theorem dX7_record_49 : decode cX7_record 49 = .ok (.iconst 0, 1) := by decide +kernel
theorem dX7_record_50 : decode cX7_record 50 = .ok (.istore_n 1, 1) := by decide +kernel
theorem dX7_record_51 : decode cX7_record 51 = .ok (.iload_n 1, 1) := by decide +kernel
theorem dX7_record_52 : decode cX7_record 52 = .ok (.sipush 607, 3) := by decide +kernel
theorem dX7_record_55 : decode cX7_record 55 = .ok (.if_icmp .ge 30, 3) := by decide +kernel
theorem dX7_record_58 : decode cX7_record 58 = .ok (.aload_n 0, 1) := by decide +kernel
theorem dX7_record_59 : decode cX7_record 59 = .ok (.getfield 16, 3) := by decide +kernel
theorem dX7_record_62 : decode cX7_record 62 = .ok (.sipush 607, 3) := by decide +kernel
theorem dX7_record_65 : decode cX7_record 65 = .ok (.aload_n 0, 1) := by decide +kernel
theorem dX7_record_66 : decode cX7_record 66 = .ok (.getfield 31, 3) := by decide +kernel
theorem dX7_record_69 : decode cX7_record 69 = .ok (.imul, 1) := by decide +kernel
theorem dX7_record_70 : decode cX7_record 70 = .ok (.iload_n 1, 1) := by decide +kernel
theorem dX7_record_71 : decode cX7_record 71 = .ok (.iadd, 1) := by decide +kernel
theorem dX7_record_72 : decode cX7_record 72 = .ok (.aload_n 0, 1) := by decide +kernel
theorem dX7_record_73 : decode cX7_record 73 = .ok (.getfield 7, 3) := by decide +kernel
theorem dX7_record_76 : decode cX7_record 76 = .ok (.iload_n 1, 1) := by decide +kernel
theorem dX7_record_77 : decode cX7_record 77 = .ok (.iaload, 1) := by decide +kernel
theorem dX7_record_78 : decode cX7_record 78 = .ok (.iastore, 1) := by decide +kernel
theorem dX7_record_79 : decode cX7_record 79 = .ok (.iinc 1 1, 3) := by decide +kernel
theorem dX7_record_82 : decode cX7_record 82 = .ok (.goto (-31), 3) := by decide +kernel
theorem dX7_record_85 : decode cX7_record 85 = .ok (.aload_n 0, 1) := by decide +kernel
theorem dX7_record_86 : decode cX7_record 86 = .ok (.dup, 1) := by decide +kernel
theorem dX7_record_87 : decode cX7_record 87 = .ok (.getfield 31, 3) := by decide +kernel
theorem dX7_record_90 : decode cX7_record 90 = .ok (.iconst 1, 1) := by decide +kernel
theorem dX7_record_91 : decode cX7_record 91 = .ok (.iadd, 1) := by decide +kernel
theorem dX7_record_92 : decode cX7_record 92 = .ok (.putfield 31, 3) := by decide +kernel
theorem dX7_record_95 : decode cX7_record 95 = .ok (.return_, 1) := by decide +kernel
theorem dX7_isDate_0 : decode cX7_isDate 0 = .ok (.iload_n 1, 1) := by decide +kernel
theorem dX7_isDate_1 : decode cX7_isDate 1 = .ok (.iconst 0, 1) := by decide +kernel
theorem dX7_isDate_2 : decode cX7_isDate 2 = .ok (.aload_n 0, 1) := by decide +kernel
theorem dX7_isDate_3 : decode cX7_isDate 3 = .ok (.getfield 7, 3) := by decide +kernel
theorem dX7_isDate_6 : decode cX7_isDate 6 = .ok (.iconst 1, 1) := by decide +kernel
theorem dX7_isDate_7 : decode cX7_isDate 7 = .ok (.iaload, 1) := by decide +kernel
theorem dX7_isDate_8 : decode cX7_isDate 8 = .ok (.iconst 1, 1) := by decide +kernel
theorem dX7_isDate_9 : decode cX7_isDate 9 = .ok (.isub, 1) := by decide +kernel
theorem dX7_isDate_10 : decode cX7_isDate 10 = .ok (.invokestatic 35, 3) := by decide +kernel
theorem dX7_isDate_13 : decode cX7_isDate 13 = .ok (.ireturn, 1) := by decide +kernel
theorem dX7_isRight_0 : decode cX7_isRight 0 = .ok (.iload_n 1, 1) := by decide +kernel
theorem dX7_isRight_1 : decode cX7_isRight 1 = .ok (.iconst 0, 1) := by decide +kernel
theorem dX7_isRight_2 : decode cX7_isRight 2 = .ok (.aload_n 0, 1) := by decide +kernel
theorem dX7_isRight_3 : decode cX7_isRight 3 = .ok (.getfield 7, 3) := by decide +kernel
theorem dX7_isRight_6 : decode cX7_isRight 6 = .ok (.iconst 2, 1) := by decide +kernel
theorem dX7_isRight_7 : decode cX7_isRight 7 = .ok (.iaload, 1) := by decide +kernel
theorem dX7_isRight_8 : decode cX7_isRight 8 = .ok (.iconst 1, 1) := by decide +kernel
theorem dX7_isRight_9 : decode cX7_isRight 9 = .ok (.isub, 1) := by decide +kernel
theorem dX7_isRight_10 : decode cX7_isRight 10 = .ok (.invokestatic 35, 3) := by decide +kernel
theorem dX7_isRight_13 : decode cX7_isRight 13 = .ok (.ireturn, 1) := by decide +kernel
theorem dX7_isHolder_0 : decode cX7_isHolder 0 = .ok (.iload_n 0, 1) := by decide +kernel
theorem dX7_isHolder_1 : decode cX7_isHolder 1 = .ok (.iconst 0, 1) := by decide +kernel
theorem dX7_isHolder_2 : decode cX7_isHolder 2 = .ok (.bipush 9, 2) := by decide +kernel
theorem dX7_isHolder_4 : decode cX7_isHolder 4 = .ok (.invokestatic 35, 3) := by decide +kernel
theorem dX7_isHolder_7 : decode cX7_isHolder 7 = .ok (.ireturn, 1) := by decide +kernel
theorem dX7_dateAt_0 : decode cX7_dateAt 0 = .ok (.bipush 27, 2) := by decide +kernel
theorem dX7_dateAt_2 : decode cX7_dateAt 2 = .ok (.bipush 12, 2) := by decide +kernel
theorem dX7_dateAt_4 : decode cX7_dateAt 4 = .ok (.iload_n 0, 1) := by decide +kernel
theorem dX7_dateAt_5 : decode cX7_dateAt 5 = .ok (.imul, 1) := by decide +kernel
theorem dX7_dateAt_6 : decode cX7_dateAt 6 = .ok (.iadd, 1) := by decide +kernel
theorem dX7_dateAt_7 : decode cX7_dateAt 7 = .ok (.iload_n 1, 1) := by decide +kernel
theorem dX7_dateAt_8 : decode cX7_dateAt 8 = .ok (.iadd, 1) := by decide +kernel
theorem dX7_dateAt_9 : decode cX7_dateAt 9 = .ok (.ireturn, 1) := by decide +kernel
theorem dX7_rightAt_0 : decode cX7_rightAt 0 = .ok (.sipush 147, 3) := by decide +kernel
theorem dX7_rightAt_3 : decode cX7_rightAt 3 = .ok (.bipush 7, 2) := by decide +kernel
theorem dX7_rightAt_5 : decode cX7_rightAt 5 = .ok (.iload_n 0, 1) := by decide +kernel
theorem dX7_rightAt_6 : decode cX7_rightAt 6 = .ok (.imul, 1) := by decide +kernel
theorem dX7_rightAt_7 : decode cX7_rightAt 7 = .ok (.iadd, 1) := by decide +kernel
theorem dX7_rightAt_8 : decode cX7_rightAt 8 = .ok (.iload_n 1, 1) := by decide +kernel
theorem dX7_rightAt_9 : decode cX7_rightAt 9 = .ok (.iadd, 1) := by decide +kernel
theorem dX7_rightAt_10 : decode cX7_rightAt 10 = .ok (.ireturn, 1) := by decide +kernel
theorem dX7_ofDate_0 : decode cX7_ofDate 0 = .ok (.aload_n 0, 1) := by decide +kernel
theorem dX7_ofDate_1 : decode cX7_ofDate 1 = .ok (.getfield 7, 3) := by decide +kernel
theorem dX7_ofDate_4 : decode cX7_ofDate 4 = .ok (.iload_n 1, 1) := by decide +kernel
theorem dX7_ofDate_5 : decode cX7_ofDate 5 = .ok (.iload_n 2, 1) := by decide +kernel
theorem dX7_ofDate_6 : decode cX7_ofDate 6 = .ok (.invokestatic 39, 3) := by decide +kernel
theorem dX7_ofDate_9 : decode cX7_ofDate 9 = .ok (.iaload, 1) := by decide +kernel
theorem dX7_ofDate_10 : decode cX7_ofDate 10 = .ok (.ireturn, 1) := by decide +kernel
theorem dX7_of_0 : decode cX7_of 0 = .ok (.aload_n 0, 1) := by decide +kernel
theorem dX7_of_1 : decode cX7_of 1 = .ok (.getfield 7, 3) := by decide +kernel
theorem dX7_of_4 : decode cX7_of 4 = .ok (.iload_n 1, 1) := by decide +kernel
theorem dX7_of_5 : decode cX7_of 5 = .ok (.iload_n 2, 1) := by decide +kernel
theorem dX7_of_6 : decode cX7_of 6 = .ok (.invokestatic 43, 3) := by decide +kernel
theorem dX7_of_9 : decode cX7_of 9 = .ok (.iaload, 1) := by decide +kernel
theorem dX7_of_10 : decode cX7_of 10 = .ok (.ireturn, 1) := by decide +kernel
theorem dX7_log_0 : decode cX7_log 0 = .ok (.bipush 39, 2) := by decide +kernel
theorem dX7_log_2 : decode cX7_log 2 = .ok (.istore 4, 2) := by decide +kernel
theorem dX7_log_4 : decode cX7_log 4 = .ok (.iload 4, 2) := by decide +kernel
theorem dX7_log_6 : decode cX7_log 6 = .ok (.iconst 3, 1) := by decide +kernel
theorem dX7_log_7 : decode cX7_log 7 = .ok (.if_icmp .le 33, 3) := by decide +kernel
theorem dX7_log_10 : decode cX7_log 10 = .ok (.aload_n 0, 1) := by decide +kernel
theorem dX7_log_11 : decode cX7_log 11 = .ok (.getfield 7, 3) := by decide +kernel
theorem dX7_log_14 : decode cX7_log 14 = .ok (.sipush 567, 3) := by decide +kernel
theorem dX7_log_17 : decode cX7_log 17 = .ok (.iload 4, 2) := by decide +kernel
theorem dX7_log_19 : decode cX7_log 19 = .ok (.iadd, 1) := by decide +kernel
theorem dX7_log_20 : decode cX7_log 20 = .ok (.aload_n 0, 1) := by decide +kernel
theorem dX7_log_21 : decode cX7_log 21 = .ok (.getfield 7, 3) := by decide +kernel
theorem dX7_log_24 : decode cX7_log 24 = .ok (.sipush 567, 3) := by decide +kernel
theorem dX7_log_27 : decode cX7_log 27 = .ok (.iload 4, 2) := by decide +kernel
theorem dX7_log_29 : decode cX7_log 29 = .ok (.iadd, 1) := by decide +kernel
theorem dX7_log_30 : decode cX7_log 30 = .ok (.iconst 4, 1) := by decide +kernel
theorem dX7_log_31 : decode cX7_log 31 = .ok (.isub, 1) := by decide +kernel
theorem dX7_log_32 : decode cX7_log 32 = .ok (.iaload, 1) := by decide +kernel
theorem dX7_log_33 : decode cX7_log 33 = .ok (.iastore, 1) := by decide +kernel
theorem dX7_log_34 : decode cX7_log 34 = .ok (.iinc 4 (-1), 3) := by decide +kernel
theorem dX7_log_37 : decode cX7_log 37 = .ok (.goto (-33), 3) := by decide +kernel
theorem dX7_log_40 : decode cX7_log 40 = .ok (.aload_n 0, 1) := by decide +kernel
theorem dX7_log_41 : decode cX7_log 41 = .ok (.getfield 7, 3) := by decide +kernel
theorem dX7_log_44 : decode cX7_log 44 = .ok (.sipush 567, 3) := by decide +kernel
theorem dX7_log_47 : decode cX7_log 47 = .ok (.iload_n 1, 1) := by decide +kernel
theorem dX7_log_48 : decode cX7_log 48 = .ok (.iastore, 1) := by decide +kernel
theorem dX7_log_49 : decode cX7_log 49 = .ok (.aload_n 0, 1) := by decide +kernel
theorem dX7_log_50 : decode cX7_log 50 = .ok (.getfield 7, 3) := by decide +kernel
theorem dX7_log_53 : decode cX7_log 53 = .ok (.sipush 568, 3) := by decide +kernel
theorem dX7_log_56 : decode cX7_log 56 = .ok (.iload_n 2, 1) := by decide +kernel
theorem dX7_log_57 : decode cX7_log 57 = .ok (.iastore, 1) := by decide +kernel
theorem dX7_log_58 : decode cX7_log 58 = .ok (.aload_n 0, 1) := by decide +kernel
theorem dX7_log_59 : decode cX7_log 59 = .ok (.getfield 7, 3) := by decide +kernel
theorem dX7_log_62 : decode cX7_log 62 = .ok (.sipush 569, 3) := by decide +kernel
theorem dX7_log_65 : decode cX7_log 65 = .ok (.iload_n 3, 1) := by decide +kernel
theorem dX7_log_66 : decode cX7_log 66 = .ok (.iastore, 1) := by decide +kernel
theorem dX7_log_67 : decode cX7_log 67 = .ok (.aload_n 0, 1) := by decide +kernel
theorem dX7_log_68 : decode cX7_log 68 = .ok (.getfield 7, 3) := by decide +kernel
theorem dX7_log_71 : decode cX7_log 71 = .ok (.sipush 570, 3) := by decide +kernel
theorem dX7_log_74 : decode cX7_log 74 = .ok (.aload_n 0, 1) := by decide +kernel
theorem dX7_log_75 : decode cX7_log 75 = .ok (.getfield 7, 3) := by decide +kernel
theorem dX7_log_78 : decode cX7_log 78 = .ok (.iconst 0, 1) := by decide +kernel
theorem dX7_log_79 : decode cX7_log 79 = .ok (.iaload, 1) := by decide +kernel
theorem dX7_log_80 : decode cX7_log 80 = .ok (.iastore, 1) := by decide +kernel
theorem dX7_log_81 : decode cX7_log 81 = .ok (.aload_n 0, 1) := by decide +kernel
theorem dX7_log_82 : decode cX7_log 82 = .ok (.getfield 7, 3) := by decide +kernel
theorem dX7_log_85 : decode cX7_log 85 = .ok (.bipush 8, 2) := by decide +kernel
theorem dX7_log_87 : decode cX7_log 87 = .ok (.dup2, 1) := by decide +kernel
theorem dX7_log_88 : decode cX7_log 88 = .ok (.iaload, 1) := by decide +kernel
theorem dX7_log_89 : decode cX7_log 89 = .ok (.aload_n 0, 1) := by decide +kernel
theorem dX7_log_90 : decode cX7_log 90 = .ok (.getfield 7, 3) := by decide +kernel
theorem dX7_log_93 : decode cX7_log 93 = .ok (.bipush 8, 2) := by decide +kernel
theorem dX7_log_95 : decode cX7_log 95 = .ok (.iaload, 1) := by decide +kernel
theorem dX7_log_96 : decode cX7_log 96 = .ok (.bipush 10, 2) := by decide +kernel
theorem dX7_log_98 : decode cX7_log 98 = .ok (.if_icmp .ge 7, 3) := by decide +kernel
theorem dX7_log_101 : decode cX7_log 101 = .ok (.iconst 1, 1) := by decide +kernel
theorem dX7_log_102 : decode cX7_log 102 = .ok (.goto 4, 3) := by decide +kernel
theorem dX7_log_105 : decode cX7_log 105 = .ok (.iconst 0, 1) := by decide +kernel
theorem dX7_log_106 : decode cX7_log 106 = .ok (.iadd, 1) := by decide +kernel
theorem dX7_log_107 : decode cX7_log 107 = .ok (.iastore, 1) := by decide +kernel
theorem dX7_log_108 : decode cX7_log 108 = .ok (.return_, 1) := by decide +kernel
theorem dX7_pays_0 : decode cX7_pays 0 = .ok (.aload_n 0, 1) := by decide +kernel
theorem dX7_pays_1 : decode cX7_pays 1 = .ok (.getfield 7, 3) := by decide +kernel
theorem dX7_pays_4 : decode cX7_pays 4 = .ok (.bipush 17, 2) := by decide +kernel
theorem dX7_pays_6 : decode cX7_pays 6 = .ok (.iload_n 1, 1) := by decide +kernel
theorem dX7_pays_7 : decode cX7_pays 7 = .ok (.iadd, 1) := by decide +kernel
theorem dX7_pays_8 : decode cX7_pays 8 = .ok (.dup2, 1) := by decide +kernel
theorem dX7_pays_9 : decode cX7_pays 9 = .ok (.iaload, 1) := by decide +kernel
theorem dX7_pays_10 : decode cX7_pays 10 = .ok (.iload_n 2, 1) := by decide +kernel
theorem dX7_pays_11 : decode cX7_pays 11 = .ok (.isub, 1) := by decide +kernel
theorem dX7_pays_12 : decode cX7_pays 12 = .ok (.iastore, 1) := by decide +kernel
theorem dX7_pays_13 : decode cX7_pays 13 = .ok (.aload_n 0, 1) := by decide +kernel
theorem dX7_pays_14 : decode cX7_pays 14 = .ok (.getfield 7, 3) := by decide +kernel
theorem dX7_pays_17 : decode cX7_pays 17 = .ok (.bipush 7, 2) := by decide +kernel
theorem dX7_pays_19 : decode cX7_pays 19 = .ok (.dup2, 1) := by decide +kernel
theorem dX7_pays_20 : decode cX7_pays 20 = .ok (.iaload, 1) := by decide +kernel
theorem dX7_pays_21 : decode cX7_pays 21 = .ok (.iload_n 2, 1) := by decide +kernel
theorem dX7_pays_22 : decode cX7_pays 22 = .ok (.iadd, 1) := by decide +kernel
theorem dX7_pays_23 : decode cX7_pays 23 = .ok (.iastore, 1) := by decide +kernel
theorem dX7_pays_24 : decode cX7_pays 24 = .ok (.return_, 1) := by decide +kernel
theorem dX7_daysLeft_0 : decode cX7_daysLeft 0 = .ok (.aload_n 0, 1) := by decide +kernel
theorem dX7_daysLeft_1 : decode cX7_daysLeft 1 = .ok (.iload_n 1, 1) := by decide +kernel
theorem dX7_daysLeft_2 : decode cX7_daysLeft 2 = .ok (.iconst 0, 1) := by decide +kernel
theorem dX7_daysLeft_3 : decode cX7_daysLeft 3 = .ok (.invokevirtual 46, 3) := by decide +kernel
theorem dX7_daysLeft_6 : decode cX7_daysLeft 6 = .ok (.aload_n 0, 1) := by decide +kernel
theorem dX7_daysLeft_7 : decode cX7_daysLeft 7 = .ok (.getfield 7, 3) := by decide +kernel
theorem dX7_daysLeft_10 : decode cX7_daysLeft 10 = .ok (.iconst 0, 1) := by decide +kernel
theorem dX7_daysLeft_11 : decode cX7_daysLeft 11 = .ok (.iaload, 1) := by decide +kernel
theorem dX7_daysLeft_12 : decode cX7_daysLeft 12 = .ok (.isub, 1) := by decide +kernel
theorem dX7_daysLeft_13 : decode cX7_daysLeft 13 = .ok (.ireturn, 1) := by decide +kernel
theorem dX7_isOpen_0 : decode cX7_isOpen 0 = .ok (.aload_n 0, 1) := by decide +kernel
theorem dX7_isOpen_1 : decode cX7_isOpen 1 = .ok (.iload_n 1, 1) := by decide +kernel
theorem dX7_isOpen_2 : decode cX7_isOpen 2 = .ok (.invokevirtual 49, 3) := by decide +kernel
theorem dX7_isOpen_5 : decode cX7_isOpen 5 = .ok (.ifCond .le 7, 3) := by decide +kernel
theorem dX7_isOpen_8 : decode cX7_isOpen 8 = .ok (.iconst 1, 1) := by decide +kernel
theorem dX7_isOpen_9 : decode cX7_isOpen 9 = .ok (.goto 4, 3) := by decide +kernel
theorem dX7_isOpen_12 : decode cX7_isOpen 12 = .ok (.iconst 0, 1) := by decide +kernel
theorem dX7_isOpen_13 : decode cX7_isOpen 13 = .ok (.ireturn, 1) := by decide +kernel
theorem dX7_rightsOf_0 : decode cX7_rightsOf 0 = .ok (.iconst 0, 1) := by decide +kernel
theorem dX7_rightsOf_1 : decode cX7_rightsOf 1 = .ok (.istore 4, 2) := by decide +kernel
theorem dX7_rightsOf_3 : decode cX7_rightsOf 3 = .ok (.iconst 0, 1) := by decide +kernel
theorem dX7_rightsOf_4 : decode cX7_rightsOf 4 = .ok (.istore 5, 2) := by decide +kernel
theorem dX7_rightsOf_6 : decode cX7_rightsOf 6 = .ok (.iload 5, 2) := by decide +kernel
theorem dX7_rightsOf_8 : decode cX7_rightsOf 8 = .ok (.aload_n 0, 1) := by decide +kernel
theorem dX7_rightsOf_9 : decode cX7_rightsOf 9 = .ok (.getfield 7, 3) := by decide +kernel
theorem dX7_rightsOf_12 : decode cX7_rightsOf 12 = .ok (.iconst 2, 1) := by decide +kernel
theorem dX7_rightsOf_13 : decode cX7_rightsOf 13 = .ok (.iaload, 1) := by decide +kernel
theorem dX7_rightsOf_14 : decode cX7_rightsOf 14 = .ok (.if_icmp .ge 45, 3) := by decide +kernel
theorem dX7_rightsOf_17 : decode cX7_rightsOf 17 = .ok (.iload 4, 2) := by decide +kernel
theorem dX7_rightsOf_19 : decode cX7_rightsOf 19 = .ok (.aload_n 0, 1) := by decide +kernel
theorem dX7_rightsOf_20 : decode cX7_rightsOf 20 = .ok (.iload 5, 2) := by decide +kernel
theorem dX7_rightsOf_22 : decode cX7_rightsOf 22 = .ok (.iconst 0, 1) := by decide +kernel
theorem dX7_rightsOf_23 : decode cX7_rightsOf 23 = .ok (.invokevirtual 53, 3) := by decide +kernel
theorem dX7_rightsOf_26 : decode cX7_rightsOf 26 = .ok (.iload_n 1, 1) := by decide +kernel
theorem dX7_rightsOf_27 : decode cX7_rightsOf 27 = .ok (.if_icmp .ne 22, 3) := by decide +kernel
theorem dX7_rightsOf_30 : decode cX7_rightsOf 30 = .ok (.aload_n 0, 1) := by decide +kernel
theorem dX7_rightsOf_31 : decode cX7_rightsOf 31 = .ok (.iload 5, 2) := by decide +kernel
theorem dX7_rightsOf_33 : decode cX7_rightsOf 33 = .ok (.iconst 3, 1) := by decide +kernel
theorem dX7_rightsOf_34 : decode cX7_rightsOf 34 = .ok (.invokevirtual 53, 3) := by decide +kernel
theorem dX7_rightsOf_37 : decode cX7_rightsOf 37 = .ok (.iload_n 2, 1) := by decide +kernel
theorem dX7_rightsOf_38 : decode cX7_rightsOf 38 = .ok (.iload_n 3, 1) := by decide +kernel
theorem dX7_rightsOf_39 : decode cX7_rightsOf 39 = .ok (.invokestatic 35, 3) := by decide +kernel
theorem dX7_rightsOf_42 : decode cX7_rightsOf 42 = .ok (.ifCond .eq 7, 3) := by decide +kernel
theorem dX7_rightsOf_45 : decode cX7_rightsOf 45 = .ok (.iconst 1, 1) := by decide +kernel
theorem dX7_rightsOf_46 : decode cX7_rightsOf 46 = .ok (.goto 4, 3) := by decide +kernel
theorem dX7_rightsOf_49 : decode cX7_rightsOf 49 = .ok (.iconst 0, 1) := by decide +kernel
theorem dX7_rightsOf_50 : decode cX7_rightsOf 50 = .ok (.iadd, 1) := by decide +kernel
theorem dX7_rightsOf_51 : decode cX7_rightsOf 51 = .ok (.istore 4, 2) := by decide +kernel
theorem dX7_rightsOf_53 : decode cX7_rightsOf 53 = .ok (.iinc 5 1, 3) := by decide +kernel
theorem dX7_rightsOf_56 : decode cX7_rightsOf 56 = .ok (.goto (-50), 3) := by decide +kernel
theorem dX7_rightsOf_59 : decode cX7_rightsOf 59 = .ok (.iload 4, 2) := by decide +kernel
theorem dX7_rightsOf_61 : decode cX7_rightsOf 61 = .ok (.ireturn, 1) := by decide +kernel
theorem dX7_out_0 : decode cX7_out 0 = .ok (.aload_n 0, 1) := by decide +kernel
theorem dX7_out_1 : decode cX7_out 1 = .ok (.iload_n 1, 1) := by decide +kernel
theorem dX7_out_2 : decode cX7_out 2 = .ok (.iconst 0, 1) := by decide +kernel
theorem dX7_out_3 : decode cX7_out 3 = .ok (.iconst 2, 1) := by decide +kernel
theorem dX7_out_4 : decode cX7_out 4 = .ok (.invokevirtual 56, 3) := by decide +kernel
theorem dX7_out_7 : decode cX7_out 7 = .ok (.ireturn, 1) := by decide +kernel
theorem dX7_price_0 : decode cX7_price 0 = .ok (.aload_n 0, 1) := by decide +kernel
theorem dX7_price_1 : decode cX7_price 1 = .ok (.iload_n 1, 1) := by decide +kernel
theorem dX7_price_2 : decode cX7_price 2 = .ok (.iconst 3, 1) := by decide +kernel
theorem dX7_price_3 : decode cX7_price 3 = .ok (.invokevirtual 46, 3) := by decide +kernel
theorem dX7_price_6 : decode cX7_price 6 = .ok (.istore_n 3, 1) := by decide +kernel
theorem dX7_price_7 : decode cX7_price 7 = .ok (.aload_n 0, 1) := by decide +kernel
theorem dX7_price_8 : decode cX7_price 8 = .ok (.iload_n 1, 1) := by decide +kernel
theorem dX7_price_9 : decode cX7_price 9 = .ok (.iconst 4, 1) := by decide +kernel
theorem dX7_price_10 : decode cX7_price 10 = .ok (.invokevirtual 46, 3) := by decide +kernel
theorem dX7_price_13 : decode cX7_price 13 = .ok (.iconst 1, 1) := by decide +kernel
theorem dX7_price_14 : decode cX7_price 14 = .ok (.if_icmp .ne 20, 3) := by decide +kernel
theorem dX7_price_17 : decode cX7_price 17 = .ok (.iload_n 3, 1) := by decide +kernel
theorem dX7_price_18 : decode cX7_price 18 = .ok (.iload_n 3, 1) := by decide +kernel
theorem dX7_price_19 : decode cX7_price 19 = .ok (.aload_n 0, 1) := by decide +kernel
theorem dX7_price_20 : decode cX7_price 20 = .ok (.iload_n 1, 1) := by decide +kernel
theorem dX7_price_21 : decode cX7_price 21 = .ok (.invokevirtual 60, 3) := by decide +kernel
theorem dX7_price_24 : decode cX7_price 24 = .ok (.imul, 1) := by decide +kernel
theorem dX7_price_25 : decode cX7_price 25 = .ok (.aload_n 0, 1) := by decide +kernel
theorem dX7_price_26 : decode cX7_price 26 = .ok (.iload_n 1, 1) := by decide +kernel
theorem dX7_price_27 : decode cX7_price 27 = .ok (.iconst 1, 1) := by decide +kernel
theorem dX7_price_28 : decode cX7_price 28 = .ok (.invokevirtual 46, 3) := by decide +kernel
theorem dX7_price_31 : decode cX7_price 31 = .ok (.idiv, 1) := by decide +kernel
theorem dX7_price_32 : decode cX7_price 32 = .ok (.iadd, 1) := by decide +kernel
theorem dX7_price_33 : decode cX7_price 33 = .ok (.ireturn, 1) := by decide +kernel
theorem dX7_price_34 : decode cX7_price 34 = .ok (.iload_n 2, 1) := by decide +kernel
theorem dX7_price_35 : decode cX7_price 35 = .ok (.bipush 30, 2) := by decide +kernel
theorem dX7_price_37 : decode cX7_price 37 = .ok (.if_icmp .le 7, 3) := by decide +kernel
theorem dX7_price_40 : decode cX7_price 40 = .ok (.iconst 0, 1) := by decide +kernel
theorem dX7_price_41 : decode cX7_price 41 = .ok (.goto 7, 3) := by decide +kernel
theorem dX7_price_44 : decode cX7_price 44 = .ok (.bipush 30, 2) := by decide +kernel
theorem dX7_price_46 : decode cX7_price 46 = .ok (.iload_n 2, 1) := by decide +kernel
theorem dX7_price_47 : decode cX7_price 47 = .ok (.isub, 1) := by decide +kernel
theorem dX7_price_48 : decode cX7_price 48 = .ok (.istore 4, 2) := by decide +kernel
theorem dX7_price_50 : decode cX7_price 50 = .ok (.aload_n 0, 1) := by decide +kernel
theorem dX7_price_51 : decode cX7_price 51 = .ok (.iload_n 1, 1) := by decide +kernel
theorem dX7_price_52 : decode cX7_price 52 = .ok (.iconst 4, 1) := by decide +kernel
theorem dX7_price_53 : decode cX7_price 53 = .ok (.invokevirtual 46, 3) := by decide +kernel
theorem dX7_price_56 : decode cX7_price 56 = .ok (.ifCond .ne 7, 3) := by decide +kernel
theorem dX7_price_59 : decode cX7_price 59 = .ok (.iload_n 3, 1) := by decide +kernel
theorem dX7_price_60 : decode cX7_price 60 = .ok (.goto 15, 3) := by decide +kernel
theorem dX7_price_63 : decode cX7_price 63 = .ok (.iload_n 3, 1) := by decide +kernel
theorem dX7_price_64 : decode cX7_price 64 = .ok (.bipush 100, 2) := by decide +kernel
theorem dX7_price_66 : decode cX7_price 66 = .ok (.iconst 2, 1) := by decide +kernel
theorem dX7_price_67 : decode cX7_price 67 = .ok (.iload 4, 2) := by decide +kernel
theorem dX7_price_69 : decode cX7_price 69 = .ok (.imul, 1) := by decide +kernel
theorem dX7_price_70 : decode cX7_price 70 = .ok (.iadd, 1) := by decide +kernel
theorem dX7_price_71 : decode cX7_price 71 = .ok (.imul, 1) := by decide +kernel
theorem dX7_price_72 : decode cX7_price 72 = .ok (.bipush 100, 2) := by decide +kernel
theorem dX7_price_74 : decode cX7_price 74 = .ok (.idiv, 1) := by decide +kernel
theorem dX7_price_75 : decode cX7_price 75 = .ok (.ireturn, 1) := by decide +kernel
theorem dX7_canSell_0 : decode cX7_canSell 0 = .ok (.aload_n 0, 1) := by decide +kernel
theorem dX7_canSell_1 : decode cX7_canSell 1 = .ok (.iload_n 1, 1) := by decide +kernel
theorem dX7_canSell_2 : decode cX7_canSell 2 = .ok (.iconst 1, 1) := by decide +kernel
theorem dX7_canSell_3 : decode cX7_canSell 3 = .ok (.invokevirtual 46, 3) := by decide +kernel
theorem dX7_canSell_6 : decode cX7_canSell 6 = .ok (.aload_n 0, 1) := by decide +kernel
theorem dX7_canSell_7 : decode cX7_canSell 7 = .ok (.iload_n 1, 1) := by decide +kernel
theorem dX7_canSell_8 : decode cX7_canSell 8 = .ok (.invokevirtual 49, 3) := by decide +kernel
theorem dX7_canSell_11 : decode cX7_canSell 11 = .ok (.aload_n 0, 1) := by decide +kernel
theorem dX7_canSell_12 : decode cX7_canSell 12 = .ok (.getfield 7, 3) := by decide +kernel
theorem dX7_canSell_15 : decode cX7_canSell 15 = .ok (.iconst 3, 1) := by decide +kernel
theorem dX7_canSell_16 : decode cX7_canSell 16 = .ok (.iaload, 1) := by decide +kernel
theorem dX7_canSell_17 : decode cX7_canSell 17 = .ok (.if_icmp .le 12, 3) := by decide +kernel
theorem dX7_canSell_20 : decode cX7_canSell 20 = .ok (.aload_n 0, 1) := by decide +kernel
theorem dX7_canSell_21 : decode cX7_canSell 21 = .ok (.iload_n 1, 1) := by decide +kernel
theorem dX7_canSell_22 : decode cX7_canSell 22 = .ok (.iconst 2, 1) := by decide +kernel
theorem dX7_canSell_23 : decode cX7_canSell 23 = .ok (.invokevirtual 46, 3) := by decide +kernel
theorem dX7_canSell_26 : decode cX7_canSell 26 = .ok (.goto 4, 3) := by decide +kernel
theorem dX7_canSell_29 : decode cX7_canSell 29 = .ok (.iconst 0, 1) := by decide +kernel
theorem dX7_canSell_30 : decode cX7_canSell 30 = .ok (.iadd, 1) := by decide +kernel
theorem dX7_canSell_31 : decode cX7_canSell 31 = .ok (.aload_n 0, 1) := by decide +kernel
theorem dX7_canSell_32 : decode cX7_canSell 32 = .ok (.iload_n 1, 1) := by decide +kernel
theorem dX7_canSell_33 : decode cX7_canSell 33 = .ok (.invokevirtual 60, 3) := by decide +kernel
theorem dX7_canSell_36 : decode cX7_canSell 36 = .ok (.isub, 1) := by decide +kernel
theorem dX7_canSell_37 : decode cX7_canSell 37 = .ok (.istore_n 2, 1) := by decide +kernel
theorem dX7_canSell_38 : decode cX7_canSell 38 = .ok (.bipush 60, 2) := by decide +kernel
theorem dX7_canSell_40 : decode cX7_canSell 40 = .ok (.aload_n 0, 1) := by decide +kernel
theorem dX7_canSell_41 : decode cX7_canSell 41 = .ok (.getfield 7, 3) := by decide +kernel
theorem dX7_canSell_44 : decode cX7_canSell 44 = .ok (.iconst 2, 1) := by decide +kernel
theorem dX7_canSell_45 : decode cX7_canSell 45 = .ok (.iaload, 1) := by decide +kernel
theorem dX7_canSell_46 : decode cX7_canSell 46 = .ok (.isub, 1) := by decide +kernel
theorem dX7_canSell_47 : decode cX7_canSell 47 = .ok (.istore_n 3, 1) := by decide +kernel
theorem dX7_canSell_48 : decode cX7_canSell 48 = .ok (.iload_n 2, 1) := by decide +kernel
theorem dX7_canSell_49 : decode cX7_canSell 49 = .ok (.iload_n 3, 1) := by decide +kernel
theorem dX7_canSell_50 : decode cX7_canSell 50 = .ok (.if_icmp .ge 7, 3) := by decide +kernel
theorem dX7_canSell_53 : decode cX7_canSell 53 = .ok (.iload_n 2, 1) := by decide +kernel
theorem dX7_canSell_54 : decode cX7_canSell 54 = .ok (.goto 4, 3) := by decide +kernel
theorem dX7_canSell_57 : decode cX7_canSell 57 = .ok (.iload_n 3, 1) := by decide +kernel
theorem dX7_canSell_58 : decode cX7_canSell 58 = .ok (.istore_n 2, 1) := by decide +kernel
theorem dX7_canSell_59 : decode cX7_canSell 59 = .ok (.iload_n 2, 1) := by decide +kernel
theorem dX7_canSell_60 : decode cX7_canSell 60 = .ok (.ifCond .le 15, 3) := by decide +kernel
theorem dX7_canSell_63 : decode cX7_canSell 63 = .ok (.aload_n 0, 1) := by decide +kernel
theorem dX7_canSell_64 : decode cX7_canSell 64 = .ok (.iload_n 1, 1) := by decide +kernel
theorem dX7_canSell_65 : decode cX7_canSell 65 = .ok (.invokevirtual 63, 3) := by decide +kernel
theorem dX7_canSell_68 : decode cX7_canSell 68 = .ok (.ifCond .eq 7, 3) := by decide +kernel
theorem dX7_canSell_71 : decode cX7_canSell 71 = .ok (.iload_n 2, 1) := by decide +kernel
theorem dX7_canSell_72 : decode cX7_canSell 72 = .ok (.goto 4, 3) := by decide +kernel
theorem dX7_canSell_75 : decode cX7_canSell 75 = .ok (.iconst 0, 1) := by decide +kernel
theorem dX7_canSell_76 : decode cX7_canSell 76 = .ok (.ireturn, 1) := by decide +kernel
theorem dX7_stageOf_0 : decode cX7_stageOf 0 = .ok (.iconst 0, 1) := by decide +kernel
theorem dX7_stageOf_1 : decode cX7_stageOf 1 = .ok (.istore_n 2, 1) := by decide +kernel
theorem dX7_stageOf_2 : decode cX7_stageOf 2 = .ok (.aload_n 0, 1) := by decide +kernel
theorem dX7_stageOf_3 : decode cX7_stageOf 3 = .ok (.getfield 7, 3) := by decide +kernel
theorem dX7_stageOf_6 : decode cX7_stageOf 6 = .ok (.bipush 9, 2) := by decide +kernel
theorem dX7_stageOf_8 : decode cX7_stageOf 8 = .ok (.iconst 2, 1) := by decide +kernel
theorem dX7_stageOf_9 : decode cX7_stageOf 9 = .ok (.iload_n 2, 1) := by decide +kernel
theorem dX7_stageOf_10 : decode cX7_stageOf 10 = .ok (.imul, 1) := by decide +kernel
theorem dX7_stageOf_11 : decode cX7_stageOf 11 = .ok (.iadd, 1) := by decide +kernel
theorem dX7_stageOf_12 : decode cX7_stageOf 12 = .ok (.iaload, 1) := by decide +kernel
theorem dX7_stageOf_13 : decode cX7_stageOf 13 = .ok (.aload_n 0, 1) := by decide +kernel
theorem dX7_stageOf_14 : decode cX7_stageOf 14 = .ok (.iload_n 1, 1) := by decide +kernel
theorem dX7_stageOf_15 : decode cX7_stageOf 15 = .ok (.invokevirtual 49, 3) := by decide +kernel
theorem dX7_stageOf_18 : decode cX7_stageOf 18 = .ok (.if_icmp .le 9, 3) := by decide +kernel
theorem dX7_stageOf_21 : decode cX7_stageOf 21 = .ok (.iinc 2 1, 3) := by decide +kernel
theorem dX7_stageOf_24 : decode cX7_stageOf 24 = .ok (.goto (-22), 3) := by decide +kernel
theorem dX7_stageOf_27 : decode cX7_stageOf 27 = .ok (.iload_n 2, 1) := by decide +kernel
theorem dX7_stageOf_28 : decode cX7_stageOf 28 = .ok (.ireturn, 1) := by decide +kernel
theorem dX7_sells_0 : decode cX7_sells 0 = .ok (.aload_n 0, 1) := by decide +kernel
theorem dX7_sells_1 : decode cX7_sells 1 = .ok (.getfield 7, 3) := by decide +kernel
theorem dX7_sells_4 : decode cX7_sells 4 = .ok (.iconst 2, 1) := by decide +kernel
theorem dX7_sells_5 : decode cX7_sells 5 = .ok (.iaload, 1) := by decide +kernel
theorem dX7_sells_6 : decode cX7_sells 6 = .ok (.istore_n 3, 1) := by decide +kernel
theorem dX7_sells_7 : decode cX7_sells 7 = .ok (.aload_n 0, 1) := by decide +kernel
theorem dX7_sells_8 : decode cX7_sells 8 = .ok (.iload_n 2, 1) := by decide +kernel
theorem dX7_sells_9 : decode cX7_sells 9 = .ok (.aload_n 0, 1) := by decide +kernel
theorem dX7_sells_10 : decode cX7_sells 10 = .ok (.iload_n 2, 1) := by decide +kernel
theorem dX7_sells_11 : decode cX7_sells 11 = .ok (.invokevirtual 49, 3) := by decide +kernel
theorem dX7_sells_14 : decode cX7_sells 14 = .ok (.invokevirtual 67, 3) := by decide +kernel
theorem dX7_sells_17 : decode cX7_sells 17 = .ok (.istore 4, 2) := by decide +kernel
theorem dX7_sells_19 : decode cX7_sells 19 = .ok (.aload_n 0, 1) := by decide +kernel
theorem dX7_sells_20 : decode cX7_sells 20 = .ok (.getfield 7, 3) := by decide +kernel
theorem dX7_sells_23 : decode cX7_sells 23 = .ok (.iload_n 3, 1) := by decide +kernel
theorem dX7_sells_24 : decode cX7_sells 24 = .ok (.iconst 0, 1) := by decide +kernel
theorem dX7_sells_25 : decode cX7_sells 25 = .ok (.invokestatic 43, 3) := by decide +kernel
theorem dX7_sells_28 : decode cX7_sells 28 = .ok (.iload_n 2, 1) := by decide +kernel
theorem dX7_sells_29 : decode cX7_sells 29 = .ok (.iastore, 1) := by decide +kernel
theorem dX7_sells_30 : decode cX7_sells 30 = .ok (.aload_n 0, 1) := by decide +kernel
theorem dX7_sells_31 : decode cX7_sells 31 = .ok (.getfield 7, 3) := by decide +kernel
theorem dX7_sells_34 : decode cX7_sells 34 = .ok (.iload_n 3, 1) := by decide +kernel
theorem dX7_sells_35 : decode cX7_sells 35 = .ok (.iconst 1, 1) := by decide +kernel
theorem dX7_sells_36 : decode cX7_sells 36 = .ok (.invokestatic 43, 3) := by decide +kernel
theorem dX7_sells_39 : decode cX7_sells 39 = .ok (.iload_n 1, 1) := by decide +kernel
theorem dX7_sells_40 : decode cX7_sells 40 = .ok (.iastore, 1) := by decide +kernel
theorem dX7_sells_41 : decode cX7_sells 41 = .ok (.aload_n 0, 1) := by decide +kernel
theorem dX7_sells_42 : decode cX7_sells 42 = .ok (.getfield 7, 3) := by decide +kernel
theorem dX7_sells_45 : decode cX7_sells 45 = .ok (.iload_n 3, 1) := by decide +kernel
theorem dX7_sells_46 : decode cX7_sells 46 = .ok (.iconst 2, 1) := by decide +kernel
theorem dX7_sells_47 : decode cX7_sells 47 = .ok (.invokestatic 43, 3) := by decide +kernel
theorem dX7_sells_50 : decode cX7_sells 50 = .ok (.iload 4, 2) := by decide +kernel
theorem dX7_sells_52 : decode cX7_sells 52 = .ok (.iastore, 1) := by decide +kernel
theorem dX7_sells_53 : decode cX7_sells 53 = .ok (.aload_n 0, 1) := by decide +kernel
theorem dX7_sells_54 : decode cX7_sells 54 = .ok (.getfield 7, 3) := by decide +kernel
theorem dX7_sells_57 : decode cX7_sells 57 = .ok (.iload_n 3, 1) := by decide +kernel
theorem dX7_sells_58 : decode cX7_sells 58 = .ok (.iconst 3, 1) := by decide +kernel
theorem dX7_sells_59 : decode cX7_sells 59 = .ok (.invokestatic 43, 3) := by decide +kernel
theorem dX7_sells_62 : decode cX7_sells 62 = .ok (.iconst 0, 1) := by decide +kernel
theorem dX7_sells_63 : decode cX7_sells 63 = .ok (.iastore, 1) := by decide +kernel
theorem dX7_sells_64 : decode cX7_sells 64 = .ok (.aload_n 0, 1) := by decide +kernel
theorem dX7_sells_65 : decode cX7_sells 65 = .ok (.getfield 7, 3) := by decide +kernel
theorem dX7_sells_68 : decode cX7_sells 68 = .ok (.iload_n 3, 1) := by decide +kernel
theorem dX7_sells_69 : decode cX7_sells 69 = .ok (.iconst 4, 1) := by decide +kernel
theorem dX7_sells_70 : decode cX7_sells 70 = .ok (.invokestatic 43, 3) := by decide +kernel
theorem dX7_sells_73 : decode cX7_sells 73 = .ok (.bipush (-5), 2) := by decide +kernel
theorem dX7_sells_75 : decode cX7_sells 75 = .ok (.iastore, 1) := by decide +kernel
theorem dX7_sells_76 : decode cX7_sells 76 = .ok (.aload_n 0, 1) := by decide +kernel
theorem dX7_sells_77 : decode cX7_sells 77 = .ok (.getfield 7, 3) := by decide +kernel
theorem dX7_sells_80 : decode cX7_sells 80 = .ok (.iload_n 3, 1) := by decide +kernel
theorem dX7_sells_81 : decode cX7_sells 81 = .ok (.iconst 5, 1) := by decide +kernel
theorem dX7_sells_82 : decode cX7_sells 82 = .ok (.invokestatic 43, 3) := by decide +kernel
theorem dX7_sells_85 : decode cX7_sells 85 = .ok (.aload_n 0, 1) := by decide +kernel
theorem dX7_sells_86 : decode cX7_sells 86 = .ok (.getfield 7, 3) := by decide +kernel
theorem dX7_sells_89 : decode cX7_sells 89 = .ok (.iconst 0, 1) := by decide +kernel
theorem dX7_sells_90 : decode cX7_sells 90 = .ok (.iaload, 1) := by decide +kernel
theorem dX7_sells_91 : decode cX7_sells 91 = .ok (.iastore, 1) := by decide +kernel
theorem dX7_sells_92 : decode cX7_sells 92 = .ok (.aload_n 0, 1) := by decide +kernel
theorem dX7_sells_93 : decode cX7_sells 93 = .ok (.getfield 7, 3) := by decide +kernel
theorem dX7_sells_96 : decode cX7_sells 96 = .ok (.iload_n 3, 1) := by decide +kernel
theorem dX7_sells_97 : decode cX7_sells 97 = .ok (.bipush 6, 2) := by decide +kernel
theorem dX7_sells_99 : decode cX7_sells 99 = .ok (.invokestatic 43, 3) := by decide +kernel
theorem dX7_sells_102 : decode cX7_sells 102 = .ok (.iconst 0, 1) := by decide +kernel
theorem dX7_sells_103 : decode cX7_sells 103 = .ok (.iastore, 1) := by decide +kernel
theorem dX7_sells_104 : decode cX7_sells 104 = .ok (.aload_n 0, 1) := by decide +kernel
theorem dX7_sells_105 : decode cX7_sells 105 = .ok (.getfield 7, 3) := by decide +kernel
theorem dX7_sells_108 : decode cX7_sells 108 = .ok (.iconst 2, 1) := by decide +kernel
theorem dX7_sells_109 : decode cX7_sells 109 = .ok (.dup2, 1) := by decide +kernel
theorem dX7_sells_110 : decode cX7_sells 110 = .ok (.iaload, 1) := by decide +kernel
theorem dX7_sells_111 : decode cX7_sells 111 = .ok (.iconst 1, 1) := by decide +kernel
theorem dX7_sells_112 : decode cX7_sells 112 = .ok (.iadd, 1) := by decide +kernel
theorem dX7_sells_113 : decode cX7_sells 113 = .ok (.iastore, 1) := by decide +kernel
theorem dX7_sells_114 : decode cX7_sells 114 = .ok (.aload_n 0, 1) := by decide +kernel
theorem dX7_sells_115 : decode cX7_sells 115 = .ok (.iload_n 1, 1) := by decide +kernel
theorem dX7_sells_116 : decode cX7_sells 116 = .ok (.iload 4, 2) := by decide +kernel
theorem dX7_sells_118 : decode cX7_sells 118 = .ok (.invokevirtual 70, 3) := by decide +kernel
theorem dX7_sells_121 : decode cX7_sells 121 = .ok (.aload_n 0, 1) := by decide +kernel
theorem dX7_sells_122 : decode cX7_sells 122 = .ok (.iconst 0, 1) := by decide +kernel
theorem dX7_sells_123 : decode cX7_sells 123 = .ok (.iload_n 3, 1) := by decide +kernel
theorem dX7_sells_124 : decode cX7_sells 124 = .ok (.iload 4, 2) := by decide +kernel
theorem dX7_sells_126 : decode cX7_sells 126 = .ok (.invokevirtual 74, 3) := by decide +kernel
theorem dX7_sells_129 : decode cX7_sells 129 = .ok (.iload_n 3, 1) := by decide +kernel
theorem dX7_sells_130 : decode cX7_sells 130 = .ok (.ireturn, 1) := by decide +kernel
theorem dX7_dropFirst_0 : decode cX7_dropFirst 0 = .ok (.iload_n 2, 1) := by decide +kernel
theorem dX7_dropFirst_1 : decode cX7_dropFirst 1 = .ok (.istore_n 3, 1) := by decide +kernel
theorem dX7_dropFirst_2 : decode cX7_dropFirst 2 = .ok (.iload_n 3, 1) := by decide +kernel
theorem dX7_dropFirst_3 : decode cX7_dropFirst 3 = .ok (.aload_n 0, 1) := by decide +kernel
theorem dX7_dropFirst_4 : decode cX7_dropFirst 4 = .ok (.iload_n 1, 1) := by decide +kernel
theorem dX7_dropFirst_5 : decode cX7_dropFirst 5 = .ok (.iconst 5, 1) := by decide +kernel
theorem dX7_dropFirst_6 : decode cX7_dropFirst 6 = .ok (.invokevirtual 46, 3) := by decide +kernel
theorem dX7_dropFirst_9 : decode cX7_dropFirst 9 = .ok (.iconst 1, 1) := by decide +kernel
theorem dX7_dropFirst_10 : decode cX7_dropFirst 10 = .ok (.isub, 1) := by decide +kernel
theorem dX7_dropFirst_11 : decode cX7_dropFirst 11 = .ok (.if_icmp .ge 33, 3) := by decide +kernel
theorem dX7_dropFirst_14 : decode cX7_dropFirst 14 = .ok (.aload_n 0, 1) := by decide +kernel
theorem dX7_dropFirst_15 : decode cX7_dropFirst 15 = .ok (.getfield 7, 3) := by decide +kernel
theorem dX7_dropFirst_18 : decode cX7_dropFirst 18 = .ok (.iload_n 1, 1) := by decide +kernel
theorem dX7_dropFirst_19 : decode cX7_dropFirst 19 = .ok (.bipush 6, 2) := by decide +kernel
theorem dX7_dropFirst_21 : decode cX7_dropFirst 21 = .ok (.iload_n 3, 1) := by decide +kernel
theorem dX7_dropFirst_22 : decode cX7_dropFirst 22 = .ok (.iadd, 1) := by decide +kernel
theorem dX7_dropFirst_23 : decode cX7_dropFirst 23 = .ok (.invokestatic 39, 3) := by decide +kernel
theorem dX7_dropFirst_26 : decode cX7_dropFirst 26 = .ok (.aload_n 0, 1) := by decide +kernel
theorem dX7_dropFirst_27 : decode cX7_dropFirst 27 = .ok (.iload_n 1, 1) := by decide +kernel
theorem dX7_dropFirst_28 : decode cX7_dropFirst 28 = .ok (.bipush 6, 2) := by decide +kernel
theorem dX7_dropFirst_30 : decode cX7_dropFirst 30 = .ok (.iload_n 3, 1) := by decide +kernel
theorem dX7_dropFirst_31 : decode cX7_dropFirst 31 = .ok (.iadd, 1) := by decide +kernel
theorem dX7_dropFirst_32 : decode cX7_dropFirst 32 = .ok (.iconst 1, 1) := by decide +kernel
theorem dX7_dropFirst_33 : decode cX7_dropFirst 33 = .ok (.iadd, 1) := by decide +kernel
theorem dX7_dropFirst_34 : decode cX7_dropFirst 34 = .ok (.invokevirtual 46, 3) := by decide +kernel
theorem dX7_dropFirst_37 : decode cX7_dropFirst 37 = .ok (.iastore, 1) := by decide +kernel
theorem dX7_dropFirst_38 : decode cX7_dropFirst 38 = .ok (.iinc 3 1, 3) := by decide +kernel
theorem dX7_dropFirst_41 : decode cX7_dropFirst 41 = .ok (.goto (-39), 3) := by decide +kernel
theorem dX7_dropFirst_44 : decode cX7_dropFirst 44 = .ok (.aload_n 0, 1) := by decide +kernel
theorem dX7_dropFirst_45 : decode cX7_dropFirst 45 = .ok (.getfield 7, 3) := by decide +kernel
theorem dX7_dropFirst_48 : decode cX7_dropFirst 48 = .ok (.iload_n 1, 1) := by decide +kernel
theorem dX7_dropFirst_49 : decode cX7_dropFirst 49 = .ok (.iconst 5, 1) := by decide +kernel
theorem dX7_dropFirst_50 : decode cX7_dropFirst 50 = .ok (.invokestatic 39, 3) := by decide +kernel
theorem dX7_dropFirst_53 : decode cX7_dropFirst 53 = .ok (.dup2, 1) := by decide +kernel
theorem dX7_dropFirst_54 : decode cX7_dropFirst 54 = .ok (.iaload, 1) := by decide +kernel
theorem dX7_dropFirst_55 : decode cX7_dropFirst 55 = .ok (.iconst 1, 1) := by decide +kernel
theorem dX7_dropFirst_56 : decode cX7_dropFirst 56 = .ok (.isub, 1) := by decide +kernel
theorem dX7_dropFirst_57 : decode cX7_dropFirst 57 = .ok (.iastore, 1) := by decide +kernel
theorem dX7_dropFirst_58 : decode cX7_dropFirst 58 = .ok (.return_, 1) := by decide +kernel
theorem dX7_listBuys_0 : decode cX7_listBuys 0 = .ok (.aload_n 0, 1) := by decide +kernel
theorem dX7_listBuys_1 : decode cX7_listBuys 1 = .ok (.iload_n 1, 1) := by decide +kernel
theorem dX7_listBuys_2 : decode cX7_listBuys 2 = .ok (.iconst 5, 1) := by decide +kernel
theorem dX7_listBuys_3 : decode cX7_listBuys 3 = .ok (.invokevirtual 46, 3) := by decide +kernel
theorem dX7_listBuys_6 : decode cX7_listBuys 6 = .ok (.ifCond .le 35, 3) := by decide +kernel
theorem dX7_listBuys_9 : decode cX7_listBuys 9 = .ok (.aload_n 0, 1) := by decide +kernel
theorem dX7_listBuys_10 : decode cX7_listBuys 10 = .ok (.iload_n 1, 1) := by decide +kernel
theorem dX7_listBuys_11 : decode cX7_listBuys 11 = .ok (.invokevirtual 78, 3) := by decide +kernel
theorem dX7_listBuys_14 : decode cX7_listBuys 14 = .ok (.ifCond .le 27, 3) := by decide +kernel
theorem dX7_listBuys_17 : decode cX7_listBuys 17 = .ok (.aload_n 0, 1) := by decide +kernel
theorem dX7_listBuys_18 : decode cX7_listBuys 18 = .ok (.iload_n 1, 1) := by decide +kernel
theorem dX7_listBuys_19 : decode cX7_listBuys 19 = .ok (.bipush 6, 2) := by decide +kernel
theorem dX7_listBuys_21 : decode cX7_listBuys 21 = .ok (.invokevirtual 46, 3) := by decide +kernel
theorem dX7_listBuys_24 : decode cX7_listBuys 24 = .ok (.istore_n 2, 1) := by decide +kernel
theorem dX7_listBuys_25 : decode cX7_listBuys 25 = .ok (.aload_n 0, 1) := by decide +kernel
theorem dX7_listBuys_26 : decode cX7_listBuys 26 = .ok (.iload_n 1, 1) := by decide +kernel
theorem dX7_listBuys_27 : decode cX7_listBuys 27 = .ok (.iconst 0, 1) := by decide +kernel
theorem dX7_listBuys_28 : decode cX7_listBuys 28 = .ok (.invokevirtual 81, 3) := by decide +kernel
theorem dX7_listBuys_31 : decode cX7_listBuys 31 = .ok (.aload_n 0, 1) := by decide +kernel
theorem dX7_listBuys_32 : decode cX7_listBuys 32 = .ok (.iload_n 2, 1) := by decide +kernel
theorem dX7_listBuys_33 : decode cX7_listBuys 33 = .ok (.iload_n 1, 1) := by decide +kernel
theorem dX7_listBuys_34 : decode cX7_listBuys 34 = .ok (.invokevirtual 84, 3) := by decide +kernel
theorem dX7_listBuys_37 : decode cX7_listBuys 37 = .ok (.pop, 1) := by decide +kernel
theorem dX7_listBuys_38 : decode cX7_listBuys 38 = .ok (.goto (-38), 3) := by decide +kernel
theorem dX7_listBuys_41 : decode cX7_listBuys 41 = .ok (.return_, 1) := by decide +kernel
theorem dX7_lowest_0 : decode cX7_lowest 0 = .ok (.iconst (-1), 1) := by decide +kernel
theorem dX7_lowest_1 : decode cX7_lowest 1 = .ok (.istore 4, 2) := by decide +kernel
theorem dX7_lowest_3 : decode cX7_lowest 3 = .ok (.iconst 0, 1) := by decide +kernel
theorem dX7_lowest_4 : decode cX7_lowest 4 = .ok (.istore 5, 2) := by decide +kernel
theorem dX7_lowest_6 : decode cX7_lowest 6 = .ok (.iload 5, 2) := by decide +kernel
theorem dX7_lowest_8 : decode cX7_lowest 8 = .ok (.aload_n 0, 1) := by decide +kernel
theorem dX7_lowest_9 : decode cX7_lowest 9 = .ok (.getfield 7, 3) := by decide +kernel
theorem dX7_lowest_12 : decode cX7_lowest 12 = .ok (.iconst 2, 1) := by decide +kernel
theorem dX7_lowest_13 : decode cX7_lowest 13 = .ok (.iaload, 1) := by decide +kernel
theorem dX7_lowest_14 : decode cX7_lowest 14 = .ok (.if_icmp .ge 74, 3) := by decide +kernel
theorem dX7_lowest_17 : decode cX7_lowest 17 = .ok (.aload_n 0, 1) := by decide +kernel
theorem dX7_lowest_18 : decode cX7_lowest 18 = .ok (.iload 5, 2) := by decide +kernel
theorem dX7_lowest_20 : decode cX7_lowest 20 = .ok (.iconst 0, 1) := by decide +kernel
theorem dX7_lowest_21 : decode cX7_lowest 21 = .ok (.invokevirtual 53, 3) := by decide +kernel
theorem dX7_lowest_24 : decode cX7_lowest 24 = .ok (.iload_n 1, 1) := by decide +kernel
theorem dX7_lowest_25 : decode cX7_lowest 25 = .ok (.if_icmp .ne 18, 3) := by decide +kernel
theorem dX7_lowest_28 : decode cX7_lowest 28 = .ok (.aload_n 0, 1) := by decide +kernel
theorem dX7_lowest_29 : decode cX7_lowest 29 = .ok (.iload 5, 2) := by decide +kernel
theorem dX7_lowest_31 : decode cX7_lowest 31 = .ok (.iconst 3, 1) := by decide +kernel
theorem dX7_lowest_32 : decode cX7_lowest 32 = .ok (.invokevirtual 53, 3) := by decide +kernel
theorem dX7_lowest_35 : decode cX7_lowest 35 = .ok (.iload_n 2, 1) := by decide +kernel
theorem dX7_lowest_36 : decode cX7_lowest 36 = .ok (.if_icmp .ne 7, 3) := by decide +kernel
theorem dX7_lowest_39 : decode cX7_lowest 39 = .ok (.iconst 1, 1) := by decide +kernel
theorem dX7_lowest_40 : decode cX7_lowest 40 = .ok (.goto 4, 3) := by decide +kernel
theorem dX7_lowest_43 : decode cX7_lowest 43 = .ok (.iconst 0, 1) := by decide +kernel
theorem dX7_lowest_44 : decode cX7_lowest 44 = .ok (.istore 6, 2) := by decide +kernel
theorem dX7_lowest_46 : decode cX7_lowest 46 = .ok (.iload 6, 2) := by decide +kernel
theorem dX7_lowest_48 : decode cX7_lowest 48 = .ok (.ifCond .eq 30, 3) := by decide +kernel
theorem dX7_lowest_51 : decode cX7_lowest 51 = .ok (.iload 4, 2) := by decide +kernel
theorem dX7_lowest_53 : decode cX7_lowest 53 = .ok (.ifCond .lt 20, 3) := by decide +kernel
theorem dX7_lowest_56 : decode cX7_lowest 56 = .ok (.aload_n 0, 1) := by decide +kernel
theorem dX7_lowest_57 : decode cX7_lowest 57 = .ok (.iload 5, 2) := by decide +kernel
theorem dX7_lowest_59 : decode cX7_lowest 59 = .ok (.iload_n 3, 1) := by decide +kernel
theorem dX7_lowest_60 : decode cX7_lowest 60 = .ok (.invokevirtual 53, 3) := by decide +kernel
theorem dX7_lowest_63 : decode cX7_lowest 63 = .ok (.aload_n 0, 1) := by decide +kernel
theorem dX7_lowest_64 : decode cX7_lowest 64 = .ok (.iload 4, 2) := by decide +kernel
theorem dX7_lowest_66 : decode cX7_lowest 66 = .ok (.iload_n 3, 1) := by decide +kernel
theorem dX7_lowest_67 : decode cX7_lowest 67 = .ok (.invokevirtual 53, 3) := by decide +kernel
theorem dX7_lowest_70 : decode cX7_lowest 70 = .ok (.if_icmp .ge 8, 3) := by decide +kernel
theorem dX7_lowest_73 : decode cX7_lowest 73 = .ok (.iload 5, 2) := by decide +kernel
theorem dX7_lowest_75 : decode cX7_lowest 75 = .ok (.goto 5, 3) := by decide +kernel
theorem dX7_lowest_78 : decode cX7_lowest 78 = .ok (.iload 4, 2) := by decide +kernel
theorem dX7_lowest_80 : decode cX7_lowest 80 = .ok (.istore 4, 2) := by decide +kernel
theorem dX7_lowest_82 : decode cX7_lowest 82 = .ok (.iinc 5 1, 3) := by decide +kernel
theorem dX7_lowest_85 : decode cX7_lowest 85 = .ok (.goto (-79), 3) := by decide +kernel
theorem dX7_lowest_88 : decode cX7_lowest 88 = .ok (.iload 4, 2) := by decide +kernel
theorem dX7_lowest_90 : decode cX7_lowest 90 = .ok (.ireturn, 1) := by decide +kernel
theorem dX7_refund_0 : decode cX7_refund 0 = .ok (.aload_n 0, 1) := by decide +kernel
theorem dX7_refund_1 : decode cX7_refund 1 = .ok (.getfield 7, 3) := by decide +kernel
theorem dX7_refund_4 : decode cX7_refund 4 = .ok (.bipush 9, 2) := by decide +kernel
theorem dX7_refund_6 : decode cX7_refund 6 = .ok (.iconst 2, 1) := by decide +kernel
theorem dX7_refund_7 : decode cX7_refund 7 = .ok (.aload_n 0, 1) := by decide +kernel
theorem dX7_refund_8 : decode cX7_refund 8 = .ok (.aload_n 0, 1) := by decide +kernel
theorem dX7_refund_9 : decode cX7_refund 9 = .ok (.iload_n 1, 1) := by decide +kernel
theorem dX7_refund_10 : decode cX7_refund 10 = .ok (.iconst 0, 1) := by decide +kernel
theorem dX7_refund_11 : decode cX7_refund 11 = .ok (.invokevirtual 53, 3) := by decide +kernel
theorem dX7_refund_14 : decode cX7_refund 14 = .ok (.invokevirtual 87, 3) := by decide +kernel
theorem dX7_refund_17 : decode cX7_refund 17 = .ok (.imul, 1) := by decide +kernel
theorem dX7_refund_18 : decode cX7_refund 18 = .ok (.iadd, 1) := by decide +kernel
theorem dX7_refund_19 : decode cX7_refund 19 = .ok (.iconst 1, 1) := by decide +kernel
theorem dX7_refund_20 : decode cX7_refund 20 = .ok (.iadd, 1) := by decide +kernel
theorem dX7_refund_21 : decode cX7_refund 21 = .ok (.iaload, 1) := by decide +kernel
theorem dX7_refund_22 : decode cX7_refund 22 = .ok (.istore_n 2, 1) := by decide +kernel
theorem dX7_refund_23 : decode cX7_refund 23 = .ok (.aload_n 0, 1) := by decide +kernel
theorem dX7_refund_24 : decode cX7_refund 24 = .ok (.iload_n 1, 1) := by decide +kernel
theorem dX7_refund_25 : decode cX7_refund 25 = .ok (.iconst 2, 1) := by decide +kernel
theorem dX7_refund_26 : decode cX7_refund 26 = .ok (.invokevirtual 53, 3) := by decide +kernel
theorem dX7_refund_29 : decode cX7_refund 29 = .ok (.aload_n 0, 1) := by decide +kernel
theorem dX7_refund_30 : decode cX7_refund 30 = .ok (.iload_n 1, 1) := by decide +kernel
theorem dX7_refund_31 : decode cX7_refund 31 = .ok (.iconst 2, 1) := by decide +kernel
theorem dX7_refund_32 : decode cX7_refund 32 = .ok (.invokevirtual 53, 3) := by decide +kernel
theorem dX7_refund_35 : decode cX7_refund 35 = .ok (.iload_n 2, 1) := by decide +kernel
theorem dX7_refund_36 : decode cX7_refund 36 = .ok (.imul, 1) := by decide +kernel
theorem dX7_refund_37 : decode cX7_refund 37 = .ok (.bipush 100, 2) := by decide +kernel
theorem dX7_refund_39 : decode cX7_refund 39 = .ok (.idiv, 1) := by decide +kernel
theorem dX7_refund_40 : decode cX7_refund 40 = .ok (.isub, 1) := by decide +kernel
theorem dX7_refund_41 : decode cX7_refund 41 = .ok (.ireturn, 1) := by decide +kernel
theorem dX7_canExercise_0 : decode cX7_canExercise 0 = .ok (.aload_n 0, 1) := by decide +kernel
theorem dX7_canExercise_1 : decode cX7_canExercise 1 = .ok (.iload_n 1, 1) := by decide +kernel
theorem dX7_canExercise_2 : decode cX7_canExercise 2 = .ok (.iconst 0, 1) := by decide +kernel
theorem dX7_canExercise_3 : decode cX7_canExercise 3 = .ok (.invokevirtual 53, 3) := by decide +kernel
theorem dX7_canExercise_6 : decode cX7_canExercise 6 = .ok (.istore_n 2, 1) := by decide +kernel
theorem dX7_canExercise_7 : decode cX7_canExercise 7 = .ok (.aload_n 0, 1) := by decide +kernel
theorem dX7_canExercise_8 : decode cX7_canExercise 8 = .ok (.iload_n 1, 1) := by decide +kernel
theorem dX7_canExercise_9 : decode cX7_canExercise 9 = .ok (.iconst 3, 1) := by decide +kernel
theorem dX7_canExercise_10 : decode cX7_canExercise 10 = .ok (.invokevirtual 53, 3) := by decide +kernel
theorem dX7_canExercise_13 : decode cX7_canExercise 13 = .ok (.ifCond .ne 41, 3) := by decide +kernel
theorem dX7_canExercise_16 : decode cX7_canExercise 16 = .ok (.aload_n 0, 1) := by decide +kernel
theorem dX7_canExercise_17 : decode cX7_canExercise 17 = .ok (.iload_n 2, 1) := by decide +kernel
theorem dX7_canExercise_18 : decode cX7_canExercise 18 = .ok (.invokevirtual 49, 3) := by decide +kernel
theorem dX7_canExercise_21 : decode cX7_canExercise 21 = .ok (.iconst 1, 1) := by decide +kernel
theorem dX7_canExercise_22 : decode cX7_canExercise 22 = .ok (.aload_n 0, 1) := by decide +kernel
theorem dX7_canExercise_23 : decode cX7_canExercise 23 = .ok (.getfield 7, 3) := by decide +kernel
theorem dX7_canExercise_26 : decode cX7_canExercise 26 = .ok (.iconst 5, 1) := by decide +kernel
theorem dX7_canExercise_27 : decode cX7_canExercise 27 = .ok (.iaload, 1) := by decide +kernel
theorem dX7_canExercise_28 : decode cX7_canExercise 28 = .ok (.invokestatic 35, 3) := by decide +kernel
theorem dX7_canExercise_31 : decode cX7_canExercise 31 = .ok (.ifCond .eq 23, 3) := by decide +kernel
theorem dX7_canExercise_34 : decode cX7_canExercise 34 = .ok (.aload_n 0, 1) := by decide +kernel
theorem dX7_canExercise_35 : decode cX7_canExercise 35 = .ok (.iload_n 2, 1) := by decide +kernel
theorem dX7_canExercise_36 : decode cX7_canExercise 36 = .ok (.iconst 2, 1) := by decide +kernel
theorem dX7_canExercise_37 : decode cX7_canExercise 37 = .ok (.iconst 2, 1) := by decide +kernel
theorem dX7_canExercise_38 : decode cX7_canExercise 38 = .ok (.invokevirtual 56, 3) := by decide +kernel
theorem dX7_canExercise_41 : decode cX7_canExercise 41 = .ok (.aload_n 0, 1) := by decide +kernel
theorem dX7_canExercise_42 : decode cX7_canExercise 42 = .ok (.iload_n 2, 1) := by decide +kernel
theorem dX7_canExercise_43 : decode cX7_canExercise 43 = .ok (.iconst 1, 1) := by decide +kernel
theorem dX7_canExercise_44 : decode cX7_canExercise 44 = .ok (.invokevirtual 46, 3) := by decide +kernel
theorem dX7_canExercise_47 : decode cX7_canExercise 47 = .ok (.if_icmp .ge 7, 3) := by decide +kernel
theorem dX7_canExercise_50 : decode cX7_canExercise 50 = .ok (.iconst 1, 1) := by decide +kernel
theorem dX7_canExercise_51 : decode cX7_canExercise 51 = .ok (.goto 4, 3) := by decide +kernel
theorem dX7_canExercise_54 : decode cX7_canExercise 54 = .ok (.iconst 0, 1) := by decide +kernel
theorem dX7_canExercise_55 : decode cX7_canExercise 55 = .ok (.ireturn, 1) := by decide +kernel
theorem dX7_isFree_0 : decode cX7_isFree 0 = .ok (.aload_n 0, 1) := by decide +kernel
theorem dX7_isFree_1 : decode cX7_isFree 1 = .ok (.iload_n 1, 1) := by decide +kernel
theorem dX7_isFree_2 : decode cX7_isFree 2 = .ok (.iconst 3, 1) := by decide +kernel
theorem dX7_isFree_3 : decode cX7_isFree 3 = .ok (.invokevirtual 53, 3) := by decide +kernel
theorem dX7_isFree_6 : decode cX7_isFree 6 = .ok (.iconst 2, 1) := by decide +kernel
theorem dX7_isFree_7 : decode cX7_isFree 7 = .ok (.if_icmp .ge 7, 3) := by decide +kernel
theorem dX7_isFree_10 : decode cX7_isFree 10 = .ok (.iconst 1, 1) := by decide +kernel
theorem dX7_isFree_11 : decode cX7_isFree 11 = .ok (.goto 4, 3) := by decide +kernel
theorem dX7_isFree_14 : decode cX7_isFree 14 = .ok (.iconst 0, 1) := by decide +kernel
theorem dX7_isFree_15 : decode cX7_isFree 15 = .ok (.ireturn, 1) := by decide +kernel
theorem dX7_becomes_0 : decode cX7_becomes 0 = .ok (.aload_n 0, 1) := by decide +kernel
theorem dX7_becomes_1 : decode cX7_becomes 1 = .ok (.getfield 7, 3) := by decide +kernel
theorem dX7_becomes_4 : decode cX7_becomes 4 = .ok (.iload_n 1, 1) := by decide +kernel
theorem dX7_becomes_5 : decode cX7_becomes 5 = .ok (.iconst 3, 1) := by decide +kernel
theorem dX7_becomes_6 : decode cX7_becomes 6 = .ok (.invokestatic 43, 3) := by decide +kernel
theorem dX7_becomes_9 : decode cX7_becomes 9 = .ok (.iload_n 2, 1) := by decide +kernel
theorem dX7_becomes_10 : decode cX7_becomes 10 = .ok (.iastore, 1) := by decide +kernel
theorem dX7_becomes_11 : decode cX7_becomes 11 = .ok (.aload_n 0, 1) := by decide +kernel
theorem dX7_becomes_12 : decode cX7_becomes 12 = .ok (.getfield 7, 3) := by decide +kernel
theorem dX7_becomes_15 : decode cX7_becomes 15 = .ok (.iload_n 1, 1) := by decide +kernel
theorem dX7_becomes_16 : decode cX7_becomes 16 = .ok (.iconst 4, 1) := by decide +kernel
theorem dX7_becomes_17 : decode cX7_becomes 17 = .ok (.invokestatic 43, 3) := by decide +kernel
theorem dX7_becomes_20 : decode cX7_becomes 20 = .ok (.bipush (-5), 2) := by decide +kernel
theorem dX7_becomes_22 : decode cX7_becomes 22 = .ok (.iastore, 1) := by decide +kernel
theorem dX7_becomes_23 : decode cX7_becomes 23 = .ok (.return_, 1) := by decide +kernel
theorem dX7_doBuy_0 : decode cX7_doBuy 0 = .ok (.iload_n 1, 1) := by decide +kernel
theorem dX7_doBuy_1 : decode cX7_doBuy 1 = .ok (.invokestatic 90, 3) := by decide +kernel
theorem dX7_doBuy_4 : decode cX7_doBuy 4 = .ok (.ifCond .eq 11, 3) := by decide +kernel
theorem dX7_doBuy_7 : decode cX7_doBuy 7 = .ok (.aload_n 0, 1) := by decide +kernel
theorem dX7_doBuy_8 : decode cX7_doBuy 8 = .ok (.iload_n 2, 1) := by decide +kernel
theorem dX7_doBuy_9 : decode cX7_doBuy 9 = .ok (.invokevirtual 93, 3) := by decide +kernel
theorem dX7_doBuy_12 : decode cX7_doBuy 12 = .ok (.ifCond .ne 5, 3) := by decide +kernel
theorem dX7_doBuy_15 : decode cX7_doBuy 15 = .ok (.iconst (-1), 1) := by decide +kernel
theorem dX7_doBuy_16 : decode cX7_doBuy 16 = .ok (.ireturn, 1) := by decide +kernel
theorem dX7_doBuy_17 : decode cX7_doBuy 17 = .ok (.aload_n 0, 1) := by decide +kernel
theorem dX7_doBuy_18 : decode cX7_doBuy 18 = .ok (.iload_n 2, 1) := by decide +kernel
theorem dX7_doBuy_19 : decode cX7_doBuy 19 = .ok (.invokevirtual 63, 3) := by decide +kernel
theorem dX7_doBuy_22 : decode cX7_doBuy 22 = .ok (.ifCond .ne 6, 3) := by decide +kernel
theorem dX7_doBuy_25 : decode cX7_doBuy 25 = .ok (.bipush (-4), 2) := by decide +kernel
theorem dX7_doBuy_27 : decode cX7_doBuy 27 = .ok (.ireturn, 1) := by decide +kernel
theorem dX7_doBuy_28 : decode cX7_doBuy 28 = .ok (.aload_n 0, 1) := by decide +kernel
theorem dX7_doBuy_29 : decode cX7_doBuy 29 = .ok (.iload_n 2, 1) := by decide +kernel
theorem dX7_doBuy_30 : decode cX7_doBuy 30 = .ok (.invokevirtual 78, 3) := by decide +kernel
theorem dX7_doBuy_33 : decode cX7_doBuy 33 = .ok (.ifCond .ne 8, 3) := by decide +kernel
theorem dX7_doBuy_36 : decode cX7_doBuy 36 = .ok (.bipush (-3), 2) := by decide +kernel
theorem dX7_doBuy_38 : decode cX7_doBuy 38 = .ok (.goto 9, 3) := by decide +kernel
theorem dX7_doBuy_41 : decode cX7_doBuy 41 = .ok (.aload_n 0, 1) := by decide +kernel
theorem dX7_doBuy_42 : decode cX7_doBuy 42 = .ok (.iload_n 1, 1) := by decide +kernel
theorem dX7_doBuy_43 : decode cX7_doBuy 43 = .ok (.iload_n 2, 1) := by decide +kernel
theorem dX7_doBuy_44 : decode cX7_doBuy 44 = .ok (.invokevirtual 84, 3) := by decide +kernel
theorem dX7_doBuy_47 : decode cX7_doBuy 47 = .ok (.ireturn, 1) := by decide +kernel
theorem dX7_doBuyOffered_0 : decode cX7_doBuyOffered 0 = .ok (.iload_n 1, 1) := by decide +kernel
theorem dX7_doBuyOffered_1 : decode cX7_doBuyOffered 1 = .ok (.invokestatic 90, 3) := by decide +kernel
theorem dX7_doBuyOffered_4 : decode cX7_doBuyOffered 4 = .ok (.ifCond .eq 11, 3) := by decide +kernel
theorem dX7_doBuyOffered_7 : decode cX7_doBuyOffered 7 = .ok (.aload_n 0, 1) := by decide +kernel
theorem dX7_doBuyOffered_8 : decode cX7_doBuyOffered 8 = .ok (.iload_n 2, 1) := by decide +kernel
theorem dX7_doBuyOffered_9 : decode cX7_doBuyOffered 9 = .ok (.invokevirtual 93, 3) := by decide +kernel
theorem dX7_doBuyOffered_12 : decode cX7_doBuyOffered 12 = .ok (.ifCond .ne 5, 3) := by decide +kernel
theorem dX7_doBuyOffered_15 : decode cX7_doBuyOffered 15 = .ok (.iconst (-1), 1) := by decide +kernel
theorem dX7_doBuyOffered_16 : decode cX7_doBuyOffered 16 = .ok (.ireturn, 1) := by decide +kernel
theorem dX7_doBuyOffered_17 : decode cX7_doBuyOffered 17 = .ok (.aload_n 0, 1) := by decide +kernel
theorem dX7_doBuyOffered_18 : decode cX7_doBuyOffered 18 = .ok (.iload_n 2, 1) := by decide +kernel
theorem dX7_doBuyOffered_19 : decode cX7_doBuyOffered 19 = .ok (.iconst 1, 1) := by decide +kernel
theorem dX7_doBuyOffered_20 : decode cX7_doBuyOffered 20 = .ok (.iconst 4, 1) := by decide +kernel
theorem dX7_doBuyOffered_21 : decode cX7_doBuyOffered 21 = .ok (.invokevirtual 96, 3) := by decide +kernel
theorem dX7_doBuyOffered_24 : decode cX7_doBuyOffered 24 = .ok (.istore_n 3, 1) := by decide +kernel
theorem dX7_doBuyOffered_25 : decode cX7_doBuyOffered 25 = .ok (.iload_n 3, 1) := by decide +kernel
theorem dX7_doBuyOffered_26 : decode cX7_doBuyOffered 26 = .ok (.ifCond .lt 13, 3) := by decide +kernel
theorem dX7_doBuyOffered_29 : decode cX7_doBuyOffered 29 = .ok (.aload_n 0, 1) := by decide +kernel
theorem dX7_doBuyOffered_30 : decode cX7_doBuyOffered 30 = .ok (.iload_n 3, 1) := by decide +kernel
theorem dX7_doBuyOffered_31 : decode cX7_doBuyOffered 31 = .ok (.iconst 1, 1) := by decide +kernel
theorem dX7_doBuyOffered_32 : decode cX7_doBuyOffered 32 = .ok (.invokevirtual 53, 3) := by decide +kernel
theorem dX7_doBuyOffered_35 : decode cX7_doBuyOffered 35 = .ok (.iload_n 1, 1) := by decide +kernel
theorem dX7_doBuyOffered_36 : decode cX7_doBuyOffered 36 = .ok (.if_icmp .ne 6, 3) := by decide +kernel
theorem dX7_doBuyOffered_39 : decode cX7_doBuyOffered 39 = .ok (.bipush (-4), 2) := by decide +kernel
theorem dX7_doBuyOffered_41 : decode cX7_doBuyOffered 41 = .ok (.ireturn, 1) := by decide +kernel
theorem dX7_doBuyOffered_42 : decode cX7_doBuyOffered 42 = .ok (.aload_n 0, 1) := by decide +kernel
theorem dX7_doBuyOffered_43 : decode cX7_doBuyOffered 43 = .ok (.iload_n 3, 1) := by decide +kernel
theorem dX7_doBuyOffered_44 : decode cX7_doBuyOffered 44 = .ok (.iconst 4, 1) := by decide +kernel
theorem dX7_doBuyOffered_45 : decode cX7_doBuyOffered 45 = .ok (.invokevirtual 53, 3) := by decide +kernel
theorem dX7_doBuyOffered_48 : decode cX7_doBuyOffered 48 = .ok (.istore 4, 2) := by decide +kernel
theorem dX7_doBuyOffered_50 : decode cX7_doBuyOffered 50 = .ok (.iload 4, 2) := by decide +kernel
theorem dX7_doBuyOffered_52 : decode cX7_doBuyOffered 52 = .ok (.aload_n 0, 1) := by decide +kernel
theorem dX7_doBuyOffered_53 : decode cX7_doBuyOffered 53 = .ok (.getfield 7, 3) := by decide +kernel
theorem dX7_doBuyOffered_56 : decode cX7_doBuyOffered 56 = .ok (.iconst 4, 1) := by decide +kernel
theorem dX7_doBuyOffered_57 : decode cX7_doBuyOffered 57 = .ok (.iaload, 1) := by decide +kernel
theorem dX7_doBuyOffered_58 : decode cX7_doBuyOffered 58 = .ok (.imul, 1) := by decide +kernel
theorem dX7_doBuyOffered_59 : decode cX7_doBuyOffered 59 = .ok (.bipush 100, 2) := by decide +kernel
theorem dX7_doBuyOffered_61 : decode cX7_doBuyOffered 61 = .ok (.idiv, 1) := by decide +kernel
theorem dX7_doBuyOffered_62 : decode cX7_doBuyOffered 62 = .ok (.istore 5, 2) := by decide +kernel
theorem dX7_doBuyOffered_64 : decode cX7_doBuyOffered 64 = .ok (.aload_n 0, 1) := by decide +kernel
theorem dX7_doBuyOffered_65 : decode cX7_doBuyOffered 65 = .ok (.iload_n 1, 1) := by decide +kernel
theorem dX7_doBuyOffered_66 : decode cX7_doBuyOffered 66 = .ok (.iload 4, 2) := by decide +kernel
theorem dX7_doBuyOffered_68 : decode cX7_doBuyOffered 68 = .ok (.invokevirtual 70, 3) := by decide +kernel
theorem dX7_doBuyOffered_71 : decode cX7_doBuyOffered 71 = .ok (.aload_n 0, 1) := by decide +kernel
theorem dX7_doBuyOffered_72 : decode cX7_doBuyOffered 72 = .ok (.aload_n 0, 1) := by decide +kernel
theorem dX7_doBuyOffered_73 : decode cX7_doBuyOffered 73 = .ok (.iload_n 3, 1) := by decide +kernel
theorem dX7_doBuyOffered_74 : decode cX7_doBuyOffered 74 = .ok (.iconst 1, 1) := by decide +kernel
theorem dX7_doBuyOffered_75 : decode cX7_doBuyOffered 75 = .ok (.invokevirtual 53, 3) := by decide +kernel
theorem dX7_doBuyOffered_78 : decode cX7_doBuyOffered 78 = .ok (.iload 5, 2) := by decide +kernel
theorem dX7_doBuyOffered_80 : decode cX7_doBuyOffered 80 = .ok (.iload 4, 2) := by decide +kernel
theorem dX7_doBuyOffered_82 : decode cX7_doBuyOffered 82 = .ok (.isub, 1) := by decide +kernel
theorem dX7_doBuyOffered_83 : decode cX7_doBuyOffered 83 = .ok (.invokevirtual 70, 3) := by decide +kernel
theorem dX7_doBuyOffered_86 : decode cX7_doBuyOffered 86 = .ok (.aload_n 0, 1) := by decide +kernel
theorem dX7_doBuyOffered_87 : decode cX7_doBuyOffered 87 = .ok (.getfield 7, 3) := by decide +kernel
theorem dX7_doBuyOffered_90 : decode cX7_doBuyOffered 90 = .ok (.iload_n 3, 1) := by decide +kernel
theorem dX7_doBuyOffered_91 : decode cX7_doBuyOffered 91 = .ok (.iconst 1, 1) := by decide +kernel
theorem dX7_doBuyOffered_92 : decode cX7_doBuyOffered 92 = .ok (.invokestatic 43, 3) := by decide +kernel
theorem dX7_doBuyOffered_95 : decode cX7_doBuyOffered 95 = .ok (.iload_n 1, 1) := by decide +kernel
theorem dX7_doBuyOffered_96 : decode cX7_doBuyOffered 96 = .ok (.iastore, 1) := by decide +kernel
theorem dX7_doBuyOffered_97 : decode cX7_doBuyOffered 97 = .ok (.aload_n 0, 1) := by decide +kernel
theorem dX7_doBuyOffered_98 : decode cX7_doBuyOffered 98 = .ok (.getfield 7, 3) := by decide +kernel
theorem dX7_doBuyOffered_101 : decode cX7_doBuyOffered 101 = .ok (.iload_n 3, 1) := by decide +kernel
theorem dX7_doBuyOffered_102 : decode cX7_doBuyOffered 102 = .ok (.bipush 6, 2) := by decide +kernel
theorem dX7_doBuyOffered_104 : decode cX7_doBuyOffered 104 = .ok (.invokestatic 43, 3) := by decide +kernel
theorem dX7_doBuyOffered_107 : decode cX7_doBuyOffered 107 = .ok (.dup2, 1) := by decide +kernel
theorem dX7_doBuyOffered_108 : decode cX7_doBuyOffered 108 = .ok (.iaload, 1) := by decide +kernel
theorem dX7_doBuyOffered_109 : decode cX7_doBuyOffered 109 = .ok (.iconst 1, 1) := by decide +kernel
theorem dX7_doBuyOffered_110 : decode cX7_doBuyOffered 110 = .ok (.iadd, 1) := by decide +kernel
theorem dX7_doBuyOffered_111 : decode cX7_doBuyOffered 111 = .ok (.iastore, 1) := by decide +kernel
theorem dX7_doBuyOffered_112 : decode cX7_doBuyOffered 112 = .ok (.aload_n 0, 1) := by decide +kernel
theorem dX7_doBuyOffered_113 : decode cX7_doBuyOffered 113 = .ok (.iload_n 3, 1) := by decide +kernel
theorem dX7_doBuyOffered_114 : decode cX7_doBuyOffered 114 = .ok (.iconst 0, 1) := by decide +kernel
theorem dX7_doBuyOffered_115 : decode cX7_doBuyOffered 115 = .ok (.invokevirtual 99, 3) := by decide +kernel
theorem dX7_doBuyOffered_118 : decode cX7_doBuyOffered 118 = .ok (.aload_n 0, 1) := by decide +kernel
theorem dX7_doBuyOffered_119 : decode cX7_doBuyOffered 119 = .ok (.iconst 1, 1) := by decide +kernel
theorem dX7_doBuyOffered_120 : decode cX7_doBuyOffered 120 = .ok (.iload_n 3, 1) := by decide +kernel
theorem dX7_doBuyOffered_121 : decode cX7_doBuyOffered 121 = .ok (.iload 4, 2) := by decide +kernel
theorem dX7_doBuyOffered_123 : decode cX7_doBuyOffered 123 = .ok (.invokevirtual 74, 3) := by decide +kernel
theorem dX7_doBuyOffered_126 : decode cX7_doBuyOffered 126 = .ok (.iload_n 3, 1) := by decide +kernel
theorem dX7_doBuyOffered_127 : decode cX7_doBuyOffered 127 = .ok (.ireturn, 1) := by decide +kernel
theorem dX7_doCancel_0 : decode cX7_doCancel 0 = .ok (.aload_n 0, 1) := by decide +kernel
theorem dX7_doCancel_1 : decode cX7_doCancel 1 = .ok (.iload_n 1, 1) := by decide +kernel
theorem dX7_doCancel_2 : decode cX7_doCancel 2 = .ok (.invokevirtual 102, 3) := by decide +kernel
theorem dX7_doCancel_5 : decode cX7_doCancel 5 = .ok (.ifCond .ne 5, 3) := by decide +kernel
theorem dX7_doCancel_8 : decode cX7_doCancel 8 = .ok (.iconst (-1), 1) := by decide +kernel
theorem dX7_doCancel_9 : decode cX7_doCancel 9 = .ok (.ireturn, 1) := by decide +kernel
theorem dX7_doCancel_10 : decode cX7_doCancel 10 = .ok (.aload_n 0, 1) := by decide +kernel
theorem dX7_doCancel_11 : decode cX7_doCancel 11 = .ok (.iload_n 1, 1) := by decide +kernel
theorem dX7_doCancel_12 : decode cX7_doCancel 12 = .ok (.invokevirtual 105, 3) := by decide +kernel
theorem dX7_doCancel_15 : decode cX7_doCancel 15 = .ok (.ifCond .ne 6, 3) := by decide +kernel
theorem dX7_doCancel_18 : decode cX7_doCancel 18 = .ok (.bipush (-4), 2) := by decide +kernel
theorem dX7_doCancel_20 : decode cX7_doCancel 20 = .ok (.ireturn, 1) := by decide +kernel
theorem dX7_doCancel_21 : decode cX7_doCancel 21 = .ok (.aload_n 0, 1) := by decide +kernel
theorem dX7_doCancel_22 : decode cX7_doCancel 22 = .ok (.iload_n 1, 1) := by decide +kernel
theorem dX7_doCancel_23 : decode cX7_doCancel 23 = .ok (.invokevirtual 108, 3) := by decide +kernel
theorem dX7_doCancel_26 : decode cX7_doCancel 26 = .ok (.istore_n 2, 1) := by decide +kernel
theorem dX7_doCancel_27 : decode cX7_doCancel 27 = .ok (.aload_n 0, 1) := by decide +kernel
theorem dX7_doCancel_28 : decode cX7_doCancel 28 = .ok (.aload_n 0, 1) := by decide +kernel
theorem dX7_doCancel_29 : decode cX7_doCancel 29 = .ok (.iload_n 1, 1) := by decide +kernel
theorem dX7_doCancel_30 : decode cX7_doCancel 30 = .ok (.iconst 1, 1) := by decide +kernel
theorem dX7_doCancel_31 : decode cX7_doCancel 31 = .ok (.invokevirtual 53, 3) := by decide +kernel
theorem dX7_doCancel_34 : decode cX7_doCancel 34 = .ok (.iload_n 2, 1) := by decide +kernel
theorem dX7_doCancel_35 : decode cX7_doCancel 35 = .ok (.ineg, 1) := by decide +kernel
theorem dX7_doCancel_36 : decode cX7_doCancel 36 = .ok (.invokevirtual 70, 3) := by decide +kernel
theorem dX7_doCancel_39 : decode cX7_doCancel 39 = .ok (.aload_n 0, 1) := by decide +kernel
theorem dX7_doCancel_40 : decode cX7_doCancel 40 = .ok (.iload_n 1, 1) := by decide +kernel
theorem dX7_doCancel_41 : decode cX7_doCancel 41 = .ok (.iconst 3, 1) := by decide +kernel
theorem dX7_doCancel_42 : decode cX7_doCancel 42 = .ok (.invokevirtual 99, 3) := by decide +kernel
theorem dX7_doCancel_45 : decode cX7_doCancel 45 = .ok (.aload_n 0, 1) := by decide +kernel
theorem dX7_doCancel_46 : decode cX7_doCancel 46 = .ok (.iconst 4, 1) := by decide +kernel
theorem dX7_doCancel_47 : decode cX7_doCancel 47 = .ok (.iload_n 1, 1) := by decide +kernel
theorem dX7_doCancel_48 : decode cX7_doCancel 48 = .ok (.iload_n 2, 1) := by decide +kernel
theorem dX7_doCancel_49 : decode cX7_doCancel 49 = .ok (.invokevirtual 74, 3) := by decide +kernel
theorem dX7_doCancel_52 : decode cX7_doCancel 52 = .ok (.aload_n 0, 1) := by decide +kernel
theorem dX7_doCancel_53 : decode cX7_doCancel 53 = .ok (.aload_n 0, 1) := by decide +kernel
theorem dX7_doCancel_54 : decode cX7_doCancel 54 = .ok (.iload_n 1, 1) := by decide +kernel
theorem dX7_doCancel_55 : decode cX7_doCancel 55 = .ok (.iconst 0, 1) := by decide +kernel
theorem dX7_doCancel_56 : decode cX7_doCancel 56 = .ok (.invokevirtual 53, 3) := by decide +kernel
theorem dX7_doCancel_59 : decode cX7_doCancel 59 = .ok (.invokevirtual 111, 3) := by decide +kernel
theorem dX7_doCancel_62 : decode cX7_doCancel 62 = .ok (.iload_n 2, 1) := by decide +kernel
theorem dX7_doCancel_63 : decode cX7_doCancel 63 = .ok (.ireturn, 1) := by decide +kernel
theorem dX7_doOffer_0 : decode cX7_doOffer 0 = .ok (.aload_n 0, 1) := by decide +kernel
theorem dX7_doOffer_1 : decode cX7_doOffer 1 = .ok (.iload_n 1, 1) := by decide +kernel
theorem dX7_doOffer_2 : decode cX7_doOffer 2 = .ok (.invokevirtual 102, 3) := by decide +kernel
theorem dX7_doOffer_5 : decode cX7_doOffer 5 = .ok (.ifCond .ne 5, 3) := by decide +kernel
theorem dX7_doOffer_8 : decode cX7_doOffer 8 = .ok (.iconst (-1), 1) := by decide +kernel
theorem dX7_doOffer_9 : decode cX7_doOffer 9 = .ok (.ireturn, 1) := by decide +kernel
theorem dX7_doOffer_10 : decode cX7_doOffer 10 = .ok (.aload_n 0, 1) := by decide +kernel
theorem dX7_doOffer_11 : decode cX7_doOffer 11 = .ok (.iload_n 1, 1) := by decide +kernel
theorem dX7_doOffer_12 : decode cX7_doOffer 12 = .ok (.invokevirtual 105, 3) := by decide +kernel
theorem dX7_doOffer_15 : decode cX7_doOffer 15 = .ok (.ifCond .ne 6, 3) := by decide +kernel
theorem dX7_doOffer_18 : decode cX7_doOffer 18 = .ok (.bipush (-4), 2) := by decide +kernel
theorem dX7_doOffer_20 : decode cX7_doOffer 20 = .ok (.ireturn, 1) := by decide +kernel
theorem dX7_doOffer_21 : decode cX7_doOffer 21 = .ok (.iload_n 2, 1) := by decide +kernel
theorem dX7_doOffer_22 : decode cX7_doOffer 22 = .ok (.iconst 1, 1) := by decide +kernel
theorem dX7_doOffer_23 : decode cX7_doOffer 23 = .ok (.iconst 2, 1) := by decide +kernel
theorem dX7_doOffer_24 : decode cX7_doOffer 24 = .ok (.aload_n 0, 1) := by decide +kernel
theorem dX7_doOffer_25 : decode cX7_doOffer 25 = .ok (.aload_n 0, 1) := by decide +kernel
theorem dX7_doOffer_26 : decode cX7_doOffer 26 = .ok (.iload_n 1, 1) := by decide +kernel
theorem dX7_doOffer_27 : decode cX7_doOffer 27 = .ok (.iconst 0, 1) := by decide +kernel
theorem dX7_doOffer_28 : decode cX7_doOffer 28 = .ok (.invokevirtual 53, 3) := by decide +kernel
theorem dX7_doOffer_31 : decode cX7_doOffer 31 = .ok (.iconst 3, 1) := by decide +kernel
theorem dX7_doOffer_32 : decode cX7_doOffer 32 = .ok (.invokevirtual 46, 3) := by decide +kernel
theorem dX7_doOffer_35 : decode cX7_doOffer 35 = .ok (.imul, 1) := by decide +kernel
theorem dX7_doOffer_36 : decode cX7_doOffer 36 = .ok (.invokestatic 35, 3) := by decide +kernel
theorem dX7_doOffer_39 : decode cX7_doOffer 39 = .ok (.ifCond .ne 6, 3) := by decide +kernel
theorem dX7_doOffer_42 : decode cX7_doOffer 42 = .ok (.bipush (-2), 2) := by decide +kernel
theorem dX7_doOffer_44 : decode cX7_doOffer 44 = .ok (.ireturn, 1) := by decide +kernel
theorem dX7_doOffer_45 : decode cX7_doOffer 45 = .ok (.aload_n 0, 1) := by decide +kernel
theorem dX7_doOffer_46 : decode cX7_doOffer 46 = .ok (.iload_n 1, 1) := by decide +kernel
theorem dX7_doOffer_47 : decode cX7_doOffer 47 = .ok (.iconst 4, 1) := by decide +kernel
theorem dX7_doOffer_48 : decode cX7_doOffer 48 = .ok (.invokevirtual 53, 3) := by decide +kernel
theorem dX7_doOffer_51 : decode cX7_doOffer 51 = .ok (.istore_n 3, 1) := by decide +kernel
theorem dX7_doOffer_52 : decode cX7_doOffer 52 = .ok (.iload_n 3, 1) := by decide +kernel
theorem dX7_doOffer_53 : decode cX7_doOffer 53 = .ok (.iload_n 2, 1) := by decide +kernel
theorem dX7_doOffer_54 : decode cX7_doOffer 54 = .ok (.if_icmp .ne 6, 3) := by decide +kernel
theorem dX7_doOffer_57 : decode cX7_doOffer 57 = .ok (.bipush (-5), 2) := by decide +kernel
theorem dX7_doOffer_59 : decode cX7_doOffer 59 = .ok (.ireturn, 1) := by decide +kernel
theorem dX7_doOffer_60 : decode cX7_doOffer 60 = .ok (.aload_n 0, 1) := by decide +kernel
theorem dX7_doOffer_61 : decode cX7_doOffer 61 = .ok (.getfield 7, 3) := by decide +kernel
theorem dX7_doOffer_64 : decode cX7_doOffer 64 = .ok (.iload_n 1, 1) := by decide +kernel
theorem dX7_doOffer_65 : decode cX7_doOffer 65 = .ok (.iconst 3, 1) := by decide +kernel
theorem dX7_doOffer_66 : decode cX7_doOffer 66 = .ok (.invokestatic 43, 3) := by decide +kernel
theorem dX7_doOffer_69 : decode cX7_doOffer 69 = .ok (.iconst 1, 1) := by decide +kernel
theorem dX7_doOffer_70 : decode cX7_doOffer 70 = .ok (.iastore, 1) := by decide +kernel
theorem dX7_doOffer_71 : decode cX7_doOffer 71 = .ok (.aload_n 0, 1) := by decide +kernel
theorem dX7_doOffer_72 : decode cX7_doOffer 72 = .ok (.getfield 7, 3) := by decide +kernel
theorem dX7_doOffer_75 : decode cX7_doOffer 75 = .ok (.iload_n 1, 1) := by decide +kernel
theorem dX7_doOffer_76 : decode cX7_doOffer 76 = .ok (.iconst 4, 1) := by decide +kernel
theorem dX7_doOffer_77 : decode cX7_doOffer 77 = .ok (.invokestatic 43, 3) := by decide +kernel
theorem dX7_doOffer_80 : decode cX7_doOffer 80 = .ok (.iload_n 2, 1) := by decide +kernel
theorem dX7_doOffer_81 : decode cX7_doOffer 81 = .ok (.iastore, 1) := by decide +kernel
theorem dX7_doOffer_82 : decode cX7_doOffer 82 = .ok (.aload_n 0, 1) := by decide +kernel
theorem dX7_doOffer_83 : decode cX7_doOffer 83 = .ok (.iconst 2, 1) := by decide +kernel
theorem dX7_doOffer_84 : decode cX7_doOffer 84 = .ok (.iload_n 1, 1) := by decide +kernel
theorem dX7_doOffer_85 : decode cX7_doOffer 85 = .ok (.iload_n 2, 1) := by decide +kernel
theorem dX7_doOffer_86 : decode cX7_doOffer 86 = .ok (.invokevirtual 74, 3) := by decide +kernel
theorem dX7_doOffer_89 : decode cX7_doOffer 89 = .ok (.iload_n 3, 1) := by decide +kernel
theorem dX7_doOffer_90 : decode cX7_doOffer 90 = .ok (.ifCond .ge 7, 3) := by decide +kernel
theorem dX7_doOffer_93 : decode cX7_doOffer 93 = .ok (.iconst 0, 1) := by decide +kernel
theorem dX7_doOffer_94 : decode cX7_doOffer 94 = .ok (.goto 4, 3) := by decide +kernel
theorem dX7_doOffer_97 : decode cX7_doOffer 97 = .ok (.iload_n 3, 1) := by decide +kernel
theorem dX7_doOffer_98 : decode cX7_doOffer 98 = .ok (.ireturn, 1) := by decide +kernel
theorem dX7_doExercise_0 : decode cX7_doExercise 0 = .ok (.aload_n 0, 1) := by decide +kernel
theorem dX7_doExercise_1 : decode cX7_doExercise 1 = .ok (.iload_n 1, 1) := by decide +kernel
theorem dX7_doExercise_2 : decode cX7_doExercise 2 = .ok (.invokevirtual 102, 3) := by decide +kernel
theorem dX7_doExercise_5 : decode cX7_doExercise 5 = .ok (.ifCond .ne 5, 3) := by decide +kernel
theorem dX7_doExercise_8 : decode cX7_doExercise 8 = .ok (.iconst (-1), 1) := by decide +kernel
theorem dX7_doExercise_9 : decode cX7_doExercise 9 = .ok (.ireturn, 1) := by decide +kernel
theorem dX7_doExercise_10 : decode cX7_doExercise 10 = .ok (.aload_n 0, 1) := by decide +kernel
theorem dX7_doExercise_11 : decode cX7_doExercise 11 = .ok (.iload_n 1, 1) := by decide +kernel
theorem dX7_doExercise_12 : decode cX7_doExercise 12 = .ok (.invokevirtual 115, 3) := by decide +kernel
theorem dX7_doExercise_15 : decode cX7_doExercise 15 = .ok (.ifCond .ne 6, 3) := by decide +kernel
theorem dX7_doExercise_18 : decode cX7_doExercise 18 = .ok (.bipush (-4), 2) := by decide +kernel
theorem dX7_doExercise_20 : decode cX7_doExercise 20 = .ok (.ireturn, 1) := by decide +kernel
theorem dX7_doExercise_21 : decode cX7_doExercise 21 = .ok (.aload_n 0, 1) := by decide +kernel
theorem dX7_doExercise_22 : decode cX7_doExercise 22 = .ok (.aload_n 0, 1) := by decide +kernel
theorem dX7_doExercise_23 : decode cX7_doExercise 23 = .ok (.iload_n 1, 1) := by decide +kernel
theorem dX7_doExercise_24 : decode cX7_doExercise 24 = .ok (.iconst 1, 1) := by decide +kernel
theorem dX7_doExercise_25 : decode cX7_doExercise 25 = .ok (.invokevirtual 53, 3) := by decide +kernel
theorem dX7_doExercise_28 : decode cX7_doExercise 28 = .ok (.aload_n 0, 1) := by decide +kernel
theorem dX7_doExercise_29 : decode cX7_doExercise 29 = .ok (.getfield 7, 3) := by decide +kernel
theorem dX7_doExercise_32 : decode cX7_doExercise 32 = .ok (.bipush 6, 2) := by decide +kernel
theorem dX7_doExercise_34 : decode cX7_doExercise 34 = .ok (.iaload, 1) := by decide +kernel
theorem dX7_doExercise_35 : decode cX7_doExercise 35 = .ok (.invokevirtual 70, 3) := by decide +kernel
theorem dX7_doExercise_38 : decode cX7_doExercise 38 = .ok (.aload_n 0, 1) := by decide +kernel
theorem dX7_doExercise_39 : decode cX7_doExercise 39 = .ok (.iload_n 1, 1) := by decide +kernel
theorem dX7_doExercise_40 : decode cX7_doExercise 40 = .ok (.iconst 2, 1) := by decide +kernel
theorem dX7_doExercise_41 : decode cX7_doExercise 41 = .ok (.invokevirtual 99, 3) := by decide +kernel
theorem dX7_doExercise_44 : decode cX7_doExercise 44 = .ok (.aload_n 0, 1) := by decide +kernel
theorem dX7_doExercise_45 : decode cX7_doExercise 45 = .ok (.iconst 3, 1) := by decide +kernel
theorem dX7_doExercise_46 : decode cX7_doExercise 46 = .ok (.iload_n 1, 1) := by decide +kernel
theorem dX7_doExercise_47 : decode cX7_doExercise 47 = .ok (.aload_n 0, 1) := by decide +kernel
theorem dX7_doExercise_48 : decode cX7_doExercise 48 = .ok (.getfield 7, 3) := by decide +kernel
theorem dX7_doExercise_51 : decode cX7_doExercise 51 = .ok (.bipush 6, 2) := by decide +kernel
theorem dX7_doExercise_53 : decode cX7_doExercise 53 = .ok (.iaload, 1) := by decide +kernel
theorem dX7_doExercise_54 : decode cX7_doExercise 54 = .ok (.invokevirtual 74, 3) := by decide +kernel
theorem dX7_doExercise_57 : decode cX7_doExercise 57 = .ok (.aload_n 0, 1) := by decide +kernel
theorem dX7_doExercise_58 : decode cX7_doExercise 58 = .ok (.aload_n 0, 1) := by decide +kernel
theorem dX7_doExercise_59 : decode cX7_doExercise 59 = .ok (.iload_n 1, 1) := by decide +kernel
theorem dX7_doExercise_60 : decode cX7_doExercise 60 = .ok (.iconst 0, 1) := by decide +kernel
theorem dX7_doExercise_61 : decode cX7_doExercise 61 = .ok (.invokevirtual 53, 3) := by decide +kernel
theorem dX7_doExercise_64 : decode cX7_doExercise 64 = .ok (.iconst 2, 1) := by decide +kernel
theorem dX7_doExercise_65 : decode cX7_doExercise 65 = .ok (.iconst 2, 1) := by decide +kernel
theorem dX7_doExercise_66 : decode cX7_doExercise 66 = .ok (.invokevirtual 56, 3) := by decide +kernel
theorem dX7_doExercise_69 : decode cX7_doExercise 69 = .ok (.ireturn, 1) := by decide +kernel
theorem dX7_lapses_0 : decode cX7_lapses 0 = .ok (.iconst 0, 1) := by decide +kernel
theorem dX7_lapses_1 : decode cX7_lapses 1 = .ok (.istore_n 2, 1) := by decide +kernel
theorem dX7_lapses_2 : decode cX7_lapses 2 = .ok (.iconst 0, 1) := by decide +kernel
theorem dX7_lapses_3 : decode cX7_lapses 3 = .ok (.istore_n 3, 1) := by decide +kernel
theorem dX7_lapses_4 : decode cX7_lapses 4 = .ok (.iload_n 3, 1) := by decide +kernel
theorem dX7_lapses_5 : decode cX7_lapses 5 = .ok (.aload_n 0, 1) := by decide +kernel
theorem dX7_lapses_6 : decode cX7_lapses 6 = .ok (.getfield 7, 3) := by decide +kernel
theorem dX7_lapses_9 : decode cX7_lapses 9 = .ok (.iconst 2, 1) := by decide +kernel
theorem dX7_lapses_10 : decode cX7_lapses 10 = .ok (.iaload, 1) := by decide +kernel
theorem dX7_lapses_11 : decode cX7_lapses 11 = .ok (.if_icmp .ge 49, 3) := by decide +kernel
theorem dX7_lapses_14 : decode cX7_lapses 14 = .ok (.aload_n 0, 1) := by decide +kernel
theorem dX7_lapses_15 : decode cX7_lapses 15 = .ok (.iload_n 3, 1) := by decide +kernel
theorem dX7_lapses_16 : decode cX7_lapses 16 = .ok (.iconst 0, 1) := by decide +kernel
theorem dX7_lapses_17 : decode cX7_lapses 17 = .ok (.invokevirtual 53, 3) := by decide +kernel
theorem dX7_lapses_20 : decode cX7_lapses 20 = .ok (.iload_n 1, 1) := by decide +kernel
theorem dX7_lapses_21 : decode cX7_lapses 21 = .ok (.if_icmp .ne 33, 3) := by decide +kernel
theorem dX7_lapses_24 : decode cX7_lapses 24 = .ok (.aload_n 0, 1) := by decide +kernel
theorem dX7_lapses_25 : decode cX7_lapses 25 = .ok (.iload_n 3, 1) := by decide +kernel
theorem dX7_lapses_26 : decode cX7_lapses 26 = .ok (.invokevirtual 105, 3) := by decide +kernel
theorem dX7_lapses_29 : decode cX7_lapses 29 = .ok (.ifCond .eq 25, 3) := by decide +kernel
theorem dX7_lapses_32 : decode cX7_lapses 32 = .ok (.aload_n 0, 1) := by decide +kernel
theorem dX7_lapses_33 : decode cX7_lapses 33 = .ok (.iload_n 3, 1) := by decide +kernel
theorem dX7_lapses_34 : decode cX7_lapses 34 = .ok (.iconst 5, 1) := by decide +kernel
theorem dX7_lapses_35 : decode cX7_lapses 35 = .ok (.invokevirtual 99, 3) := by decide +kernel
theorem dX7_lapses_38 : decode cX7_lapses 38 = .ok (.aload_n 0, 1) := by decide +kernel
theorem dX7_lapses_39 : decode cX7_lapses 39 = .ok (.bipush 6, 2) := by decide +kernel
theorem dX7_lapses_41 : decode cX7_lapses 41 = .ok (.iload_n 3, 1) := by decide +kernel
theorem dX7_lapses_42 : decode cX7_lapses 42 = .ok (.aload_n 0, 1) := by decide +kernel
theorem dX7_lapses_43 : decode cX7_lapses 43 = .ok (.iload_n 3, 1) := by decide +kernel
theorem dX7_lapses_44 : decode cX7_lapses 44 = .ok (.iconst 2, 1) := by decide +kernel
theorem dX7_lapses_45 : decode cX7_lapses 45 = .ok (.invokevirtual 53, 3) := by decide +kernel
theorem dX7_lapses_48 : decode cX7_lapses 48 = .ok (.invokevirtual 74, 3) := by decide +kernel
theorem dX7_lapses_51 : decode cX7_lapses 51 = .ok (.iinc 2 1, 3) := by decide +kernel
theorem dX7_lapses_54 : decode cX7_lapses 54 = .ok (.iinc 3 1, 3) := by decide +kernel
theorem dX7_lapses_57 : decode cX7_lapses 57 = .ok (.goto (-53), 3) := by decide +kernel
theorem dX7_lapses_60 : decode cX7_lapses 60 = .ok (.aload_n 0, 1) := by decide +kernel
theorem dX7_lapses_61 : decode cX7_lapses 61 = .ok (.getfield 7, 3) := by decide +kernel
theorem dX7_lapses_64 : decode cX7_lapses 64 = .ok (.iload_n 1, 1) := by decide +kernel
theorem dX7_lapses_65 : decode cX7_lapses 65 = .ok (.iconst 5, 1) := by decide +kernel
theorem dX7_lapses_66 : decode cX7_lapses 66 = .ok (.invokestatic 39, 3) := by decide +kernel
theorem dX7_lapses_69 : decode cX7_lapses 69 = .ok (.iconst 0, 1) := by decide +kernel
theorem dX7_lapses_70 : decode cX7_lapses 70 = .ok (.iastore, 1) := by decide +kernel
theorem dX7_lapses_71 : decode cX7_lapses 71 = .ok (.iload_n 2, 1) := by decide +kernel
theorem dX7_lapses_72 : decode cX7_lapses 72 = .ok (.ireturn, 1) := by decide +kernel
theorem dX7_covers_0 : decode cX7_covers 0 = .ok (.iconst 0, 1) := by decide +kernel
theorem dX7_covers_1 : decode cX7_covers 1 = .ok (.istore_n 2, 1) := by decide +kernel
theorem dX7_covers_2 : decode cX7_covers 2 = .ok (.aload_n 0, 1) := by decide +kernel
theorem dX7_covers_3 : decode cX7_covers 3 = .ok (.iload_n 1, 1) := by decide +kernel
theorem dX7_covers_4 : decode cX7_covers 4 = .ok (.invokevirtual 60, 3) := by decide +kernel
theorem dX7_covers_7 : decode cX7_covers 7 = .ok (.aload_n 0, 1) := by decide +kernel
theorem dX7_covers_8 : decode cX7_covers 8 = .ok (.iload_n 1, 1) := by decide +kernel
theorem dX7_covers_9 : decode cX7_covers 9 = .ok (.iconst 1, 1) := by decide +kernel
theorem dX7_covers_10 : decode cX7_covers 10 = .ok (.invokevirtual 46, 3) := by decide +kernel
theorem dX7_covers_13 : decode cX7_covers 13 = .ok (.if_icmp .le 96, 3) := by decide +kernel
theorem dX7_covers_16 : decode cX7_covers 16 = .ok (.aload_n 0, 1) := by decide +kernel
theorem dX7_covers_17 : decode cX7_covers 17 = .ok (.iload_n 1, 1) := by decide +kernel
theorem dX7_covers_18 : decode cX7_covers 18 = .ok (.iconst 0, 1) := by decide +kernel
theorem dX7_covers_19 : decode cX7_covers 19 = .ok (.iconst 1, 1) := by decide +kernel
theorem dX7_covers_20 : decode cX7_covers 20 = .ok (.invokevirtual 56, 3) := by decide +kernel
theorem dX7_covers_23 : decode cX7_covers 23 = .ok (.ifCond .le 86, 3) := by decide +kernel
theorem dX7_covers_26 : decode cX7_covers 26 = .ok (.aload_n 0, 1) := by decide +kernel
theorem dX7_covers_27 : decode cX7_covers 27 = .ok (.iload_n 1, 1) := by decide +kernel
theorem dX7_covers_28 : decode cX7_covers 28 = .ok (.iconst 1, 1) := by decide +kernel
theorem dX7_covers_29 : decode cX7_covers 29 = .ok (.iconst 4, 1) := by decide +kernel
theorem dX7_covers_30 : decode cX7_covers 30 = .ok (.invokevirtual 96, 3) := by decide +kernel
theorem dX7_covers_33 : decode cX7_covers 33 = .ok (.istore_n 3, 1) := by decide +kernel
theorem dX7_covers_34 : decode cX7_covers 34 = .ok (.iload_n 3, 1) := by decide +kernel
theorem dX7_covers_35 : decode cX7_covers 35 = .ok (.ifCond .ge 7, 3) := by decide +kernel
theorem dX7_covers_38 : decode cX7_covers 38 = .ok (.iconst 0, 1) := by decide +kernel
theorem dX7_covers_39 : decode cX7_covers 39 = .ok (.goto 9, 3) := by decide +kernel
theorem dX7_covers_42 : decode cX7_covers 42 = .ok (.aload_n 0, 1) := by decide +kernel
theorem dX7_covers_43 : decode cX7_covers 43 = .ok (.iload_n 3, 1) := by decide +kernel
theorem dX7_covers_44 : decode cX7_covers 44 = .ok (.iconst 4, 1) := by decide +kernel
theorem dX7_covers_45 : decode cX7_covers 45 = .ok (.invokevirtual 53, 3) := by decide +kernel
theorem dX7_covers_48 : decode cX7_covers 48 = .ok (.istore 4, 2) := by decide +kernel
theorem dX7_covers_50 : decode cX7_covers 50 = .ok (.iload_n 3, 1) := by decide +kernel
theorem dX7_covers_51 : decode cX7_covers 51 = .ok (.ifCond .ge 23, 3) := by decide +kernel
theorem dX7_covers_54 : decode cX7_covers 54 = .ok (.aload_n 0, 1) := by decide +kernel
theorem dX7_covers_55 : decode cX7_covers 55 = .ok (.iload_n 1, 1) := by decide +kernel
theorem dX7_covers_56 : decode cX7_covers 56 = .ok (.iconst 0, 1) := by decide +kernel
theorem dX7_covers_57 : decode cX7_covers 57 = .ok (.iconst 2, 1) := by decide +kernel
theorem dX7_covers_58 : decode cX7_covers 58 = .ok (.invokevirtual 96, 3) := by decide +kernel
theorem dX7_covers_61 : decode cX7_covers 61 = .ok (.istore_n 3, 1) := by decide +kernel
theorem dX7_covers_62 : decode cX7_covers 62 = .ok (.aload_n 0, 1) := by decide +kernel
theorem dX7_covers_63 : decode cX7_covers 63 = .ok (.iload_n 3, 1) := by decide +kernel
theorem dX7_covers_64 : decode cX7_covers 64 = .ok (.iconst 2, 1) := by decide +kernel
theorem dX7_covers_65 : decode cX7_covers 65 = .ok (.invokevirtual 53, 3) := by decide +kernel
theorem dX7_covers_68 : decode cX7_covers 68 = .ok (.iconst 3, 1) := by decide +kernel
theorem dX7_covers_69 : decode cX7_covers 69 = .ok (.imul, 1) := by decide +kernel
theorem dX7_covers_70 : decode cX7_covers 70 = .ok (.iconst 2, 1) := by decide +kernel
theorem dX7_covers_71 : decode cX7_covers 71 = .ok (.idiv, 1) := by decide +kernel
theorem dX7_covers_72 : decode cX7_covers 72 = .ok (.istore 4, 2) := by decide +kernel
theorem dX7_covers_74 : decode cX7_covers 74 = .ok (.aload_n 0, 1) := by decide +kernel
theorem dX7_covers_75 : decode cX7_covers 75 = .ok (.aload_n 0, 1) := by decide +kernel
theorem dX7_covers_76 : decode cX7_covers 76 = .ok (.iload_n 3, 1) := by decide +kernel
theorem dX7_covers_77 : decode cX7_covers 77 = .ok (.iconst 1, 1) := by decide +kernel
theorem dX7_covers_78 : decode cX7_covers 78 = .ok (.invokevirtual 53, 3) := by decide +kernel
theorem dX7_covers_81 : decode cX7_covers 81 = .ok (.iload 4, 2) := by decide +kernel
theorem dX7_covers_83 : decode cX7_covers 83 = .ok (.ineg, 1) := by decide +kernel
theorem dX7_covers_84 : decode cX7_covers 84 = .ok (.invokevirtual 70, 3) := by decide +kernel
theorem dX7_covers_87 : decode cX7_covers 87 = .ok (.aload_n 0, 1) := by decide +kernel
theorem dX7_covers_88 : decode cX7_covers 88 = .ok (.iload_n 3, 1) := by decide +kernel
theorem dX7_covers_89 : decode cX7_covers 89 = .ok (.iconst 4, 1) := by decide +kernel
theorem dX7_covers_90 : decode cX7_covers 90 = .ok (.invokevirtual 99, 3) := by decide +kernel
theorem dX7_covers_93 : decode cX7_covers 93 = .ok (.aload_n 0, 1) := by decide +kernel
theorem dX7_covers_94 : decode cX7_covers 94 = .ok (.iconst 5, 1) := by decide +kernel
theorem dX7_covers_95 : decode cX7_covers 95 = .ok (.iload_n 3, 1) := by decide +kernel
theorem dX7_covers_96 : decode cX7_covers 96 = .ok (.iload 4, 2) := by decide +kernel
theorem dX7_covers_98 : decode cX7_covers 98 = .ok (.invokevirtual 74, 3) := by decide +kernel
theorem dX7_covers_101 : decode cX7_covers 101 = .ok (.iload_n 2, 1) := by decide +kernel
theorem dX7_covers_102 : decode cX7_covers 102 = .ok (.iload 4, 2) := by decide +kernel
theorem dX7_covers_104 : decode cX7_covers 104 = .ok (.iadd, 1) := by decide +kernel
theorem dX7_covers_105 : decode cX7_covers 105 = .ok (.istore_n 2, 1) := by decide +kernel
theorem dX7_covers_106 : decode cX7_covers 106 = .ok (.goto (-104), 3) := by decide +kernel
theorem dX7_covers_109 : decode cX7_covers 109 = .ok (.iload_n 2, 1) := by decide +kernel
theorem dX7_covers_110 : decode cX7_covers 110 = .ok (.ireturn, 1) := by decide +kernel
theorem dX7_oneDay_0 : decode cX7_oneDay 0 = .ok (.aload_n 0, 1) := by decide +kernel
theorem dX7_oneDay_1 : decode cX7_oneDay 1 = .ok (.getfield 7, 3) := by decide +kernel
theorem dX7_oneDay_4 : decode cX7_oneDay 4 = .ok (.iconst 0, 1) := by decide +kernel
theorem dX7_oneDay_5 : decode cX7_oneDay 5 = .ok (.dup2, 1) := by decide +kernel
theorem dX7_oneDay_6 : decode cX7_oneDay 6 = .ok (.iaload, 1) := by decide +kernel
theorem dX7_oneDay_7 : decode cX7_oneDay 7 = .ok (.iconst 1, 1) := by decide +kernel
theorem dX7_oneDay_8 : decode cX7_oneDay 8 = .ok (.iadd, 1) := by decide +kernel
theorem dX7_oneDay_9 : decode cX7_oneDay 9 = .ok (.iastore, 1) := by decide +kernel
theorem dX7_oneDay_10 : decode cX7_oneDay 10 = .ok (.iconst 0, 1) := by decide +kernel
theorem dX7_oneDay_11 : decode cX7_oneDay 11 = .ok (.istore_n 1, 1) := by decide +kernel
theorem dX7_oneDay_12 : decode cX7_oneDay 12 = .ok (.iconst 0, 1) := by decide +kernel
theorem dX7_oneDay_13 : decode cX7_oneDay 13 = .ok (.istore_n 2, 1) := by decide +kernel
theorem dX7_oneDay_14 : decode cX7_oneDay 14 = .ok (.iload_n 2, 1) := by decide +kernel
theorem dX7_oneDay_15 : decode cX7_oneDay 15 = .ok (.aload_n 0, 1) := by decide +kernel
theorem dX7_oneDay_16 : decode cX7_oneDay 16 = .ok (.getfield 7, 3) := by decide +kernel
theorem dX7_oneDay_19 : decode cX7_oneDay 19 = .ok (.iconst 1, 1) := by decide +kernel
theorem dX7_oneDay_20 : decode cX7_oneDay 20 = .ok (.iaload, 1) := by decide +kernel
theorem dX7_oneDay_21 : decode cX7_oneDay 21 = .ok (.if_icmp .ge 29, 3) := by decide +kernel
theorem dX7_oneDay_24 : decode cX7_oneDay 24 = .ok (.iload_n 1, 1) := by decide +kernel
theorem dX7_oneDay_25 : decode cX7_oneDay 25 = .ok (.aload_n 0, 1) := by decide +kernel
theorem dX7_oneDay_26 : decode cX7_oneDay 26 = .ok (.iload_n 2, 1) := by decide +kernel
theorem dX7_oneDay_27 : decode cX7_oneDay 27 = .ok (.invokevirtual 49, 3) := by decide +kernel
theorem dX7_oneDay_30 : decode cX7_oneDay 30 = .ok (.ifCond .ne 11, 3) := by decide +kernel
theorem dX7_oneDay_33 : decode cX7_oneDay 33 = .ok (.aload_n 0, 1) := by decide +kernel
theorem dX7_oneDay_34 : decode cX7_oneDay 34 = .ok (.iload_n 2, 1) := by decide +kernel
theorem dX7_oneDay_35 : decode cX7_oneDay 35 = .ok (.invokevirtual 118, 3) := by decide +kernel
theorem dX7_oneDay_38 : decode cX7_oneDay 38 = .ok (.goto 4, 3) := by decide +kernel
theorem dX7_oneDay_41 : decode cX7_oneDay 41 = .ok (.iconst 0, 1) := by decide +kernel
theorem dX7_oneDay_42 : decode cX7_oneDay 42 = .ok (.iadd, 1) := by decide +kernel
theorem dX7_oneDay_43 : decode cX7_oneDay 43 = .ok (.istore_n 1, 1) := by decide +kernel
theorem dX7_oneDay_44 : decode cX7_oneDay 44 = .ok (.iinc 2 1, 3) := by decide +kernel
theorem dX7_oneDay_47 : decode cX7_oneDay 47 = .ok (.goto (-33), 3) := by decide +kernel
theorem dX7_oneDay_50 : decode cX7_oneDay 50 = .ok (.iconst 0, 1) := by decide +kernel
theorem dX7_oneDay_51 : decode cX7_oneDay 51 = .ok (.istore_n 2, 1) := by decide +kernel
theorem dX7_oneDay_52 : decode cX7_oneDay 52 = .ok (.iload_n 2, 1) := by decide +kernel
theorem dX7_oneDay_53 : decode cX7_oneDay 53 = .ok (.aload_n 0, 1) := by decide +kernel
theorem dX7_oneDay_54 : decode cX7_oneDay 54 = .ok (.getfield 7, 3) := by decide +kernel
theorem dX7_oneDay_57 : decode cX7_oneDay 57 = .ok (.iconst 1, 1) := by decide +kernel
theorem dX7_oneDay_58 : decode cX7_oneDay 58 = .ok (.iaload, 1) := by decide +kernel
theorem dX7_oneDay_59 : decode cX7_oneDay 59 = .ok (.if_icmp .ge 29, 3) := by decide +kernel
theorem dX7_oneDay_62 : decode cX7_oneDay 62 = .ok (.aload_n 0, 1) := by decide +kernel
theorem dX7_oneDay_63 : decode cX7_oneDay 63 = .ok (.iload_n 2, 1) := by decide +kernel
theorem dX7_oneDay_64 : decode cX7_oneDay 64 = .ok (.invokevirtual 49, 3) := by decide +kernel
theorem dX7_oneDay_67 : decode cX7_oneDay 67 = .ok (.aload_n 0, 1) := by decide +kernel
theorem dX7_oneDay_68 : decode cX7_oneDay 68 = .ok (.getfield 7, 3) := by decide +kernel
theorem dX7_oneDay_71 : decode cX7_oneDay 71 = .ok (.iconst 3, 1) := by decide +kernel
theorem dX7_oneDay_72 : decode cX7_oneDay 72 = .ok (.iaload, 1) := by decide +kernel
theorem dX7_oneDay_73 : decode cX7_oneDay 73 = .ok (.if_icmp .ne 9, 3) := by decide +kernel
theorem dX7_oneDay_76 : decode cX7_oneDay 76 = .ok (.aload_n 0, 1) := by decide +kernel
theorem dX7_oneDay_77 : decode cX7_oneDay 77 = .ok (.iload_n 2, 1) := by decide +kernel
theorem dX7_oneDay_78 : decode cX7_oneDay 78 = .ok (.invokevirtual 121, 3) := by decide +kernel
theorem dX7_oneDay_81 : decode cX7_oneDay 81 = .ok (.pop, 1) := by decide +kernel
theorem dX7_oneDay_82 : decode cX7_oneDay 82 = .ok (.iinc 2 1, 3) := by decide +kernel
theorem dX7_oneDay_85 : decode cX7_oneDay 85 = .ok (.goto (-33), 3) := by decide +kernel
theorem dX7_oneDay_88 : decode cX7_oneDay 88 = .ok (.iconst 0, 1) := by decide +kernel
theorem dX7_oneDay_89 : decode cX7_oneDay 89 = .ok (.istore_n 2, 1) := by decide +kernel
theorem dX7_oneDay_90 : decode cX7_oneDay 90 = .ok (.iload_n 2, 1) := by decide +kernel
theorem dX7_oneDay_91 : decode cX7_oneDay 91 = .ok (.aload_n 0, 1) := by decide +kernel
theorem dX7_oneDay_92 : decode cX7_oneDay 92 = .ok (.getfield 7, 3) := by decide +kernel
theorem dX7_oneDay_95 : decode cX7_oneDay 95 = .ok (.iconst 1, 1) := by decide +kernel
theorem dX7_oneDay_96 : decode cX7_oneDay 96 = .ok (.iaload, 1) := by decide +kernel
theorem dX7_oneDay_97 : decode cX7_oneDay 97 = .ok (.if_icmp .ge 14, 3) := by decide +kernel
theorem dX7_oneDay_100 : decode cX7_oneDay 100 = .ok (.aload_n 0, 1) := by decide +kernel
theorem dX7_oneDay_101 : decode cX7_oneDay 101 = .ok (.iload_n 2, 1) := by decide +kernel
theorem dX7_oneDay_102 : decode cX7_oneDay 102 = .ok (.invokevirtual 111, 3) := by decide +kernel
theorem dX7_oneDay_105 : decode cX7_oneDay 105 = .ok (.iinc 2 1, 3) := by decide +kernel
theorem dX7_oneDay_108 : decode cX7_oneDay 108 = .ok (.goto (-18), 3) := by decide +kernel
theorem dX7_oneDay_111 : decode cX7_oneDay 111 = .ok (.iload_n 1, 1) := by decide +kernel
theorem dX7_oneDay_112 : decode cX7_oneDay 112 = .ok (.ireturn, 1) := by decide +kernel
theorem dX7_addDate_0 : decode cX7_addDate 0 = .ok (.iload_n 1, 1) := by decide +kernel
theorem dX7_addDate_1 : decode cX7_addDate 1 = .ok (.aload_n 0, 1) := by decide +kernel
theorem dX7_addDate_2 : decode cX7_addDate 2 = .ok (.getfield 7, 3) := by decide +kernel
theorem dX7_addDate_5 : decode cX7_addDate 5 = .ok (.iconst 0, 1) := by decide +kernel
theorem dX7_addDate_6 : decode cX7_addDate 6 = .ok (.iaload, 1) := by decide +kernel
theorem dX7_addDate_7 : decode cX7_addDate 7 = .ok (.iconst 1, 1) := by decide +kernel
theorem dX7_addDate_8 : decode cX7_addDate 8 = .ok (.iadd, 1) := by decide +kernel
theorem dX7_addDate_9 : decode cX7_addDate 9 = .ok (.sipush 999, 3) := by decide +kernel
theorem dX7_addDate_12 : decode cX7_addDate 12 = .ok (.invokestatic 35, 3) := by decide +kernel
theorem dX7_addDate_15 : decode cX7_addDate 15 = .ok (.ifCond .eq 44, 3) := by decide +kernel
theorem dX7_addDate_18 : decode cX7_addDate 18 = .ok (.iload_n 2, 1) := by decide +kernel
theorem dX7_addDate_19 : decode cX7_addDate 19 = .ok (.iconst 1, 1) := by decide +kernel
theorem dX7_addDate_20 : decode cX7_addDate 20 = .ok (.bipush 20, 2) := by decide +kernel
theorem dX7_addDate_22 : decode cX7_addDate 22 = .ok (.invokestatic 35, 3) := by decide +kernel
theorem dX7_addDate_25 : decode cX7_addDate 25 = .ok (.ifCond .eq 34, 3) := by decide +kernel
theorem dX7_addDate_28 : decode cX7_addDate 28 = .ok (.iload_n 3, 1) := by decide +kernel
theorem dX7_addDate_29 : decode cX7_addDate 29 = .ok (.iconst 0, 1) := by decide +kernel
theorem dX7_addDate_30 : decode cX7_addDate 30 = .ok (.iconst 5, 1) := by decide +kernel
theorem dX7_addDate_31 : decode cX7_addDate 31 = .ok (.invokestatic 35, 3) := by decide +kernel
theorem dX7_addDate_34 : decode cX7_addDate 34 = .ok (.ifCond .eq 25, 3) := by decide +kernel
theorem dX7_addDate_37 : decode cX7_addDate 37 = .ok (.iload 4, 2) := by decide +kernel
theorem dX7_addDate_39 : decode cX7_addDate 39 = .ok (.iconst 1, 1) := by decide +kernel
theorem dX7_addDate_40 : decode cX7_addDate 40 = .ok (.sipush 9999, 3) := by decide +kernel
theorem dX7_addDate_43 : decode cX7_addDate 43 = .ok (.invokestatic 35, 3) := by decide +kernel
theorem dX7_addDate_46 : decode cX7_addDate 46 = .ok (.ifCond .eq 13, 3) := by decide +kernel
theorem dX7_addDate_49 : decode cX7_addDate 49 = .ok (.iload 5, 2) := by decide +kernel
theorem dX7_addDate_51 : decode cX7_addDate 51 = .ok (.iconst 0, 1) := by decide +kernel
theorem dX7_addDate_52 : decode cX7_addDate 52 = .ok (.iconst 2, 1) := by decide +kernel
theorem dX7_addDate_53 : decode cX7_addDate 53 = .ok (.invokestatic 35, 3) := by decide +kernel
theorem dX7_addDate_56 : decode cX7_addDate 56 = .ok (.ifCond .ne 6, 3) := by decide +kernel
theorem dX7_addDate_59 : decode cX7_addDate 59 = .ok (.bipush (-2), 2) := by decide +kernel
theorem dX7_addDate_61 : decode cX7_addDate 61 = .ok (.ireturn, 1) := by decide +kernel
theorem dX7_addDate_62 : decode cX7_addDate 62 = .ok (.aload_n 0, 1) := by decide +kernel
theorem dX7_addDate_63 : decode cX7_addDate 63 = .ok (.getfield 7, 3) := by decide +kernel
theorem dX7_addDate_66 : decode cX7_addDate 66 = .ok (.iconst 1, 1) := by decide +kernel
theorem dX7_addDate_67 : decode cX7_addDate 67 = .ok (.iaload, 1) := by decide +kernel
theorem dX7_addDate_68 : decode cX7_addDate 68 = .ok (.bipush 10, 2) := by decide +kernel
theorem dX7_addDate_70 : decode cX7_addDate 70 = .ok (.if_icmp .ne 6, 3) := by decide +kernel
theorem dX7_addDate_73 : decode cX7_addDate 73 = .ok (.bipush (-3), 2) := by decide +kernel
theorem dX7_addDate_75 : decode cX7_addDate 75 = .ok (.ireturn, 1) := by decide +kernel
theorem dX7_addDate_76 : decode cX7_addDate 76 = .ok (.aload_n 0, 1) := by decide +kernel
theorem dX7_addDate_77 : decode cX7_addDate 77 = .ok (.invokevirtual 124, 3) := by decide +kernel
theorem dX7_addDate_80 : decode cX7_addDate 80 = .ok (.aload_n 0, 1) := by decide +kernel
theorem dX7_addDate_81 : decode cX7_addDate 81 = .ok (.getfield 7, 3) := by decide +kernel
theorem dX7_addDate_84 : decode cX7_addDate 84 = .ok (.iconst 1, 1) := by decide +kernel
theorem dX7_addDate_85 : decode cX7_addDate 85 = .ok (.iaload, 1) := by decide +kernel
theorem dX7_addDate_86 : decode cX7_addDate 86 = .ok (.istore 6, 2) := by decide +kernel
theorem dX7_addDate_88 : decode cX7_addDate 88 = .ok (.aload_n 0, 1) := by decide +kernel
theorem dX7_addDate_89 : decode cX7_addDate 89 = .ok (.getfield 7, 3) := by decide +kernel
theorem dX7_addDate_92 : decode cX7_addDate 92 = .ok (.iload 6, 2) := by decide +kernel
theorem dX7_addDate_94 : decode cX7_addDate 94 = .ok (.iconst 0, 1) := by decide +kernel
theorem dX7_addDate_95 : decode cX7_addDate 95 = .ok (.invokestatic 39, 3) := by decide +kernel
theorem dX7_addDate_98 : decode cX7_addDate 98 = .ok (.iload_n 1, 1) := by decide +kernel
theorem dX7_addDate_99 : decode cX7_addDate 99 = .ok (.iastore, 1) := by decide +kernel
theorem dX7_addDate_100 : decode cX7_addDate 100 = .ok (.aload_n 0, 1) := by decide +kernel
theorem dX7_addDate_101 : decode cX7_addDate 101 = .ok (.getfield 7, 3) := by decide +kernel
theorem dX7_addDate_104 : decode cX7_addDate 104 = .ok (.iload 6, 2) := by decide +kernel
theorem dX7_addDate_106 : decode cX7_addDate 106 = .ok (.iconst 1, 1) := by decide +kernel
theorem dX7_addDate_107 : decode cX7_addDate 107 = .ok (.invokestatic 39, 3) := by decide +kernel
theorem dX7_addDate_110 : decode cX7_addDate 110 = .ok (.iload_n 2, 1) := by decide +kernel
theorem dX7_addDate_111 : decode cX7_addDate 111 = .ok (.iastore, 1) := by decide +kernel
theorem dX7_addDate_112 : decode cX7_addDate 112 = .ok (.aload_n 0, 1) := by decide +kernel
theorem dX7_addDate_113 : decode cX7_addDate 113 = .ok (.getfield 7, 3) := by decide +kernel
theorem dX7_addDate_116 : decode cX7_addDate 116 = .ok (.iload 6, 2) := by decide +kernel
theorem dX7_addDate_118 : decode cX7_addDate 118 = .ok (.iconst 2, 1) := by decide +kernel
theorem dX7_addDate_119 : decode cX7_addDate 119 = .ok (.invokestatic 39, 3) := by decide +kernel
theorem dX7_addDate_122 : decode cX7_addDate 122 = .ok (.iload_n 3, 1) := by decide +kernel
theorem dX7_addDate_123 : decode cX7_addDate 123 = .ok (.iastore, 1) := by decide +kernel
theorem dX7_addDate_124 : decode cX7_addDate 124 = .ok (.aload_n 0, 1) := by decide +kernel
theorem dX7_addDate_125 : decode cX7_addDate 125 = .ok (.getfield 7, 3) := by decide +kernel
theorem dX7_addDate_128 : decode cX7_addDate 128 = .ok (.iload 6, 2) := by decide +kernel
theorem dX7_addDate_130 : decode cX7_addDate 130 = .ok (.iconst 3, 1) := by decide +kernel
theorem dX7_addDate_131 : decode cX7_addDate 131 = .ok (.invokestatic 39, 3) := by decide +kernel
theorem dX7_addDate_134 : decode cX7_addDate 134 = .ok (.iload 4, 2) := by decide +kernel
theorem dX7_addDate_136 : decode cX7_addDate 136 = .ok (.iastore, 1) := by decide +kernel
theorem dX7_addDate_137 : decode cX7_addDate 137 = .ok (.aload_n 0, 1) := by decide +kernel
theorem dX7_addDate_138 : decode cX7_addDate 138 = .ok (.getfield 7, 3) := by decide +kernel
theorem dX7_addDate_141 : decode cX7_addDate 141 = .ok (.iload 6, 2) := by decide +kernel
theorem dX7_addDate_143 : decode cX7_addDate 143 = .ok (.iconst 4, 1) := by decide +kernel
theorem dX7_addDate_144 : decode cX7_addDate 144 = .ok (.invokestatic 39, 3) := by decide +kernel
theorem dX7_addDate_147 : decode cX7_addDate 147 = .ok (.iload 5, 2) := by decide +kernel
theorem dX7_addDate_149 : decode cX7_addDate 149 = .ok (.iastore, 1) := by decide +kernel
theorem dX7_addDate_150 : decode cX7_addDate 150 = .ok (.aload_n 0, 1) := by decide +kernel
theorem dX7_addDate_151 : decode cX7_addDate 151 = .ok (.getfield 7, 3) := by decide +kernel
theorem dX7_addDate_154 : decode cX7_addDate 154 = .ok (.iload 6, 2) := by decide +kernel
theorem dX7_addDate_156 : decode cX7_addDate 156 = .ok (.iconst 5, 1) := by decide +kernel
theorem dX7_addDate_157 : decode cX7_addDate 157 = .ok (.invokestatic 39, 3) := by decide +kernel
theorem dX7_addDate_160 : decode cX7_addDate 160 = .ok (.iconst 0, 1) := by decide +kernel
theorem dX7_addDate_161 : decode cX7_addDate 161 = .ok (.iastore, 1) := by decide +kernel
theorem dX7_addDate_162 : decode cX7_addDate 162 = .ok (.aload_n 0, 1) := by decide +kernel
theorem dX7_addDate_163 : decode cX7_addDate 163 = .ok (.getfield 7, 3) := by decide +kernel
theorem dX7_addDate_166 : decode cX7_addDate 166 = .ok (.iconst 1, 1) := by decide +kernel
theorem dX7_addDate_167 : decode cX7_addDate 167 = .ok (.dup2, 1) := by decide +kernel
theorem dX7_addDate_168 : decode cX7_addDate 168 = .ok (.iaload, 1) := by decide +kernel
theorem dX7_addDate_169 : decode cX7_addDate 169 = .ok (.iconst 1, 1) := by decide +kernel
theorem dX7_addDate_170 : decode cX7_addDate 170 = .ok (.iadd, 1) := by decide +kernel
theorem dX7_addDate_171 : decode cX7_addDate 171 = .ok (.iastore, 1) := by decide +kernel
theorem dX7_addDate_172 : decode cX7_addDate 172 = .ok (.iload 6, 2) := by decide +kernel
theorem dX7_addDate_174 : decode cX7_addDate 174 = .ok (.ireturn, 1) := by decide +kernel
theorem dX7_setStage_0 : decode cX7_setStage 0 = .ok (.iload_n 1, 1) := by decide +kernel
theorem dX7_setStage_1 : decode cX7_setStage 1 = .ok (.iconst 0, 1) := by decide +kernel
theorem dX7_setStage_2 : decode cX7_setStage 2 = .ok (.iconst 3, 1) := by decide +kernel
theorem dX7_setStage_3 : decode cX7_setStage 3 = .ok (.invokestatic 35, 3) := by decide +kernel
theorem dX7_setStage_6 : decode cX7_setStage 6 = .ok (.ifCond .ne 5, 3) := by decide +kernel
theorem dX7_setStage_9 : decode cX7_setStage 9 = .ok (.iconst (-1), 1) := by decide +kernel
theorem dX7_setStage_10 : decode cX7_setStage 10 = .ok (.ireturn, 1) := by decide +kernel
theorem dX7_setStage_11 : decode cX7_setStage 11 = .ok (.bipush 9, 2) := by decide +kernel
theorem dX7_setStage_13 : decode cX7_setStage 13 = .ok (.iconst 2, 1) := by decide +kernel
theorem dX7_setStage_14 : decode cX7_setStage 14 = .ok (.iload_n 1, 1) := by decide +kernel
theorem dX7_setStage_15 : decode cX7_setStage 15 = .ok (.imul, 1) := by decide +kernel
theorem dX7_setStage_16 : decode cX7_setStage 16 = .ok (.iadd, 1) := by decide +kernel
theorem dX7_setStage_17 : decode cX7_setStage 17 = .ok (.istore 4, 2) := by decide +kernel
theorem dX7_setStage_19 : decode cX7_setStage 19 = .ok (.iload_n 1, 1) := by decide +kernel
theorem dX7_setStage_20 : decode cX7_setStage 20 = .ok (.iconst 3, 1) := by decide +kernel
theorem dX7_setStage_21 : decode cX7_setStage 21 = .ok (.if_icmp .ne 7, 3) := by decide +kernel
theorem dX7_setStage_24 : decode cX7_setStage 24 = .ok (.iconst 0, 1) := by decide +kernel
theorem dX7_setStage_25 : decode cX7_setStage 25 = .ok (.goto 14, 3) := by decide +kernel
theorem dX7_setStage_28 : decode cX7_setStage 28 = .ok (.aload_n 0, 1) := by decide +kernel
theorem dX7_setStage_29 : decode cX7_setStage 29 = .ok (.getfield 7, 3) := by decide +kernel
theorem dX7_setStage_32 : decode cX7_setStage 32 = .ok (.iload 4, 2) := by decide +kernel
theorem dX7_setStage_34 : decode cX7_setStage 34 = .ok (.iconst 2, 1) := by decide +kernel
theorem dX7_setStage_35 : decode cX7_setStage 35 = .ok (.iadd, 1) := by decide +kernel
theorem dX7_setStage_36 : decode cX7_setStage 36 = .ok (.iaload, 1) := by decide +kernel
theorem dX7_setStage_37 : decode cX7_setStage 37 = .ok (.iconst 1, 1) := by decide +kernel
theorem dX7_setStage_38 : decode cX7_setStage 38 = .ok (.iadd, 1) := by decide +kernel
theorem dX7_setStage_39 : decode cX7_setStage 39 = .ok (.istore 5, 2) := by decide +kernel
theorem dX7_setStage_41 : decode cX7_setStage 41 = .ok (.iload_n 1, 1) := by decide +kernel
theorem dX7_setStage_42 : decode cX7_setStage 42 = .ok (.iconst 3, 1) := by decide +kernel
theorem dX7_setStage_43 : decode cX7_setStage 43 = .ok (.if_icmp .ne 7, 3) := by decide +kernel
theorem dX7_setStage_46 : decode cX7_setStage 46 = .ok (.iconst 0, 1) := by decide +kernel
theorem dX7_setStage_47 : decode cX7_setStage 47 = .ok (.goto 23, 3) := by decide +kernel
theorem dX7_setStage_50 : decode cX7_setStage 50 = .ok (.iload_n 1, 1) := by decide +kernel
theorem dX7_setStage_51 : decode cX7_setStage 51 = .ok (.ifCond .ne 8, 3) := by decide +kernel
theorem dX7_setStage_54 : decode cX7_setStage 54 = .ok (.bipush 99, 2) := by decide +kernel
theorem dX7_setStage_56 : decode cX7_setStage 56 = .ok (.goto 14, 3) := by decide +kernel
theorem dX7_setStage_59 : decode cX7_setStage 59 = .ok (.aload_n 0, 1) := by decide +kernel
theorem dX7_setStage_60 : decode cX7_setStage 60 = .ok (.getfield 7, 3) := by decide +kernel
theorem dX7_setStage_63 : decode cX7_setStage 63 = .ok (.iload 4, 2) := by decide +kernel
theorem dX7_setStage_65 : decode cX7_setStage 65 = .ok (.iconst 2, 1) := by decide +kernel
theorem dX7_setStage_66 : decode cX7_setStage 66 = .ok (.isub, 1) := by decide +kernel
theorem dX7_setStage_67 : decode cX7_setStage 67 = .ok (.iaload, 1) := by decide +kernel
theorem dX7_setStage_68 : decode cX7_setStage 68 = .ok (.iconst 1, 1) := by decide +kernel
theorem dX7_setStage_69 : decode cX7_setStage 69 = .ok (.isub, 1) := by decide +kernel
theorem dX7_setStage_70 : decode cX7_setStage 70 = .ok (.istore 6, 2) := by decide +kernel
theorem dX7_setStage_72 : decode cX7_setStage 72 = .ok (.iload_n 2, 1) := by decide +kernel
theorem dX7_setStage_73 : decode cX7_setStage 73 = .ok (.iload 5, 2) := by decide +kernel
theorem dX7_setStage_75 : decode cX7_setStage 75 = .ok (.iload 6, 2) := by decide +kernel
theorem dX7_setStage_77 : decode cX7_setStage 77 = .ok (.invokestatic 35, 3) := by decide +kernel
theorem dX7_setStage_80 : decode cX7_setStage 80 = .ok (.ifCond .eq 13, 3) := by decide +kernel
theorem dX7_setStage_83 : decode cX7_setStage 83 = .ok (.iload_n 3, 1) := by decide +kernel
theorem dX7_setStage_84 : decode cX7_setStage 84 = .ok (.iconst 0, 1) := by decide +kernel
theorem dX7_setStage_85 : decode cX7_setStage 85 = .ok (.bipush 100, 2) := by decide +kernel
theorem dX7_setStage_87 : decode cX7_setStage 87 = .ok (.invokestatic 35, 3) := by decide +kernel
theorem dX7_setStage_90 : decode cX7_setStage 90 = .ok (.ifCond .ne 6, 3) := by decide +kernel
theorem dX7_setStage_93 : decode cX7_setStage 93 = .ok (.bipush (-2), 2) := by decide +kernel
theorem dX7_setStage_95 : decode cX7_setStage 95 = .ok (.ireturn, 1) := by decide +kernel
theorem dX7_setStage_96 : decode cX7_setStage 96 = .ok (.aload_n 0, 1) := by decide +kernel
theorem dX7_setStage_97 : decode cX7_setStage 97 = .ok (.getfield 7, 3) := by decide +kernel
theorem dX7_setStage_100 : decode cX7_setStage 100 = .ok (.iload 4, 2) := by decide +kernel
theorem dX7_setStage_102 : decode cX7_setStage 102 = .ok (.iconst 1, 1) := by decide +kernel
theorem dX7_setStage_103 : decode cX7_setStage 103 = .ok (.iadd, 1) := by decide +kernel
theorem dX7_setStage_104 : decode cX7_setStage 104 = .ok (.iaload, 1) := by decide +kernel
theorem dX7_setStage_105 : decode cX7_setStage 105 = .ok (.istore 7, 2) := by decide +kernel
theorem dX7_setStage_107 : decode cX7_setStage 107 = .ok (.aload_n 0, 1) := by decide +kernel
theorem dX7_setStage_108 : decode cX7_setStage 108 = .ok (.getfield 7, 3) := by decide +kernel
theorem dX7_setStage_111 : decode cX7_setStage 111 = .ok (.iload 4, 2) := by decide +kernel
theorem dX7_setStage_113 : decode cX7_setStage 113 = .ok (.iaload, 1) := by decide +kernel
theorem dX7_setStage_114 : decode cX7_setStage 114 = .ok (.iload_n 2, 1) := by decide +kernel
theorem dX7_setStage_115 : decode cX7_setStage 115 = .ok (.if_icmp .ne 12, 3) := by decide +kernel
theorem dX7_setStage_118 : decode cX7_setStage 118 = .ok (.iload 7, 2) := by decide +kernel
theorem dX7_setStage_120 : decode cX7_setStage 120 = .ok (.iload_n 3, 1) := by decide +kernel
theorem dX7_setStage_121 : decode cX7_setStage 121 = .ok (.if_icmp .ne 6, 3) := by decide +kernel
theorem dX7_setStage_124 : decode cX7_setStage 124 = .ok (.bipush (-5), 2) := by decide +kernel
theorem dX7_setStage_126 : decode cX7_setStage 126 = .ok (.ireturn, 1) := by decide +kernel
theorem dX7_setStage_127 : decode cX7_setStage 127 = .ok (.aload_n 0, 1) := by decide +kernel
theorem dX7_setStage_128 : decode cX7_setStage 128 = .ok (.invokevirtual 124, 3) := by decide +kernel
theorem dX7_setStage_131 : decode cX7_setStage 131 = .ok (.aload_n 0, 1) := by decide +kernel
theorem dX7_setStage_132 : decode cX7_setStage 132 = .ok (.getfield 7, 3) := by decide +kernel
theorem dX7_setStage_135 : decode cX7_setStage 135 = .ok (.iload 4, 2) := by decide +kernel
theorem dX7_setStage_137 : decode cX7_setStage 137 = .ok (.iload_n 2, 1) := by decide +kernel
theorem dX7_setStage_138 : decode cX7_setStage 138 = .ok (.iastore, 1) := by decide +kernel
theorem dX7_setStage_139 : decode cX7_setStage 139 = .ok (.aload_n 0, 1) := by decide +kernel
theorem dX7_setStage_140 : decode cX7_setStage 140 = .ok (.getfield 7, 3) := by decide +kernel
theorem dX7_setStage_143 : decode cX7_setStage 143 = .ok (.iload 4, 2) := by decide +kernel
theorem dX7_setStage_145 : decode cX7_setStage 145 = .ok (.iconst 1, 1) := by decide +kernel
theorem dX7_setStage_146 : decode cX7_setStage 146 = .ok (.iadd, 1) := by decide +kernel
theorem dX7_setStage_147 : decode cX7_setStage 147 = .ok (.iload_n 3, 1) := by decide +kernel
theorem dX7_setStage_148 : decode cX7_setStage 148 = .ok (.iastore, 1) := by decide +kernel
theorem dX7_setStage_149 : decode cX7_setStage 149 = .ok (.iload 7, 2) := by decide +kernel
theorem dX7_setStage_151 : decode cX7_setStage 151 = .ok (.ireturn, 1) := by decide +kernel
theorem dX7_set_0 : decode cX7_set 0 = .ok (.iload_n 1, 1) := by decide +kernel
theorem dX7_set_1 : decode cX7_set 1 = .ok (.iconst 0, 1) := by decide +kernel
theorem dX7_set_2 : decode cX7_set 2 = .ok (.iconst 3, 1) := by decide +kernel
theorem dX7_set_3 : decode cX7_set 3 = .ok (.invokestatic 35, 3) := by decide +kernel
theorem dX7_set_6 : decode cX7_set 6 = .ok (.ifCond .eq 22, 3) := by decide +kernel
theorem dX7_set_9 : decode cX7_set 9 = .ok (.iload_n 2, 1) := by decide +kernel
theorem dX7_set_10 : decode cX7_set 10 = .ok (.aload_n 0, 1) := by decide +kernel
theorem dX7_set_11 : decode cX7_set 11 = .ok (.getfield 25, 3) := by decide +kernel
theorem dX7_set_14 : decode cX7_set 14 = .ok (.iload_n 1, 1) := by decide +kernel
theorem dX7_set_15 : decode cX7_set 15 = .ok (.iaload, 1) := by decide +kernel
theorem dX7_set_16 : decode cX7_set 16 = .ok (.aload_n 0, 1) := by decide +kernel
theorem dX7_set_17 : decode cX7_set 17 = .ok (.getfield 28, 3) := by decide +kernel
theorem dX7_set_20 : decode cX7_set 20 = .ok (.iload_n 1, 1) := by decide +kernel
theorem dX7_set_21 : decode cX7_set 21 = .ok (.iaload, 1) := by decide +kernel
theorem dX7_set_22 : decode cX7_set 22 = .ok (.invokestatic 35, 3) := by decide +kernel
theorem dX7_set_25 : decode cX7_set 25 = .ok (.ifCond .ne 6, 3) := by decide +kernel
theorem dX7_set_28 : decode cX7_set 28 = .ok (.bipush (-2), 2) := by decide +kernel
theorem dX7_set_30 : decode cX7_set 30 = .ok (.ireturn, 1) := by decide +kernel
theorem dX7_set_31 : decode cX7_set 31 = .ok (.aload_n 0, 1) := by decide +kernel
theorem dX7_set_32 : decode cX7_set 32 = .ok (.getfield 7, 3) := by decide +kernel
theorem dX7_set_35 : decode cX7_set 35 = .ok (.iconst 3, 1) := by decide +kernel
theorem dX7_set_36 : decode cX7_set 36 = .ok (.iload_n 1, 1) := by decide +kernel
theorem dX7_set_37 : decode cX7_set 37 = .ok (.iadd, 1) := by decide +kernel
theorem dX7_set_38 : decode cX7_set 38 = .ok (.iaload, 1) := by decide +kernel
theorem dX7_set_39 : decode cX7_set 39 = .ok (.istore_n 3, 1) := by decide +kernel
theorem dX7_set_40 : decode cX7_set 40 = .ok (.iload_n 3, 1) := by decide +kernel
theorem dX7_set_41 : decode cX7_set 41 = .ok (.iload_n 2, 1) := by decide +kernel
theorem dX7_set_42 : decode cX7_set 42 = .ok (.if_icmp .ne 6, 3) := by decide +kernel
theorem dX7_set_45 : decode cX7_set 45 = .ok (.bipush (-5), 2) := by decide +kernel
theorem dX7_set_47 : decode cX7_set 47 = .ok (.ireturn, 1) := by decide +kernel
theorem dX7_set_48 : decode cX7_set 48 = .ok (.aload_n 0, 1) := by decide +kernel
theorem dX7_set_49 : decode cX7_set 49 = .ok (.invokevirtual 124, 3) := by decide +kernel
theorem dX7_set_52 : decode cX7_set 52 = .ok (.aload_n 0, 1) := by decide +kernel
theorem dX7_set_53 : decode cX7_set 53 = .ok (.getfield 7, 3) := by decide +kernel
theorem dX7_set_56 : decode cX7_set 56 = .ok (.iconst 3, 1) := by decide +kernel
theorem dX7_set_57 : decode cX7_set 57 = .ok (.iload_n 1, 1) := by decide +kernel
theorem dX7_set_58 : decode cX7_set 58 = .ok (.iadd, 1) := by decide +kernel
theorem dX7_set_59 : decode cX7_set 59 = .ok (.iload_n 2, 1) := by decide +kernel
theorem dX7_set_60 : decode cX7_set 60 = .ok (.iastore, 1) := by decide +kernel
theorem dX7_set_61 : decode cX7_set 61 = .ok (.iload_n 3, 1) := by decide +kernel
theorem dX7_set_62 : decode cX7_set 62 = .ok (.ireturn, 1) := by decide +kernel
theorem dX7_aside_0 : decode cX7_aside 0 = .ok (.iconst 0, 1) := by decide +kernel
theorem dX7_aside_1 : decode cX7_aside 1 = .ok (.istore_n 1, 1) := by decide +kernel
theorem dX7_aside_2 : decode cX7_aside 2 = .ok (.iload_n 1, 1) := by decide +kernel
theorem dX7_aside_3 : decode cX7_aside 3 = .ok (.sipush 607, 3) := by decide +kernel
theorem dX7_aside_6 : decode cX7_aside 6 = .ok (.if_icmp .ge 21, 3) := by decide +kernel
theorem dX7_aside_9 : decode cX7_aside 9 = .ok (.aload_n 0, 1) := by decide +kernel
theorem dX7_aside_10 : decode cX7_aside 10 = .ok (.getfield 13, 3) := by decide +kernel
theorem dX7_aside_13 : decode cX7_aside 13 = .ok (.iload_n 1, 1) := by decide +kernel
theorem dX7_aside_14 : decode cX7_aside 14 = .ok (.aload_n 0, 1) := by decide +kernel
theorem dX7_aside_15 : decode cX7_aside 15 = .ok (.getfield 7, 3) := by decide +kernel
theorem dX7_aside_18 : decode cX7_aside 18 = .ok (.iload_n 1, 1) := by decide +kernel
theorem dX7_aside_19 : decode cX7_aside 19 = .ok (.iaload, 1) := by decide +kernel
theorem dX7_aside_20 : decode cX7_aside 20 = .ok (.iastore, 1) := by decide +kernel
theorem dX7_aside_21 : decode cX7_aside 21 = .ok (.iinc 1 1, 3) := by decide +kernel
theorem dX7_aside_24 : decode cX7_aside 24 = .ok (.goto (-22), 3) := by decide +kernel
theorem dX7_aside_27 : decode cX7_aside 27 = .ok (.return_, 1) := by decide +kernel
theorem dX7_bringBack_0 : decode cX7_bringBack 0 = .ok (.iconst 0, 1) := by decide +kernel
theorem dX7_bringBack_1 : decode cX7_bringBack 1 = .ok (.istore_n 1, 1) := by decide +kernel
theorem dX7_bringBack_2 : decode cX7_bringBack 2 = .ok (.iload_n 1, 1) := by decide +kernel
theorem dX7_bringBack_3 : decode cX7_bringBack 3 = .ok (.sipush 607, 3) := by decide +kernel
theorem dX7_bringBack_6 : decode cX7_bringBack 6 = .ok (.if_icmp .ge 21, 3) := by decide +kernel
theorem dX7_bringBack_9 : decode cX7_bringBack 9 = .ok (.aload_n 0, 1) := by decide +kernel
theorem dX7_bringBack_10 : decode cX7_bringBack 10 = .ok (.getfield 7, 3) := by decide +kernel
theorem dX7_bringBack_13 : decode cX7_bringBack 13 = .ok (.iload_n 1, 1) := by decide +kernel
theorem dX7_bringBack_14 : decode cX7_bringBack 14 = .ok (.aload_n 0, 1) := by decide +kernel
theorem dX7_bringBack_15 : decode cX7_bringBack 15 = .ok (.getfield 13, 3) := by decide +kernel
theorem dX7_bringBack_18 : decode cX7_bringBack 18 = .ok (.iload_n 1, 1) := by decide +kernel
theorem dX7_bringBack_19 : decode cX7_bringBack 19 = .ok (.iaload, 1) := by decide +kernel
theorem dX7_bringBack_20 : decode cX7_bringBack 20 = .ok (.iastore, 1) := by decide +kernel
theorem dX7_bringBack_21 : decode cX7_bringBack 21 = .ok (.iinc 1 1, 3) := by decide +kernel
theorem dX7_bringBack_24 : decode cX7_bringBack 24 = .ok (.goto (-22), 3) := by decide +kernel
theorem dX7_bringBack_27 : decode cX7_bringBack 27 = .ok (.return_, 1) := by decide +kernel
theorem dX7_acted_0 : decode cX7_acted 0 = .ok (.iload_n 1, 1) := by decide +kernel
theorem dX7_acted_1 : decode cX7_acted 1 = .ok (.ifCond .lt 52, 3) := by decide +kernel
theorem dX7_acted_4 : decode cX7_acted 4 = .ok (.iconst 0, 1) := by decide +kernel
theorem dX7_acted_5 : decode cX7_acted 5 = .ok (.istore_n 2, 1) := by decide +kernel
theorem dX7_acted_6 : decode cX7_acted 6 = .ok (.iload_n 2, 1) := by decide +kernel
theorem dX7_acted_7 : decode cX7_acted 7 = .ok (.sipush 607, 3) := by decide +kernel
theorem dX7_acted_10 : decode cX7_acted 10 = .ok (.if_icmp .ge 35, 3) := by decide +kernel
theorem dX7_acted_13 : decode cX7_acted 13 = .ok (.aload_n 0, 1) := by decide +kernel
theorem dX7_acted_14 : decode cX7_acted 14 = .ok (.getfield 7, 3) := by decide +kernel
theorem dX7_acted_17 : decode cX7_acted 17 = .ok (.iload_n 2, 1) := by decide +kernel
theorem dX7_acted_18 : decode cX7_acted 18 = .ok (.iaload, 1) := by decide +kernel
theorem dX7_acted_19 : decode cX7_acted 19 = .ok (.istore_n 3, 1) := by decide +kernel
theorem dX7_acted_20 : decode cX7_acted 20 = .ok (.aload_n 0, 1) := by decide +kernel
theorem dX7_acted_21 : decode cX7_acted 21 = .ok (.getfield 7, 3) := by decide +kernel
theorem dX7_acted_24 : decode cX7_acted 24 = .ok (.iload_n 2, 1) := by decide +kernel
theorem dX7_acted_25 : decode cX7_acted 25 = .ok (.aload_n 0, 1) := by decide +kernel
theorem dX7_acted_26 : decode cX7_acted 26 = .ok (.getfield 13, 3) := by decide +kernel
theorem dX7_acted_29 : decode cX7_acted 29 = .ok (.iload_n 2, 1) := by decide +kernel
theorem dX7_acted_30 : decode cX7_acted 30 = .ok (.iaload, 1) := by decide +kernel
theorem dX7_acted_31 : decode cX7_acted 31 = .ok (.iastore, 1) := by decide +kernel
theorem dX7_acted_32 : decode cX7_acted 32 = .ok (.aload_n 0, 1) := by decide +kernel
theorem dX7_acted_33 : decode cX7_acted 33 = .ok (.getfield 13, 3) := by decide +kernel
theorem dX7_acted_36 : decode cX7_acted 36 = .ok (.iload_n 2, 1) := by decide +kernel
theorem dX7_acted_37 : decode cX7_acted 37 = .ok (.iload_n 3, 1) := by decide +kernel
theorem dX7_acted_38 : decode cX7_acted 38 = .ok (.iastore, 1) := by decide +kernel
theorem dX7_acted_39 : decode cX7_acted 39 = .ok (.iinc 2 1, 3) := by decide +kernel
theorem dX7_acted_42 : decode cX7_acted 42 = .ok (.goto (-36), 3) := by decide +kernel
theorem dX7_acted_45 : decode cX7_acted 45 = .ok (.aload_n 0, 1) := by decide +kernel
theorem dX7_acted_46 : decode cX7_acted 46 = .ok (.invokevirtual 124, 3) := by decide +kernel
theorem dX7_acted_49 : decode cX7_acted 49 = .ok (.aload_n 0, 1) := by decide +kernel
theorem dX7_acted_50 : decode cX7_acted 50 = .ok (.invokevirtual 127, 3) := by decide +kernel
theorem dX7_acted_53 : decode cX7_acted 53 = .ok (.iload_n 1, 1) := by decide +kernel
theorem dX7_acted_54 : decode cX7_acted 54 = .ok (.ireturn, 1) := by decide +kernel
theorem dX7_buy_0 : decode cX7_buy 0 = .ok (.aload_n 0, 1) := by decide +kernel
theorem dX7_buy_1 : decode cX7_buy 1 = .ok (.invokevirtual 130, 3) := by decide +kernel
theorem dX7_buy_4 : decode cX7_buy 4 = .ok (.aload_n 0, 1) := by decide +kernel
theorem dX7_buy_5 : decode cX7_buy 5 = .ok (.aload_n 0, 1) := by decide +kernel
theorem dX7_buy_6 : decode cX7_buy 6 = .ok (.iload_n 1, 1) := by decide +kernel
theorem dX7_buy_7 : decode cX7_buy 7 = .ok (.iload_n 2, 1) := by decide +kernel
theorem dX7_buy_8 : decode cX7_buy 8 = .ok (.invokevirtual 133, 3) := by decide +kernel
theorem dX7_buy_11 : decode cX7_buy 11 = .ok (.invokevirtual 136, 3) := by decide +kernel
theorem dX7_buy_14 : decode cX7_buy 14 = .ok (.ireturn, 1) := by decide +kernel
theorem dX7_buyOffered_0 : decode cX7_buyOffered 0 = .ok (.aload_n 0, 1) := by decide +kernel
theorem dX7_buyOffered_1 : decode cX7_buyOffered 1 = .ok (.invokevirtual 130, 3) := by decide +kernel
theorem dX7_buyOffered_4 : decode cX7_buyOffered 4 = .ok (.aload_n 0, 1) := by decide +kernel
theorem dX7_buyOffered_5 : decode cX7_buyOffered 5 = .ok (.aload_n 0, 1) := by decide +kernel
theorem dX7_buyOffered_6 : decode cX7_buyOffered 6 = .ok (.iload_n 1, 1) := by decide +kernel
theorem dX7_buyOffered_7 : decode cX7_buyOffered 7 = .ok (.iload_n 2, 1) := by decide +kernel
theorem dX7_buyOffered_8 : decode cX7_buyOffered 8 = .ok (.invokevirtual 139, 3) := by decide +kernel
theorem dX7_buyOffered_11 : decode cX7_buyOffered 11 = .ok (.invokevirtual 136, 3) := by decide +kernel
theorem dX7_buyOffered_14 : decode cX7_buyOffered 14 = .ok (.ireturn, 1) := by decide +kernel
theorem dX7_cancel_0 : decode cX7_cancel 0 = .ok (.aload_n 0, 1) := by decide +kernel
theorem dX7_cancel_1 : decode cX7_cancel 1 = .ok (.invokevirtual 130, 3) := by decide +kernel
theorem dX7_cancel_4 : decode cX7_cancel 4 = .ok (.aload_n 0, 1) := by decide +kernel
theorem dX7_cancel_5 : decode cX7_cancel 5 = .ok (.aload_n 0, 1) := by decide +kernel
theorem dX7_cancel_6 : decode cX7_cancel 6 = .ok (.iload_n 1, 1) := by decide +kernel
theorem dX7_cancel_7 : decode cX7_cancel 7 = .ok (.invokevirtual 142, 3) := by decide +kernel
theorem dX7_cancel_10 : decode cX7_cancel 10 = .ok (.invokevirtual 136, 3) := by decide +kernel
theorem dX7_cancel_13 : decode cX7_cancel 13 = .ok (.ireturn, 1) := by decide +kernel
theorem dX7_offer_0 : decode cX7_offer 0 = .ok (.aload_n 0, 1) := by decide +kernel
theorem dX7_offer_1 : decode cX7_offer 1 = .ok (.invokevirtual 130, 3) := by decide +kernel
theorem dX7_offer_4 : decode cX7_offer 4 = .ok (.aload_n 0, 1) := by decide +kernel
theorem dX7_offer_5 : decode cX7_offer 5 = .ok (.aload_n 0, 1) := by decide +kernel
theorem dX7_offer_6 : decode cX7_offer 6 = .ok (.iload_n 1, 1) := by decide +kernel
theorem dX7_offer_7 : decode cX7_offer 7 = .ok (.iload_n 2, 1) := by decide +kernel
theorem dX7_offer_8 : decode cX7_offer 8 = .ok (.invokevirtual 145, 3) := by decide +kernel
theorem dX7_offer_11 : decode cX7_offer 11 = .ok (.invokevirtual 136, 3) := by decide +kernel
theorem dX7_offer_14 : decode cX7_offer 14 = .ok (.ireturn, 1) := by decide +kernel
theorem dX7_takeBack_0 : decode cX7_takeBack 0 = .ok (.aload_n 0, 1) := by decide +kernel
theorem dX7_takeBack_1 : decode cX7_takeBack 1 = .ok (.iload_n 1, 1) := by decide +kernel
theorem dX7_takeBack_2 : decode cX7_takeBack 2 = .ok (.invokevirtual 102, 3) := by decide +kernel
theorem dX7_takeBack_5 : decode cX7_takeBack 5 = .ok (.ifCond .ne 5, 3) := by decide +kernel
theorem dX7_takeBack_8 : decode cX7_takeBack 8 = .ok (.iconst (-1), 1) := by decide +kernel
theorem dX7_takeBack_9 : decode cX7_takeBack 9 = .ok (.ireturn, 1) := by decide +kernel
theorem dX7_takeBack_10 : decode cX7_takeBack 10 = .ok (.aload_n 0, 1) := by decide +kernel
theorem dX7_takeBack_11 : decode cX7_takeBack 11 = .ok (.iload_n 1, 1) := by decide +kernel
theorem dX7_takeBack_12 : decode cX7_takeBack 12 = .ok (.iconst 3, 1) := by decide +kernel
theorem dX7_takeBack_13 : decode cX7_takeBack 13 = .ok (.invokevirtual 53, 3) := by decide +kernel
theorem dX7_takeBack_16 : decode cX7_takeBack 16 = .ok (.iconst 1, 1) := by decide +kernel
theorem dX7_takeBack_17 : decode cX7_takeBack 17 = .ok (.if_icmp .eq 6, 3) := by decide +kernel
theorem dX7_takeBack_20 : decode cX7_takeBack 20 = .ok (.bipush (-4), 2) := by decide +kernel
theorem dX7_takeBack_22 : decode cX7_takeBack 22 = .ok (.ireturn, 1) := by decide +kernel
theorem dX7_takeBack_23 : decode cX7_takeBack 23 = .ok (.aload_n 0, 1) := by decide +kernel
theorem dX7_takeBack_24 : decode cX7_takeBack 24 = .ok (.invokevirtual 124, 3) := by decide +kernel
theorem dX7_takeBack_27 : decode cX7_takeBack 27 = .ok (.aload_n 0, 1) := by decide +kernel
theorem dX7_takeBack_28 : decode cX7_takeBack 28 = .ok (.iload_n 1, 1) := by decide +kernel
theorem dX7_takeBack_29 : decode cX7_takeBack 29 = .ok (.iconst 4, 1) := by decide +kernel
theorem dX7_takeBack_30 : decode cX7_takeBack 30 = .ok (.invokevirtual 53, 3) := by decide +kernel
theorem dX7_takeBack_33 : decode cX7_takeBack 33 = .ok (.istore_n 2, 1) := by decide +kernel
theorem dX7_takeBack_34 : decode cX7_takeBack 34 = .ok (.aload_n 0, 1) := by decide +kernel
theorem dX7_takeBack_35 : decode cX7_takeBack 35 = .ok (.iload_n 1, 1) := by decide +kernel
theorem dX7_takeBack_36 : decode cX7_takeBack 36 = .ok (.iconst 0, 1) := by decide +kernel
theorem dX7_takeBack_37 : decode cX7_takeBack 37 = .ok (.invokevirtual 99, 3) := by decide +kernel
theorem dX7_takeBack_40 : decode cX7_takeBack 40 = .ok (.iload_n 2, 1) := by decide +kernel
theorem dX7_takeBack_41 : decode cX7_takeBack 41 = .ok (.ireturn, 1) := by decide +kernel
theorem dX7_exercise_0 : decode cX7_exercise 0 = .ok (.aload_n 0, 1) := by decide +kernel
theorem dX7_exercise_1 : decode cX7_exercise 1 = .ok (.invokevirtual 130, 3) := by decide +kernel
theorem dX7_exercise_4 : decode cX7_exercise 4 = .ok (.aload_n 0, 1) := by decide +kernel
theorem dX7_exercise_5 : decode cX7_exercise 5 = .ok (.aload_n 0, 1) := by decide +kernel
theorem dX7_exercise_6 : decode cX7_exercise 6 = .ok (.iload_n 1, 1) := by decide +kernel
theorem dX7_exercise_7 : decode cX7_exercise 7 = .ok (.invokevirtual 148, 3) := by decide +kernel
theorem dX7_exercise_10 : decode cX7_exercise 10 = .ok (.invokevirtual 136, 3) := by decide +kernel
theorem dX7_exercise_13 : decode cX7_exercise 13 = .ok (.ireturn, 1) := by decide +kernel
theorem dX7_placeOf_0 : decode cX7_placeOf 0 = .ok (.bipush (-5), 2) := by decide +kernel
theorem dX7_placeOf_2 : decode cX7_placeOf 2 = .ok (.istore_n 3, 1) := by decide +kernel
theorem dX7_placeOf_3 : decode cX7_placeOf 3 = .ok (.iconst 0, 1) := by decide +kernel
theorem dX7_placeOf_4 : decode cX7_placeOf 4 = .ok (.istore 4, 2) := by decide +kernel
theorem dX7_placeOf_6 : decode cX7_placeOf 6 = .ok (.iload 4, 2) := by decide +kernel
theorem dX7_placeOf_8 : decode cX7_placeOf 8 = .ok (.aload_n 0, 1) := by decide +kernel
theorem dX7_placeOf_9 : decode cX7_placeOf 9 = .ok (.iload_n 2, 1) := by decide +kernel
theorem dX7_placeOf_10 : decode cX7_placeOf 10 = .ok (.iconst 5, 1) := by decide +kernel
theorem dX7_placeOf_11 : decode cX7_placeOf 11 = .ok (.invokevirtual 46, 3) := by decide +kernel
theorem dX7_placeOf_14 : decode cX7_placeOf 14 = .ok (.if_icmp .ge 30, 3) := by decide +kernel
theorem dX7_placeOf_17 : decode cX7_placeOf 17 = .ok (.aload_n 0, 1) := by decide +kernel
theorem dX7_placeOf_18 : decode cX7_placeOf 18 = .ok (.iload_n 2, 1) := by decide +kernel
theorem dX7_placeOf_19 : decode cX7_placeOf 19 = .ok (.bipush 6, 2) := by decide +kernel
theorem dX7_placeOf_21 : decode cX7_placeOf 21 = .ok (.iload 4, 2) := by decide +kernel
theorem dX7_placeOf_23 : decode cX7_placeOf 23 = .ok (.iadd, 1) := by decide +kernel
theorem dX7_placeOf_24 : decode cX7_placeOf 24 = .ok (.invokevirtual 46, 3) := by decide +kernel
theorem dX7_placeOf_27 : decode cX7_placeOf 27 = .ok (.iload_n 1, 1) := by decide +kernel
theorem dX7_placeOf_28 : decode cX7_placeOf 28 = .ok (.if_icmp .ne 8, 3) := by decide +kernel
theorem dX7_placeOf_31 : decode cX7_placeOf 31 = .ok (.iload 4, 2) := by decide +kernel
theorem dX7_placeOf_33 : decode cX7_placeOf 33 = .ok (.goto 4, 3) := by decide +kernel
theorem dX7_placeOf_36 : decode cX7_placeOf 36 = .ok (.iload_n 3, 1) := by decide +kernel
theorem dX7_placeOf_37 : decode cX7_placeOf 37 = .ok (.istore_n 3, 1) := by decide +kernel
theorem dX7_placeOf_38 : decode cX7_placeOf 38 = .ok (.iinc 4 1, 3) := by decide +kernel
theorem dX7_placeOf_41 : decode cX7_placeOf 41 = .ok (.goto (-35), 3) := by decide +kernel
theorem dX7_placeOf_44 : decode cX7_placeOf 44 = .ok (.iload_n 3, 1) := by decide +kernel
theorem dX7_placeOf_45 : decode cX7_placeOf 45 = .ok (.ireturn, 1) := by decide +kernel
theorem dX7_await_0 : decode cX7_await 0 = .ok (.iload_n 1, 1) := by decide +kernel
theorem dX7_await_1 : decode cX7_await 1 = .ok (.invokestatic 90, 3) := by decide +kernel
theorem dX7_await_4 : decode cX7_await 4 = .ok (.ifCond .eq 11, 3) := by decide +kernel
theorem dX7_await_7 : decode cX7_await 7 = .ok (.aload_n 0, 1) := by decide +kernel
theorem dX7_await_8 : decode cX7_await 8 = .ok (.iload_n 2, 1) := by decide +kernel
theorem dX7_await_9 : decode cX7_await 9 = .ok (.invokevirtual 93, 3) := by decide +kernel
theorem dX7_await_12 : decode cX7_await 12 = .ok (.ifCond .ne 5, 3) := by decide +kernel
theorem dX7_await_15 : decode cX7_await 15 = .ok (.iconst (-1), 1) := by decide +kernel
theorem dX7_await_16 : decode cX7_await 16 = .ok (.ireturn, 1) := by decide +kernel
theorem dX7_await_17 : decode cX7_await 17 = .ok (.aload_n 0, 1) := by decide +kernel
theorem dX7_await_18 : decode cX7_await 18 = .ok (.iload_n 2, 1) := by decide +kernel
theorem dX7_await_19 : decode cX7_await 19 = .ok (.invokevirtual 63, 3) := by decide +kernel
theorem dX7_await_22 : decode cX7_await 22 = .ok (.ifCond .eq 12, 3) := by decide +kernel
theorem dX7_await_25 : decode cX7_await 25 = .ok (.aload_n 0, 1) := by decide +kernel
theorem dX7_await_26 : decode cX7_await 26 = .ok (.iload_n 1, 1) := by decide +kernel
theorem dX7_await_27 : decode cX7_await 27 = .ok (.iload_n 2, 1) := by decide +kernel
theorem dX7_await_28 : decode cX7_await 28 = .ok (.invokevirtual 151, 3) := by decide +kernel
theorem dX7_await_31 : decode cX7_await 31 = .ok (.ifCond .lt 6, 3) := by decide +kernel
theorem dX7_await_34 : decode cX7_await 34 = .ok (.bipush (-4), 2) := by decide +kernel
theorem dX7_await_36 : decode cX7_await 36 = .ok (.ireturn, 1) := by decide +kernel
theorem dX7_await_37 : decode cX7_await 37 = .ok (.aload_n 0, 1) := by decide +kernel
theorem dX7_await_38 : decode cX7_await 38 = .ok (.iload_n 2, 1) := by decide +kernel
theorem dX7_await_39 : decode cX7_await 39 = .ok (.iconst 5, 1) := by decide +kernel
theorem dX7_await_40 : decode cX7_await 40 = .ok (.invokevirtual 46, 3) := by decide +kernel
theorem dX7_await_43 : decode cX7_await 43 = .ok (.bipush 6, 2) := by decide +kernel
theorem dX7_await_45 : decode cX7_await 45 = .ok (.if_icmp .ne 6, 3) := by decide +kernel
theorem dX7_await_48 : decode cX7_await 48 = .ok (.bipush (-3), 2) := by decide +kernel
theorem dX7_await_50 : decode cX7_await 50 = .ok (.ireturn, 1) := by decide +kernel
theorem dX7_await_51 : decode cX7_await 51 = .ok (.aload_n 0, 1) := by decide +kernel
theorem dX7_await_52 : decode cX7_await 52 = .ok (.invokevirtual 124, 3) := by decide +kernel
theorem dX7_await_55 : decode cX7_await 55 = .ok (.aload_n 0, 1) := by decide +kernel
theorem dX7_await_56 : decode cX7_await 56 = .ok (.getfield 7, 3) := by decide +kernel
theorem dX7_await_59 : decode cX7_await 59 = .ok (.iload_n 2, 1) := by decide +kernel
theorem dX7_await_60 : decode cX7_await 60 = .ok (.bipush 6, 2) := by decide +kernel
theorem dX7_await_62 : decode cX7_await 62 = .ok (.aload_n 0, 1) := by decide +kernel
theorem dX7_await_63 : decode cX7_await 63 = .ok (.iload_n 2, 1) := by decide +kernel
theorem dX7_await_64 : decode cX7_await 64 = .ok (.iconst 5, 1) := by decide +kernel
theorem dX7_await_65 : decode cX7_await 65 = .ok (.invokevirtual 46, 3) := by decide +kernel
theorem dX7_await_68 : decode cX7_await 68 = .ok (.iadd, 1) := by decide +kernel
theorem dX7_await_69 : decode cX7_await 69 = .ok (.invokestatic 39, 3) := by decide +kernel
theorem dX7_await_72 : decode cX7_await 72 = .ok (.iload_n 1, 1) := by decide +kernel
theorem dX7_await_73 : decode cX7_await 73 = .ok (.iastore, 1) := by decide +kernel
theorem dX7_await_74 : decode cX7_await 74 = .ok (.aload_n 0, 1) := by decide +kernel
theorem dX7_await_75 : decode cX7_await 75 = .ok (.getfield 7, 3) := by decide +kernel
theorem dX7_await_78 : decode cX7_await 78 = .ok (.iload_n 2, 1) := by decide +kernel
theorem dX7_await_79 : decode cX7_await 79 = .ok (.iconst 5, 1) := by decide +kernel
theorem dX7_await_80 : decode cX7_await 80 = .ok (.invokestatic 39, 3) := by decide +kernel
theorem dX7_await_83 : decode cX7_await 83 = .ok (.dup2, 1) := by decide +kernel
theorem dX7_await_84 : decode cX7_await 84 = .ok (.iaload, 1) := by decide +kernel
theorem dX7_await_85 : decode cX7_await 85 = .ok (.iconst 1, 1) := by decide +kernel
theorem dX7_await_86 : decode cX7_await 86 = .ok (.iadd, 1) := by decide +kernel
theorem dX7_await_87 : decode cX7_await 87 = .ok (.iastore, 1) := by decide +kernel
theorem dX7_await_88 : decode cX7_await 88 = .ok (.aload_n 0, 1) := by decide +kernel
theorem dX7_await_89 : decode cX7_await 89 = .ok (.iload_n 2, 1) := by decide +kernel
theorem dX7_await_90 : decode cX7_await 90 = .ok (.iconst 5, 1) := by decide +kernel
theorem dX7_await_91 : decode cX7_await 91 = .ok (.invokevirtual 46, 3) := by decide +kernel
theorem dX7_await_94 : decode cX7_await 94 = .ok (.ireturn, 1) := by decide +kernel
theorem dX7_leave_0 : decode cX7_leave 0 = .ok (.iload_n 1, 1) := by decide +kernel
theorem dX7_leave_1 : decode cX7_leave 1 = .ok (.invokestatic 90, 3) := by decide +kernel
theorem dX7_leave_4 : decode cX7_leave 4 = .ok (.ifCond .eq 11, 3) := by decide +kernel
theorem dX7_leave_7 : decode cX7_leave 7 = .ok (.aload_n 0, 1) := by decide +kernel
theorem dX7_leave_8 : decode cX7_leave 8 = .ok (.iload_n 2, 1) := by decide +kernel
theorem dX7_leave_9 : decode cX7_leave 9 = .ok (.invokevirtual 93, 3) := by decide +kernel
theorem dX7_leave_12 : decode cX7_leave 12 = .ok (.ifCond .ne 5, 3) := by decide +kernel
theorem dX7_leave_15 : decode cX7_leave 15 = .ok (.iconst (-1), 1) := by decide +kernel
theorem dX7_leave_16 : decode cX7_leave 16 = .ok (.ireturn, 1) := by decide +kernel
theorem dX7_leave_17 : decode cX7_leave 17 = .ok (.aload_n 0, 1) := by decide +kernel
theorem dX7_leave_18 : decode cX7_leave 18 = .ok (.iload_n 1, 1) := by decide +kernel
theorem dX7_leave_19 : decode cX7_leave 19 = .ok (.iload_n 2, 1) := by decide +kernel
theorem dX7_leave_20 : decode cX7_leave 20 = .ok (.invokevirtual 151, 3) := by decide +kernel
theorem dX7_leave_23 : decode cX7_leave 23 = .ok (.istore_n 3, 1) := by decide +kernel
theorem dX7_leave_24 : decode cX7_leave 24 = .ok (.iload_n 3, 1) := by decide +kernel
theorem dX7_leave_25 : decode cX7_leave 25 = .ok (.ifCond .lt 13, 3) := by decide +kernel
theorem dX7_leave_28 : decode cX7_leave 28 = .ok (.aload_n 0, 1) := by decide +kernel
theorem dX7_leave_29 : decode cX7_leave 29 = .ok (.invokevirtual 124, 3) := by decide +kernel
theorem dX7_leave_32 : decode cX7_leave 32 = .ok (.aload_n 0, 1) := by decide +kernel
theorem dX7_leave_33 : decode cX7_leave 33 = .ok (.iload_n 2, 1) := by decide +kernel
theorem dX7_leave_34 : decode cX7_leave 34 = .ok (.iload_n 3, 1) := by decide +kernel
theorem dX7_leave_35 : decode cX7_leave 35 = .ok (.invokevirtual 81, 3) := by decide +kernel
theorem dX7_leave_38 : decode cX7_leave 38 = .ok (.iload_n 3, 1) := by decide +kernel
theorem dX7_leave_39 : decode cX7_leave 39 = .ok (.ireturn, 1) := by decide +kernel
theorem dX7_pass_0 : decode cX7_pass 0 = .ok (.iload_n 1, 1) := by decide +kernel
theorem dX7_pass_1 : decode cX7_pass 1 = .ok (.iconst 1, 1) := by decide +kernel
theorem dX7_pass_2 : decode cX7_pass 2 = .ok (.bipush 60, 2) := by decide +kernel
theorem dX7_pass_4 : decode cX7_pass 4 = .ok (.invokestatic 35, 3) := by decide +kernel
theorem dX7_pass_7 : decode cX7_pass 7 = .ok (.ifCond .ne 6, 3) := by decide +kernel
theorem dX7_pass_10 : decode cX7_pass 10 = .ok (.bipush (-2), 2) := by decide +kernel
theorem dX7_pass_12 : decode cX7_pass 12 = .ok (.ireturn, 1) := by decide +kernel
theorem dX7_pass_13 : decode cX7_pass 13 = .ok (.aload_n 0, 1) := by decide +kernel
theorem dX7_pass_14 : decode cX7_pass 14 = .ok (.getfield 7, 3) := by decide +kernel
theorem dX7_pass_17 : decode cX7_pass 17 = .ok (.iconst 0, 1) := by decide +kernel
theorem dX7_pass_18 : decode cX7_pass 18 = .ok (.iaload, 1) := by decide +kernel
theorem dX7_pass_19 : decode cX7_pass 19 = .ok (.iload_n 1, 1) := by decide +kernel
theorem dX7_pass_20 : decode cX7_pass 20 = .ok (.iadd, 1) := by decide +kernel
theorem dX7_pass_21 : decode cX7_pass 21 = .ok (.sipush 9999, 3) := by decide +kernel
theorem dX7_pass_24 : decode cX7_pass 24 = .ok (.if_icmp .le 6, 3) := by decide +kernel
theorem dX7_pass_27 : decode cX7_pass 27 = .ok (.bipush (-4), 2) := by decide +kernel
theorem dX7_pass_29 : decode cX7_pass 29 = .ok (.ireturn, 1) := by decide +kernel
theorem dX7_pass_30 : decode cX7_pass 30 = .ok (.aload_n 0, 1) := by decide +kernel
theorem dX7_pass_31 : decode cX7_pass 31 = .ok (.invokevirtual 124, 3) := by decide +kernel
theorem dX7_pass_34 : decode cX7_pass 34 = .ok (.iconst 0, 1) := by decide +kernel
theorem dX7_pass_35 : decode cX7_pass 35 = .ok (.istore_n 2, 1) := by decide +kernel
theorem dX7_pass_36 : decode cX7_pass 36 = .ok (.iconst 0, 1) := by decide +kernel
theorem dX7_pass_37 : decode cX7_pass 37 = .ok (.istore_n 3, 1) := by decide +kernel
theorem dX7_pass_38 : decode cX7_pass 38 = .ok (.iload_n 3, 1) := by decide +kernel
theorem dX7_pass_39 : decode cX7_pass 39 = .ok (.iload_n 1, 1) := by decide +kernel
theorem dX7_pass_40 : decode cX7_pass 40 = .ok (.if_icmp .ge 16, 3) := by decide +kernel
theorem dX7_pass_43 : decode cX7_pass 43 = .ok (.iload_n 2, 1) := by decide +kernel
theorem dX7_pass_44 : decode cX7_pass 44 = .ok (.aload_n 0, 1) := by decide +kernel
theorem dX7_pass_45 : decode cX7_pass 45 = .ok (.invokevirtual 154, 3) := by decide +kernel
theorem dX7_pass_48 : decode cX7_pass 48 = .ok (.iadd, 1) := by decide +kernel
theorem dX7_pass_49 : decode cX7_pass 49 = .ok (.istore_n 2, 1) := by decide +kernel
theorem dX7_pass_50 : decode cX7_pass 50 = .ok (.iinc 3 1, 3) := by decide +kernel
theorem dX7_pass_53 : decode cX7_pass 53 = .ok (.goto (-15), 3) := by decide +kernel
theorem dX7_pass_56 : decode cX7_pass 56 = .ok (.iload_n 2, 1) := by decide +kernel
theorem dX7_pass_57 : decode cX7_pass 57 = .ok (.ireturn, 1) := by decide +kernel
theorem dX7_type_0 : decode cX7_type 0 = .ok (.aload_n 0, 1) := by decide +kernel
theorem dX7_type_1 : decode cX7_type 1 = .ok (.getfield 158, 3) := by decide +kernel
theorem dX7_type_4 : decode cX7_type 4 = .ok (.bipush 60, 2) := by decide +kernel
theorem dX7_type_6 : decode cX7_type 6 = .ok (.if_icmp .ne 6, 3) := by decide +kernel
theorem dX7_type_9 : decode cX7_type 9 = .ok (.bipush (-3), 2) := by decide +kernel
theorem dX7_type_11 : decode cX7_type 11 = .ok (.ireturn, 1) := by decide +kernel
theorem dX7_type_12 : decode cX7_type 12 = .ok (.aload_n 0, 1) := by decide +kernel
theorem dX7_type_13 : decode cX7_type 13 = .ok (.getfield 22, 3) := by decide +kernel
theorem dX7_type_16 : decode cX7_type 16 = .ok (.aload_n 0, 1) := by decide +kernel
theorem dX7_type_17 : decode cX7_type 17 = .ok (.getfield 158, 3) := by decide +kernel
theorem dX7_type_20 : decode cX7_type 20 = .ok (.iload_n 1, 1) := by decide +kernel
theorem dX7_type_21 : decode cX7_type 21 = .ok (.iastore, 1) := by decide +kernel
theorem dX7_type_22 : decode cX7_type 22 = .ok (.aload_n 0, 1) := by decide +kernel
theorem dX7_type_23 : decode cX7_type 23 = .ok (.dup, 1) := by decide +kernel
theorem dX7_type_24 : decode cX7_type 24 = .ok (.getfield 158, 3) := by decide +kernel
theorem dX7_type_27 : decode cX7_type 27 = .ok (.iconst 1, 1) := by decide +kernel
theorem dX7_type_28 : decode cX7_type 28 = .ok (.iadd, 1) := by decide +kernel
theorem dX7_type_29 : decode cX7_type 29 = .ok (.putfield 158, 3) := by decide +kernel
theorem dX7_type_32 : decode cX7_type 32 = .ok (.aload_n 0, 1) := by decide +kernel
theorem dX7_type_33 : decode cX7_type 33 = .ok (.getfield 158, 3) := by decide +kernel
theorem dX7_type_36 : decode cX7_type 36 = .ok (.ireturn, 1) := by decide +kernel
theorem dX7_clearText_0 : decode cX7_clearText 0 = .ok (.aload_n 0, 1) := by decide +kernel
theorem dX7_clearText_1 : decode cX7_clearText 1 = .ok (.getfield 158, 3) := by decide +kernel
theorem dX7_clearText_4 : decode cX7_clearText 4 = .ok (.istore_n 1, 1) := by decide +kernel
theorem dX7_clearText_5 : decode cX7_clearText 5 = .ok (.aload_n 0, 1) := by decide +kernel
theorem dX7_clearText_6 : decode cX7_clearText 6 = .ok (.iconst 0, 1) := by decide +kernel
theorem dX7_clearText_7 : decode cX7_clearText 7 = .ok (.putfield 158, 3) := by decide +kernel
theorem dX7_clearText_10 : decode cX7_clearText 10 = .ok (.iload_n 1, 1) := by decide +kernel
theorem dX7_clearText_11 : decode cX7_clearText 11 = .ok (.ireturn, 1) := by decide +kernel
theorem dX7_sign_0 : decode cX7_sign 0 = .ok (.aload_n 0, 1) := by decide +kernel
theorem dX7_sign_1 : decode cX7_sign 1 = .ok (.getfield 161, 3) := by decide +kernel
theorem dX7_sign_4 : decode cX7_sign 4 = .ok (.aload_n 0, 1) := by decide +kernel
theorem dX7_sign_5 : decode cX7_sign 5 = .ok (.getfield 158, 3) := by decide +kernel
theorem dX7_sign_8 : decode cX7_sign 8 = .ok (.if_icmp .ge 20, 3) := by decide +kernel
theorem dX7_sign_11 : decode cX7_sign 11 = .ok (.aload_n 0, 1) := by decide +kernel
theorem dX7_sign_12 : decode cX7_sign 12 = .ok (.getfield 22, 3) := by decide +kernel
theorem dX7_sign_15 : decode cX7_sign 15 = .ok (.aload_n 0, 1) := by decide +kernel
theorem dX7_sign_16 : decode cX7_sign 16 = .ok (.getfield 161, 3) := by decide +kernel
theorem dX7_sign_19 : decode cX7_sign 19 = .ok (.iaload, 1) := by decide +kernel
theorem dX7_sign_20 : decode cX7_sign 20 = .ok (.iload_n 1, 1) := by decide +kernel
theorem dX7_sign_21 : decode cX7_sign 21 = .ok (.if_icmp .ne 7, 3) := by decide +kernel
theorem dX7_sign_24 : decode cX7_sign 24 = .ok (.iconst 1, 1) := by decide +kernel
theorem dX7_sign_25 : decode cX7_sign 25 = .ok (.goto 4, 3) := by decide +kernel
theorem dX7_sign_28 : decode cX7_sign 28 = .ok (.iconst 0, 1) := by decide +kernel
theorem dX7_sign_29 : decode cX7_sign 29 = .ok (.istore_n 2, 1) := by decide +kernel
theorem dX7_sign_30 : decode cX7_sign 30 = .ok (.aload_n 0, 1) := by decide +kernel
theorem dX7_sign_31 : decode cX7_sign 31 = .ok (.dup, 1) := by decide +kernel
theorem dX7_sign_32 : decode cX7_sign 32 = .ok (.getfield 161, 3) := by decide +kernel
theorem dX7_sign_35 : decode cX7_sign 35 = .ok (.iload_n 2, 1) := by decide +kernel
theorem dX7_sign_36 : decode cX7_sign 36 = .ok (.ifCond .eq 7, 3) := by decide +kernel
theorem dX7_sign_39 : decode cX7_sign 39 = .ok (.iconst 1, 1) := by decide +kernel
theorem dX7_sign_40 : decode cX7_sign 40 = .ok (.goto 4, 3) := by decide +kernel
theorem dX7_sign_43 : decode cX7_sign 43 = .ok (.iconst 0, 1) := by decide +kernel
theorem dX7_sign_44 : decode cX7_sign 44 = .ok (.iadd, 1) := by decide +kernel
theorem dX7_sign_45 : decode cX7_sign 45 = .ok (.putfield 161, 3) := by decide +kernel
theorem dX7_sign_48 : decode cX7_sign 48 = .ok (.iload_n 2, 1) := by decide +kernel
theorem dX7_sign_49 : decode cX7_sign 49 = .ok (.ireturn, 1) := by decide +kernel
theorem dX7_readNumber_0 : decode cX7_readNumber 0 = .ok (.aload_n 0, 1) := by decide +kernel
theorem dX7_readNumber_1 : decode cX7_readNumber 1 = .ok (.getfield 161, 3) := by decide +kernel
theorem dX7_readNumber_4 : decode cX7_readNumber 4 = .ok (.istore_n 2, 1) := by decide +kernel
theorem dX7_readNumber_5 : decode cX7_readNumber 5 = .ok (.aload_n 0, 1) := by decide +kernel
theorem dX7_readNumber_6 : decode cX7_readNumber 6 = .ok (.iconst 0, 1) := by decide +kernel
theorem dX7_readNumber_7 : decode cX7_readNumber 7 = .ok (.putfield 164, 3) := by decide +kernel
theorem dX7_readNumber_10 : decode cX7_readNumber 10 = .ok (.aload_n 0, 1) := by decide +kernel
theorem dX7_readNumber_11 : decode cX7_readNumber 11 = .ok (.getfield 161, 3) := by decide +kernel
theorem dX7_readNumber_14 : decode cX7_readNumber 14 = .ok (.aload_n 0, 1) := by decide +kernel
theorem dX7_readNumber_15 : decode cX7_readNumber 15 = .ok (.getfield 158, 3) := by decide +kernel
theorem dX7_readNumber_18 : decode cX7_readNumber 18 = .ok (.if_icmp .ge 88, 3) := by decide +kernel
theorem dX7_readNumber_21 : decode cX7_readNumber 21 = .ok (.aload_n 0, 1) := by decide +kernel
theorem dX7_readNumber_22 : decode cX7_readNumber 22 = .ok (.getfield 161, 3) := by decide +kernel
theorem dX7_readNumber_25 : decode cX7_readNumber 25 = .ok (.iload_n 2, 1) := by decide +kernel
theorem dX7_readNumber_26 : decode cX7_readNumber 26 = .ok (.iload_n 1, 1) := by decide +kernel
theorem dX7_readNumber_27 : decode cX7_readNumber 27 = .ok (.iadd, 1) := by decide +kernel
theorem dX7_readNumber_28 : decode cX7_readNumber 28 = .ok (.if_icmp .ge 78, 3) := by decide +kernel
theorem dX7_readNumber_31 : decode cX7_readNumber 31 = .ok (.aload_n 0, 1) := by decide +kernel
theorem dX7_readNumber_32 : decode cX7_readNumber 32 = .ok (.getfield 22, 3) := by decide +kernel
theorem dX7_readNumber_35 : decode cX7_readNumber 35 = .ok (.aload_n 0, 1) := by decide +kernel
theorem dX7_readNumber_36 : decode cX7_readNumber 36 = .ok (.getfield 161, 3) := by decide +kernel
theorem dX7_readNumber_39 : decode cX7_readNumber 39 = .ok (.iaload, 1) := by decide +kernel
theorem dX7_readNumber_40 : decode cX7_readNumber 40 = .ok (.bipush 48, 2) := by decide +kernel
theorem dX7_readNumber_42 : decode cX7_readNumber 42 = .ok (.bipush 57, 2) := by decide +kernel
theorem dX7_readNumber_44 : decode cX7_readNumber 44 = .ok (.invokestatic 35, 3) := by decide +kernel
theorem dX7_readNumber_47 : decode cX7_readNumber 47 = .ok (.ifCond .eq 59, 3) := by decide +kernel
theorem dX7_readNumber_50 : decode cX7_readNumber 50 = .ok (.aload_n 0, 1) := by decide +kernel
theorem dX7_readNumber_51 : decode cX7_readNumber 51 = .ok (.getfield 161, 3) := by decide +kernel
theorem dX7_readNumber_54 : decode cX7_readNumber 54 = .ok (.iload_n 2, 1) := by decide +kernel
theorem dX7_readNumber_55 : decode cX7_readNumber 55 = .ok (.if_icmp .eq 14, 3) := by decide +kernel
theorem dX7_readNumber_58 : decode cX7_readNumber 58 = .ok (.aload_n 0, 1) := by decide +kernel
theorem dX7_readNumber_59 : decode cX7_readNumber 59 = .ok (.getfield 22, 3) := by decide +kernel
theorem dX7_readNumber_62 : decode cX7_readNumber 62 = .ok (.iload_n 2, 1) := by decide +kernel
theorem dX7_readNumber_63 : decode cX7_readNumber 63 = .ok (.iaload, 1) := by decide +kernel
theorem dX7_readNumber_64 : decode cX7_readNumber 64 = .ok (.bipush 48, 2) := by decide +kernel
theorem dX7_readNumber_66 : decode cX7_readNumber 66 = .ok (.if_icmp .eq 40, 3) := by decide +kernel
theorem dX7_readNumber_69 : decode cX7_readNumber 69 = .ok (.aload_n 0, 1) := by decide +kernel
theorem dX7_readNumber_70 : decode cX7_readNumber 70 = .ok (.bipush 10, 2) := by decide +kernel
theorem dX7_readNumber_72 : decode cX7_readNumber 72 = .ok (.aload_n 0, 1) := by decide +kernel
theorem dX7_readNumber_73 : decode cX7_readNumber 73 = .ok (.getfield 164, 3) := by decide +kernel
theorem dX7_readNumber_76 : decode cX7_readNumber 76 = .ok (.imul, 1) := by decide +kernel
theorem dX7_readNumber_77 : decode cX7_readNumber 77 = .ok (.aload_n 0, 1) := by decide +kernel
theorem dX7_readNumber_78 : decode cX7_readNumber 78 = .ok (.getfield 22, 3) := by decide +kernel
theorem dX7_readNumber_81 : decode cX7_readNumber 81 = .ok (.aload_n 0, 1) := by decide +kernel
theorem dX7_readNumber_82 : decode cX7_readNumber 82 = .ok (.getfield 161, 3) := by decide +kernel
theorem dX7_readNumber_85 : decode cX7_readNumber 85 = .ok (.iaload, 1) := by decide +kernel
theorem dX7_readNumber_86 : decode cX7_readNumber 86 = .ok (.iadd, 1) := by decide +kernel
theorem dX7_readNumber_87 : decode cX7_readNumber 87 = .ok (.bipush 48, 2) := by decide +kernel
theorem dX7_readNumber_89 : decode cX7_readNumber 89 = .ok (.isub, 1) := by decide +kernel
theorem dX7_readNumber_90 : decode cX7_readNumber 90 = .ok (.putfield 164, 3) := by decide +kernel
theorem dX7_readNumber_93 : decode cX7_readNumber 93 = .ok (.aload_n 0, 1) := by decide +kernel
theorem dX7_readNumber_94 : decode cX7_readNumber 94 = .ok (.dup, 1) := by decide +kernel
theorem dX7_readNumber_95 : decode cX7_readNumber 95 = .ok (.getfield 161, 3) := by decide +kernel
theorem dX7_readNumber_98 : decode cX7_readNumber 98 = .ok (.iconst 1, 1) := by decide +kernel
theorem dX7_readNumber_99 : decode cX7_readNumber 99 = .ok (.iadd, 1) := by decide +kernel
theorem dX7_readNumber_100 : decode cX7_readNumber 100 = .ok (.putfield 161, 3) := by decide +kernel
theorem dX7_readNumber_103 : decode cX7_readNumber 103 = .ok (.goto (-93), 3) := by decide +kernel
theorem dX7_readNumber_106 : decode cX7_readNumber 106 = .ok (.aload_n 0, 1) := by decide +kernel
theorem dX7_readNumber_107 : decode cX7_readNumber 107 = .ok (.getfield 161, 3) := by decide +kernel
theorem dX7_readNumber_110 : decode cX7_readNumber 110 = .ok (.iload_n 2, 1) := by decide +kernel
theorem dX7_readNumber_111 : decode cX7_readNumber 111 = .ok (.if_icmp .le 7, 3) := by decide +kernel
theorem dX7_readNumber_114 : decode cX7_readNumber 114 = .ok (.iconst 1, 1) := by decide +kernel
theorem dX7_readNumber_115 : decode cX7_readNumber 115 = .ok (.goto 4, 3) := by decide +kernel
theorem dX7_readNumber_118 : decode cX7_readNumber 118 = .ok (.iconst 0, 1) := by decide +kernel
theorem dX7_readNumber_119 : decode cX7_readNumber 119 = .ok (.ireturn, 1) := by decide +kernel
theorem dX7_readOrder_0 : decode cX7_readOrder 0 = .ok (.aload_n 0, 1) := by decide +kernel
theorem dX7_readOrder_1 : decode cX7_readOrder 1 = .ok (.aload_n 0, 1) := by decide +kernel
theorem dX7_readOrder_2 : decode cX7_readOrder 2 = .ok (.getfield 161, 3) := by decide +kernel
theorem dX7_readOrder_5 : decode cX7_readOrder 5 = .ok (.aload_n 0, 1) := by decide +kernel
theorem dX7_readOrder_6 : decode cX7_readOrder 6 = .ok (.getfield 158, 3) := by decide +kernel
theorem dX7_readOrder_9 : decode cX7_readOrder 9 = .ok (.if_icmp .ge 15, 3) := by decide +kernel
theorem dX7_readOrder_12 : decode cX7_readOrder 12 = .ok (.aload_n 0, 1) := by decide +kernel
theorem dX7_readOrder_13 : decode cX7_readOrder 13 = .ok (.getfield 22, 3) := by decide +kernel
theorem dX7_readOrder_16 : decode cX7_readOrder 16 = .ok (.aload_n 0, 1) := by decide +kernel
theorem dX7_readOrder_17 : decode cX7_readOrder 17 = .ok (.getfield 161, 3) := by decide +kernel
theorem dX7_readOrder_20 : decode cX7_readOrder 20 = .ok (.iaload, 1) := by decide +kernel
theorem dX7_readOrder_21 : decode cX7_readOrder 21 = .ok (.goto 4, 3) := by decide +kernel
theorem dX7_readOrder_24 : decode cX7_readOrder 24 = .ok (.iconst 0, 1) := by decide +kernel
theorem dX7_readOrder_25 : decode cX7_readOrder 25 = .ok (.putfield 167, 3) := by decide +kernel
theorem dX7_readOrder_28 : decode cX7_readOrder 28 = .ok (.aload_n 0, 1) := by decide +kernel
theorem dX7_readOrder_29 : decode cX7_readOrder 29 = .ok (.bipush 98, 2) := by decide +kernel
theorem dX7_readOrder_31 : decode cX7_readOrder 31 = .ok (.invokevirtual 170, 3) := by decide +kernel
theorem dX7_readOrder_34 : decode cX7_readOrder 34 = .ok (.ifCond .ne 12, 3) := by decide +kernel
theorem dX7_readOrder_37 : decode cX7_readOrder 37 = .ok (.aload_n 0, 1) := by decide +kernel
theorem dX7_readOrder_38 : decode cX7_readOrder 38 = .ok (.bipush 109, 2) := by decide +kernel
theorem dX7_readOrder_40 : decode cX7_readOrder 40 = .ok (.invokevirtual 170, 3) := by decide +kernel
theorem dX7_readOrder_43 : decode cX7_readOrder 43 = .ok (.ifCond .eq 54, 3) := by decide +kernel
theorem dX7_readOrder_46 : decode cX7_readOrder 46 = .ok (.aload_n 0, 1) := by decide +kernel
theorem dX7_readOrder_47 : decode cX7_readOrder 47 = .ok (.iconst 1, 1) := by decide +kernel
theorem dX7_readOrder_48 : decode cX7_readOrder 48 = .ok (.invokevirtual 173, 3) := by decide +kernel
theorem dX7_readOrder_51 : decode cX7_readOrder 51 = .ok (.istore_n 1, 1) := by decide +kernel
theorem dX7_readOrder_52 : decode cX7_readOrder 52 = .ok (.aload_n 0, 1) := by decide +kernel
theorem dX7_readOrder_53 : decode cX7_readOrder 53 = .ok (.aload_n 0, 1) := by decide +kernel
theorem dX7_readOrder_54 : decode cX7_readOrder 54 = .ok (.getfield 164, 3) := by decide +kernel
theorem dX7_readOrder_57 : decode cX7_readOrder 57 = .ok (.putfield 176, 3) := by decide +kernel
theorem dX7_readOrder_60 : decode cX7_readOrder 60 = .ok (.iload_n 1, 1) := by decide +kernel
theorem dX7_readOrder_61 : decode cX7_readOrder 61 = .ok (.ifCond .eq 24, 3) := by decide +kernel
theorem dX7_readOrder_64 : decode cX7_readOrder 64 = .ok (.aload_n 0, 1) := by decide +kernel
theorem dX7_readOrder_65 : decode cX7_readOrder 65 = .ok (.bipush 64, 2) := by decide +kernel
theorem dX7_readOrder_67 : decode cX7_readOrder 67 = .ok (.invokevirtual 170, 3) := by decide +kernel
theorem dX7_readOrder_70 : decode cX7_readOrder 70 = .ok (.ifCond .eq 15, 3) := by decide +kernel
theorem dX7_readOrder_73 : decode cX7_readOrder 73 = .ok (.aload_n 0, 1) := by decide +kernel
theorem dX7_readOrder_74 : decode cX7_readOrder 74 = .ok (.iconst 1, 1) := by decide +kernel
theorem dX7_readOrder_75 : decode cX7_readOrder 75 = .ok (.invokevirtual 173, 3) := by decide +kernel
theorem dX7_readOrder_78 : decode cX7_readOrder 78 = .ok (.ifCond .eq 7, 3) := by decide +kernel
theorem dX7_readOrder_81 : decode cX7_readOrder 81 = .ok (.iconst 1, 1) := by decide +kernel
theorem dX7_readOrder_82 : decode cX7_readOrder 82 = .ok (.goto 4, 3) := by decide +kernel
theorem dX7_readOrder_85 : decode cX7_readOrder 85 = .ok (.iconst 0, 1) := by decide +kernel
theorem dX7_readOrder_86 : decode cX7_readOrder 86 = .ok (.istore_n 1, 1) := by decide +kernel
theorem dX7_readOrder_87 : decode cX7_readOrder 87 = .ok (.aload_n 0, 1) := by decide +kernel
theorem dX7_readOrder_88 : decode cX7_readOrder 88 = .ok (.aload_n 0, 1) := by decide +kernel
theorem dX7_readOrder_89 : decode cX7_readOrder 89 = .ok (.getfield 164, 3) := by decide +kernel
theorem dX7_readOrder_92 : decode cX7_readOrder 92 = .ok (.putfield 179, 3) := by decide +kernel
theorem dX7_readOrder_95 : decode cX7_readOrder 95 = .ok (.iload_n 1, 1) := by decide +kernel
theorem dX7_readOrder_96 : decode cX7_readOrder 96 = .ok (.ireturn, 1) := by decide +kernel
theorem dX7_readOrder_97 : decode cX7_readOrder 97 = .ok (.aload_n 0, 1) := by decide +kernel
theorem dX7_readOrder_98 : decode cX7_readOrder 98 = .ok (.bipush 99, 2) := by decide +kernel
theorem dX7_readOrder_100 : decode cX7_readOrder 100 = .ok (.invokevirtual 170, 3) := by decide +kernel
theorem dX7_readOrder_103 : decode cX7_readOrder 103 = .ok (.ifCond .ne 23, 3) := by decide +kernel
theorem dX7_readOrder_106 : decode cX7_readOrder 106 = .ok (.aload_n 0, 1) := by decide +kernel
theorem dX7_readOrder_107 : decode cX7_readOrder 107 = .ok (.bipush 120, 2) := by decide +kernel
theorem dX7_readOrder_109 : decode cX7_readOrder 109 = .ok (.invokevirtual 170, 3) := by decide +kernel
theorem dX7_readOrder_112 : decode cX7_readOrder 112 = .ok (.ifCond .ne 14, 3) := by decide +kernel
theorem dX7_readOrder_115 : decode cX7_readOrder 115 = .ok (.aload_n 0, 1) := by decide +kernel
theorem dX7_readOrder_116 : decode cX7_readOrder 116 = .ok (.bipush 111, 2) := by decide +kernel
theorem dX7_readOrder_118 : decode cX7_readOrder 118 = .ok (.invokevirtual 170, 3) := by decide +kernel
theorem dX7_readOrder_121 : decode cX7_readOrder 121 = .ok (.ifCond .ne 5, 3) := by decide +kernel
theorem dX7_readOrder_124 : decode cX7_readOrder 124 = .ok (.iconst 0, 1) := by decide +kernel
theorem dX7_readOrder_125 : decode cX7_readOrder 125 = .ok (.ireturn, 1) := by decide +kernel
theorem dX7_readOrder_126 : decode cX7_readOrder 126 = .ok (.aload_n 0, 1) := by decide +kernel
theorem dX7_readOrder_127 : decode cX7_readOrder 127 = .ok (.iconst 2, 1) := by decide +kernel
theorem dX7_readOrder_128 : decode cX7_readOrder 128 = .ok (.invokevirtual 173, 3) := by decide +kernel
theorem dX7_readOrder_131 : decode cX7_readOrder 131 = .ok (.istore_n 1, 1) := by decide +kernel
theorem dX7_readOrder_132 : decode cX7_readOrder 132 = .ok (.aload_n 0, 1) := by decide +kernel
theorem dX7_readOrder_133 : decode cX7_readOrder 133 = .ok (.aload_n 0, 1) := by decide +kernel
theorem dX7_readOrder_134 : decode cX7_readOrder 134 = .ok (.getfield 164, 3) := by decide +kernel
theorem dX7_readOrder_137 : decode cX7_readOrder 137 = .ok (.putfield 176, 3) := by decide +kernel
theorem dX7_readOrder_140 : decode cX7_readOrder 140 = .ok (.aload_n 0, 1) := by decide +kernel
theorem dX7_readOrder_141 : decode cX7_readOrder 141 = .ok (.getfield 167, 3) := by decide +kernel
theorem dX7_readOrder_144 : decode cX7_readOrder 144 = .ok (.bipush 111, 2) := by decide +kernel
theorem dX7_readOrder_146 : decode cX7_readOrder 146 = .ok (.if_icmp .ne 63, 3) := by decide +kernel
theorem dX7_readOrder_149 : decode cX7_readOrder 149 = .ok (.iload_n 1, 1) := by decide +kernel
theorem dX7_readOrder_150 : decode cX7_readOrder 150 = .ok (.ifCond .eq 49, 3) := by decide +kernel
theorem dX7_readOrder_153 : decode cX7_readOrder 153 = .ok (.aload_n 0, 1) := by decide +kernel
theorem dX7_readOrder_154 : decode cX7_readOrder 154 = .ok (.bipush 61, 2) := by decide +kernel
theorem dX7_readOrder_156 : decode cX7_readOrder 156 = .ok (.invokevirtual 170, 3) := by decide +kernel
theorem dX7_readOrder_159 : decode cX7_readOrder 159 = .ok (.ifCond .eq 40, 3) := by decide +kernel
theorem dX7_readOrder_162 : decode cX7_readOrder 162 = .ok (.aload_n 0, 1) := by decide +kernel
theorem dX7_readOrder_163 : decode cX7_readOrder 163 = .ok (.getfield 161, 3) := by decide +kernel
theorem dX7_readOrder_166 : decode cX7_readOrder 166 = .ok (.aload_n 0, 1) := by decide +kernel
theorem dX7_readOrder_167 : decode cX7_readOrder 167 = .ok (.getfield 158, 3) := by decide +kernel
theorem dX7_readOrder_170 : decode cX7_readOrder 170 = .ok (.if_icmp .ge 29, 3) := by decide +kernel
theorem dX7_readOrder_173 : decode cX7_readOrder 173 = .ok (.aload_n 0, 1) := by decide +kernel
theorem dX7_readOrder_174 : decode cX7_readOrder 174 = .ok (.getfield 22, 3) := by decide +kernel
theorem dX7_readOrder_177 : decode cX7_readOrder 177 = .ok (.aload_n 0, 1) := by decide +kernel
theorem dX7_readOrder_178 : decode cX7_readOrder 178 = .ok (.getfield 161, 3) := by decide +kernel
theorem dX7_readOrder_181 : decode cX7_readOrder 181 = .ok (.iaload, 1) := by decide +kernel
theorem dX7_readOrder_182 : decode cX7_readOrder 182 = .ok (.bipush 48, 2) := by decide +kernel
theorem dX7_readOrder_184 : decode cX7_readOrder 184 = .ok (.if_icmp .eq 15, 3) := by decide +kernel
theorem dX7_readOrder_187 : decode cX7_readOrder 187 = .ok (.aload_n 0, 1) := by decide +kernel
theorem dX7_readOrder_188 : decode cX7_readOrder 188 = .ok (.iconst 5, 1) := by decide +kernel
theorem dX7_readOrder_189 : decode cX7_readOrder 189 = .ok (.invokevirtual 173, 3) := by decide +kernel
theorem dX7_readOrder_192 : decode cX7_readOrder 192 = .ok (.ifCond .eq 7, 3) := by decide +kernel
theorem dX7_readOrder_195 : decode cX7_readOrder 195 = .ok (.iconst 1, 1) := by decide +kernel
theorem dX7_readOrder_196 : decode cX7_readOrder 196 = .ok (.goto 4, 3) := by decide +kernel
theorem dX7_readOrder_199 : decode cX7_readOrder 199 = .ok (.iconst 0, 1) := by decide +kernel
theorem dX7_readOrder_200 : decode cX7_readOrder 200 = .ok (.istore_n 1, 1) := by decide +kernel
theorem dX7_readOrder_201 : decode cX7_readOrder 201 = .ok (.aload_n 0, 1) := by decide +kernel
theorem dX7_readOrder_202 : decode cX7_readOrder 202 = .ok (.aload_n 0, 1) := by decide +kernel
theorem dX7_readOrder_203 : decode cX7_readOrder 203 = .ok (.getfield 164, 3) := by decide +kernel
theorem dX7_readOrder_206 : decode cX7_readOrder 206 = .ok (.putfield 179, 3) := by decide +kernel
theorem dX7_readOrder_209 : decode cX7_readOrder 209 = .ok (.iload_n 1, 1) := by decide +kernel
theorem dX7_readOrder_210 : decode cX7_readOrder 210 = .ok (.ireturn, 1) := by decide +kernel
theorem dX7_isGood_0 : decode cX7_isGood 0 = .ok (.aload_n 0, 1) := by decide +kernel
theorem dX7_isGood_1 : decode cX7_isGood 1 = .ok (.iconst 0, 1) := by decide +kernel
theorem dX7_isGood_2 : decode cX7_isGood 2 = .ok (.putfield 161, 3) := by decide +kernel
theorem dX7_isGood_5 : decode cX7_isGood 5 = .ok (.aload_n 0, 1) := by decide +kernel
theorem dX7_isGood_6 : decode cX7_isGood 6 = .ok (.invokevirtual 182, 3) := by decide +kernel
theorem dX7_isGood_9 : decode cX7_isGood 9 = .ok (.istore_n 1, 1) := by decide +kernel
theorem dX7_isGood_10 : decode cX7_isGood 10 = .ok (.iload_n 1, 1) := by decide +kernel
theorem dX7_isGood_11 : decode cX7_isGood 11 = .ok (.ifCond .eq 39, 3) := by decide +kernel
theorem dX7_isGood_14 : decode cX7_isGood 14 = .ok (.aload_n 0, 1) := by decide +kernel
theorem dX7_isGood_15 : decode cX7_isGood 15 = .ok (.getfield 161, 3) := by decide +kernel
theorem dX7_isGood_18 : decode cX7_isGood 18 = .ok (.aload_n 0, 1) := by decide +kernel
theorem dX7_isGood_19 : decode cX7_isGood 19 = .ok (.getfield 158, 3) := by decide +kernel
theorem dX7_isGood_22 : decode cX7_isGood 22 = .ok (.if_icmp .ge 28, 3) := by decide +kernel
theorem dX7_isGood_25 : decode cX7_isGood 25 = .ok (.aload_n 0, 1) := by decide +kernel
theorem dX7_isGood_26 : decode cX7_isGood 26 = .ok (.bipush 59, 2) := by decide +kernel
theorem dX7_isGood_28 : decode cX7_isGood 28 = .ok (.invokevirtual 170, 3) := by decide +kernel
theorem dX7_isGood_31 : decode cX7_isGood 31 = .ok (.ifCond .eq 14, 3) := by decide +kernel
theorem dX7_isGood_34 : decode cX7_isGood 34 = .ok (.aload_n 0, 1) := by decide +kernel
theorem dX7_isGood_35 : decode cX7_isGood 35 = .ok (.invokevirtual 182, 3) := by decide +kernel
theorem dX7_isGood_38 : decode cX7_isGood 38 = .ok (.ifCond .eq 7, 3) := by decide +kernel
theorem dX7_isGood_41 : decode cX7_isGood 41 = .ok (.iconst 1, 1) := by decide +kernel
theorem dX7_isGood_42 : decode cX7_isGood 42 = .ok (.goto 4, 3) := by decide +kernel
theorem dX7_isGood_45 : decode cX7_isGood 45 = .ok (.iconst 0, 1) := by decide +kernel
theorem dX7_isGood_46 : decode cX7_isGood 46 = .ok (.istore_n 1, 1) := by decide +kernel
theorem dX7_isGood_47 : decode cX7_isGood 47 = .ok (.goto (-37), 3) := by decide +kernel
theorem dX7_isGood_50 : decode cX7_isGood 50 = .ok (.iload_n 1, 1) := by decide +kernel
theorem dX7_isGood_51 : decode cX7_isGood 51 = .ok (.ireturn, 1) := by decide +kernel
theorem dX7_doOrder_0 : decode cX7_doOrder 0 = .ok (.aload_n 0, 1) := by decide +kernel
theorem dX7_doOrder_1 : decode cX7_doOrder 1 = .ok (.getfield 167, 3) := by decide +kernel
theorem dX7_doOrder_4 : decode cX7_doOrder 4 = .ok (.lookupswitch 88 #[(98, 44), (99, 70), (109, 57), (120, 79)], 44) := by decide +kernel
theorem dX7_doOrder_48 : decode cX7_doOrder 48 = .ok (.aload_n 0, 1) := by decide +kernel
theorem dX7_doOrder_49 : decode cX7_doOrder 49 = .ok (.aload_n 0, 1) := by decide +kernel
theorem dX7_doOrder_50 : decode cX7_doOrder 50 = .ok (.getfield 176, 3) := by decide +kernel
theorem dX7_doOrder_53 : decode cX7_doOrder 53 = .ok (.aload_n 0, 1) := by decide +kernel
theorem dX7_doOrder_54 : decode cX7_doOrder 54 = .ok (.getfield 179, 3) := by decide +kernel
theorem dX7_doOrder_57 : decode cX7_doOrder 57 = .ok (.invokevirtual 133, 3) := by decide +kernel
theorem dX7_doOrder_60 : decode cX7_doOrder 60 = .ok (.ireturn, 1) := by decide +kernel
theorem dX7_doOrder_61 : decode cX7_doOrder 61 = .ok (.aload_n 0, 1) := by decide +kernel
theorem dX7_doOrder_62 : decode cX7_doOrder 62 = .ok (.aload_n 0, 1) := by decide +kernel
theorem dX7_doOrder_63 : decode cX7_doOrder 63 = .ok (.getfield 176, 3) := by decide +kernel
theorem dX7_doOrder_66 : decode cX7_doOrder 66 = .ok (.aload_n 0, 1) := by decide +kernel
theorem dX7_doOrder_67 : decode cX7_doOrder 67 = .ok (.getfield 179, 3) := by decide +kernel
theorem dX7_doOrder_70 : decode cX7_doOrder 70 = .ok (.invokevirtual 139, 3) := by decide +kernel
theorem dX7_doOrder_73 : decode cX7_doOrder 73 = .ok (.ireturn, 1) := by decide +kernel
theorem dX7_doOrder_74 : decode cX7_doOrder 74 = .ok (.aload_n 0, 1) := by decide +kernel
theorem dX7_doOrder_75 : decode cX7_doOrder 75 = .ok (.aload_n 0, 1) := by decide +kernel
theorem dX7_doOrder_76 : decode cX7_doOrder 76 = .ok (.getfield 176, 3) := by decide +kernel
theorem dX7_doOrder_79 : decode cX7_doOrder 79 = .ok (.invokevirtual 142, 3) := by decide +kernel
theorem dX7_doOrder_82 : decode cX7_doOrder 82 = .ok (.ireturn, 1) := by decide +kernel
theorem dX7_doOrder_83 : decode cX7_doOrder 83 = .ok (.aload_n 0, 1) := by decide +kernel
theorem dX7_doOrder_84 : decode cX7_doOrder 84 = .ok (.aload_n 0, 1) := by decide +kernel
theorem dX7_doOrder_85 : decode cX7_doOrder 85 = .ok (.getfield 176, 3) := by decide +kernel
theorem dX7_doOrder_88 : decode cX7_doOrder 88 = .ok (.invokevirtual 148, 3) := by decide +kernel
theorem dX7_doOrder_91 : decode cX7_doOrder 91 = .ok (.ireturn, 1) := by decide +kernel
theorem dX7_doOrder_92 : decode cX7_doOrder 92 = .ok (.aload_n 0, 1) := by decide +kernel
theorem dX7_doOrder_93 : decode cX7_doOrder 93 = .ok (.aload_n 0, 1) := by decide +kernel
theorem dX7_doOrder_94 : decode cX7_doOrder 94 = .ok (.getfield 176, 3) := by decide +kernel
theorem dX7_doOrder_97 : decode cX7_doOrder 97 = .ok (.aload_n 0, 1) := by decide +kernel
theorem dX7_doOrder_98 : decode cX7_doOrder 98 = .ok (.getfield 179, 3) := by decide +kernel
theorem dX7_doOrder_101 : decode cX7_doOrder 101 = .ok (.invokevirtual 145, 3) := by decide +kernel
theorem dX7_doOrder_104 : decode cX7_doOrder 104 = .ok (.ireturn, 1) := by decide +kernel
theorem dX7_perform_0 : decode cX7_perform 0 = .ok (.aload_n 0, 1) := by decide +kernel
theorem dX7_perform_1 : decode cX7_perform 1 = .ok (.invokevirtual 186, 3) := by decide +kernel
theorem dX7_perform_4 : decode cX7_perform 4 = .ok (.ifCond .ne 11, 3) := by decide +kernel
theorem dX7_perform_7 : decode cX7_perform 7 = .ok (.bipush (-100), 2) := by decide +kernel
theorem dX7_perform_9 : decode cX7_perform 9 = .ok (.aload_n 0, 1) := by decide +kernel
theorem dX7_perform_10 : decode cX7_perform 10 = .ok (.getfield 161, 3) := by decide +kernel
theorem dX7_perform_13 : decode cX7_perform 13 = .ok (.isub, 1) := by decide +kernel
theorem dX7_perform_14 : decode cX7_perform 14 = .ok (.ireturn, 1) := by decide +kernel
theorem dX7_perform_15 : decode cX7_perform 15 = .ok (.aload_n 0, 1) := by decide +kernel
theorem dX7_perform_16 : decode cX7_perform 16 = .ok (.invokevirtual 130, 3) := by decide +kernel
theorem dX7_perform_19 : decode cX7_perform 19 = .ok (.aload_n 0, 1) := by decide +kernel
theorem dX7_perform_20 : decode cX7_perform 20 = .ok (.iconst 0, 1) := by decide +kernel
theorem dX7_perform_21 : decode cX7_perform 21 = .ok (.putfield 161, 3) := by decide +kernel
theorem dX7_perform_24 : decode cX7_perform 24 = .ok (.iconst 0, 1) := by decide +kernel
theorem dX7_perform_25 : decode cX7_perform 25 = .ok (.istore_n 1, 1) := by decide +kernel
theorem dX7_perform_26 : decode cX7_perform 26 = .ok (.iconst 0, 1) := by decide +kernel
theorem dX7_perform_27 : decode cX7_perform 27 = .ok (.istore_n 2, 1) := by decide +kernel
theorem dX7_perform_28 : decode cX7_perform 28 = .ok (.iload_n 2, 1) := by decide +kernel
theorem dX7_perform_29 : decode cX7_perform 29 = .ok (.ifCond .lt 37, 3) := by decide +kernel
theorem dX7_perform_32 : decode cX7_perform 32 = .ok (.aload_n 0, 1) := by decide +kernel
theorem dX7_perform_33 : decode cX7_perform 33 = .ok (.getfield 161, 3) := by decide +kernel
theorem dX7_perform_36 : decode cX7_perform 36 = .ok (.aload_n 0, 1) := by decide +kernel
theorem dX7_perform_37 : decode cX7_perform 37 = .ok (.getfield 158, 3) := by decide +kernel
theorem dX7_perform_40 : decode cX7_perform 40 = .ok (.if_icmp .ge 26, 3) := by decide +kernel
theorem dX7_perform_43 : decode cX7_perform 43 = .ok (.aload_n 0, 1) := by decide +kernel
theorem dX7_perform_44 : decode cX7_perform 44 = .ok (.bipush 59, 2) := by decide +kernel
theorem dX7_perform_46 : decode cX7_perform 46 = .ok (.invokevirtual 170, 3) := by decide +kernel
theorem dX7_perform_49 : decode cX7_perform 49 = .ok (.pop, 1) := by decide +kernel
theorem dX7_perform_50 : decode cX7_perform 50 = .ok (.aload_n 0, 1) := by decide +kernel
theorem dX7_perform_51 : decode cX7_perform 51 = .ok (.invokevirtual 182, 3) := by decide +kernel
theorem dX7_perform_54 : decode cX7_perform 54 = .ok (.pop, 1) := by decide +kernel
theorem dX7_perform_55 : decode cX7_perform 55 = .ok (.aload_n 0, 1) := by decide +kernel
theorem dX7_perform_56 : decode cX7_perform 56 = .ok (.invokevirtual 189, 3) := by decide +kernel
theorem dX7_perform_59 : decode cX7_perform 59 = .ok (.istore_n 2, 1) := by decide +kernel
theorem dX7_perform_60 : decode cX7_perform 60 = .ok (.iinc 1 1, 3) := by decide +kernel
theorem dX7_perform_63 : decode cX7_perform 63 = .ok (.goto (-35), 3) := by decide +kernel
theorem dX7_perform_66 : decode cX7_perform 66 = .ok (.iload_n 2, 1) := by decide +kernel
theorem dX7_perform_67 : decode cX7_perform 67 = .ok (.ifCond .ge 9, 3) := by decide +kernel
theorem dX7_perform_70 : decode cX7_perform 70 = .ok (.aload_n 0, 1) := by decide +kernel
theorem dX7_perform_71 : decode cX7_perform 71 = .ok (.invokevirtual 127, 3) := by decide +kernel
theorem dX7_perform_74 : decode cX7_perform 74 = .ok (.iload_n 2, 1) := by decide +kernel
theorem dX7_perform_75 : decode cX7_perform 75 = .ok (.ireturn, 1) := by decide +kernel
theorem dX7_perform_76 : decode cX7_perform 76 = .ok (.aload_n 0, 1) := by decide +kernel
theorem dX7_perform_77 : decode cX7_perform 77 = .ok (.iload_n 1, 1) := by decide +kernel
theorem dX7_perform_78 : decode cX7_perform 78 = .ok (.invokevirtual 136, 3) := by decide +kernel
theorem dX7_perform_81 : decode cX7_perform 81 = .ok (.ireturn, 1) := by decide +kernel
theorem dX7_undo_0 : decode cX7_undo 0 = .ok (.aload_n 0, 1) := by decide +kernel
theorem dX7_undo_1 : decode cX7_undo 1 = .ok (.getfield 31, 3) := by decide +kernel
theorem dX7_undo_4 : decode cX7_undo 4 = .ok (.ifCond .ne 6, 3) := by decide +kernel
theorem dX7_undo_7 : decode cX7_undo 7 = .ok (.bipush (-5), 2) := by decide +kernel
theorem dX7_undo_9 : decode cX7_undo 9 = .ok (.ireturn, 1) := by decide +kernel
theorem dX7_undo_10 : decode cX7_undo 10 = .ok (.aload_n 0, 1) := by decide +kernel
theorem dX7_undo_11 : decode cX7_undo 11 = .ok (.dup, 1) := by decide +kernel
theorem dX7_undo_12 : decode cX7_undo 12 = .ok (.getfield 31, 3) := by decide +kernel
theorem dX7_undo_15 : decode cX7_undo 15 = .ok (.iconst 1, 1) := by decide +kernel
theorem dX7_undo_16 : decode cX7_undo 16 = .ok (.isub, 1) := by decide +kernel
theorem dX7_undo_17 : decode cX7_undo 17 = .ok (.putfield 31, 3) := by decide +kernel
theorem dX7_undo_20 : decode cX7_undo 20 = .ok (.iconst 0, 1) := by decide +kernel
theorem dX7_undo_21 : decode cX7_undo 21 = .ok (.istore_n 1, 1) := by decide +kernel
theorem dX7_undo_22 : decode cX7_undo 22 = .ok (.iload_n 1, 1) := by decide +kernel
theorem dX7_undo_23 : decode cX7_undo 23 = .ok (.sipush 607, 3) := by decide +kernel
theorem dX7_undo_26 : decode cX7_undo 26 = .ok (.if_icmp .ge 30, 3) := by decide +kernel
theorem dX7_undo_29 : decode cX7_undo 29 = .ok (.aload_n 0, 1) := by decide +kernel
theorem dX7_undo_30 : decode cX7_undo 30 = .ok (.getfield 7, 3) := by decide +kernel
theorem dX7_undo_33 : decode cX7_undo 33 = .ok (.iload_n 1, 1) := by decide +kernel
theorem dX7_undo_34 : decode cX7_undo 34 = .ok (.aload_n 0, 1) := by decide +kernel
theorem dX7_undo_35 : decode cX7_undo 35 = .ok (.getfield 16, 3) := by decide +kernel
theorem dX7_undo_38 : decode cX7_undo 38 = .ok (.sipush 607, 3) := by decide +kernel
theorem dX7_undo_41 : decode cX7_undo 41 = .ok (.aload_n 0, 1) := by decide +kernel
theorem dX7_undo_42 : decode cX7_undo 42 = .ok (.getfield 31, 3) := by decide +kernel
theorem dX7_undo_45 : decode cX7_undo 45 = .ok (.imul, 1) := by decide +kernel
theorem dX7_undo_46 : decode cX7_undo 46 = .ok (.iload_n 1, 1) := by decide +kernel
theorem dX7_undo_47 : decode cX7_undo 47 = .ok (.iadd, 1) := by decide +kernel
theorem dX7_undo_48 : decode cX7_undo 48 = .ok (.iaload, 1) := by decide +kernel
theorem dX7_undo_49 : decode cX7_undo 49 = .ok (.iastore, 1) := by decide +kernel
theorem dX7_undo_50 : decode cX7_undo 50 = .ok (.iinc 1 1, 3) := by decide +kernel
theorem dX7_undo_53 : decode cX7_undo 53 = .ok (.goto (-31), 3) := by decide +kernel
theorem dX7_undo_56 : decode cX7_undo 56 = .ok (.aload_n 0, 1) := by decide +kernel
theorem dX7_undo_57 : decode cX7_undo 57 = .ok (.getfield 31, 3) := by decide +kernel
theorem dX7_undo_60 : decode cX7_undo 60 = .ok (.ireturn, 1) := by decide +kernel
theorem dX7_keep_0 : decode cX7_keep 0 = .ok (.iconst 0, 1) := by decide +kernel
theorem dX7_keep_1 : decode cX7_keep 1 = .ok (.istore_n 1, 1) := by decide +kernel
theorem dX7_keep_2 : decode cX7_keep 2 = .ok (.iload_n 1, 1) := by decide +kernel
theorem dX7_keep_3 : decode cX7_keep 3 = .ok (.sipush 607, 3) := by decide +kernel
theorem dX7_keep_6 : decode cX7_keep 6 = .ok (.if_icmp .ge 21, 3) := by decide +kernel
theorem dX7_keep_9 : decode cX7_keep 9 = .ok (.aload_n 0, 1) := by decide +kernel
theorem dX7_keep_10 : decode cX7_keep 10 = .ok (.getfield 19, 3) := by decide +kernel
theorem dX7_keep_13 : decode cX7_keep 13 = .ok (.iload_n 1, 1) := by decide +kernel
theorem dX7_keep_14 : decode cX7_keep 14 = .ok (.aload_n 0, 1) := by decide +kernel
theorem dX7_keep_15 : decode cX7_keep 15 = .ok (.getfield 7, 3) := by decide +kernel
theorem dX7_keep_18 : decode cX7_keep 18 = .ok (.iload_n 1, 1) := by decide +kernel
theorem dX7_keep_19 : decode cX7_keep 19 = .ok (.iaload, 1) := by decide +kernel
theorem dX7_keep_20 : decode cX7_keep 20 = .ok (.iastore, 1) := by decide +kernel
theorem dX7_keep_21 : decode cX7_keep 21 = .ok (.iinc 1 1, 3) := by decide +kernel
theorem dX7_keep_24 : decode cX7_keep 24 = .ok (.goto (-22), 3) := by decide +kernel
theorem dX7_keep_27 : decode cX7_keep 27 = .ok (.aload_n 0, 1) := by decide +kernel
theorem dX7_keep_28 : decode cX7_keep 28 = .ok (.iconst 1, 1) := by decide +kernel
theorem dX7_keep_29 : decode cX7_keep 29 = .ok (.putfield 192, 3) := by decide +kernel
theorem dX7_keep_32 : decode cX7_keep 32 = .ok (.aload_n 0, 1) := by decide +kernel
theorem dX7_keep_33 : decode cX7_keep 33 = .ok (.getfield 7, 3) := by decide +kernel
theorem dX7_keep_36 : decode cX7_keep 36 = .ok (.iconst 0, 1) := by decide +kernel
theorem dX7_keep_37 : decode cX7_keep 37 = .ok (.iaload, 1) := by decide +kernel
theorem dX7_keep_38 : decode cX7_keep 38 = .ok (.ireturn, 1) := by decide +kernel
theorem dX7_restore_0 : decode cX7_restore 0 = .ok (.aload_n 0, 1) := by decide +kernel
theorem dX7_restore_1 : decode cX7_restore 1 = .ok (.getfield 192, 3) := by decide +kernel
theorem dX7_restore_4 : decode cX7_restore 4 = .ok (.ifCond .ne 6, 3) := by decide +kernel
theorem dX7_restore_7 : decode cX7_restore 7 = .ok (.bipush (-5), 2) := by decide +kernel
theorem dX7_restore_9 : decode cX7_restore 9 = .ok (.ireturn, 1) := by decide +kernel
theorem dX7_restore_10 : decode cX7_restore 10 = .ok (.aload_n 0, 1) := by decide +kernel
theorem dX7_restore_11 : decode cX7_restore 11 = .ok (.invokevirtual 124, 3) := by decide +kernel
theorem dX7_restore_14 : decode cX7_restore 14 = .ok (.iconst 0, 1) := by decide +kernel
theorem dX7_restore_15 : decode cX7_restore 15 = .ok (.istore_n 1, 1) := by decide +kernel
theorem dX7_restore_16 : decode cX7_restore 16 = .ok (.iload_n 1, 1) := by decide +kernel
theorem dX7_restore_17 : decode cX7_restore 17 = .ok (.sipush 607, 3) := by decide +kernel
theorem dX7_restore_20 : decode cX7_restore 20 = .ok (.if_icmp .ge 21, 3) := by decide +kernel
theorem dX7_restore_23 : decode cX7_restore 23 = .ok (.aload_n 0, 1) := by decide +kernel
theorem dX7_restore_24 : decode cX7_restore 24 = .ok (.getfield 7, 3) := by decide +kernel
theorem dX7_restore_27 : decode cX7_restore 27 = .ok (.iload_n 1, 1) := by decide +kernel
theorem dX7_restore_28 : decode cX7_restore 28 = .ok (.aload_n 0, 1) := by decide +kernel
theorem dX7_restore_29 : decode cX7_restore 29 = .ok (.getfield 19, 3) := by decide +kernel
theorem dX7_restore_32 : decode cX7_restore 32 = .ok (.iload_n 1, 1) := by decide +kernel
theorem dX7_restore_33 : decode cX7_restore 33 = .ok (.iaload, 1) := by decide +kernel
theorem dX7_restore_34 : decode cX7_restore 34 = .ok (.iastore, 1) := by decide +kernel
theorem dX7_restore_35 : decode cX7_restore 35 = .ok (.iinc 1 1, 3) := by decide +kernel
theorem dX7_restore_38 : decode cX7_restore 38 = .ok (.goto (-22), 3) := by decide +kernel
theorem dX7_restore_41 : decode cX7_restore 41 = .ok (.aload_n 0, 1) := by decide +kernel
theorem dX7_restore_42 : decode cX7_restore 42 = .ok (.getfield 7, 3) := by decide +kernel
theorem dX7_restore_45 : decode cX7_restore 45 = .ok (.iconst 0, 1) := by decide +kernel
theorem dX7_restore_46 : decode cX7_restore 46 = .ok (.iaload, 1) := by decide +kernel
theorem dX7_restore_47 : decode cX7_restore 47 = .ok (.ireturn, 1) := by decide +kernel
theorem dX7_date_0 : decode cX7_date 0 = .ok (.aload_n 0, 1) := by decide +kernel
theorem dX7_date_1 : decode cX7_date 1 = .ok (.iload_n 1, 1) := by decide +kernel
theorem dX7_date_2 : decode cX7_date 2 = .ok (.invokevirtual 93, 3) := by decide +kernel
theorem dX7_date_5 : decode cX7_date 5 = .ok (.ifCond .ne 5, 3) := by decide +kernel
theorem dX7_date_8 : decode cX7_date 8 = .ok (.iconst (-1), 1) := by decide +kernel
theorem dX7_date_9 : decode cX7_date 9 = .ok (.ireturn, 1) := by decide +kernel
theorem dX7_date_10 : decode cX7_date 10 = .ok (.aload_n 0, 1) := by decide +kernel
theorem dX7_date_11 : decode cX7_date 11 = .ok (.iload_n 1, 1) := by decide +kernel
theorem dX7_date_12 : decode cX7_date 12 = .ok (.iconst 1, 1) := by decide +kernel
theorem dX7_date_13 : decode cX7_date 13 = .ok (.iconst 4, 1) := by decide +kernel
theorem dX7_date_14 : decode cX7_date 14 = .ok (.invokevirtual 96, 3) := by decide +kernel
theorem dX7_date_17 : decode cX7_date 17 = .ok (.istore_n 3, 1) := by decide +kernel
theorem dX7_date_18 : decode cX7_date 18 = .ok (.iload_n 2, 1) := by decide +kernel
theorem dX7_date_19 : decode cX7_date 19 = .ok (.tableswitch 175 0 13 #[69, 69, 69, 69, 69, 76, 94, 100, 108, 116, 127, 133, 152, 159], 69) := by decide +kernel
theorem dX7_date_88 : decode cX7_date 88 = .ok (.aload_n 0, 1) := by decide +kernel
theorem dX7_date_89 : decode cX7_date 89 = .ok (.iload_n 1, 1) := by decide +kernel
theorem dX7_date_90 : decode cX7_date 90 = .ok (.iload_n 2, 1) := by decide +kernel
theorem dX7_date_91 : decode cX7_date 91 = .ok (.invokevirtual 46, 3) := by decide +kernel
theorem dX7_date_94 : decode cX7_date 94 = .ok (.ireturn, 1) := by decide +kernel
theorem dX7_date_95 : decode cX7_date 95 = .ok (.aload_n 0, 1) := by decide +kernel
theorem dX7_date_96 : decode cX7_date 96 = .ok (.iload_n 1, 1) := by decide +kernel
theorem dX7_date_97 : decode cX7_date 97 = .ok (.invokevirtual 63, 3) := by decide +kernel
theorem dX7_date_100 : decode cX7_date 100 = .ok (.ifCond .eq 11, 3) := by decide +kernel
theorem dX7_date_103 : decode cX7_date 103 = .ok (.aload_n 0, 1) := by decide +kernel
theorem dX7_date_104 : decode cX7_date 104 = .ok (.iload_n 1, 1) := by decide +kernel
theorem dX7_date_105 : decode cX7_date 105 = .ok (.invokevirtual 49, 3) := by decide +kernel
theorem dX7_date_108 : decode cX7_date 108 = .ok (.goto 4, 3) := by decide +kernel
theorem dX7_date_111 : decode cX7_date 111 = .ok (.iconst 0, 1) := by decide +kernel
theorem dX7_date_112 : decode cX7_date 112 = .ok (.ireturn, 1) := by decide +kernel
theorem dX7_date_113 : decode cX7_date 113 = .ok (.aload_n 0, 1) := by decide +kernel
theorem dX7_date_114 : decode cX7_date 114 = .ok (.iload_n 1, 1) := by decide +kernel
theorem dX7_date_115 : decode cX7_date 115 = .ok (.invokevirtual 60, 3) := by decide +kernel
theorem dX7_date_118 : decode cX7_date 118 = .ok (.ireturn, 1) := by decide +kernel
theorem dX7_date_119 : decode cX7_date 119 = .ok (.aload_n 0, 1) := by decide +kernel
theorem dX7_date_120 : decode cX7_date 120 = .ok (.iload_n 1, 1) := by decide +kernel
theorem dX7_date_121 : decode cX7_date 121 = .ok (.iconst 2, 1) := by decide +kernel
theorem dX7_date_122 : decode cX7_date 122 = .ok (.iconst 2, 1) := by decide +kernel
theorem dX7_date_123 : decode cX7_date 123 = .ok (.invokevirtual 56, 3) := by decide +kernel
theorem dX7_date_126 : decode cX7_date 126 = .ok (.ireturn, 1) := by decide +kernel
theorem dX7_date_127 : decode cX7_date 127 = .ok (.aload_n 0, 1) := by decide +kernel
theorem dX7_date_128 : decode cX7_date 128 = .ok (.iload_n 1, 1) := by decide +kernel
theorem dX7_date_129 : decode cX7_date 129 = .ok (.iconst 1, 1) := by decide +kernel
theorem dX7_date_130 : decode cX7_date 130 = .ok (.iconst 1, 1) := by decide +kernel
theorem dX7_date_131 : decode cX7_date 131 = .ok (.invokevirtual 56, 3) := by decide +kernel
theorem dX7_date_134 : decode cX7_date 134 = .ok (.ireturn, 1) := by decide +kernel
theorem dX7_date_135 : decode cX7_date 135 = .ok (.aload_n 0, 1) := by decide +kernel
theorem dX7_date_136 : decode cX7_date 136 = .ok (.iload_n 1, 1) := by decide +kernel
theorem dX7_date_137 : decode cX7_date 137 = .ok (.aload_n 0, 1) := by decide +kernel
theorem dX7_date_138 : decode cX7_date 138 = .ok (.iload_n 1, 1) := by decide +kernel
theorem dX7_date_139 : decode cX7_date 139 = .ok (.invokevirtual 49, 3) := by decide +kernel
theorem dX7_date_142 : decode cX7_date 142 = .ok (.invokevirtual 67, 3) := by decide +kernel
theorem dX7_date_145 : decode cX7_date 145 = .ok (.ireturn, 1) := by decide +kernel
theorem dX7_date_146 : decode cX7_date 146 = .ok (.aload_n 0, 1) := by decide +kernel
theorem dX7_date_147 : decode cX7_date 147 = .ok (.iload_n 1, 1) := by decide +kernel
theorem dX7_date_148 : decode cX7_date 148 = .ok (.invokevirtual 78, 3) := by decide +kernel
theorem dX7_date_151 : decode cX7_date 151 = .ok (.ireturn, 1) := by decide +kernel
theorem dX7_date_152 : decode cX7_date 152 = .ok (.aload_n 0, 1) := by decide +kernel
theorem dX7_date_153 : decode cX7_date 153 = .ok (.iload_n 1, 1) := by decide +kernel
theorem dX7_date_154 : decode cX7_date 154 = .ok (.invokevirtual 63, 3) := by decide +kernel
theorem dX7_date_157 : decode cX7_date 157 = .ok (.ifCond .eq 11, 3) := by decide +kernel
theorem dX7_date_160 : decode cX7_date 160 = .ok (.aload_n 0, 1) := by decide +kernel
theorem dX7_date_161 : decode cX7_date 161 = .ok (.iload_n 1, 1) := by decide +kernel
theorem dX7_date_162 : decode cX7_date 162 = .ok (.invokevirtual 87, 3) := by decide +kernel
theorem dX7_date_165 : decode cX7_date 165 = .ok (.goto 5, 3) := by decide +kernel
theorem dX7_date_168 : decode cX7_date 168 = .ok (.bipush (-5), 2) := by decide +kernel
theorem dX7_date_170 : decode cX7_date 170 = .ok (.ireturn, 1) := by decide +kernel
theorem dX7_date_171 : decode cX7_date 171 = .ok (.aload_n 0, 1) := by decide +kernel
theorem dX7_date_172 : decode cX7_date 172 = .ok (.iload_n 1, 1) := by decide +kernel
theorem dX7_date_173 : decode cX7_date 173 = .ok (.iconst 5, 1) := by decide +kernel
theorem dX7_date_174 : decode cX7_date 174 = .ok (.invokevirtual 46, 3) := by decide +kernel
theorem dX7_date_177 : decode cX7_date 177 = .ok (.ireturn, 1) := by decide +kernel
theorem dX7_date_178 : decode cX7_date 178 = .ok (.iload_n 3, 1) := by decide +kernel
theorem dX7_date_179 : decode cX7_date 179 = .ok (.ifCond .ge 8, 3) := by decide +kernel
theorem dX7_date_182 : decode cX7_date 182 = .ok (.bipush (-5), 2) := by decide +kernel
theorem dX7_date_184 : decode cX7_date 184 = .ok (.goto 9, 3) := by decide +kernel
theorem dX7_date_187 : decode cX7_date 187 = .ok (.aload_n 0, 1) := by decide +kernel
theorem dX7_date_188 : decode cX7_date 188 = .ok (.iload_n 3, 1) := by decide +kernel
theorem dX7_date_189 : decode cX7_date 189 = .ok (.iconst 4, 1) := by decide +kernel
theorem dX7_date_190 : decode cX7_date 190 = .ok (.invokevirtual 53, 3) := by decide +kernel
theorem dX7_date_193 : decode cX7_date 193 = .ok (.ireturn, 1) := by decide +kernel
theorem dX7_date_194 : decode cX7_date 194 = .ok (.bipush (-2), 2) := by decide +kernel
theorem dX7_date_196 : decode cX7_date 196 = .ok (.ireturn, 1) := by decide +kernel
theorem dX7_waiting_0 : decode cX7_waiting 0 = .ok (.aload_n 0, 1) := by decide +kernel
theorem dX7_waiting_1 : decode cX7_waiting 1 = .ok (.iload_n 1, 1) := by decide +kernel
theorem dX7_waiting_2 : decode cX7_waiting 2 = .ok (.invokevirtual 93, 3) := by decide +kernel
theorem dX7_waiting_5 : decode cX7_waiting 5 = .ok (.ifCond .ne 5, 3) := by decide +kernel
theorem dX7_waiting_8 : decode cX7_waiting 8 = .ok (.iconst (-1), 1) := by decide +kernel
theorem dX7_waiting_9 : decode cX7_waiting 9 = .ok (.ireturn, 1) := by decide +kernel
theorem dX7_waiting_10 : decode cX7_waiting 10 = .ok (.iload_n 2, 1) := by decide +kernel
theorem dX7_waiting_11 : decode cX7_waiting 11 = .ok (.ifCond .ge 6, 3) := by decide +kernel
theorem dX7_waiting_14 : decode cX7_waiting 14 = .ok (.bipush (-2), 2) := by decide +kernel
theorem dX7_waiting_16 : decode cX7_waiting 16 = .ok (.ireturn, 1) := by decide +kernel
theorem dX7_waiting_17 : decode cX7_waiting 17 = .ok (.iload_n 2, 1) := by decide +kernel
theorem dX7_waiting_18 : decode cX7_waiting 18 = .ok (.aload_n 0, 1) := by decide +kernel
theorem dX7_waiting_19 : decode cX7_waiting 19 = .ok (.iload_n 1, 1) := by decide +kernel
theorem dX7_waiting_20 : decode cX7_waiting 20 = .ok (.iconst 5, 1) := by decide +kernel
theorem dX7_waiting_21 : decode cX7_waiting 21 = .ok (.invokevirtual 46, 3) := by decide +kernel
theorem dX7_waiting_24 : decode cX7_waiting 24 = .ok (.if_icmp .ge 15, 3) := by decide +kernel
theorem dX7_waiting_27 : decode cX7_waiting 27 = .ok (.aload_n 0, 1) := by decide +kernel
theorem dX7_waiting_28 : decode cX7_waiting 28 = .ok (.iload_n 1, 1) := by decide +kernel
theorem dX7_waiting_29 : decode cX7_waiting 29 = .ok (.bipush 6, 2) := by decide +kernel
theorem dX7_waiting_31 : decode cX7_waiting 31 = .ok (.iload_n 2, 1) := by decide +kernel
theorem dX7_waiting_32 : decode cX7_waiting 32 = .ok (.iadd, 1) := by decide +kernel
theorem dX7_waiting_33 : decode cX7_waiting 33 = .ok (.invokevirtual 46, 3) := by decide +kernel
theorem dX7_waiting_36 : decode cX7_waiting 36 = .ok (.goto 5, 3) := by decide +kernel
theorem dX7_waiting_39 : decode cX7_waiting 39 = .ok (.bipush (-5), 2) := by decide +kernel
theorem dX7_waiting_41 : decode cX7_waiting 41 = .ok (.ireturn, 1) := by decide +kernel
theorem dX7_right_0 : decode cX7_right 0 = .ok (.aload_n 0, 1) := by decide +kernel
theorem dX7_right_1 : decode cX7_right 1 = .ok (.iload_n 1, 1) := by decide +kernel
theorem dX7_right_2 : decode cX7_right 2 = .ok (.invokevirtual 102, 3) := by decide +kernel
theorem dX7_right_5 : decode cX7_right 5 = .ok (.ifCond .ne 5, 3) := by decide +kernel
theorem dX7_right_8 : decode cX7_right 8 = .ok (.iconst (-1), 1) := by decide +kernel
theorem dX7_right_9 : decode cX7_right 9 = .ok (.ireturn, 1) := by decide +kernel
theorem dX7_right_10 : decode cX7_right 10 = .ok (.iload_n 2, 1) := by decide +kernel
theorem dX7_right_11 : decode cX7_right 11 = .ok (.iconst 0, 1) := by decide +kernel
theorem dX7_right_12 : decode cX7_right 12 = .ok (.bipush 8, 2) := by decide +kernel
theorem dX7_right_14 : decode cX7_right 14 = .ok (.invokestatic 35, 3) := by decide +kernel
theorem dX7_right_17 : decode cX7_right 17 = .ok (.ifCond .ne 6, 3) := by decide +kernel
theorem dX7_right_20 : decode cX7_right 20 = .ok (.bipush (-2), 2) := by decide +kernel
theorem dX7_right_22 : decode cX7_right 22 = .ok (.ireturn, 1) := by decide +kernel
theorem dX7_right_23 : decode cX7_right 23 = .ok (.iload_n 2, 1) := by decide +kernel
theorem dX7_right_24 : decode cX7_right 24 = .ok (.bipush 7, 2) := by decide +kernel
theorem dX7_right_26 : decode cX7_right 26 = .ok (.if_icmp .ge 12, 3) := by decide +kernel
theorem dX7_right_29 : decode cX7_right 29 = .ok (.aload_n 0, 1) := by decide +kernel
theorem dX7_right_30 : decode cX7_right 30 = .ok (.iload_n 1, 1) := by decide +kernel
theorem dX7_right_31 : decode cX7_right 31 = .ok (.iload_n 2, 1) := by decide +kernel
theorem dX7_right_32 : decode cX7_right 32 = .ok (.invokevirtual 53, 3) := by decide +kernel
theorem dX7_right_35 : decode cX7_right 35 = .ok (.goto 43, 3) := by decide +kernel
theorem dX7_right_38 : decode cX7_right 38 = .ok (.iload_n 2, 1) := by decide +kernel
theorem dX7_right_39 : decode cX7_right 39 = .ok (.bipush 8, 2) := by decide +kernel
theorem dX7_right_41 : decode cX7_right 41 = .ok (.if_icmp .ne 19, 3) := by decide +kernel
theorem dX7_right_44 : decode cX7_right 44 = .ok (.aload_n 0, 1) := by decide +kernel
theorem dX7_right_45 : decode cX7_right 45 = .ok (.iload_n 1, 1) := by decide +kernel
theorem dX7_right_46 : decode cX7_right 46 = .ok (.invokevirtual 115, 3) := by decide +kernel
theorem dX7_right_49 : decode cX7_right 49 = .ok (.ifCond .eq 7, 3) := by decide +kernel
theorem dX7_right_52 : decode cX7_right 52 = .ok (.iconst 1, 1) := by decide +kernel
theorem dX7_right_53 : decode cX7_right 53 = .ok (.goto 25, 3) := by decide +kernel
theorem dX7_right_56 : decode cX7_right 56 = .ok (.iconst 0, 1) := by decide +kernel
theorem dX7_right_57 : decode cX7_right 57 = .ok (.goto 21, 3) := by decide +kernel
theorem dX7_right_60 : decode cX7_right 60 = .ok (.aload_n 0, 1) := by decide +kernel
theorem dX7_right_61 : decode cX7_right 61 = .ok (.iload_n 1, 1) := by decide +kernel
theorem dX7_right_62 : decode cX7_right 62 = .ok (.invokevirtual 105, 3) := by decide +kernel
theorem dX7_right_65 : decode cX7_right 65 = .ok (.ifCond .eq 11, 3) := by decide +kernel
theorem dX7_right_68 : decode cX7_right 68 = .ok (.aload_n 0, 1) := by decide +kernel
theorem dX7_right_69 : decode cX7_right 69 = .ok (.iload_n 1, 1) := by decide +kernel
theorem dX7_right_70 : decode cX7_right 70 = .ok (.invokevirtual 108, 3) := by decide +kernel
theorem dX7_right_73 : decode cX7_right 73 = .ok (.goto 5, 3) := by decide +kernel
theorem dX7_right_76 : decode cX7_right 76 = .ok (.bipush (-5), 2) := by decide +kernel
theorem dX7_right_78 : decode cX7_right 78 = .ok (.ireturn, 1) := by decide +kernel
theorem dX7_holder_0 : decode cX7_holder 0 = .ok (.iload_n 1, 1) := by decide +kernel
theorem dX7_holder_1 : decode cX7_holder 1 = .ok (.invokestatic 90, 3) := by decide +kernel
theorem dX7_holder_4 : decode cX7_holder 4 = .ok (.ifCond .ne 5, 3) := by decide +kernel
theorem dX7_holder_7 : decode cX7_holder 7 = .ok (.iconst (-1), 1) := by decide +kernel
theorem dX7_holder_8 : decode cX7_holder 8 = .ok (.ireturn, 1) := by decide +kernel
theorem dX7_holder_9 : decode cX7_holder 9 = .ok (.iconst 0, 1) := by decide +kernel
theorem dX7_holder_10 : decode cX7_holder 10 = .ok (.istore_n 3, 1) := by decide +kernel
theorem dX7_holder_11 : decode cX7_holder 11 = .ok (.iconst 0, 1) := by decide +kernel
theorem dX7_holder_12 : decode cX7_holder 12 = .ok (.istore 4, 2) := by decide +kernel
theorem dX7_holder_14 : decode cX7_holder 14 = .ok (.iconst 0, 1) := by decide +kernel
theorem dX7_holder_15 : decode cX7_holder 15 = .ok (.istore 5, 2) := by decide +kernel
theorem dX7_holder_17 : decode cX7_holder 17 = .ok (.iload 5, 2) := by decide +kernel
theorem dX7_holder_19 : decode cX7_holder 19 = .ok (.aload_n 0, 1) := by decide +kernel
theorem dX7_holder_20 : decode cX7_holder 20 = .ok (.getfield 7, 3) := by decide +kernel
theorem dX7_holder_23 : decode cX7_holder 23 = .ok (.iconst 2, 1) := by decide +kernel
theorem dX7_holder_24 : decode cX7_holder 24 = .ok (.iaload, 1) := by decide +kernel
theorem dX7_holder_25 : decode cX7_holder 25 = .ok (.if_icmp .ge 75, 3) := by decide +kernel
theorem dX7_holder_28 : decode cX7_holder 28 = .ok (.aload_n 0, 1) := by decide +kernel
theorem dX7_holder_29 : decode cX7_holder 29 = .ok (.iload 5, 2) := by decide +kernel
theorem dX7_holder_31 : decode cX7_holder 31 = .ok (.iconst 1, 1) := by decide +kernel
theorem dX7_holder_32 : decode cX7_holder 32 = .ok (.invokevirtual 53, 3) := by decide +kernel
theorem dX7_holder_35 : decode cX7_holder 35 = .ok (.iload_n 1, 1) := by decide +kernel
theorem dX7_holder_36 : decode cX7_holder 36 = .ok (.if_icmp .ne 7, 3) := by decide +kernel
theorem dX7_holder_39 : decode cX7_holder 39 = .ok (.iconst 1, 1) := by decide +kernel
theorem dX7_holder_40 : decode cX7_holder 40 = .ok (.goto 4, 3) := by decide +kernel
theorem dX7_holder_43 : decode cX7_holder 43 = .ok (.iconst 0, 1) := by decide +kernel
theorem dX7_holder_44 : decode cX7_holder 44 = .ok (.istore 6, 2) := by decide +kernel
theorem dX7_holder_46 : decode cX7_holder 46 = .ok (.iload_n 3, 1) := by decide +kernel
theorem dX7_holder_47 : decode cX7_holder 47 = .ok (.iload 6, 2) := by decide +kernel
theorem dX7_holder_49 : decode cX7_holder 49 = .ok (.ifCond .eq 16, 3) := by decide +kernel
theorem dX7_holder_52 : decode cX7_holder 52 = .ok (.aload_n 0, 1) := by decide +kernel
theorem dX7_holder_53 : decode cX7_holder 53 = .ok (.iload 5, 2) := by decide +kernel
theorem dX7_holder_55 : decode cX7_holder 55 = .ok (.invokevirtual 105, 3) := by decide +kernel
theorem dX7_holder_58 : decode cX7_holder 58 = .ok (.ifCond .eq 7, 3) := by decide +kernel
theorem dX7_holder_61 : decode cX7_holder 61 = .ok (.iconst 1, 1) := by decide +kernel
theorem dX7_holder_62 : decode cX7_holder 62 = .ok (.goto 4, 3) := by decide +kernel
theorem dX7_holder_65 : decode cX7_holder 65 = .ok (.iconst 0, 1) := by decide +kernel
theorem dX7_holder_66 : decode cX7_holder 66 = .ok (.iadd, 1) := by decide +kernel
theorem dX7_holder_67 : decode cX7_holder 67 = .ok (.istore_n 3, 1) := by decide +kernel
theorem dX7_holder_68 : decode cX7_holder 68 = .ok (.iload 4, 2) := by decide +kernel
theorem dX7_holder_70 : decode cX7_holder 70 = .ok (.iload 6, 2) := by decide +kernel
theorem dX7_holder_72 : decode cX7_holder 72 = .ok (.ifCond .eq 18, 3) := by decide +kernel
theorem dX7_holder_75 : decode cX7_holder 75 = .ok (.aload_n 0, 1) := by decide +kernel
theorem dX7_holder_76 : decode cX7_holder 76 = .ok (.iload 5, 2) := by decide +kernel
theorem dX7_holder_78 : decode cX7_holder 78 = .ok (.iconst 3, 1) := by decide +kernel
theorem dX7_holder_79 : decode cX7_holder 79 = .ok (.invokevirtual 53, 3) := by decide +kernel
theorem dX7_holder_82 : decode cX7_holder 82 = .ok (.iconst 2, 1) := by decide +kernel
theorem dX7_holder_83 : decode cX7_holder 83 = .ok (.if_icmp .ne 7, 3) := by decide +kernel
theorem dX7_holder_86 : decode cX7_holder 86 = .ok (.iconst 1, 1) := by decide +kernel
theorem dX7_holder_87 : decode cX7_holder 87 = .ok (.goto 4, 3) := by decide +kernel
theorem dX7_holder_90 : decode cX7_holder 90 = .ok (.iconst 0, 1) := by decide +kernel
theorem dX7_holder_91 : decode cX7_holder 91 = .ok (.iadd, 1) := by decide +kernel
theorem dX7_holder_92 : decode cX7_holder 92 = .ok (.istore 4, 2) := by decide +kernel
theorem dX7_holder_94 : decode cX7_holder 94 = .ok (.iinc 5 1, 3) := by decide +kernel
theorem dX7_holder_97 : decode cX7_holder 97 = .ok (.goto (-80), 3) := by decide +kernel
theorem dX7_holder_100 : decode cX7_holder 100 = .ok (.iconst 0, 1) := by decide +kernel
theorem dX7_holder_101 : decode cX7_holder 101 = .ok (.istore 5, 2) := by decide +kernel
theorem dX7_holder_103 : decode cX7_holder 103 = .ok (.iconst 0, 1) := by decide +kernel
theorem dX7_holder_104 : decode cX7_holder 104 = .ok (.istore 6, 2) := by decide +kernel
theorem dX7_holder_106 : decode cX7_holder 106 = .ok (.iload 6, 2) := by decide +kernel
theorem dX7_holder_108 : decode cX7_holder 108 = .ok (.aload_n 0, 1) := by decide +kernel
theorem dX7_holder_109 : decode cX7_holder 109 = .ok (.getfield 7, 3) := by decide +kernel
theorem dX7_holder_112 : decode cX7_holder 112 = .ok (.iconst 1, 1) := by decide +kernel
theorem dX7_holder_113 : decode cX7_holder 113 = .ok (.iaload, 1) := by decide +kernel
theorem dX7_holder_114 : decode cX7_holder 114 = .ok (.if_icmp .ge 29, 3) := by decide +kernel
theorem dX7_holder_117 : decode cX7_holder 117 = .ok (.iload 5, 2) := by decide +kernel
theorem dX7_holder_119 : decode cX7_holder 119 = .ok (.aload_n 0, 1) := by decide +kernel
theorem dX7_holder_120 : decode cX7_holder 120 = .ok (.iload_n 1, 1) := by decide +kernel
theorem dX7_holder_121 : decode cX7_holder 121 = .ok (.iload 6, 2) := by decide +kernel
theorem dX7_holder_123 : decode cX7_holder 123 = .ok (.invokevirtual 151, 3) := by decide +kernel
theorem dX7_holder_126 : decode cX7_holder 126 = .ok (.ifCond .lt 7, 3) := by decide +kernel
theorem dX7_holder_129 : decode cX7_holder 129 = .ok (.iconst 1, 1) := by decide +kernel
theorem dX7_holder_130 : decode cX7_holder 130 = .ok (.goto 4, 3) := by decide +kernel
theorem dX7_holder_133 : decode cX7_holder 133 = .ok (.iconst 0, 1) := by decide +kernel
theorem dX7_holder_134 : decode cX7_holder 134 = .ok (.iadd, 1) := by decide +kernel
theorem dX7_holder_135 : decode cX7_holder 135 = .ok (.istore 5, 2) := by decide +kernel
theorem dX7_holder_137 : decode cX7_holder 137 = .ok (.iinc 6 1, 3) := by decide +kernel
theorem dX7_holder_140 : decode cX7_holder 140 = .ok (.goto (-34), 3) := by decide +kernel
theorem dX7_holder_143 : decode cX7_holder 143 = .ok (.iload_n 2, 1) := by decide +kernel
theorem dX7_holder_144 : decode cX7_holder 144 = .ok (.tableswitch 53 0 3 #[32, 45, 47, 50], 32) := by decide +kernel
theorem dX7_holder_176 : decode cX7_holder 176 = .ok (.aload_n 0, 1) := by decide +kernel
theorem dX7_holder_177 : decode cX7_holder 177 = .ok (.getfield 7, 3) := by decide +kernel
theorem dX7_holder_180 : decode cX7_holder 180 = .ok (.bipush 17, 2) := by decide +kernel
theorem dX7_holder_182 : decode cX7_holder 182 = .ok (.iload_n 1, 1) := by decide +kernel
theorem dX7_holder_183 : decode cX7_holder 183 = .ok (.iadd, 1) := by decide +kernel
theorem dX7_holder_184 : decode cX7_holder 184 = .ok (.iaload, 1) := by decide +kernel
theorem dX7_holder_185 : decode cX7_holder 185 = .ok (.ldc 196, 2) := by decide +kernel
theorem dX7_holder_187 : decode cX7_holder 187 = .ok (.iadd, 1) := by decide +kernel
theorem dX7_holder_188 : decode cX7_holder 188 = .ok (.ireturn, 1) := by decide +kernel
theorem dX7_holder_189 : decode cX7_holder 189 = .ok (.iload_n 3, 1) := by decide +kernel
theorem dX7_holder_190 : decode cX7_holder 190 = .ok (.ireturn, 1) := by decide +kernel
theorem dX7_holder_191 : decode cX7_holder 191 = .ok (.iload 4, 2) := by decide +kernel
theorem dX7_holder_193 : decode cX7_holder 193 = .ok (.ireturn, 1) := by decide +kernel
theorem dX7_holder_194 : decode cX7_holder 194 = .ok (.iload 5, 2) := by decide +kernel
theorem dX7_holder_196 : decode cX7_holder 196 = .ok (.ireturn, 1) := by decide +kernel
theorem dX7_holder_197 : decode cX7_holder 197 = .ok (.bipush (-2), 2) := by decide +kernel
theorem dX7_holder_199 : decode cX7_holder 199 = .ok (.ireturn, 1) := by decide +kernel
theorem dX7_stage_0 : decode cX7_stage 0 = .ok (.iload_n 1, 1) := by decide +kernel
theorem dX7_stage_1 : decode cX7_stage 1 = .ok (.iconst 0, 1) := by decide +kernel
theorem dX7_stage_2 : decode cX7_stage 2 = .ok (.iconst 3, 1) := by decide +kernel
theorem dX7_stage_3 : decode cX7_stage 3 = .ok (.invokestatic 35, 3) := by decide +kernel
theorem dX7_stage_6 : decode cX7_stage 6 = .ok (.ifCond .ne 5, 3) := by decide +kernel
theorem dX7_stage_9 : decode cX7_stage 9 = .ok (.iconst (-1), 1) := by decide +kernel
theorem dX7_stage_10 : decode cX7_stage 10 = .ok (.ireturn, 1) := by decide +kernel
theorem dX7_stage_11 : decode cX7_stage 11 = .ok (.iload_n 2, 1) := by decide +kernel
theorem dX7_stage_12 : decode cX7_stage 12 = .ok (.iconst 0, 1) := by decide +kernel
theorem dX7_stage_13 : decode cX7_stage 13 = .ok (.iconst 1, 1) := by decide +kernel
theorem dX7_stage_14 : decode cX7_stage 14 = .ok (.invokestatic 35, 3) := by decide +kernel
theorem dX7_stage_17 : decode cX7_stage 17 = .ok (.ifCond .eq 19, 3) := by decide +kernel
theorem dX7_stage_20 : decode cX7_stage 20 = .ok (.aload_n 0, 1) := by decide +kernel
theorem dX7_stage_21 : decode cX7_stage 21 = .ok (.getfield 7, 3) := by decide +kernel
theorem dX7_stage_24 : decode cX7_stage 24 = .ok (.bipush 9, 2) := by decide +kernel
theorem dX7_stage_26 : decode cX7_stage 26 = .ok (.iconst 2, 1) := by decide +kernel
theorem dX7_stage_27 : decode cX7_stage 27 = .ok (.iload_n 1, 1) := by decide +kernel
theorem dX7_stage_28 : decode cX7_stage 28 = .ok (.imul, 1) := by decide +kernel
theorem dX7_stage_29 : decode cX7_stage 29 = .ok (.iadd, 1) := by decide +kernel
theorem dX7_stage_30 : decode cX7_stage 30 = .ok (.iload_n 2, 1) := by decide +kernel
theorem dX7_stage_31 : decode cX7_stage 31 = .ok (.iadd, 1) := by decide +kernel
theorem dX7_stage_32 : decode cX7_stage 32 = .ok (.iaload, 1) := by decide +kernel
theorem dX7_stage_33 : decode cX7_stage 33 = .ok (.goto 5, 3) := by decide +kernel
theorem dX7_stage_36 : decode cX7_stage 36 = .ok (.bipush (-2), 2) := by decide +kernel
theorem dX7_stage_38 : decode cX7_stage 38 = .ok (.ireturn, 1) := by decide +kernel
theorem dX7_priceIn_0 : decode cX7_priceIn 0 = .ok (.aload_n 0, 1) := by decide +kernel
theorem dX7_priceIn_1 : decode cX7_priceIn 1 = .ok (.iload_n 1, 1) := by decide +kernel
theorem dX7_priceIn_2 : decode cX7_priceIn 2 = .ok (.invokevirtual 93, 3) := by decide +kernel
theorem dX7_priceIn_5 : decode cX7_priceIn 5 = .ok (.ifCond .ne 5, 3) := by decide +kernel
theorem dX7_priceIn_8 : decode cX7_priceIn 8 = .ok (.iconst (-1), 1) := by decide +kernel
theorem dX7_priceIn_9 : decode cX7_priceIn 9 = .ok (.ireturn, 1) := by decide +kernel
theorem dX7_priceIn_10 : decode cX7_priceIn 10 = .ok (.iload_n 2, 1) := by decide +kernel
theorem dX7_priceIn_11 : decode cX7_priceIn 11 = .ok (.iconst 0, 1) := by decide +kernel
theorem dX7_priceIn_12 : decode cX7_priceIn 12 = .ok (.bipush 60, 2) := by decide +kernel
theorem dX7_priceIn_14 : decode cX7_priceIn 14 = .ok (.invokestatic 35, 3) := by decide +kernel
theorem dX7_priceIn_17 : decode cX7_priceIn 17 = .ok (.ifCond .ne 6, 3) := by decide +kernel
theorem dX7_priceIn_20 : decode cX7_priceIn 20 = .ok (.bipush (-2), 2) := by decide +kernel
theorem dX7_priceIn_22 : decode cX7_priceIn 22 = .ok (.ireturn, 1) := by decide +kernel
theorem dX7_priceIn_23 : decode cX7_priceIn 23 = .ok (.aload_n 0, 1) := by decide +kernel
theorem dX7_priceIn_24 : decode cX7_priceIn 24 = .ok (.iload_n 1, 1) := by decide +kernel
theorem dX7_priceIn_25 : decode cX7_priceIn 25 = .ok (.invokevirtual 49, 3) := by decide +kernel
theorem dX7_priceIn_28 : decode cX7_priceIn 28 = .ok (.iload_n 2, 1) := by decide +kernel
theorem dX7_priceIn_29 : decode cX7_priceIn 29 = .ok (.isub, 1) := by decide +kernel
theorem dX7_priceIn_30 : decode cX7_priceIn 30 = .ok (.istore_n 3, 1) := by decide +kernel
theorem dX7_priceIn_31 : decode cX7_priceIn 31 = .ok (.iload_n 3, 1) := by decide +kernel
theorem dX7_priceIn_32 : decode cX7_priceIn 32 = .ok (.ifCond .le 12, 3) := by decide +kernel
theorem dX7_priceIn_35 : decode cX7_priceIn 35 = .ok (.aload_n 0, 1) := by decide +kernel
theorem dX7_priceIn_36 : decode cX7_priceIn 36 = .ok (.iload_n 1, 1) := by decide +kernel
theorem dX7_priceIn_37 : decode cX7_priceIn 37 = .ok (.iload_n 3, 1) := by decide +kernel
theorem dX7_priceIn_38 : decode cX7_priceIn 38 = .ok (.invokevirtual 67, 3) := by decide +kernel
theorem dX7_priceIn_41 : decode cX7_priceIn 41 = .ok (.goto 5, 3) := by decide +kernel
theorem dX7_priceIn_44 : decode cX7_priceIn 44 = .ok (.bipush (-5), 2) := by decide +kernel
theorem dX7_priceIn_46 : decode cX7_priceIn 46 = .ok (.ireturn, 1) := by decide +kernel
theorem dX7_wouldCover_0 : decode cX7_wouldCover 0 = .ok (.aload_n 0, 1) := by decide +kernel
theorem dX7_wouldCover_1 : decode cX7_wouldCover 1 = .ok (.iload_n 1, 1) := by decide +kernel
theorem dX7_wouldCover_2 : decode cX7_wouldCover 2 = .ok (.invokevirtual 93, 3) := by decide +kernel
theorem dX7_wouldCover_5 : decode cX7_wouldCover 5 = .ok (.ifCond .ne 5, 3) := by decide +kernel
theorem dX7_wouldCover_8 : decode cX7_wouldCover 8 = .ok (.iconst (-1), 1) := by decide +kernel
theorem dX7_wouldCover_9 : decode cX7_wouldCover 9 = .ok (.ireturn, 1) := by decide +kernel
theorem dX7_wouldCover_10 : decode cX7_wouldCover 10 = .ok (.aload_n 0, 1) := by decide +kernel
theorem dX7_wouldCover_11 : decode cX7_wouldCover 11 = .ok (.iload_n 1, 1) := by decide +kernel
theorem dX7_wouldCover_12 : decode cX7_wouldCover 12 = .ok (.invokevirtual 49, 3) := by decide +kernel
theorem dX7_wouldCover_15 : decode cX7_wouldCover 15 = .ok (.aload_n 0, 1) := by decide +kernel
theorem dX7_wouldCover_16 : decode cX7_wouldCover 16 = .ok (.getfield 7, 3) := by decide +kernel
theorem dX7_wouldCover_19 : decode cX7_wouldCover 19 = .ok (.iconst 3, 1) := by decide +kernel
theorem dX7_wouldCover_20 : decode cX7_wouldCover 20 = .ok (.iaload, 1) := by decide +kernel
theorem dX7_wouldCover_21 : decode cX7_wouldCover 21 = .ok (.if_icmp .gt 6, 3) := by decide +kernel
theorem dX7_wouldCover_24 : decode cX7_wouldCover 24 = .ok (.bipush (-5), 2) := by decide +kernel
theorem dX7_wouldCover_26 : decode cX7_wouldCover 26 = .ok (.ireturn, 1) := by decide +kernel
theorem dX7_wouldCover_27 : decode cX7_wouldCover 27 = .ok (.aload_n 0, 1) := by decide +kernel
theorem dX7_wouldCover_28 : decode cX7_wouldCover 28 = .ok (.invokevirtual 130, 3) := by decide +kernel
theorem dX7_wouldCover_31 : decode cX7_wouldCover 31 = .ok (.aload_n 0, 1) := by decide +kernel
theorem dX7_wouldCover_32 : decode cX7_wouldCover 32 = .ok (.iload_n 1, 1) := by decide +kernel
theorem dX7_wouldCover_33 : decode cX7_wouldCover 33 = .ok (.invokevirtual 121, 3) := by decide +kernel
theorem dX7_wouldCover_36 : decode cX7_wouldCover 36 = .ok (.istore_n 2, 1) := by decide +kernel
theorem dX7_wouldCover_37 : decode cX7_wouldCover 37 = .ok (.aload_n 0, 1) := by decide +kernel
theorem dX7_wouldCover_38 : decode cX7_wouldCover 38 = .ok (.invokevirtual 127, 3) := by decide +kernel
theorem dX7_wouldCover_41 : decode cX7_wouldCover 41 = .ok (.iload_n 2, 1) := by decide +kernel
theorem dX7_wouldCover_42 : decode cX7_wouldCover 42 = .ok (.ireturn, 1) := by decide +kernel
theorem dX7_event_0 : decode cX7_event 0 = .ok (.iload_n 1, 1) := by decide +kernel
theorem dX7_event_1 : decode cX7_event 1 = .ok (.ifCond .lt 12, 3) := by decide +kernel
theorem dX7_event_4 : decode cX7_event 4 = .ok (.iload_n 2, 1) := by decide +kernel
theorem dX7_event_5 : decode cX7_event 5 = .ok (.iconst 0, 1) := by decide +kernel
theorem dX7_event_6 : decode cX7_event 6 = .ok (.iconst 3, 1) := by decide +kernel
theorem dX7_event_7 : decode cX7_event 7 = .ok (.invokestatic 35, 3) := by decide +kernel
theorem dX7_event_10 : decode cX7_event 10 = .ok (.ifCond .ne 6, 3) := by decide +kernel
theorem dX7_event_13 : decode cX7_event 13 = .ok (.bipush (-2), 2) := by decide +kernel
theorem dX7_event_15 : decode cX7_event 15 = .ok (.ireturn, 1) := by decide +kernel
theorem dX7_event_16 : decode cX7_event 16 = .ok (.iload_n 1, 1) := by decide +kernel
theorem dX7_event_17 : decode cX7_event 17 = .ok (.aload_n 0, 1) := by decide +kernel
theorem dX7_event_18 : decode cX7_event 18 = .ok (.getfield 7, 3) := by decide +kernel
theorem dX7_event_21 : decode cX7_event 21 = .ok (.bipush 8, 2) := by decide +kernel
theorem dX7_event_23 : decode cX7_event 23 = .ok (.iaload, 1) := by decide +kernel
theorem dX7_event_24 : decode cX7_event 24 = .ok (.if_icmp .ge 20, 3) := by decide +kernel
theorem dX7_event_27 : decode cX7_event 27 = .ok (.aload_n 0, 1) := by decide +kernel
theorem dX7_event_28 : decode cX7_event 28 = .ok (.getfield 7, 3) := by decide +kernel
theorem dX7_event_31 : decode cX7_event 31 = .ok (.sipush 567, 3) := by decide +kernel
theorem dX7_event_34 : decode cX7_event 34 = .ok (.iconst 4, 1) := by decide +kernel
theorem dX7_event_35 : decode cX7_event 35 = .ok (.iload_n 1, 1) := by decide +kernel
theorem dX7_event_36 : decode cX7_event 36 = .ok (.imul, 1) := by decide +kernel
theorem dX7_event_37 : decode cX7_event 37 = .ok (.iadd, 1) := by decide +kernel
theorem dX7_event_38 : decode cX7_event 38 = .ok (.iload_n 2, 1) := by decide +kernel
theorem dX7_event_39 : decode cX7_event 39 = .ok (.iadd, 1) := by decide +kernel
theorem dX7_event_40 : decode cX7_event 40 = .ok (.iaload, 1) := by decide +kernel
theorem dX7_event_41 : decode cX7_event 41 = .ok (.goto 5, 3) := by decide +kernel
theorem dX7_event_44 : decode cX7_event 44 = .ok (.bipush (-5), 2) := by decide +kernel
theorem dX7_event_46 : decode cX7_event 46 = .ok (.ireturn, 1) := by decide +kernel
theorem dX7_count_0 : decode cX7_count 0 = .ok (.iconst 0, 1) := by decide +kernel
theorem dX7_count_1 : decode cX7_count 1 = .ok (.istore_n 2, 1) := by decide +kernel
theorem dX7_count_2 : decode cX7_count 2 = .ok (.iconst 0, 1) := by decide +kernel
theorem dX7_count_3 : decode cX7_count 3 = .ok (.istore_n 3, 1) := by decide +kernel
theorem dX7_count_4 : decode cX7_count 4 = .ok (.iload_n 3, 1) := by decide +kernel
theorem dX7_count_5 : decode cX7_count 5 = .ok (.aload_n 0, 1) := by decide +kernel
theorem dX7_count_6 : decode cX7_count 6 = .ok (.getfield 7, 3) := by decide +kernel
theorem dX7_count_9 : decode cX7_count 9 = .ok (.iconst 2, 1) := by decide +kernel
theorem dX7_count_10 : decode cX7_count 10 = .ok (.iaload, 1) := by decide +kernel
theorem dX7_count_11 : decode cX7_count 11 = .ok (.if_icmp .ge 29, 3) := by decide +kernel
theorem dX7_count_14 : decode cX7_count 14 = .ok (.iload_n 2, 1) := by decide +kernel
theorem dX7_count_15 : decode cX7_count 15 = .ok (.aload_n 0, 1) := by decide +kernel
theorem dX7_count_16 : decode cX7_count 16 = .ok (.iload_n 3, 1) := by decide +kernel
theorem dX7_count_17 : decode cX7_count 17 = .ok (.iconst 3, 1) := by decide +kernel
theorem dX7_count_18 : decode cX7_count 18 = .ok (.invokevirtual 53, 3) := by decide +kernel
theorem dX7_count_21 : decode cX7_count 21 = .ok (.iload_n 1, 1) := by decide +kernel
theorem dX7_count_22 : decode cX7_count 22 = .ok (.iconst 3, 1) := by decide +kernel
theorem dX7_count_23 : decode cX7_count 23 = .ok (.isub, 1) := by decide +kernel
theorem dX7_count_24 : decode cX7_count 24 = .ok (.if_icmp .ne 7, 3) := by decide +kernel
theorem dX7_count_27 : decode cX7_count 27 = .ok (.iconst 1, 1) := by decide +kernel
theorem dX7_count_28 : decode cX7_count 28 = .ok (.goto 4, 3) := by decide +kernel
theorem dX7_count_31 : decode cX7_count 31 = .ok (.iconst 0, 1) := by decide +kernel
theorem dX7_count_32 : decode cX7_count 32 = .ok (.iadd, 1) := by decide +kernel
theorem dX7_count_33 : decode cX7_count 33 = .ok (.istore_n 2, 1) := by decide +kernel
theorem dX7_count_34 : decode cX7_count 34 = .ok (.iinc 3 1, 3) := by decide +kernel
theorem dX7_count_37 : decode cX7_count 37 = .ok (.goto (-33), 3) := by decide +kernel
theorem dX7_count_40 : decode cX7_count 40 = .ok (.iload_n 1, 1) := by decide +kernel
theorem dX7_count_41 : decode cX7_count 41 = .ok (.tableswitch 121 0 15 #[79, 79, 79, 86, 86, 86, 86, 86, 86, 88, 99, 99, 99, 99, 111, 116], 79) := by decide +kernel
theorem dX7_count_120 : decode cX7_count 120 = .ok (.aload_n 0, 1) := by decide +kernel
theorem dX7_count_121 : decode cX7_count 121 = .ok (.getfield 7, 3) := by decide +kernel
theorem dX7_count_124 : decode cX7_count 124 = .ok (.iload_n 1, 1) := by decide +kernel
theorem dX7_count_125 : decode cX7_count 125 = .ok (.iaload, 1) := by decide +kernel
theorem dX7_count_126 : decode cX7_count 126 = .ok (.ireturn, 1) := by decide +kernel
theorem dX7_count_127 : decode cX7_count 127 = .ok (.iload_n 2, 1) := by decide +kernel
theorem dX7_count_128 : decode cX7_count 128 = .ok (.ireturn, 1) := by decide +kernel
theorem dX7_count_129 : decode cX7_count 129 = .ok (.aload_n 0, 1) := by decide +kernel
theorem dX7_count_130 : decode cX7_count 130 = .ok (.getfield 7, 3) := by decide +kernel
theorem dX7_count_133 : decode cX7_count 133 = .ok (.bipush 7, 2) := by decide +kernel
theorem dX7_count_135 : decode cX7_count 135 = .ok (.iaload, 1) := by decide +kernel
theorem dX7_count_136 : decode cX7_count 136 = .ok (.ldc 196, 2) := by decide +kernel
theorem dX7_count_138 : decode cX7_count 138 = .ok (.iadd, 1) := by decide +kernel
theorem dX7_count_139 : decode cX7_count 139 = .ok (.ireturn, 1) := by decide +kernel
theorem dX7_count_140 : decode cX7_count 140 = .ok (.aload_n 0, 1) := by decide +kernel
theorem dX7_count_141 : decode cX7_count 141 = .ok (.getfield 7, 3) := by decide +kernel
theorem dX7_count_144 : decode cX7_count 144 = .ok (.iconst 3, 1) := by decide +kernel
theorem dX7_count_145 : decode cX7_count 145 = .ok (.iload_n 1, 1) := by decide +kernel
theorem dX7_count_146 : decode cX7_count 146 = .ok (.iadd, 1) := by decide +kernel
theorem dX7_count_147 : decode cX7_count 147 = .ok (.bipush 10, 2) := by decide +kernel
theorem dX7_count_149 : decode cX7_count 149 = .ok (.isub, 1) := by decide +kernel
theorem dX7_count_150 : decode cX7_count 150 = .ok (.iaload, 1) := by decide +kernel
theorem dX7_count_151 : decode cX7_count 151 = .ok (.ireturn, 1) := by decide +kernel
theorem dX7_count_152 : decode cX7_count 152 = .ok (.aload_n 0, 1) := by decide +kernel
theorem dX7_count_153 : decode cX7_count 153 = .ok (.getfield 31, 3) := by decide +kernel
theorem dX7_count_156 : decode cX7_count 156 = .ok (.ireturn, 1) := by decide +kernel
theorem dX7_count_157 : decode cX7_count 157 = .ok (.aload_n 0, 1) := by decide +kernel
theorem dX7_count_158 : decode cX7_count 158 = .ok (.getfield 158, 3) := by decide +kernel
theorem dX7_count_161 : decode cX7_count 161 = .ok (.ireturn, 1) := by decide +kernel
theorem dX7_count_162 : decode cX7_count 162 = .ok (.bipush (-2), 2) := by decide +kernel
theorem dX7_count_164 : decode cX7_count 164 = .ok (.ireturn, 1) := by decide +kernel
theorem dL_law_0 : decode cL_law 0 = .ok (.new 7, 3) := by decide +kernel
theorem dL_law_3 : decode cL_law 3 = .ok (.dup, 1) := by decide +kernel
theorem dL_law_4 : decode cL_law 4 = .ok (.invokespecial 9, 3) := by decide +kernel
theorem dL_law_7 : decode cL_law 7 = .ok (.astore_n 1, 1) := by decide +kernel
theorem dL_law_8 : decode cL_law 8 = .ok (.new 10, 3) := by decide +kernel
theorem dL_law_11 : decode cL_law 11 = .ok (.dup, 1) := by decide +kernel
theorem dL_law_12 : decode cL_law 12 = .ok (.invokespecial 12, 3) := by decide +kernel
theorem dL_law_15 : decode cL_law 15 = .ok (.astore_n 2, 1) := by decide +kernel
theorem dL_law_16 : decode cL_law 16 = .ok (.iconst 0, 1) := by decide +kernel
theorem dL_law_17 : decode cL_law 17 = .ok (.istore_n 3, 1) := by decide +kernel
theorem dL_law_18 : decode cL_law 18 = .ok (.iload_n 3, 1) := by decide +kernel
theorem dL_law_19 : decode cL_law 19 = .ok (.aload_n 0, 1) := by decide +kernel
theorem dL_law_20 : decode cL_law 20 = .ok (.arraylength, 1) := by decide +kernel
theorem dL_law_21 : decode cL_law 21 = .ok (.bipush 6, 2) := by decide +kernel
theorem dL_law_23 : decode cL_law 23 = .ok (.isub, 1) := by decide +kernel
theorem dL_law_24 : decode cL_law 24 = .ok (.if_icmp .gt 901, 3) := by decide +kernel
theorem dL_law_27 : decode cL_law 27 = .ok (.aload_n 0, 1) := by decide +kernel
theorem dL_law_28 : decode cL_law 28 = .ok (.iload_n 3, 1) := by decide +kernel
theorem dL_law_29 : decode cL_law 29 = .ok (.iaload, 1) := by decide +kernel
theorem dL_law_30 : decode cL_law 30 = .ok (.bipush 31, 2) := by decide +kernel
theorem dL_law_32 : decode cL_law 32 = .ok (.iand, 1) := by decide +kernel
theorem dL_law_33 : decode cL_law 33 = .ok (.tableswitch 886 0 26 #[123, 186, 229, 262, 295, 328, 351, 384, 407, 430, 463, 496, 519, 544, 557, 570, 583, 596, 609, 642, 675, 708, 741, 774, 807, 830, 863], 123) := by decide +kernel
theorem dL_law_156 : decode cL_law 156 = .ok (.aload_n 1, 1) := by decide +kernel
theorem dL_law_157 : decode cL_law 157 = .ok (.aload_n 0, 1) := by decide +kernel
theorem dL_law_158 : decode cL_law 158 = .ok (.iload_n 3, 1) := by decide +kernel
theorem dL_law_159 : decode cL_law 159 = .ok (.iconst 1, 1) := by decide +kernel
theorem dL_law_160 : decode cL_law 160 = .ok (.iadd, 1) := by decide +kernel
theorem dL_law_161 : decode cL_law 161 = .ok (.iaload, 1) := by decide +kernel
theorem dL_law_162 : decode cL_law 162 = .ok (.aload_n 0, 1) := by decide +kernel
theorem dL_law_163 : decode cL_law 163 = .ok (.iload_n 3, 1) := by decide +kernel
theorem dL_law_164 : decode cL_law 164 = .ok (.iconst 2, 1) := by decide +kernel
theorem dL_law_165 : decode cL_law 165 = .ok (.iadd, 1) := by decide +kernel
theorem dL_law_166 : decode cL_law 166 = .ok (.iaload, 1) := by decide +kernel
theorem dL_law_167 : decode cL_law 167 = .ok (.aload_n 0, 1) := by decide +kernel
theorem dL_law_168 : decode cL_law 168 = .ok (.iload_n 3, 1) := by decide +kernel
theorem dL_law_169 : decode cL_law 169 = .ok (.iconst 3, 1) := by decide +kernel
theorem dL_law_170 : decode cL_law 170 = .ok (.iadd, 1) := by decide +kernel
theorem dL_law_171 : decode cL_law 171 = .ok (.iaload, 1) := by decide +kernel
theorem dL_law_172 : decode cL_law 172 = .ok (.aload_n 0, 1) := by decide +kernel
theorem dL_law_173 : decode cL_law 173 = .ok (.iload_n 3, 1) := by decide +kernel
theorem dL_law_174 : decode cL_law 174 = .ok (.iconst 4, 1) := by decide +kernel
theorem dL_law_175 : decode cL_law 175 = .ok (.iadd, 1) := by decide +kernel
theorem dL_law_176 : decode cL_law 176 = .ok (.iaload, 1) := by decide +kernel
theorem dL_law_177 : decode cL_law 177 = .ok (.aload_n 0, 1) := by decide +kernel
theorem dL_law_178 : decode cL_law 178 = .ok (.iload_n 3, 1) := by decide +kernel
theorem dL_law_179 : decode cL_law 179 = .ok (.iconst 5, 1) := by decide +kernel
theorem dL_law_180 : decode cL_law 180 = .ok (.iadd, 1) := by decide +kernel
theorem dL_law_181 : decode cL_law 181 = .ok (.iaload, 1) := by decide +kernel
theorem dL_law_182 : decode cL_law 182 = .ok (.invokevirtual 13, 3) := by decide +kernel
theorem dL_law_185 : decode cL_law 185 = .ok (.aload_n 2, 1) := by decide +kernel
theorem dL_law_186 : decode cL_law 186 = .ok (.aload_n 0, 1) := by decide +kernel
theorem dL_law_187 : decode cL_law 187 = .ok (.iload_n 3, 1) := by decide +kernel
theorem dL_law_188 : decode cL_law 188 = .ok (.iconst 1, 1) := by decide +kernel
theorem dL_law_189 : decode cL_law 189 = .ok (.iadd, 1) := by decide +kernel
theorem dL_law_190 : decode cL_law 190 = .ok (.iaload, 1) := by decide +kernel
theorem dL_law_191 : decode cL_law 191 = .ok (.aload_n 0, 1) := by decide +kernel
theorem dL_law_192 : decode cL_law 192 = .ok (.iload_n 3, 1) := by decide +kernel
theorem dL_law_193 : decode cL_law 193 = .ok (.iconst 2, 1) := by decide +kernel
theorem dL_law_194 : decode cL_law 194 = .ok (.iadd, 1) := by decide +kernel
theorem dL_law_195 : decode cL_law 195 = .ok (.iaload, 1) := by decide +kernel
theorem dL_law_196 : decode cL_law 196 = .ok (.aload_n 0, 1) := by decide +kernel
theorem dL_law_197 : decode cL_law 197 = .ok (.iload_n 3, 1) := by decide +kernel
theorem dL_law_198 : decode cL_law 198 = .ok (.iconst 3, 1) := by decide +kernel
theorem dL_law_199 : decode cL_law 199 = .ok (.iadd, 1) := by decide +kernel
theorem dL_law_200 : decode cL_law 200 = .ok (.iaload, 1) := by decide +kernel
theorem dL_law_201 : decode cL_law 201 = .ok (.aload_n 0, 1) := by decide +kernel
theorem dL_law_202 : decode cL_law 202 = .ok (.iload_n 3, 1) := by decide +kernel
theorem dL_law_203 : decode cL_law 203 = .ok (.iconst 4, 1) := by decide +kernel
theorem dL_law_204 : decode cL_law 204 = .ok (.iadd, 1) := by decide +kernel
theorem dL_law_205 : decode cL_law 205 = .ok (.iaload, 1) := by decide +kernel
theorem dL_law_206 : decode cL_law 206 = .ok (.aload_n 0, 1) := by decide +kernel
theorem dL_law_207 : decode cL_law 207 = .ok (.iload_n 3, 1) := by decide +kernel
theorem dL_law_208 : decode cL_law 208 = .ok (.iconst 5, 1) := by decide +kernel
theorem dL_law_209 : decode cL_law 209 = .ok (.iadd, 1) := by decide +kernel
theorem dL_law_210 : decode cL_law 210 = .ok (.iaload, 1) := by decide +kernel
theorem dL_law_211 : decode cL_law 211 = .ok (.invokevirtual 17, 3) := by decide +kernel
theorem dL_law_214 : decode cL_law 214 = .ok (.if_icmp .eq 705, 3) := by decide +kernel
theorem dL_law_217 : decode cL_law 217 = .ok (.iconst 0, 1) := by decide +kernel
theorem dL_law_218 : decode cL_law 218 = .ok (.ireturn, 1) := by decide +kernel
theorem dL_law_219 : decode cL_law 219 = .ok (.aload_n 1, 1) := by decide +kernel
theorem dL_law_220 : decode cL_law 220 = .ok (.aload_n 0, 1) := by decide +kernel
theorem dL_law_221 : decode cL_law 221 = .ok (.iload_n 3, 1) := by decide +kernel
theorem dL_law_222 : decode cL_law 222 = .ok (.iconst 1, 1) := by decide +kernel
theorem dL_law_223 : decode cL_law 223 = .ok (.iadd, 1) := by decide +kernel
theorem dL_law_224 : decode cL_law 224 = .ok (.iaload, 1) := by decide +kernel
theorem dL_law_225 : decode cL_law 225 = .ok (.aload_n 0, 1) := by decide +kernel
theorem dL_law_226 : decode cL_law 226 = .ok (.iload_n 3, 1) := by decide +kernel
theorem dL_law_227 : decode cL_law 227 = .ok (.iconst 2, 1) := by decide +kernel
theorem dL_law_228 : decode cL_law 228 = .ok (.iadd, 1) := by decide +kernel
theorem dL_law_229 : decode cL_law 229 = .ok (.iaload, 1) := by decide +kernel
theorem dL_law_230 : decode cL_law 230 = .ok (.aload_n 0, 1) := by decide +kernel
theorem dL_law_231 : decode cL_law 231 = .ok (.iload_n 3, 1) := by decide +kernel
theorem dL_law_232 : decode cL_law 232 = .ok (.iconst 3, 1) := by decide +kernel
theorem dL_law_233 : decode cL_law 233 = .ok (.iadd, 1) := by decide +kernel
theorem dL_law_234 : decode cL_law 234 = .ok (.iaload, 1) := by decide +kernel
theorem dL_law_235 : decode cL_law 235 = .ok (.invokevirtual 18, 3) := by decide +kernel
theorem dL_law_238 : decode cL_law 238 = .ok (.aload_n 2, 1) := by decide +kernel
theorem dL_law_239 : decode cL_law 239 = .ok (.aload_n 0, 1) := by decide +kernel
theorem dL_law_240 : decode cL_law 240 = .ok (.iload_n 3, 1) := by decide +kernel
theorem dL_law_241 : decode cL_law 241 = .ok (.iconst 1, 1) := by decide +kernel
theorem dL_law_242 : decode cL_law 242 = .ok (.iadd, 1) := by decide +kernel
theorem dL_law_243 : decode cL_law 243 = .ok (.iaload, 1) := by decide +kernel
theorem dL_law_244 : decode cL_law 244 = .ok (.aload_n 0, 1) := by decide +kernel
theorem dL_law_245 : decode cL_law 245 = .ok (.iload_n 3, 1) := by decide +kernel
theorem dL_law_246 : decode cL_law 246 = .ok (.iconst 2, 1) := by decide +kernel
theorem dL_law_247 : decode cL_law 247 = .ok (.iadd, 1) := by decide +kernel
theorem dL_law_248 : decode cL_law 248 = .ok (.iaload, 1) := by decide +kernel
theorem dL_law_249 : decode cL_law 249 = .ok (.aload_n 0, 1) := by decide +kernel
theorem dL_law_250 : decode cL_law 250 = .ok (.iload_n 3, 1) := by decide +kernel
theorem dL_law_251 : decode cL_law 251 = .ok (.iconst 3, 1) := by decide +kernel
theorem dL_law_252 : decode cL_law 252 = .ok (.iadd, 1) := by decide +kernel
theorem dL_law_253 : decode cL_law 253 = .ok (.iaload, 1) := by decide +kernel
theorem dL_law_254 : decode cL_law 254 = .ok (.invokevirtual 22, 3) := by decide +kernel
theorem dL_law_257 : decode cL_law 257 = .ok (.if_icmp .eq 662, 3) := by decide +kernel
theorem dL_law_260 : decode cL_law 260 = .ok (.iconst 0, 1) := by decide +kernel
theorem dL_law_261 : decode cL_law 261 = .ok (.ireturn, 1) := by decide +kernel
theorem dL_law_262 : decode cL_law 262 = .ok (.aload_n 1, 1) := by decide +kernel
theorem dL_law_263 : decode cL_law 263 = .ok (.aload_n 0, 1) := by decide +kernel
theorem dL_law_264 : decode cL_law 264 = .ok (.iload_n 3, 1) := by decide +kernel
theorem dL_law_265 : decode cL_law 265 = .ok (.iconst 1, 1) := by decide +kernel
theorem dL_law_266 : decode cL_law 266 = .ok (.iadd, 1) := by decide +kernel
theorem dL_law_267 : decode cL_law 267 = .ok (.iaload, 1) := by decide +kernel
theorem dL_law_268 : decode cL_law 268 = .ok (.aload_n 0, 1) := by decide +kernel
theorem dL_law_269 : decode cL_law 269 = .ok (.iload_n 3, 1) := by decide +kernel
theorem dL_law_270 : decode cL_law 270 = .ok (.iconst 2, 1) := by decide +kernel
theorem dL_law_271 : decode cL_law 271 = .ok (.iadd, 1) := by decide +kernel
theorem dL_law_272 : decode cL_law 272 = .ok (.iaload, 1) := by decide +kernel
theorem dL_law_273 : decode cL_law 273 = .ok (.invokevirtual 23, 3) := by decide +kernel
theorem dL_law_276 : decode cL_law 276 = .ok (.aload_n 2, 1) := by decide +kernel
theorem dL_law_277 : decode cL_law 277 = .ok (.aload_n 0, 1) := by decide +kernel
theorem dL_law_278 : decode cL_law 278 = .ok (.iload_n 3, 1) := by decide +kernel
theorem dL_law_279 : decode cL_law 279 = .ok (.iconst 1, 1) := by decide +kernel
theorem dL_law_280 : decode cL_law 280 = .ok (.iadd, 1) := by decide +kernel
theorem dL_law_281 : decode cL_law 281 = .ok (.iaload, 1) := by decide +kernel
theorem dL_law_282 : decode cL_law 282 = .ok (.aload_n 0, 1) := by decide +kernel
theorem dL_law_283 : decode cL_law 283 = .ok (.iload_n 3, 1) := by decide +kernel
theorem dL_law_284 : decode cL_law 284 = .ok (.iconst 2, 1) := by decide +kernel
theorem dL_law_285 : decode cL_law 285 = .ok (.iadd, 1) := by decide +kernel
theorem dL_law_286 : decode cL_law 286 = .ok (.iaload, 1) := by decide +kernel
theorem dL_law_287 : decode cL_law 287 = .ok (.invokevirtual 27, 3) := by decide +kernel
theorem dL_law_290 : decode cL_law 290 = .ok (.if_icmp .eq 629, 3) := by decide +kernel
theorem dL_law_293 : decode cL_law 293 = .ok (.iconst 0, 1) := by decide +kernel
theorem dL_law_294 : decode cL_law 294 = .ok (.ireturn, 1) := by decide +kernel
theorem dL_law_295 : decode cL_law 295 = .ok (.aload_n 1, 1) := by decide +kernel
theorem dL_law_296 : decode cL_law 296 = .ok (.aload_n 0, 1) := by decide +kernel
theorem dL_law_297 : decode cL_law 297 = .ok (.iload_n 3, 1) := by decide +kernel
theorem dL_law_298 : decode cL_law 298 = .ok (.iconst 1, 1) := by decide +kernel
theorem dL_law_299 : decode cL_law 299 = .ok (.iadd, 1) := by decide +kernel
theorem dL_law_300 : decode cL_law 300 = .ok (.iaload, 1) := by decide +kernel
theorem dL_law_301 : decode cL_law 301 = .ok (.aload_n 0, 1) := by decide +kernel
theorem dL_law_302 : decode cL_law 302 = .ok (.iload_n 3, 1) := by decide +kernel
theorem dL_law_303 : decode cL_law 303 = .ok (.iconst 2, 1) := by decide +kernel
theorem dL_law_304 : decode cL_law 304 = .ok (.iadd, 1) := by decide +kernel
theorem dL_law_305 : decode cL_law 305 = .ok (.iaload, 1) := by decide +kernel
theorem dL_law_306 : decode cL_law 306 = .ok (.invokevirtual 28, 3) := by decide +kernel
theorem dL_law_309 : decode cL_law 309 = .ok (.aload_n 2, 1) := by decide +kernel
theorem dL_law_310 : decode cL_law 310 = .ok (.aload_n 0, 1) := by decide +kernel
theorem dL_law_311 : decode cL_law 311 = .ok (.iload_n 3, 1) := by decide +kernel
theorem dL_law_312 : decode cL_law 312 = .ok (.iconst 1, 1) := by decide +kernel
theorem dL_law_313 : decode cL_law 313 = .ok (.iadd, 1) := by decide +kernel
theorem dL_law_314 : decode cL_law 314 = .ok (.iaload, 1) := by decide +kernel
theorem dL_law_315 : decode cL_law 315 = .ok (.aload_n 0, 1) := by decide +kernel
theorem dL_law_316 : decode cL_law 316 = .ok (.iload_n 3, 1) := by decide +kernel
theorem dL_law_317 : decode cL_law 317 = .ok (.iconst 2, 1) := by decide +kernel
theorem dL_law_318 : decode cL_law 318 = .ok (.iadd, 1) := by decide +kernel
theorem dL_law_319 : decode cL_law 319 = .ok (.iaload, 1) := by decide +kernel
theorem dL_law_320 : decode cL_law 320 = .ok (.invokevirtual 31, 3) := by decide +kernel
theorem dL_law_323 : decode cL_law 323 = .ok (.if_icmp .eq 596, 3) := by decide +kernel
theorem dL_law_326 : decode cL_law 326 = .ok (.iconst 0, 1) := by decide +kernel
theorem dL_law_327 : decode cL_law 327 = .ok (.ireturn, 1) := by decide +kernel
theorem dL_law_328 : decode cL_law 328 = .ok (.aload_n 1, 1) := by decide +kernel
theorem dL_law_329 : decode cL_law 329 = .ok (.aload_n 0, 1) := by decide +kernel
theorem dL_law_330 : decode cL_law 330 = .ok (.iload_n 3, 1) := by decide +kernel
theorem dL_law_331 : decode cL_law 331 = .ok (.iconst 1, 1) := by decide +kernel
theorem dL_law_332 : decode cL_law 332 = .ok (.iadd, 1) := by decide +kernel
theorem dL_law_333 : decode cL_law 333 = .ok (.iaload, 1) := by decide +kernel
theorem dL_law_334 : decode cL_law 334 = .ok (.aload_n 0, 1) := by decide +kernel
theorem dL_law_335 : decode cL_law 335 = .ok (.iload_n 3, 1) := by decide +kernel
theorem dL_law_336 : decode cL_law 336 = .ok (.iconst 2, 1) := by decide +kernel
theorem dL_law_337 : decode cL_law 337 = .ok (.iadd, 1) := by decide +kernel
theorem dL_law_338 : decode cL_law 338 = .ok (.iaload, 1) := by decide +kernel
theorem dL_law_339 : decode cL_law 339 = .ok (.invokevirtual 32, 3) := by decide +kernel
theorem dL_law_342 : decode cL_law 342 = .ok (.aload_n 2, 1) := by decide +kernel
theorem dL_law_343 : decode cL_law 343 = .ok (.aload_n 0, 1) := by decide +kernel
theorem dL_law_344 : decode cL_law 344 = .ok (.iload_n 3, 1) := by decide +kernel
theorem dL_law_345 : decode cL_law 345 = .ok (.iconst 1, 1) := by decide +kernel
theorem dL_law_346 : decode cL_law 346 = .ok (.iadd, 1) := by decide +kernel
theorem dL_law_347 : decode cL_law 347 = .ok (.iaload, 1) := by decide +kernel
theorem dL_law_348 : decode cL_law 348 = .ok (.aload_n 0, 1) := by decide +kernel
theorem dL_law_349 : decode cL_law 349 = .ok (.iload_n 3, 1) := by decide +kernel
theorem dL_law_350 : decode cL_law 350 = .ok (.iconst 2, 1) := by decide +kernel
theorem dL_law_351 : decode cL_law 351 = .ok (.iadd, 1) := by decide +kernel
theorem dL_law_352 : decode cL_law 352 = .ok (.iaload, 1) := by decide +kernel
theorem dL_law_353 : decode cL_law 353 = .ok (.invokevirtual 35, 3) := by decide +kernel
theorem dL_law_356 : decode cL_law 356 = .ok (.if_icmp .eq 563, 3) := by decide +kernel
theorem dL_law_359 : decode cL_law 359 = .ok (.iconst 0, 1) := by decide +kernel
theorem dL_law_360 : decode cL_law 360 = .ok (.ireturn, 1) := by decide +kernel
theorem dL_law_361 : decode cL_law 361 = .ok (.aload_n 1, 1) := by decide +kernel
theorem dL_law_362 : decode cL_law 362 = .ok (.aload_n 0, 1) := by decide +kernel
theorem dL_law_363 : decode cL_law 363 = .ok (.iload_n 3, 1) := by decide +kernel
theorem dL_law_364 : decode cL_law 364 = .ok (.iconst 1, 1) := by decide +kernel
theorem dL_law_365 : decode cL_law 365 = .ok (.iadd, 1) := by decide +kernel
theorem dL_law_366 : decode cL_law 366 = .ok (.iaload, 1) := by decide +kernel
theorem dL_law_367 : decode cL_law 367 = .ok (.invokevirtual 36, 3) := by decide +kernel
theorem dL_law_370 : decode cL_law 370 = .ok (.aload_n 2, 1) := by decide +kernel
theorem dL_law_371 : decode cL_law 371 = .ok (.aload_n 0, 1) := by decide +kernel
theorem dL_law_372 : decode cL_law 372 = .ok (.iload_n 3, 1) := by decide +kernel
theorem dL_law_373 : decode cL_law 373 = .ok (.iconst 1, 1) := by decide +kernel
theorem dL_law_374 : decode cL_law 374 = .ok (.iadd, 1) := by decide +kernel
theorem dL_law_375 : decode cL_law 375 = .ok (.iaload, 1) := by decide +kernel
theorem dL_law_376 : decode cL_law 376 = .ok (.invokevirtual 40, 3) := by decide +kernel
theorem dL_law_379 : decode cL_law 379 = .ok (.if_icmp .eq 540, 3) := by decide +kernel
theorem dL_law_382 : decode cL_law 382 = .ok (.iconst 0, 1) := by decide +kernel
theorem dL_law_383 : decode cL_law 383 = .ok (.ireturn, 1) := by decide +kernel
theorem dL_law_384 : decode cL_law 384 = .ok (.aload_n 1, 1) := by decide +kernel
theorem dL_law_385 : decode cL_law 385 = .ok (.aload_n 0, 1) := by decide +kernel
theorem dL_law_386 : decode cL_law 386 = .ok (.iload_n 3, 1) := by decide +kernel
theorem dL_law_387 : decode cL_law 387 = .ok (.iconst 1, 1) := by decide +kernel
theorem dL_law_388 : decode cL_law 388 = .ok (.iadd, 1) := by decide +kernel
theorem dL_law_389 : decode cL_law 389 = .ok (.iaload, 1) := by decide +kernel
theorem dL_law_390 : decode cL_law 390 = .ok (.aload_n 0, 1) := by decide +kernel
theorem dL_law_391 : decode cL_law 391 = .ok (.iload_n 3, 1) := by decide +kernel
theorem dL_law_392 : decode cL_law 392 = .ok (.iconst 2, 1) := by decide +kernel
theorem dL_law_393 : decode cL_law 393 = .ok (.iadd, 1) := by decide +kernel
theorem dL_law_394 : decode cL_law 394 = .ok (.iaload, 1) := by decide +kernel
theorem dL_law_395 : decode cL_law 395 = .ok (.invokevirtual 41, 3) := by decide +kernel
theorem dL_law_398 : decode cL_law 398 = .ok (.aload_n 2, 1) := by decide +kernel
theorem dL_law_399 : decode cL_law 399 = .ok (.aload_n 0, 1) := by decide +kernel
theorem dL_law_400 : decode cL_law 400 = .ok (.iload_n 3, 1) := by decide +kernel
theorem dL_law_401 : decode cL_law 401 = .ok (.iconst 1, 1) := by decide +kernel
theorem dL_law_402 : decode cL_law 402 = .ok (.iadd, 1) := by decide +kernel
theorem dL_law_403 : decode cL_law 403 = .ok (.iaload, 1) := by decide +kernel
theorem dL_law_404 : decode cL_law 404 = .ok (.aload_n 0, 1) := by decide +kernel
theorem dL_law_405 : decode cL_law 405 = .ok (.iload_n 3, 1) := by decide +kernel
theorem dL_law_406 : decode cL_law 406 = .ok (.iconst 2, 1) := by decide +kernel
theorem dL_law_407 : decode cL_law 407 = .ok (.iadd, 1) := by decide +kernel
theorem dL_law_408 : decode cL_law 408 = .ok (.iaload, 1) := by decide +kernel
theorem dL_law_409 : decode cL_law 409 = .ok (.invokevirtual 44, 3) := by decide +kernel
theorem dL_law_412 : decode cL_law 412 = .ok (.if_icmp .eq 507, 3) := by decide +kernel
theorem dL_law_415 : decode cL_law 415 = .ok (.iconst 0, 1) := by decide +kernel
theorem dL_law_416 : decode cL_law 416 = .ok (.ireturn, 1) := by decide +kernel
theorem dL_law_417 : decode cL_law 417 = .ok (.aload_n 1, 1) := by decide +kernel
theorem dL_law_418 : decode cL_law 418 = .ok (.aload_n 0, 1) := by decide +kernel
theorem dL_law_419 : decode cL_law 419 = .ok (.iload_n 3, 1) := by decide +kernel
theorem dL_law_420 : decode cL_law 420 = .ok (.iconst 1, 1) := by decide +kernel
theorem dL_law_421 : decode cL_law 421 = .ok (.iadd, 1) := by decide +kernel
theorem dL_law_422 : decode cL_law 422 = .ok (.iaload, 1) := by decide +kernel
theorem dL_law_423 : decode cL_law 423 = .ok (.invokevirtual 45, 3) := by decide +kernel
theorem dL_law_426 : decode cL_law 426 = .ok (.aload_n 2, 1) := by decide +kernel
theorem dL_law_427 : decode cL_law 427 = .ok (.aload_n 0, 1) := by decide +kernel
theorem dL_law_428 : decode cL_law 428 = .ok (.iload_n 3, 1) := by decide +kernel
theorem dL_law_429 : decode cL_law 429 = .ok (.iconst 1, 1) := by decide +kernel
theorem dL_law_430 : decode cL_law 430 = .ok (.iadd, 1) := by decide +kernel
theorem dL_law_431 : decode cL_law 431 = .ok (.iaload, 1) := by decide +kernel
theorem dL_law_432 : decode cL_law 432 = .ok (.invokevirtual 48, 3) := by decide +kernel
theorem dL_law_435 : decode cL_law 435 = .ok (.if_icmp .eq 484, 3) := by decide +kernel
theorem dL_law_438 : decode cL_law 438 = .ok (.iconst 0, 1) := by decide +kernel
theorem dL_law_439 : decode cL_law 439 = .ok (.ireturn, 1) := by decide +kernel
theorem dL_law_440 : decode cL_law 440 = .ok (.aload_n 1, 1) := by decide +kernel
theorem dL_law_441 : decode cL_law 441 = .ok (.aload_n 0, 1) := by decide +kernel
theorem dL_law_442 : decode cL_law 442 = .ok (.iload_n 3, 1) := by decide +kernel
theorem dL_law_443 : decode cL_law 443 = .ok (.iconst 1, 1) := by decide +kernel
theorem dL_law_444 : decode cL_law 444 = .ok (.iadd, 1) := by decide +kernel
theorem dL_law_445 : decode cL_law 445 = .ok (.iaload, 1) := by decide +kernel
theorem dL_law_446 : decode cL_law 446 = .ok (.invokevirtual 49, 3) := by decide +kernel
theorem dL_law_449 : decode cL_law 449 = .ok (.aload_n 2, 1) := by decide +kernel
theorem dL_law_450 : decode cL_law 450 = .ok (.aload_n 0, 1) := by decide +kernel
theorem dL_law_451 : decode cL_law 451 = .ok (.iload_n 3, 1) := by decide +kernel
theorem dL_law_452 : decode cL_law 452 = .ok (.iconst 1, 1) := by decide +kernel
theorem dL_law_453 : decode cL_law 453 = .ok (.iadd, 1) := by decide +kernel
theorem dL_law_454 : decode cL_law 454 = .ok (.iaload, 1) := by decide +kernel
theorem dL_law_455 : decode cL_law 455 = .ok (.invokevirtual 52, 3) := by decide +kernel
theorem dL_law_458 : decode cL_law 458 = .ok (.if_icmp .eq 461, 3) := by decide +kernel
theorem dL_law_461 : decode cL_law 461 = .ok (.iconst 0, 1) := by decide +kernel
theorem dL_law_462 : decode cL_law 462 = .ok (.ireturn, 1) := by decide +kernel
theorem dL_law_463 : decode cL_law 463 = .ok (.aload_n 1, 1) := by decide +kernel
theorem dL_law_464 : decode cL_law 464 = .ok (.aload_n 0, 1) := by decide +kernel
theorem dL_law_465 : decode cL_law 465 = .ok (.iload_n 3, 1) := by decide +kernel
theorem dL_law_466 : decode cL_law 466 = .ok (.iconst 1, 1) := by decide +kernel
theorem dL_law_467 : decode cL_law 467 = .ok (.iadd, 1) := by decide +kernel
theorem dL_law_468 : decode cL_law 468 = .ok (.iaload, 1) := by decide +kernel
theorem dL_law_469 : decode cL_law 469 = .ok (.aload_n 0, 1) := by decide +kernel
theorem dL_law_470 : decode cL_law 470 = .ok (.iload_n 3, 1) := by decide +kernel
theorem dL_law_471 : decode cL_law 471 = .ok (.iconst 2, 1) := by decide +kernel
theorem dL_law_472 : decode cL_law 472 = .ok (.iadd, 1) := by decide +kernel
theorem dL_law_473 : decode cL_law 473 = .ok (.iaload, 1) := by decide +kernel
theorem dL_law_474 : decode cL_law 474 = .ok (.invokevirtual 53, 3) := by decide +kernel
theorem dL_law_477 : decode cL_law 477 = .ok (.aload_n 2, 1) := by decide +kernel
theorem dL_law_478 : decode cL_law 478 = .ok (.aload_n 0, 1) := by decide +kernel
theorem dL_law_479 : decode cL_law 479 = .ok (.iload_n 3, 1) := by decide +kernel
theorem dL_law_480 : decode cL_law 480 = .ok (.iconst 1, 1) := by decide +kernel
theorem dL_law_481 : decode cL_law 481 = .ok (.iadd, 1) := by decide +kernel
theorem dL_law_482 : decode cL_law 482 = .ok (.iaload, 1) := by decide +kernel
theorem dL_law_483 : decode cL_law 483 = .ok (.aload_n 0, 1) := by decide +kernel
theorem dL_law_484 : decode cL_law 484 = .ok (.iload_n 3, 1) := by decide +kernel
theorem dL_law_485 : decode cL_law 485 = .ok (.iconst 2, 1) := by decide +kernel
theorem dL_law_486 : decode cL_law 486 = .ok (.iadd, 1) := by decide +kernel
theorem dL_law_487 : decode cL_law 487 = .ok (.iaload, 1) := by decide +kernel
theorem dL_law_488 : decode cL_law 488 = .ok (.invokevirtual 56, 3) := by decide +kernel
theorem dL_law_491 : decode cL_law 491 = .ok (.if_icmp .eq 428, 3) := by decide +kernel
theorem dL_law_494 : decode cL_law 494 = .ok (.iconst 0, 1) := by decide +kernel
theorem dL_law_495 : decode cL_law 495 = .ok (.ireturn, 1) := by decide +kernel
theorem dL_law_496 : decode cL_law 496 = .ok (.aload_n 1, 1) := by decide +kernel
theorem dL_law_497 : decode cL_law 497 = .ok (.aload_n 0, 1) := by decide +kernel
theorem dL_law_498 : decode cL_law 498 = .ok (.iload_n 3, 1) := by decide +kernel
theorem dL_law_499 : decode cL_law 499 = .ok (.iconst 1, 1) := by decide +kernel
theorem dL_law_500 : decode cL_law 500 = .ok (.iadd, 1) := by decide +kernel
theorem dL_law_501 : decode cL_law 501 = .ok (.iaload, 1) := by decide +kernel
theorem dL_law_502 : decode cL_law 502 = .ok (.aload_n 0, 1) := by decide +kernel
theorem dL_law_503 : decode cL_law 503 = .ok (.iload_n 3, 1) := by decide +kernel
theorem dL_law_504 : decode cL_law 504 = .ok (.iconst 2, 1) := by decide +kernel
theorem dL_law_505 : decode cL_law 505 = .ok (.iadd, 1) := by decide +kernel
theorem dL_law_506 : decode cL_law 506 = .ok (.iaload, 1) := by decide +kernel
theorem dL_law_507 : decode cL_law 507 = .ok (.invokevirtual 57, 3) := by decide +kernel
theorem dL_law_510 : decode cL_law 510 = .ok (.aload_n 2, 1) := by decide +kernel
theorem dL_law_511 : decode cL_law 511 = .ok (.aload_n 0, 1) := by decide +kernel
theorem dL_law_512 : decode cL_law 512 = .ok (.iload_n 3, 1) := by decide +kernel
theorem dL_law_513 : decode cL_law 513 = .ok (.iconst 1, 1) := by decide +kernel
theorem dL_law_514 : decode cL_law 514 = .ok (.iadd, 1) := by decide +kernel
theorem dL_law_515 : decode cL_law 515 = .ok (.iaload, 1) := by decide +kernel
theorem dL_law_516 : decode cL_law 516 = .ok (.aload_n 0, 1) := by decide +kernel
theorem dL_law_517 : decode cL_law 517 = .ok (.iload_n 3, 1) := by decide +kernel
theorem dL_law_518 : decode cL_law 518 = .ok (.iconst 2, 1) := by decide +kernel
theorem dL_law_519 : decode cL_law 519 = .ok (.iadd, 1) := by decide +kernel
theorem dL_law_520 : decode cL_law 520 = .ok (.iaload, 1) := by decide +kernel
theorem dL_law_521 : decode cL_law 521 = .ok (.invokevirtual 60, 3) := by decide +kernel
theorem dL_law_524 : decode cL_law 524 = .ok (.if_icmp .eq 395, 3) := by decide +kernel
theorem dL_law_527 : decode cL_law 527 = .ok (.iconst 0, 1) := by decide +kernel
theorem dL_law_528 : decode cL_law 528 = .ok (.ireturn, 1) := by decide +kernel
theorem dL_law_529 : decode cL_law 529 = .ok (.aload_n 1, 1) := by decide +kernel
theorem dL_law_530 : decode cL_law 530 = .ok (.aload_n 0, 1) := by decide +kernel
theorem dL_law_531 : decode cL_law 531 = .ok (.iload_n 3, 1) := by decide +kernel
theorem dL_law_532 : decode cL_law 532 = .ok (.iconst 1, 1) := by decide +kernel
theorem dL_law_533 : decode cL_law 533 = .ok (.iadd, 1) := by decide +kernel
theorem dL_law_534 : decode cL_law 534 = .ok (.iaload, 1) := by decide +kernel
theorem dL_law_535 : decode cL_law 535 = .ok (.invokevirtual 61, 3) := by decide +kernel
theorem dL_law_538 : decode cL_law 538 = .ok (.aload_n 2, 1) := by decide +kernel
theorem dL_law_539 : decode cL_law 539 = .ok (.aload_n 0, 1) := by decide +kernel
theorem dL_law_540 : decode cL_law 540 = .ok (.iload_n 3, 1) := by decide +kernel
theorem dL_law_541 : decode cL_law 541 = .ok (.iconst 1, 1) := by decide +kernel
theorem dL_law_542 : decode cL_law 542 = .ok (.iadd, 1) := by decide +kernel
theorem dL_law_543 : decode cL_law 543 = .ok (.iaload, 1) := by decide +kernel
theorem dL_law_544 : decode cL_law 544 = .ok (.invokevirtual 64, 3) := by decide +kernel
theorem dL_law_547 : decode cL_law 547 = .ok (.if_icmp .eq 372, 3) := by decide +kernel
theorem dL_law_550 : decode cL_law 550 = .ok (.iconst 0, 1) := by decide +kernel
theorem dL_law_551 : decode cL_law 551 = .ok (.ireturn, 1) := by decide +kernel
theorem dL_law_552 : decode cL_law 552 = .ok (.aload_n 1, 1) := by decide +kernel
theorem dL_law_553 : decode cL_law 553 = .ok (.aload_n 0, 1) := by decide +kernel
theorem dL_law_554 : decode cL_law 554 = .ok (.iload_n 3, 1) := by decide +kernel
theorem dL_law_555 : decode cL_law 555 = .ok (.iconst 1, 1) := by decide +kernel
theorem dL_law_556 : decode cL_law 556 = .ok (.iadd, 1) := by decide +kernel
theorem dL_law_557 : decode cL_law 557 = .ok (.iaload, 1) := by decide +kernel
theorem dL_law_558 : decode cL_law 558 = .ok (.i2c, 1) := by decide +kernel
theorem dL_law_559 : decode cL_law 559 = .ok (.invokevirtual 65, 3) := by decide +kernel
theorem dL_law_562 : decode cL_law 562 = .ok (.aload_n 2, 1) := by decide +kernel
theorem dL_law_563 : decode cL_law 563 = .ok (.aload_n 0, 1) := by decide +kernel
theorem dL_law_564 : decode cL_law 564 = .ok (.iload_n 3, 1) := by decide +kernel
theorem dL_law_565 : decode cL_law 565 = .ok (.iconst 1, 1) := by decide +kernel
theorem dL_law_566 : decode cL_law 566 = .ok (.iadd, 1) := by decide +kernel
theorem dL_law_567 : decode cL_law 567 = .ok (.iaload, 1) := by decide +kernel
theorem dL_law_568 : decode cL_law 568 = .ok (.i2c, 1) := by decide +kernel
theorem dL_law_569 : decode cL_law 569 = .ok (.invokevirtual 69, 3) := by decide +kernel
theorem dL_law_572 : decode cL_law 572 = .ok (.if_icmp .eq 347, 3) := by decide +kernel
theorem dL_law_575 : decode cL_law 575 = .ok (.iconst 0, 1) := by decide +kernel
theorem dL_law_576 : decode cL_law 576 = .ok (.ireturn, 1) := by decide +kernel
theorem dL_law_577 : decode cL_law 577 = .ok (.aload_n 1, 1) := by decide +kernel
theorem dL_law_578 : decode cL_law 578 = .ok (.invokevirtual 70, 3) := by decide +kernel
theorem dL_law_581 : decode cL_law 581 = .ok (.aload_n 2, 1) := by decide +kernel
theorem dL_law_582 : decode cL_law 582 = .ok (.invokevirtual 74, 3) := by decide +kernel
theorem dL_law_585 : decode cL_law 585 = .ok (.if_icmp .eq 334, 3) := by decide +kernel
theorem dL_law_588 : decode cL_law 588 = .ok (.iconst 0, 1) := by decide +kernel
theorem dL_law_589 : decode cL_law 589 = .ok (.ireturn, 1) := by decide +kernel
theorem dL_law_590 : decode cL_law 590 = .ok (.aload_n 1, 1) := by decide +kernel
theorem dL_law_591 : decode cL_law 591 = .ok (.invokevirtual 75, 3) := by decide +kernel
theorem dL_law_594 : decode cL_law 594 = .ok (.aload_n 2, 1) := by decide +kernel
theorem dL_law_595 : decode cL_law 595 = .ok (.invokevirtual 78, 3) := by decide +kernel
theorem dL_law_598 : decode cL_law 598 = .ok (.if_icmp .eq 321, 3) := by decide +kernel
theorem dL_law_601 : decode cL_law 601 = .ok (.iconst 0, 1) := by decide +kernel
theorem dL_law_602 : decode cL_law 602 = .ok (.ireturn, 1) := by decide +kernel
theorem dL_law_603 : decode cL_law 603 = .ok (.aload_n 1, 1) := by decide +kernel
theorem dL_law_604 : decode cL_law 604 = .ok (.invokevirtual 79, 3) := by decide +kernel
theorem dL_law_607 : decode cL_law 607 = .ok (.aload_n 2, 1) := by decide +kernel
theorem dL_law_608 : decode cL_law 608 = .ok (.invokevirtual 82, 3) := by decide +kernel
theorem dL_law_611 : decode cL_law 611 = .ok (.if_icmp .eq 308, 3) := by decide +kernel
theorem dL_law_614 : decode cL_law 614 = .ok (.iconst 0, 1) := by decide +kernel
theorem dL_law_615 : decode cL_law 615 = .ok (.ireturn, 1) := by decide +kernel
theorem dL_law_616 : decode cL_law 616 = .ok (.aload_n 1, 1) := by decide +kernel
theorem dL_law_617 : decode cL_law 617 = .ok (.invokevirtual 83, 3) := by decide +kernel
theorem dL_law_620 : decode cL_law 620 = .ok (.aload_n 2, 1) := by decide +kernel
theorem dL_law_621 : decode cL_law 621 = .ok (.invokevirtual 86, 3) := by decide +kernel
theorem dL_law_624 : decode cL_law 624 = .ok (.if_icmp .eq 295, 3) := by decide +kernel
theorem dL_law_627 : decode cL_law 627 = .ok (.iconst 0, 1) := by decide +kernel
theorem dL_law_628 : decode cL_law 628 = .ok (.ireturn, 1) := by decide +kernel
theorem dL_law_629 : decode cL_law 629 = .ok (.aload_n 1, 1) := by decide +kernel
theorem dL_law_630 : decode cL_law 630 = .ok (.invokevirtual 87, 3) := by decide +kernel
theorem dL_law_633 : decode cL_law 633 = .ok (.aload_n 2, 1) := by decide +kernel
theorem dL_law_634 : decode cL_law 634 = .ok (.invokevirtual 90, 3) := by decide +kernel
theorem dL_law_637 : decode cL_law 637 = .ok (.if_icmp .eq 282, 3) := by decide +kernel
theorem dL_law_640 : decode cL_law 640 = .ok (.iconst 0, 1) := by decide +kernel
theorem dL_law_641 : decode cL_law 641 = .ok (.ireturn, 1) := by decide +kernel
theorem dL_law_642 : decode cL_law 642 = .ok (.aload_n 1, 1) := by decide +kernel
theorem dL_law_643 : decode cL_law 643 = .ok (.aload_n 0, 1) := by decide +kernel
theorem dL_law_644 : decode cL_law 644 = .ok (.iload_n 3, 1) := by decide +kernel
theorem dL_law_645 : decode cL_law 645 = .ok (.iconst 1, 1) := by decide +kernel
theorem dL_law_646 : decode cL_law 646 = .ok (.iadd, 1) := by decide +kernel
theorem dL_law_647 : decode cL_law 647 = .ok (.iaload, 1) := by decide +kernel
theorem dL_law_648 : decode cL_law 648 = .ok (.aload_n 0, 1) := by decide +kernel
theorem dL_law_649 : decode cL_law 649 = .ok (.iload_n 3, 1) := by decide +kernel
theorem dL_law_650 : decode cL_law 650 = .ok (.iconst 2, 1) := by decide +kernel
theorem dL_law_651 : decode cL_law 651 = .ok (.iadd, 1) := by decide +kernel
theorem dL_law_652 : decode cL_law 652 = .ok (.iaload, 1) := by decide +kernel
theorem dL_law_653 : decode cL_law 653 = .ok (.invokevirtual 91, 3) := by decide +kernel
theorem dL_law_656 : decode cL_law 656 = .ok (.aload_n 2, 1) := by decide +kernel
theorem dL_law_657 : decode cL_law 657 = .ok (.aload_n 0, 1) := by decide +kernel
theorem dL_law_658 : decode cL_law 658 = .ok (.iload_n 3, 1) := by decide +kernel
theorem dL_law_659 : decode cL_law 659 = .ok (.iconst 1, 1) := by decide +kernel
theorem dL_law_660 : decode cL_law 660 = .ok (.iadd, 1) := by decide +kernel
theorem dL_law_661 : decode cL_law 661 = .ok (.iaload, 1) := by decide +kernel
theorem dL_law_662 : decode cL_law 662 = .ok (.aload_n 0, 1) := by decide +kernel
theorem dL_law_663 : decode cL_law 663 = .ok (.iload_n 3, 1) := by decide +kernel
theorem dL_law_664 : decode cL_law 664 = .ok (.iconst 2, 1) := by decide +kernel
theorem dL_law_665 : decode cL_law 665 = .ok (.iadd, 1) := by decide +kernel
theorem dL_law_666 : decode cL_law 666 = .ok (.iaload, 1) := by decide +kernel
theorem dL_law_667 : decode cL_law 667 = .ok (.invokevirtual 94, 3) := by decide +kernel
theorem dL_law_670 : decode cL_law 670 = .ok (.if_icmp .eq 249, 3) := by decide +kernel
theorem dL_law_673 : decode cL_law 673 = .ok (.iconst 0, 1) := by decide +kernel
theorem dL_law_674 : decode cL_law 674 = .ok (.ireturn, 1) := by decide +kernel
theorem dL_law_675 : decode cL_law 675 = .ok (.aload_n 1, 1) := by decide +kernel
theorem dL_law_676 : decode cL_law 676 = .ok (.aload_n 0, 1) := by decide +kernel
theorem dL_law_677 : decode cL_law 677 = .ok (.iload_n 3, 1) := by decide +kernel
theorem dL_law_678 : decode cL_law 678 = .ok (.iconst 1, 1) := by decide +kernel
theorem dL_law_679 : decode cL_law 679 = .ok (.iadd, 1) := by decide +kernel
theorem dL_law_680 : decode cL_law 680 = .ok (.iaload, 1) := by decide +kernel
theorem dL_law_681 : decode cL_law 681 = .ok (.aload_n 0, 1) := by decide +kernel
theorem dL_law_682 : decode cL_law 682 = .ok (.iload_n 3, 1) := by decide +kernel
theorem dL_law_683 : decode cL_law 683 = .ok (.iconst 2, 1) := by decide +kernel
theorem dL_law_684 : decode cL_law 684 = .ok (.iadd, 1) := by decide +kernel
theorem dL_law_685 : decode cL_law 685 = .ok (.iaload, 1) := by decide +kernel
theorem dL_law_686 : decode cL_law 686 = .ok (.invokevirtual 95, 3) := by decide +kernel
theorem dL_law_689 : decode cL_law 689 = .ok (.aload_n 2, 1) := by decide +kernel
theorem dL_law_690 : decode cL_law 690 = .ok (.aload_n 0, 1) := by decide +kernel
theorem dL_law_691 : decode cL_law 691 = .ok (.iload_n 3, 1) := by decide +kernel
theorem dL_law_692 : decode cL_law 692 = .ok (.iconst 1, 1) := by decide +kernel
theorem dL_law_693 : decode cL_law 693 = .ok (.iadd, 1) := by decide +kernel
theorem dL_law_694 : decode cL_law 694 = .ok (.iaload, 1) := by decide +kernel
theorem dL_law_695 : decode cL_law 695 = .ok (.aload_n 0, 1) := by decide +kernel
theorem dL_law_696 : decode cL_law 696 = .ok (.iload_n 3, 1) := by decide +kernel
theorem dL_law_697 : decode cL_law 697 = .ok (.iconst 2, 1) := by decide +kernel
theorem dL_law_698 : decode cL_law 698 = .ok (.iadd, 1) := by decide +kernel
theorem dL_law_699 : decode cL_law 699 = .ok (.iaload, 1) := by decide +kernel
theorem dL_law_700 : decode cL_law 700 = .ok (.invokevirtual 98, 3) := by decide +kernel
theorem dL_law_703 : decode cL_law 703 = .ok (.if_icmp .eq 216, 3) := by decide +kernel
theorem dL_law_706 : decode cL_law 706 = .ok (.iconst 0, 1) := by decide +kernel
theorem dL_law_707 : decode cL_law 707 = .ok (.ireturn, 1) := by decide +kernel
theorem dL_law_708 : decode cL_law 708 = .ok (.aload_n 1, 1) := by decide +kernel
theorem dL_law_709 : decode cL_law 709 = .ok (.aload_n 0, 1) := by decide +kernel
theorem dL_law_710 : decode cL_law 710 = .ok (.iload_n 3, 1) := by decide +kernel
theorem dL_law_711 : decode cL_law 711 = .ok (.iconst 1, 1) := by decide +kernel
theorem dL_law_712 : decode cL_law 712 = .ok (.iadd, 1) := by decide +kernel
theorem dL_law_713 : decode cL_law 713 = .ok (.iaload, 1) := by decide +kernel
theorem dL_law_714 : decode cL_law 714 = .ok (.aload_n 0, 1) := by decide +kernel
theorem dL_law_715 : decode cL_law 715 = .ok (.iload_n 3, 1) := by decide +kernel
theorem dL_law_716 : decode cL_law 716 = .ok (.iconst 2, 1) := by decide +kernel
theorem dL_law_717 : decode cL_law 717 = .ok (.iadd, 1) := by decide +kernel
theorem dL_law_718 : decode cL_law 718 = .ok (.iaload, 1) := by decide +kernel
theorem dL_law_719 : decode cL_law 719 = .ok (.invokevirtual 99, 3) := by decide +kernel
theorem dL_law_722 : decode cL_law 722 = .ok (.aload_n 2, 1) := by decide +kernel
theorem dL_law_723 : decode cL_law 723 = .ok (.aload_n 0, 1) := by decide +kernel
theorem dL_law_724 : decode cL_law 724 = .ok (.iload_n 3, 1) := by decide +kernel
theorem dL_law_725 : decode cL_law 725 = .ok (.iconst 1, 1) := by decide +kernel
theorem dL_law_726 : decode cL_law 726 = .ok (.iadd, 1) := by decide +kernel
theorem dL_law_727 : decode cL_law 727 = .ok (.iaload, 1) := by decide +kernel
theorem dL_law_728 : decode cL_law 728 = .ok (.aload_n 0, 1) := by decide +kernel
theorem dL_law_729 : decode cL_law 729 = .ok (.iload_n 3, 1) := by decide +kernel
theorem dL_law_730 : decode cL_law 730 = .ok (.iconst 2, 1) := by decide +kernel
theorem dL_law_731 : decode cL_law 731 = .ok (.iadd, 1) := by decide +kernel
theorem dL_law_732 : decode cL_law 732 = .ok (.iaload, 1) := by decide +kernel
theorem dL_law_733 : decode cL_law 733 = .ok (.invokevirtual 102, 3) := by decide +kernel
theorem dL_law_736 : decode cL_law 736 = .ok (.if_icmp .eq 183, 3) := by decide +kernel
theorem dL_law_739 : decode cL_law 739 = .ok (.iconst 0, 1) := by decide +kernel
theorem dL_law_740 : decode cL_law 740 = .ok (.ireturn, 1) := by decide +kernel
theorem dL_law_741 : decode cL_law 741 = .ok (.aload_n 1, 1) := by decide +kernel
theorem dL_law_742 : decode cL_law 742 = .ok (.aload_n 0, 1) := by decide +kernel
theorem dL_law_743 : decode cL_law 743 = .ok (.iload_n 3, 1) := by decide +kernel
theorem dL_law_744 : decode cL_law 744 = .ok (.iconst 1, 1) := by decide +kernel
theorem dL_law_745 : decode cL_law 745 = .ok (.iadd, 1) := by decide +kernel
theorem dL_law_746 : decode cL_law 746 = .ok (.iaload, 1) := by decide +kernel
theorem dL_law_747 : decode cL_law 747 = .ok (.aload_n 0, 1) := by decide +kernel
theorem dL_law_748 : decode cL_law 748 = .ok (.iload_n 3, 1) := by decide +kernel
theorem dL_law_749 : decode cL_law 749 = .ok (.iconst 2, 1) := by decide +kernel
theorem dL_law_750 : decode cL_law 750 = .ok (.iadd, 1) := by decide +kernel
theorem dL_law_751 : decode cL_law 751 = .ok (.iaload, 1) := by decide +kernel
theorem dL_law_752 : decode cL_law 752 = .ok (.invokevirtual 103, 3) := by decide +kernel
theorem dL_law_755 : decode cL_law 755 = .ok (.aload_n 2, 1) := by decide +kernel
theorem dL_law_756 : decode cL_law 756 = .ok (.aload_n 0, 1) := by decide +kernel
theorem dL_law_757 : decode cL_law 757 = .ok (.iload_n 3, 1) := by decide +kernel
theorem dL_law_758 : decode cL_law 758 = .ok (.iconst 1, 1) := by decide +kernel
theorem dL_law_759 : decode cL_law 759 = .ok (.iadd, 1) := by decide +kernel
theorem dL_law_760 : decode cL_law 760 = .ok (.iaload, 1) := by decide +kernel
theorem dL_law_761 : decode cL_law 761 = .ok (.aload_n 0, 1) := by decide +kernel
theorem dL_law_762 : decode cL_law 762 = .ok (.iload_n 3, 1) := by decide +kernel
theorem dL_law_763 : decode cL_law 763 = .ok (.iconst 2, 1) := by decide +kernel
theorem dL_law_764 : decode cL_law 764 = .ok (.iadd, 1) := by decide +kernel
theorem dL_law_765 : decode cL_law 765 = .ok (.iaload, 1) := by decide +kernel
theorem dL_law_766 : decode cL_law 766 = .ok (.invokevirtual 106, 3) := by decide +kernel
theorem dL_law_769 : decode cL_law 769 = .ok (.if_icmp .eq 150, 3) := by decide +kernel
theorem dL_law_772 : decode cL_law 772 = .ok (.iconst 0, 1) := by decide +kernel
theorem dL_law_773 : decode cL_law 773 = .ok (.ireturn, 1) := by decide +kernel
theorem dL_law_774 : decode cL_law 774 = .ok (.aload_n 1, 1) := by decide +kernel
theorem dL_law_775 : decode cL_law 775 = .ok (.aload_n 0, 1) := by decide +kernel
theorem dL_law_776 : decode cL_law 776 = .ok (.iload_n 3, 1) := by decide +kernel
theorem dL_law_777 : decode cL_law 777 = .ok (.iconst 1, 1) := by decide +kernel
theorem dL_law_778 : decode cL_law 778 = .ok (.iadd, 1) := by decide +kernel
theorem dL_law_779 : decode cL_law 779 = .ok (.iaload, 1) := by decide +kernel
theorem dL_law_780 : decode cL_law 780 = .ok (.aload_n 0, 1) := by decide +kernel
theorem dL_law_781 : decode cL_law 781 = .ok (.iload_n 3, 1) := by decide +kernel
theorem dL_law_782 : decode cL_law 782 = .ok (.iconst 2, 1) := by decide +kernel
theorem dL_law_783 : decode cL_law 783 = .ok (.iadd, 1) := by decide +kernel
theorem dL_law_784 : decode cL_law 784 = .ok (.iaload, 1) := by decide +kernel
theorem dL_law_785 : decode cL_law 785 = .ok (.invokevirtual 107, 3) := by decide +kernel
theorem dL_law_788 : decode cL_law 788 = .ok (.aload_n 2, 1) := by decide +kernel
theorem dL_law_789 : decode cL_law 789 = .ok (.aload_n 0, 1) := by decide +kernel
theorem dL_law_790 : decode cL_law 790 = .ok (.iload_n 3, 1) := by decide +kernel
theorem dL_law_791 : decode cL_law 791 = .ok (.iconst 1, 1) := by decide +kernel
theorem dL_law_792 : decode cL_law 792 = .ok (.iadd, 1) := by decide +kernel
theorem dL_law_793 : decode cL_law 793 = .ok (.iaload, 1) := by decide +kernel
theorem dL_law_794 : decode cL_law 794 = .ok (.aload_n 0, 1) := by decide +kernel
theorem dL_law_795 : decode cL_law 795 = .ok (.iload_n 3, 1) := by decide +kernel
theorem dL_law_796 : decode cL_law 796 = .ok (.iconst 2, 1) := by decide +kernel
theorem dL_law_797 : decode cL_law 797 = .ok (.iadd, 1) := by decide +kernel
theorem dL_law_798 : decode cL_law 798 = .ok (.iaload, 1) := by decide +kernel
theorem dL_law_799 : decode cL_law 799 = .ok (.invokevirtual 110, 3) := by decide +kernel
theorem dL_law_802 : decode cL_law 802 = .ok (.if_icmp .eq 117, 3) := by decide +kernel
theorem dL_law_805 : decode cL_law 805 = .ok (.iconst 0, 1) := by decide +kernel
theorem dL_law_806 : decode cL_law 806 = .ok (.ireturn, 1) := by decide +kernel
theorem dL_law_807 : decode cL_law 807 = .ok (.aload_n 1, 1) := by decide +kernel
theorem dL_law_808 : decode cL_law 808 = .ok (.aload_n 0, 1) := by decide +kernel
theorem dL_law_809 : decode cL_law 809 = .ok (.iload_n 3, 1) := by decide +kernel
theorem dL_law_810 : decode cL_law 810 = .ok (.iconst 1, 1) := by decide +kernel
theorem dL_law_811 : decode cL_law 811 = .ok (.iadd, 1) := by decide +kernel
theorem dL_law_812 : decode cL_law 812 = .ok (.iaload, 1) := by decide +kernel
theorem dL_law_813 : decode cL_law 813 = .ok (.aload_n 0, 1) := by decide +kernel
theorem dL_law_814 : decode cL_law 814 = .ok (.iload_n 3, 1) := by decide +kernel
theorem dL_law_815 : decode cL_law 815 = .ok (.iconst 2, 1) := by decide +kernel
theorem dL_law_816 : decode cL_law 816 = .ok (.iadd, 1) := by decide +kernel
theorem dL_law_817 : decode cL_law 817 = .ok (.iaload, 1) := by decide +kernel
theorem dL_law_818 : decode cL_law 818 = .ok (.invokevirtual 111, 3) := by decide +kernel
theorem dL_law_821 : decode cL_law 821 = .ok (.aload_n 2, 1) := by decide +kernel
theorem dL_law_822 : decode cL_law 822 = .ok (.aload_n 0, 1) := by decide +kernel
theorem dL_law_823 : decode cL_law 823 = .ok (.iload_n 3, 1) := by decide +kernel
theorem dL_law_824 : decode cL_law 824 = .ok (.iconst 1, 1) := by decide +kernel
theorem dL_law_825 : decode cL_law 825 = .ok (.iadd, 1) := by decide +kernel
theorem dL_law_826 : decode cL_law 826 = .ok (.iaload, 1) := by decide +kernel
theorem dL_law_827 : decode cL_law 827 = .ok (.aload_n 0, 1) := by decide +kernel
theorem dL_law_828 : decode cL_law 828 = .ok (.iload_n 3, 1) := by decide +kernel
theorem dL_law_829 : decode cL_law 829 = .ok (.iconst 2, 1) := by decide +kernel
theorem dL_law_830 : decode cL_law 830 = .ok (.iadd, 1) := by decide +kernel
theorem dL_law_831 : decode cL_law 831 = .ok (.iaload, 1) := by decide +kernel
theorem dL_law_832 : decode cL_law 832 = .ok (.invokevirtual 114, 3) := by decide +kernel
theorem dL_law_835 : decode cL_law 835 = .ok (.if_icmp .eq 84, 3) := by decide +kernel
theorem dL_law_838 : decode cL_law 838 = .ok (.iconst 0, 1) := by decide +kernel
theorem dL_law_839 : decode cL_law 839 = .ok (.ireturn, 1) := by decide +kernel
theorem dL_law_840 : decode cL_law 840 = .ok (.aload_n 1, 1) := by decide +kernel
theorem dL_law_841 : decode cL_law 841 = .ok (.aload_n 0, 1) := by decide +kernel
theorem dL_law_842 : decode cL_law 842 = .ok (.iload_n 3, 1) := by decide +kernel
theorem dL_law_843 : decode cL_law 843 = .ok (.iconst 1, 1) := by decide +kernel
theorem dL_law_844 : decode cL_law 844 = .ok (.iadd, 1) := by decide +kernel
theorem dL_law_845 : decode cL_law 845 = .ok (.iaload, 1) := by decide +kernel
theorem dL_law_846 : decode cL_law 846 = .ok (.invokevirtual 115, 3) := by decide +kernel
theorem dL_law_849 : decode cL_law 849 = .ok (.aload_n 2, 1) := by decide +kernel
theorem dL_law_850 : decode cL_law 850 = .ok (.aload_n 0, 1) := by decide +kernel
theorem dL_law_851 : decode cL_law 851 = .ok (.iload_n 3, 1) := by decide +kernel
theorem dL_law_852 : decode cL_law 852 = .ok (.iconst 1, 1) := by decide +kernel
theorem dL_law_853 : decode cL_law 853 = .ok (.iadd, 1) := by decide +kernel
theorem dL_law_854 : decode cL_law 854 = .ok (.iaload, 1) := by decide +kernel
theorem dL_law_855 : decode cL_law 855 = .ok (.invokevirtual 118, 3) := by decide +kernel
theorem dL_law_858 : decode cL_law 858 = .ok (.if_icmp .eq 61, 3) := by decide +kernel
theorem dL_law_861 : decode cL_law 861 = .ok (.iconst 0, 1) := by decide +kernel
theorem dL_law_862 : decode cL_law 862 = .ok (.ireturn, 1) := by decide +kernel
theorem dL_law_863 : decode cL_law 863 = .ok (.aload_n 1, 1) := by decide +kernel
theorem dL_law_864 : decode cL_law 864 = .ok (.aload_n 0, 1) := by decide +kernel
theorem dL_law_865 : decode cL_law 865 = .ok (.iload_n 3, 1) := by decide +kernel
theorem dL_law_866 : decode cL_law 866 = .ok (.iconst 1, 1) := by decide +kernel
theorem dL_law_867 : decode cL_law 867 = .ok (.iadd, 1) := by decide +kernel
theorem dL_law_868 : decode cL_law 868 = .ok (.iaload, 1) := by decide +kernel
theorem dL_law_869 : decode cL_law 869 = .ok (.aload_n 0, 1) := by decide +kernel
theorem dL_law_870 : decode cL_law 870 = .ok (.iload_n 3, 1) := by decide +kernel
theorem dL_law_871 : decode cL_law 871 = .ok (.iconst 2, 1) := by decide +kernel
theorem dL_law_872 : decode cL_law 872 = .ok (.iadd, 1) := by decide +kernel
theorem dL_law_873 : decode cL_law 873 = .ok (.iaload, 1) := by decide +kernel
theorem dL_law_874 : decode cL_law 874 = .ok (.invokevirtual 119, 3) := by decide +kernel
theorem dL_law_877 : decode cL_law 877 = .ok (.aload_n 2, 1) := by decide +kernel
theorem dL_law_878 : decode cL_law 878 = .ok (.aload_n 0, 1) := by decide +kernel
theorem dL_law_879 : decode cL_law 879 = .ok (.iload_n 3, 1) := by decide +kernel
theorem dL_law_880 : decode cL_law 880 = .ok (.iconst 1, 1) := by decide +kernel
theorem dL_law_881 : decode cL_law 881 = .ok (.iadd, 1) := by decide +kernel
theorem dL_law_882 : decode cL_law 882 = .ok (.iaload, 1) := by decide +kernel
theorem dL_law_883 : decode cL_law 883 = .ok (.aload_n 0, 1) := by decide +kernel
theorem dL_law_884 : decode cL_law 884 = .ok (.iload_n 3, 1) := by decide +kernel
theorem dL_law_885 : decode cL_law 885 = .ok (.iconst 2, 1) := by decide +kernel
theorem dL_law_886 : decode cL_law 886 = .ok (.iadd, 1) := by decide +kernel
theorem dL_law_887 : decode cL_law 887 = .ok (.iaload, 1) := by decide +kernel
theorem dL_law_888 : decode cL_law 888 = .ok (.invokevirtual 122, 3) := by decide +kernel
theorem dL_law_891 : decode cL_law 891 = .ok (.if_icmp .eq 28, 3) := by decide +kernel
theorem dL_law_894 : decode cL_law 894 = .ok (.iconst 0, 1) := by decide +kernel
theorem dL_law_895 : decode cL_law 895 = .ok (.ireturn, 1) := by decide +kernel
theorem dL_law_896 : decode cL_law 896 = .ok (.aload_n 1, 1) := by decide +kernel
theorem dL_law_897 : decode cL_law 897 = .ok (.aload_n 0, 1) := by decide +kernel
theorem dL_law_898 : decode cL_law 898 = .ok (.iload_n 3, 1) := by decide +kernel
theorem dL_law_899 : decode cL_law 899 = .ok (.iconst 1, 1) := by decide +kernel
theorem dL_law_900 : decode cL_law 900 = .ok (.iadd, 1) := by decide +kernel
theorem dL_law_901 : decode cL_law 901 = .ok (.iaload, 1) := by decide +kernel
theorem dL_law_902 : decode cL_law 902 = .ok (.invokevirtual 123, 3) := by decide +kernel
theorem dL_law_905 : decode cL_law 905 = .ok (.aload_n 2, 1) := by decide +kernel
theorem dL_law_906 : decode cL_law 906 = .ok (.aload_n 0, 1) := by decide +kernel
theorem dL_law_907 : decode cL_law 907 = .ok (.iload_n 3, 1) := by decide +kernel
theorem dL_law_908 : decode cL_law 908 = .ok (.iconst 1, 1) := by decide +kernel
theorem dL_law_909 : decode cL_law 909 = .ok (.iadd, 1) := by decide +kernel
theorem dL_law_910 : decode cL_law 910 = .ok (.iaload, 1) := by decide +kernel
theorem dL_law_911 : decode cL_law 911 = .ok (.invokevirtual 126, 3) := by decide +kernel
theorem dL_law_914 : decode cL_law 914 = .ok (.if_icmp .eq 5, 3) := by decide +kernel
theorem dL_law_917 : decode cL_law 917 = .ok (.iconst 0, 1) := by decide +kernel
theorem dL_law_918 : decode cL_law 918 = .ok (.ireturn, 1) := by decide +kernel
theorem dL_law_919 : decode cL_law 919 = .ok (.iinc 3 6, 3) := by decide +kernel
theorem dL_law_922 : decode cL_law 922 = .ok (.goto (-904), 3) := by decide +kernel
theorem dL_law_925 : decode cL_law 925 = .ok (.iconst 1, 1) := by decide +kernel
theorem dL_law_926 : decode cL_law 926 = .ok (.ireturn, 1) := by decide +kernel
