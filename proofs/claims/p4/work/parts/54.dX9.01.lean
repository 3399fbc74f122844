theorem dX9_writesNumber_18 : decode cX9_writesNumber 18 = .ok (.bipush 48, 2) := by decide +kernel
theorem dX9_writesNumber_20 : decode cX9_writesNumber 20 = .ok (.iload_n 1, 1) := by decide +kernel
theorem dX9_writesNumber_21 : decode cX9_writesNumber 21 = .ok (.iload_n 2, 1) := by decide +kernel
theorem dX9_writesNumber_22 : decode cX9_writesNumber 22 = .ok (.idiv, 1) := by decide +kernel
theorem dX9_writesNumber_23 : decode cX9_writesNumber 23 = .ok (.bipush 10, 2) := by decide +kernel
theorem dX9_writesNumber_25 : decode cX9_writesNumber 25 = .ok (.irem, 1) := by decide +kernel
theorem dX9_writesNumber_26 : decode cX9_writesNumber 26 = .ok (.iadd, 1) := by decide +kernel
theorem dX9_writesNumber_27 : decode cX9_writesNumber 27 = .ok (.invokevirtual 231, 3) := by decide +kernel
theorem dX9_writesNumber_30 : decode cX9_writesNumber 30 = .ok (.iload_n 2, 1) := by decide +kernel
theorem dX9_writesNumber_31 : decode cX9_writesNumber 31 = .ok (.bipush 10, 2) := by decide +kernel
theorem dX9_writesNumber_33 : decode cX9_writesNumber 33 = .ok (.idiv, 1) := by decide +kernel
theorem dX9_writesNumber_34 : decode cX9_writesNumber 34 = .ok (.istore_n 2, 1) := by decide +kernel
theorem dX9_writesNumber_35 : decode cX9_writesNumber 35 = .ok (.goto (-32), 3) := by decide +kernel
theorem dX9_writesNumber_38 : decode cX9_writesNumber 38 = .ok (.return_, 1) := by decide +kernel
theorem dX9_writesDays_0 : decode cX9_writesDays 0 = .ok (.iload 4, 2) := by decide +kernel
theorem dX9_writesDays_2 : decode cX9_writesDays 2 = .ok (.istore 7, 2) := by decide +kernel
theorem dX9_writesDays_4 : decode cX9_writesDays 4 = .ok (.iload 7, 2) := by decide +kernel
theorem dX9_writesDays_6 : decode cX9_writesDays 6 = .ok (.iload 5, 2) := by decide +kernel
theorem dX9_writesDays_8 : decode cX9_writesDays 8 = .ok (.if_icmp .gt 56, 3) := by decide +kernel
theorem dX9_writesDays_11 : decode cX9_writesDays 11 = .ok (.aload_n 0, 1) := by decide +kernel
theorem dX9_writesDays_12 : decode cX9_writesDays 12 = .ok (.iload_n 2, 1) := by decide +kernel
theorem dX9_writesDays_13 : decode cX9_writesDays 13 = .ok (.iload_n 3, 1) := by decide +kernel
theorem dX9_writesDays_14 : decode cX9_writesDays 14 = .ok (.iload 7, 2) := by decide +kernel
theorem dX9_writesDays_16 : decode cX9_writesDays 16 = .ok (.iadd, 1) := by decide +kernel
theorem dX9_writesDays_17 : decode cX9_writesDays 17 = .ok (.invokevirtual 122, 3) := by decide +kernel
theorem dX9_writesDays_20 : decode cX9_writesDays 20 = .ok (.iload 6, 2) := by decide +kernel
theorem dX9_writesDays_22 : decode cX9_writesDays 22 = .ok (.if_icmp .ge 6, 3) := by decide +kernel
theorem dX9_writesDays_25 : decode cX9_writesDays 25 = .ok (.goto 33, 3) := by decide +kernel
theorem dX9_writesDays_28 : decode cX9_writesDays 28 = .ok (.aload_n 0, 1) := by decide +kernel
theorem dX9_writesDays_29 : decode cX9_writesDays 29 = .ok (.iload_n 1, 1) := by decide +kernel
theorem dX9_writesDays_30 : decode cX9_writesDays 30 = .ok (.invokevirtual 231, 3) := by decide +kernel
theorem dX9_writesDays_33 : decode cX9_writesDays 33 = .ok (.aload_n 0, 1) := by decide +kernel
theorem dX9_writesDays_34 : decode cX9_writesDays 34 = .ok (.iload 7, 2) := by decide +kernel
theorem dX9_writesDays_36 : decode cX9_writesDays 36 = .ok (.invokevirtual 234, 3) := by decide +kernel
theorem dX9_writesDays_39 : decode cX9_writesDays 39 = .ok (.aload_n 0, 1) := by decide +kernel
theorem dX9_writesDays_40 : decode cX9_writesDays 40 = .ok (.bipush 58, 2) := by decide +kernel
theorem dX9_writesDays_42 : decode cX9_writesDays 42 = .ok (.invokevirtual 231, 3) := by decide +kernel
theorem dX9_writesDays_45 : decode cX9_writesDays 45 = .ok (.aload_n 0, 1) := by decide +kernel
theorem dX9_writesDays_46 : decode cX9_writesDays 46 = .ok (.aload_n 0, 1) := by decide +kernel
theorem dX9_writesDays_47 : decode cX9_writesDays 47 = .ok (.iload_n 2, 1) := by decide +kernel
theorem dX9_writesDays_48 : decode cX9_writesDays 48 = .ok (.iload_n 3, 1) := by decide +kernel
theorem dX9_writesDays_49 : decode cX9_writesDays 49 = .ok (.iload 7, 2) := by decide +kernel
theorem dX9_writesDays_51 : decode cX9_writesDays 51 = .ok (.iadd, 1) := by decide +kernel
theorem dX9_writesDays_52 : decode cX9_writesDays 52 = .ok (.invokevirtual 122, 3) := by decide +kernel
theorem dX9_writesDays_55 : decode cX9_writesDays 55 = .ok (.invokevirtual 234, 3) := by decide +kernel
theorem dX9_writesDays_58 : decode cX9_writesDays 58 = .ok (.iinc 7 1, 3) := by decide +kernel
theorem dX9_writesDays_61 : decode cX9_writesDays 61 = .ok (.goto (-57), 3) := by decide +kernel
theorem dX9_writesDays_64 : decode cX9_writesDays 64 = .ok (.return_, 1) := by decide +kernel
theorem dX9_letter_0 : decode cX9_letter 0 = .ok (.iload_n 1, 1) := by decide +kernel
theorem dX9_letter_1 : decode cX9_letter 1 = .ok (.invokestatic 126, 3) := by decide +kernel
theorem dX9_letter_4 : decode cX9_letter 4 = .ok (.ifCond .eq 8, 3) := by decide +kernel
theorem dX9_letter_7 : decode cX9_letter 7 = .ok (.iload_n 2, 1) := by decide +kernel
theorem dX9_letter_8 : decode cX9_letter 8 = .ok (.iconst (-1), 1) := by decide +kernel
theorem dX9_letter_9 : decode cX9_letter 9 = .ok (.if_icmp .ge 5, 3) := by decide +kernel
theorem dX9_letter_12 : decode cX9_letter 12 = .ok (.iconst (-1), 1) := by decide +kernel
theorem dX9_letter_13 : decode cX9_letter 13 = .ok (.ireturn, 1) := by decide +kernel
theorem dX9_letter_14 : decode cX9_letter 14 = .ok (.aload_n 0, 1) := by decide +kernel
theorem dX9_letter_15 : decode cX9_letter 15 = .ok (.iconst 0, 1) := by decide +kernel
theorem dX9_letter_16 : decode cX9_letter 16 = .ok (.putfield 222, 3) := by decide +kernel
theorem dX9_letter_19 : decode cX9_letter 19 = .ok (.aload_n 0, 1) := by decide +kernel
theorem dX9_letter_20 : decode cX9_letter 20 = .ok (.iload_n 2, 1) := by decide +kernel
theorem dX9_letter_21 : decode cX9_letter 21 = .ok (.putfield 225, 3) := by decide +kernel
theorem dX9_letter_24 : decode cX9_letter 24 = .ok (.aload_n 0, 1) := by decide +kernel
theorem dX9_letter_25 : decode cX9_letter 25 = .ok (.bipush 102, 2) := by decide +kernel
theorem dX9_letter_27 : decode cX9_letter 27 = .ok (.invokevirtual 231, 3) := by decide +kernel
theorem dX9_letter_30 : decode cX9_letter 30 = .ok (.aload_n 0, 1) := by decide +kernel
theorem dX9_letter_31 : decode cX9_letter 31 = .ok (.aload_n 0, 1) := by decide +kernel
theorem dX9_letter_32 : decode cX9_letter 32 = .ok (.iload_n 1, 1) := by decide +kernel
theorem dX9_letter_33 : decode cX9_letter 33 = .ok (.iconst 0, 1) := by decide +kernel
theorem dX9_letter_34 : decode cX9_letter 34 = .ok (.invokevirtual 122, 3) := by decide +kernel
theorem dX9_letter_37 : decode cX9_letter 37 = .ok (.invokevirtual 234, 3) := by decide +kernel
theorem dX9_letter_40 : decode cX9_letter 40 = .ok (.aload_n 0, 1) := by decide +kernel
theorem dX9_letter_41 : decode cX9_letter 41 = .ok (.bipush 110, 2) := by decide +kernel
theorem dX9_letter_43 : decode cX9_letter 43 = .ok (.invokevirtual 231, 3) := by decide +kernel
theorem dX9_letter_46 : decode cX9_letter 46 = .ok (.aload_n 0, 1) := by decide +kernel
theorem dX9_letter_47 : decode cX9_letter 47 = .ok (.aload_n 0, 1) := by decide +kernel
theorem dX9_letter_48 : decode cX9_letter 48 = .ok (.iload_n 1, 1) := by decide +kernel
theorem dX9_letter_49 : decode cX9_letter 49 = .ok (.iconst 1, 1) := by decide +kernel
theorem dX9_letter_50 : decode cX9_letter 50 = .ok (.invokevirtual 122, 3) := by decide +kernel
theorem dX9_letter_53 : decode cX9_letter 53 = .ok (.invokevirtual 234, 3) := by decide +kernel
theorem dX9_letter_56 : decode cX9_letter 56 = .ok (.aload_n 0, 1) := by decide +kernel
theorem dX9_letter_57 : decode cX9_letter 57 = .ok (.bipush 99, 2) := by decide +kernel
theorem dX9_letter_59 : decode cX9_letter 59 = .ok (.iload_n 1, 1) := by decide +kernel
theorem dX9_letter_60 : decode cX9_letter 60 = .ok (.iconst 2, 1) := by decide +kernel
theorem dX9_letter_61 : decode cX9_letter 61 = .ok (.iconst 1, 1) := by decide +kernel
theorem dX9_letter_62 : decode cX9_letter 62 = .ok (.bipush 6, 2) := by decide +kernel
theorem dX9_letter_64 : decode cX9_letter 64 = .ok (.iconst 1, 1) := by decide +kernel
theorem dX9_letter_65 : decode cX9_letter 65 = .ok (.invokevirtual 237, 3) := by decide +kernel
theorem dX9_letter_68 : decode cX9_letter 68 = .ok (.aload_n 0, 1) := by decide +kernel
theorem dX9_letter_69 : decode cX9_letter 69 = .ok (.bipush 107, 2) := by decide +kernel
theorem dX9_letter_71 : decode cX9_letter 71 = .ok (.iload_n 1, 1) := by decide +kernel
theorem dX9_letter_72 : decode cX9_letter 72 = .ok (.bipush 9, 2) := by decide +kernel
theorem dX9_letter_74 : decode cX9_letter 74 = .ok (.iconst 0, 1) := by decide +kernel
theorem dX9_letter_75 : decode cX9_letter 75 = .ok (.iconst 5, 1) := by decide +kernel
theorem dX9_letter_76 : decode cX9_letter 76 = .ok (.iconst 0, 1) := by decide +kernel
theorem dX9_letter_77 : decode cX9_letter 77 = .ok (.invokevirtual 237, 3) := by decide +kernel
theorem dX9_letter_80 : decode cX9_letter 80 = .ok (.aload_n 0, 1) := by decide +kernel
theorem dX9_letter_81 : decode cX9_letter 81 = .ok (.bipush 112, 2) := by decide +kernel
theorem dX9_letter_83 : decode cX9_letter 83 = .ok (.iload_n 1, 1) := by decide +kernel
theorem dX9_letter_84 : decode cX9_letter 84 = .ok (.bipush 15, 2) := by decide +kernel
theorem dX9_letter_86 : decode cX9_letter 86 = .ok (.iconst 0, 1) := by decide +kernel
theorem dX9_letter_87 : decode cX9_letter 87 = .ok (.iconst 5, 1) := by decide +kernel
theorem dX9_letter_88 : decode cX9_letter 88 = .ok (.iconst 0, 1) := by decide +kernel
theorem dX9_letter_89 : decode cX9_letter 89 = .ok (.invokevirtual 237, 3) := by decide +kernel
theorem dX9_letter_92 : decode cX9_letter 92 = .ok (.aload_n 0, 1) := by decide +kernel
theorem dX9_letter_93 : decode cX9_letter 93 = .ok (.bipush 119, 2) := by decide +kernel
theorem dX9_letter_95 : decode cX9_letter 95 = .ok (.invokevirtual 231, 3) := by decide +kernel
theorem dX9_letter_98 : decode cX9_letter 98 = .ok (.aload_n 0, 1) := by decide +kernel
theorem dX9_letter_99 : decode cX9_letter 99 = .ok (.aload_n 0, 1) := by decide +kernel
theorem dX9_letter_100 : decode cX9_letter 100 = .ok (.iload_n 1, 1) := by decide +kernel
theorem dX9_letter_101 : decode cX9_letter 101 = .ok (.bipush 21, 2) := by decide +kernel
theorem dX9_letter_103 : decode cX9_letter 103 = .ok (.invokevirtual 122, 3) := by decide +kernel
theorem dX9_letter_106 : decode cX9_letter 106 = .ok (.invokevirtual 234, 3) := by decide +kernel
theorem dX9_letter_109 : decode cX9_letter 109 = .ok (.aload_n 0, 1) := by decide +kernel
theorem dX9_letter_110 : decode cX9_letter 110 = .ok (.bipush 45, 2) := by decide +kernel
theorem dX9_letter_112 : decode cX9_letter 112 = .ok (.invokevirtual 231, 3) := by decide +kernel
theorem dX9_letter_115 : decode cX9_letter 115 = .ok (.aload_n 0, 1) := by decide +kernel
theorem dX9_letter_116 : decode cX9_letter 116 = .ok (.aload_n 0, 1) := by decide +kernel
theorem dX9_letter_117 : decode cX9_letter 117 = .ok (.iload_n 1, 1) := by decide +kernel
theorem dX9_letter_118 : decode cX9_letter 118 = .ok (.bipush 22, 2) := by decide +kernel
theorem dX9_letter_120 : decode cX9_letter 120 = .ok (.invokevirtual 122, 3) := by decide +kernel
theorem dX9_letter_123 : decode cX9_letter 123 = .ok (.invokevirtual 234, 3) := by decide +kernel
theorem dX9_letter_126 : decode cX9_letter 126 = .ok (.aload_n 0, 1) := by decide +kernel
theorem dX9_letter_127 : decode cX9_letter 127 = .ok (.bipush 115, 2) := by decide +kernel
theorem dX9_letter_129 : decode cX9_letter 129 = .ok (.invokevirtual 231, 3) := by decide +kernel
theorem dX9_letter_132 : decode cX9_letter 132 = .ok (.aload_n 0, 1) := by decide +kernel
theorem dX9_letter_133 : decode cX9_letter 133 = .ok (.aload_n 0, 1) := by decide +kernel
theorem dX9_letter_134 : decode cX9_letter 134 = .ok (.iload_n 1, 1) := by decide +kernel
theorem dX9_letter_135 : decode cX9_letter 135 = .ok (.bipush 23, 2) := by decide +kernel
theorem dX9_letter_137 : decode cX9_letter 137 = .ok (.invokevirtual 122, 3) := by decide +kernel
theorem dX9_letter_140 : decode cX9_letter 140 = .ok (.invokevirtual 234, 3) := by decide +kernel
theorem dX9_letter_143 : decode cX9_letter 143 = .ok (.aload_n 0, 1) := by decide +kernel
theorem dX9_letter_144 : decode cX9_letter 144 = .ok (.bipush 47, 2) := by decide +kernel
theorem dX9_letter_146 : decode cX9_letter 146 = .ok (.invokevirtual 231, 3) := by decide +kernel
theorem dX9_letter_149 : decode cX9_letter 149 = .ok (.aload_n 0, 1) := by decide +kernel
theorem dX9_letter_150 : decode cX9_letter 150 = .ok (.aload_n 0, 1) := by decide +kernel
theorem dX9_letter_151 : decode cX9_letter 151 = .ok (.iload_n 1, 1) := by decide +kernel
theorem dX9_letter_152 : decode cX9_letter 152 = .ok (.bipush 24, 2) := by decide +kernel
theorem dX9_letter_154 : decode cX9_letter 154 = .ok (.invokevirtual 122, 3) := by decide +kernel
theorem dX9_letter_157 : decode cX9_letter 157 = .ok (.invokevirtual 234, 3) := by decide +kernel
theorem dX9_letter_160 : decode cX9_letter 160 = .ok (.aload_n 0, 1) := by decide +kernel
theorem dX9_letter_161 : decode cX9_letter 161 = .ok (.bipush 47, 2) := by decide +kernel
theorem dX9_letter_163 : decode cX9_letter 163 = .ok (.invokevirtual 231, 3) := by decide +kernel
theorem dX9_letter_166 : decode cX9_letter 166 = .ok (.aload_n 0, 1) := by decide +kernel
theorem dX9_letter_167 : decode cX9_letter 167 = .ok (.aload_n 0, 1) := by decide +kernel
theorem dX9_letter_168 : decode cX9_letter 168 = .ok (.iload_n 1, 1) := by decide +kernel
theorem dX9_letter_169 : decode cX9_letter 169 = .ok (.bipush 25, 2) := by decide +kernel
theorem dX9_letter_171 : decode cX9_letter 171 = .ok (.invokevirtual 122, 3) := by decide +kernel
theorem dX9_letter_174 : decode cX9_letter 174 = .ok (.invokevirtual 234, 3) := by decide +kernel
theorem dX9_letter_177 : decode cX9_letter 177 = .ok (.aload_n 0, 1) := by decide +kernel
theorem dX9_letter_178 : decode cX9_letter 178 = .ok (.bipush 122, 2) := by decide +kernel
theorem dX9_letter_180 : decode cX9_letter 180 = .ok (.invokevirtual 231, 3) := by decide +kernel
theorem dX9_letter_183 : decode cX9_letter 183 = .ok (.aload_n 0, 1) := by decide +kernel
theorem dX9_letter_184 : decode cX9_letter 184 = .ok (.aload_n 0, 1) := by decide +kernel
theorem dX9_letter_185 : decode cX9_letter 185 = .ok (.iload_n 1, 1) := by decide +kernel
theorem dX9_letter_186 : decode cX9_letter 186 = .ok (.bipush 26, 2) := by decide +kernel
theorem dX9_letter_188 : decode cX9_letter 188 = .ok (.invokevirtual 122, 3) := by decide +kernel
theorem dX9_letter_191 : decode cX9_letter 191 = .ok (.invokevirtual 234, 3) := by decide +kernel
theorem dX9_letter_194 : decode cX9_letter 194 = .ok (.iload_n 2, 1) := by decide +kernel
theorem dX9_letter_195 : decode cX9_letter 195 = .ok (.iconst (-1), 1) := by decide +kernel
theorem dX9_letter_196 : decode cX9_letter 196 = .ok (.if_icmp .ne 10, 3) := by decide +kernel
theorem dX9_letter_199 : decode cX9_letter 199 = .ok (.aload_n 0, 1) := by decide +kernel
theorem dX9_letter_200 : decode cX9_letter 200 = .ok (.getfield 222, 3) := by decide +kernel
theorem dX9_letter_203 : decode cX9_letter 203 = .ok (.goto 20, 3) := by decide +kernel
theorem dX9_letter_206 : decode cX9_letter 206 = .ok (.iload_n 2, 1) := by decide +kernel
theorem dX9_letter_207 : decode cX9_letter 207 = .ok (.aload_n 0, 1) := by decide +kernel
theorem dX9_letter_208 : decode cX9_letter 208 = .ok (.getfield 222, 3) := by decide +kernel
theorem dX9_letter_211 : decode cX9_letter 211 = .ok (.if_icmp .ge 10, 3) := by decide +kernel
theorem dX9_letter_214 : decode cX9_letter 214 = .ok (.aload_n 0, 1) := by decide +kernel
theorem dX9_letter_215 : decode cX9_letter 215 = .ok (.getfield 228, 3) := by decide +kernel
theorem dX9_letter_218 : decode cX9_letter 218 = .ok (.goto 5, 3) := by decide +kernel
theorem dX9_letter_221 : decode cX9_letter 221 = .ok (.bipush (-2), 2) := by decide +kernel
theorem dX9_letter_223 : decode cX9_letter 223 = .ok (.ireturn, 1) := by decide +kernel
theorem dX9_path_0 : decode cX9_path 0 = .ok (.iload_n 1, 1) := by decide +kernel
theorem dX9_path_1 : decode cX9_path 1 = .ok (.i2l, 1) := by decide +kernel
theorem dX9_path_2 : decode cX9_path 2 = .ok (.lconst 0, 1) := by decide +kernel
theorem dX9_path_3 : decode cX9_path 3 = .ok (.aload_n 0, 1) := by decide +kernel
theorem dX9_path_4 : decode cX9_path 4 = .ok (.getfield 13, 3) := by decide +kernel
theorem dX9_path_7 : decode cX9_path 7 = .ok (.iconst 0, 1) := by decide +kernel
theorem dX9_path_8 : decode cX9_path 8 = .ok (.iaload, 1) := by decide +kernel
theorem dX9_path_9 : decode cX9_path 9 = .ok (.i2l, 1) := by decide +kernel
theorem dX9_path_10 : decode cX9_path 10 = .ok (.invokestatic 60, 3) := by decide +kernel
theorem dX9_path_13 : decode cX9_path 13 = .ok (.ifCond .eq 11, 3) := by decide +kernel
theorem dX9_path_16 : decode cX9_path 16 = .ok (.iload_n 1, 1) := by decide +kernel
theorem dX9_path_17 : decode cX9_path 17 = .ok (.aload_n 0, 1) := by decide +kernel
theorem dX9_path_18 : decode cX9_path 18 = .ok (.getfield 64, 3) := by decide +kernel
theorem dX9_path_21 : decode cX9_path 21 = .ok (.if_icmp .le 5, 3) := by decide +kernel
theorem dX9_path_24 : decode cX9_path 24 = .ok (.iconst (-1), 1) := by decide +kernel
theorem dX9_path_25 : decode cX9_path 25 = .ok (.ireturn, 1) := by decide +kernel
theorem dX9_path_26 : decode cX9_path 26 = .ok (.aload_n 0, 1) := by decide +kernel
theorem dX9_path_27 : decode cX9_path 27 = .ok (.iconst 0, 1) := by decide +kernel
theorem dX9_path_28 : decode cX9_path 28 = .ok (.putfield 64, 3) := by decide +kernel
theorem dX9_path_31 : decode cX9_path 31 = .ok (.iconst 0, 1) := by decide +kernel
theorem dX9_path_32 : decode cX9_path 32 = .ok (.istore_n 2, 1) := by decide +kernel
theorem dX9_path_33 : decode cX9_path 33 = .ok (.iconst 0, 1) := by decide +kernel
theorem dX9_path_34 : decode cX9_path 34 = .ok (.istore_n 3, 1) := by decide +kernel
theorem dX9_path_35 : decode cX9_path 35 = .ok (.iload_n 3, 1) := by decide +kernel
theorem dX9_path_36 : decode cX9_path 36 = .ok (.iload_n 1, 1) := by decide +kernel
theorem dX9_path_37 : decode cX9_path 37 = .ok (.if_icmp .ge 53, 3) := by decide +kernel
theorem dX9_path_40 : decode cX9_path 40 = .ok (.aload_n 0, 1) := by decide +kernel
theorem dX9_path_41 : decode cX9_path 41 = .ok (.getfield 7, 3) := by decide +kernel
theorem dX9_path_44 : decode cX9_path 44 = .ok (.iload_n 3, 1) := by decide +kernel
theorem dX9_path_45 : decode cX9_path 45 = .ok (.baload, 1) := by decide +kernel
theorem dX9_path_46 : decode cX9_path 46 = .ok (.bipush 117, 2) := by decide +kernel
theorem dX9_path_48 : decode cX9_path 48 = .ok (.if_icmp .eq 17, 3) := by decide +kernel
theorem dX9_path_51 : decode cX9_path 51 = .ok (.aload_n 0, 1) := by decide +kernel
theorem dX9_path_52 : decode cX9_path 52 = .ok (.getfield 7, 3) := by decide +kernel
theorem dX9_path_55 : decode cX9_path 55 = .ok (.iload_n 3, 1) := by decide +kernel
theorem dX9_path_56 : decode cX9_path 56 = .ok (.baload, 1) := by decide +kernel
theorem dX9_path_57 : decode cX9_path 57 = .ok (.bipush 100, 2) := by decide +kernel
theorem dX9_path_59 : decode cX9_path 59 = .ok (.if_icmp .eq 6, 3) := by decide +kernel
theorem dX9_path_62 : decode cX9_path 62 = .ok (.bipush (-2), 2) := by decide +kernel
theorem dX9_path_64 : decode cX9_path 64 = .ok (.ireturn, 1) := by decide +kernel
theorem dX9_path_65 : decode cX9_path 65 = .ok (.iload_n 2, 1) := by decide +kernel
theorem dX9_path_66 : decode cX9_path 66 = .ok (.aload_n 0, 1) := by decide +kernel
theorem dX9_path_67 : decode cX9_path 67 = .ok (.getfield 7, 3) := by decide +kernel
theorem dX9_path_70 : decode cX9_path 70 = .ok (.iload_n 3, 1) := by decide +kernel
theorem dX9_path_71 : decode cX9_path 71 = .ok (.baload, 1) := by decide +kernel
theorem dX9_path_72 : decode cX9_path 72 = .ok (.bipush 117, 2) := by decide +kernel
theorem dX9_path_74 : decode cX9_path 74 = .ok (.if_icmp .ne 7, 3) := by decide +kernel
theorem dX9_path_77 : decode cX9_path 77 = .ok (.iconst 1, 1) := by decide +kernel
theorem dX9_path_78 : decode cX9_path 78 = .ok (.goto 4, 3) := by decide +kernel
theorem dX9_path_81 : decode cX9_path 81 = .ok (.iconst 0, 1) := by decide +kernel
theorem dX9_path_82 : decode cX9_path 82 = .ok (.iadd, 1) := by decide +kernel
theorem dX9_path_83 : decode cX9_path 83 = .ok (.istore_n 2, 1) := by decide +kernel
theorem dX9_path_84 : decode cX9_path 84 = .ok (.iinc 3 1, 3) := by decide +kernel
theorem dX9_path_87 : decode cX9_path 87 = .ok (.goto (-52), 3) := by decide +kernel
theorem dX9_path_90 : decode cX9_path 90 = .ok (.iconst 0, 1) := by decide +kernel
theorem dX9_path_91 : decode cX9_path 91 = .ok (.istore_n 3, 1) := by decide +kernel
theorem dX9_path_92 : decode cX9_path 92 = .ok (.iload_n 3, 1) := by decide +kernel
theorem dX9_path_93 : decode cX9_path 93 = .ok (.iload_n 1, 1) := by decide +kernel
theorem dX9_path_94 : decode cX9_path 94 = .ok (.if_icmp .ge 31, 3) := by decide +kernel
theorem dX9_path_97 : decode cX9_path 97 = .ok (.aload_n 0, 1) := by decide +kernel
theorem dX9_path_98 : decode cX9_path 98 = .ok (.getfield 20, 3) := by decide +kernel
theorem dX9_path_101 : decode cX9_path 101 = .ok (.iload_n 3, 1) := by decide +kernel
theorem dX9_path_102 : decode cX9_path 102 = .ok (.aload_n 0, 1) := by decide +kernel
theorem dX9_path_103 : decode cX9_path 103 = .ok (.getfield 7, 3) := by decide +kernel
theorem dX9_path_106 : decode cX9_path 106 = .ok (.iload_n 3, 1) := by decide +kernel
theorem dX9_path_107 : decode cX9_path 107 = .ok (.baload, 1) := by decide +kernel
theorem dX9_path_108 : decode cX9_path 108 = .ok (.bipush 117, 2) := by decide +kernel
theorem dX9_path_110 : decode cX9_path 110 = .ok (.if_icmp .ne 7, 3) := by decide +kernel
theorem dX9_path_113 : decode cX9_path 113 = .ok (.iconst 1, 1) := by decide +kernel
theorem dX9_path_114 : decode cX9_path 114 = .ok (.goto 4, 3) := by decide +kernel
theorem dX9_path_117 : decode cX9_path 117 = .ok (.iconst 0, 1) := by decide +kernel
theorem dX9_path_118 : decode cX9_path 118 = .ok (.iastore, 1) := by decide +kernel
theorem dX9_path_119 : decode cX9_path 119 = .ok (.iinc 3 1, 3) := by decide +kernel
theorem dX9_path_122 : decode cX9_path 122 = .ok (.goto (-30), 3) := by decide +kernel
theorem dX9_path_125 : decode cX9_path 125 = .ok (.aload_n 0, 1) := by decide +kernel
theorem dX9_path_126 : decode cX9_path 126 = .ok (.iload_n 1, 1) := by decide +kernel
theorem dX9_path_127 : decode cX9_path 127 = .ok (.putfield 76, 3) := by decide +kernel
theorem dX9_path_130 : decode cX9_path 130 = .ok (.iload_n 2, 1) := by decide +kernel
theorem dX9_path_131 : decode cX9_path 131 = .ok (.ireturn, 1) := by decide +kernel
theorem dX9_draw_0 : decode cX9_draw 0 = .ok (.aload_n 0, 1) := by decide +kernel
theorem dX9_draw_1 : decode cX9_draw 1 = .ok (.sipush 25173, 3) := by decide +kernel
theorem dX9_draw_4 : decode cX9_draw 4 = .ok (.aload_n 0, 1) := by decide +kernel
theorem dX9_draw_5 : decode cX9_draw 5 = .ok (.getfield 241, 3) := by decide +kernel
theorem dX9_draw_8 : decode cX9_draw 8 = .ok (.imul, 1) := by decide +kernel
theorem dX9_draw_9 : decode cX9_draw 9 = .ok (.sipush 13849, 3) := by decide +kernel
theorem dX9_draw_12 : decode cX9_draw 12 = .ok (.iadd, 1) := by decide +kernel
theorem dX9_draw_13 : decode cX9_draw 13 = .ok (.ldc 244, 2) := by decide +kernel
theorem dX9_draw_15 : decode cX9_draw 15 = .ok (.irem, 1) := by decide +kernel
theorem dX9_draw_16 : decode cX9_draw 16 = .ok (.putfield 241, 3) := by decide +kernel
theorem dX9_draw_19 : decode cX9_draw 19 = .ok (.aload_n 0, 1) := by decide +kernel
theorem dX9_draw_20 : decode cX9_draw 20 = .ok (.getfield 241, 3) := by decide +kernel
theorem dX9_draw_23 : decode cX9_draw 23 = .ok (.iconst 4, 1) := by decide +kernel
theorem dX9_draw_24 : decode cX9_draw 24 = .ok (.idiv, 1) := by decide +kernel
theorem dX9_draw_25 : decode cX9_draw 25 = .ok (.iload_n 1, 1) := by decide +kernel
theorem dX9_draw_26 : decode cX9_draw 26 = .ok (.irem, 1) := by decide +kernel
theorem dX9_draw_27 : decode cX9_draw 27 = .ok (.ireturn, 1) := by decide +kernel
theorem dX9_drawn_0 : decode cX9_drawn 0 = .ok (.iload_n 2, 1) := by decide +kernel
theorem dX9_drawn_1 : decode cX9_drawn 1 = .ok (.i2l, 1) := by decide +kernel
theorem dX9_drawn_2 : decode cX9_drawn 2 = .ok (.lconst 0, 1) := by decide +kernel
theorem dX9_drawn_3 : decode cX9_drawn 3 = .ok (.aload_n 0, 1) := by decide +kernel
theorem dX9_drawn_4 : decode cX9_drawn 4 = .ok (.getfield 13, 3) := by decide +kernel
theorem dX9_drawn_7 : decode cX9_drawn 7 = .ok (.iconst 0, 1) := by decide +kernel
theorem dX9_drawn_8 : decode cX9_drawn 8 = .ok (.iaload, 1) := by decide +kernel
theorem dX9_drawn_9 : decode cX9_drawn 9 = .ok (.i2l, 1) := by decide +kernel
theorem dX9_drawn_10 : decode cX9_drawn 10 = .ok (.invokestatic 60, 3) := by decide +kernel
theorem dX9_drawn_13 : decode cX9_drawn 13 = .ok (.ifCond .ne 5, 3) := by decide +kernel
theorem dX9_drawn_16 : decode cX9_drawn 16 = .ok (.iconst (-1), 1) := by decide +kernel
theorem dX9_drawn_17 : decode cX9_drawn 17 = .ok (.ireturn, 1) := by decide +kernel
theorem dX9_drawn_18 : decode cX9_drawn 18 = .ok (.aload_n 0, 1) := by decide +kernel
theorem dX9_drawn_19 : decode cX9_drawn 19 = .ok (.iload_n 1, 1) := by decide +kernel
theorem dX9_drawn_20 : decode cX9_drawn 20 = .ok (.ldc 245, 2) := by decide +kernel
theorem dX9_drawn_22 : decode cX9_drawn 22 = .ok (.iand, 1) := by decide +kernel
theorem dX9_drawn_23 : decode cX9_drawn 23 = .ok (.putfield 241, 3) := by decide +kernel
theorem dX9_drawn_26 : decode cX9_drawn 26 = .ok (.iconst 0, 1) := by decide +kernel
theorem dX9_drawn_27 : decode cX9_drawn 27 = .ok (.istore_n 3, 1) := by decide +kernel
theorem dX9_drawn_28 : decode cX9_drawn 28 = .ok (.iconst 0, 1) := by decide +kernel
theorem dX9_drawn_29 : decode cX9_drawn 29 = .ok (.istore 4, 2) := by decide +kernel
theorem dX9_drawn_31 : decode cX9_drawn 31 = .ok (.iload 4, 2) := by decide +kernel
theorem dX9_drawn_33 : decode cX9_drawn 33 = .ok (.iload_n 2, 1) := by decide +kernel
theorem dX9_drawn_34 : decode cX9_drawn 34 = .ok (.if_icmp .ge 52, 3) := by decide +kernel
theorem dX9_drawn_37 : decode cX9_drawn 37 = .ok (.aload_n 0, 1) := by decide +kernel
theorem dX9_drawn_38 : decode cX9_drawn 38 = .ok (.getfield 20, 3) := by decide +kernel
theorem dX9_drawn_41 : decode cX9_drawn 41 = .ok (.iload 4, 2) := by decide +kernel
theorem dX9_drawn_43 : decode cX9_drawn 43 = .ok (.aload_n 0, 1) := by decide +kernel
theorem dX9_drawn_44 : decode cX9_drawn 44 = .ok (.aload_n 0, 1) := by decide +kernel
theorem dX9_drawn_45 : decode cX9_drawn 45 = .ok (.getfield 13, 3) := by decide +kernel
theorem dX9_drawn_48 : decode cX9_drawn 48 = .ok (.bipush 7, 2) := by decide +kernel
theorem dX9_drawn_50 : decode cX9_drawn 50 = .ok (.iaload, 1) := by decide +kernel
theorem dX9_drawn_51 : decode cX9_drawn 51 = .ok (.invokevirtual 246, 3) := by decide +kernel
theorem dX9_drawn_54 : decode cX9_drawn 54 = .ok (.aload_n 0, 1) := by decide +kernel
theorem dX9_drawn_55 : decode cX9_drawn 55 = .ok (.getfield 13, 3) := by decide +kernel
theorem dX9_drawn_58 : decode cX9_drawn 58 = .ok (.bipush 6, 2) := by decide +kernel
theorem dX9_drawn_60 : decode cX9_drawn 60 = .ok (.iaload, 1) := by decide +kernel
theorem dX9_drawn_61 : decode cX9_drawn 61 = .ok (.if_icmp .ge 7, 3) := by decide +kernel
theorem dX9_drawn_64 : decode cX9_drawn 64 = .ok (.iconst 1, 1) := by decide +kernel
theorem dX9_drawn_65 : decode cX9_drawn 65 = .ok (.goto 4, 3) := by decide +kernel
theorem dX9_drawn_68 : decode cX9_drawn 68 = .ok (.iconst 0, 1) := by decide +kernel
theorem dX9_drawn_69 : decode cX9_drawn 69 = .ok (.iastore, 1) := by decide +kernel
theorem dX9_drawn_70 : decode cX9_drawn 70 = .ok (.iload_n 3, 1) := by decide +kernel
theorem dX9_drawn_71 : decode cX9_drawn 71 = .ok (.aload_n 0, 1) := by decide +kernel
theorem dX9_drawn_72 : decode cX9_drawn 72 = .ok (.getfield 20, 3) := by decide +kernel
theorem dX9_drawn_75 : decode cX9_drawn 75 = .ok (.iload 4, 2) := by decide +kernel
theorem dX9_drawn_77 : decode cX9_drawn 77 = .ok (.iaload, 1) := by decide +kernel
theorem dX9_drawn_78 : decode cX9_drawn 78 = .ok (.iadd, 1) := by decide +kernel
theorem dX9_drawn_79 : decode cX9_drawn 79 = .ok (.istore_n 3, 1) := by decide +kernel
theorem dX9_drawn_80 : decode cX9_drawn 80 = .ok (.iinc 4 1, 3) := by decide +kernel
theorem dX9_drawn_83 : decode cX9_drawn 83 = .ok (.goto (-52), 3) := by decide +kernel
theorem dX9_drawn_86 : decode cX9_drawn 86 = .ok (.aload_n 0, 1) := by decide +kernel
theorem dX9_drawn_87 : decode cX9_drawn 87 = .ok (.iload_n 2, 1) := by decide +kernel
theorem dX9_drawn_88 : decode cX9_drawn 88 = .ok (.putfield 76, 3) := by decide +kernel
theorem dX9_drawn_91 : decode cX9_drawn 91 = .ok (.iload_n 3, 1) := by decide +kernel
theorem dX9_drawn_92 : decode cX9_drawn 92 = .ok (.ireturn, 1) := by decide +kernel
theorem dX9_ups_0 : decode cX9_ups 0 = .ok (.iconst 0, 1) := by decide +kernel
theorem dX9_ups_1 : decode cX9_ups 1 = .ok (.istore_n 1, 1) := by decide +kernel
theorem dX9_ups_2 : decode cX9_ups 2 = .ok (.iconst 0, 1) := by decide +kernel
theorem dX9_ups_3 : decode cX9_ups 3 = .ok (.istore_n 2, 1) := by decide +kernel
theorem dX9_ups_4 : decode cX9_ups 4 = .ok (.iload_n 2, 1) := by decide +kernel
theorem dX9_ups_5 : decode cX9_ups 5 = .ok (.aload_n 0, 1) := by decide +kernel
theorem dX9_ups_6 : decode cX9_ups 6 = .ok (.getfield 76, 3) := by decide +kernel
theorem dX9_ups_9 : decode cX9_ups 9 = .ok (.if_icmp .ge 18, 3) := by decide +kernel
theorem dX9_ups_12 : decode cX9_ups 12 = .ok (.iload_n 1, 1) := by decide +kernel
theorem dX9_ups_13 : decode cX9_ups 13 = .ok (.aload_n 0, 1) := by decide +kernel
theorem dX9_ups_14 : decode cX9_ups 14 = .ok (.getfield 20, 3) := by decide +kernel
theorem dX9_ups_17 : decode cX9_ups 17 = .ok (.iload_n 2, 1) := by decide +kernel
theorem dX9_ups_18 : decode cX9_ups 18 = .ok (.iaload, 1) := by decide +kernel
theorem dX9_ups_19 : decode cX9_ups 19 = .ok (.iadd, 1) := by decide +kernel
theorem dX9_ups_20 : decode cX9_ups 20 = .ok (.istore_n 1, 1) := by decide +kernel
theorem dX9_ups_21 : decode cX9_ups 21 = .ok (.iinc 2 1, 3) := by decide +kernel
theorem dX9_ups_24 : decode cX9_ups 24 = .ok (.goto (-20), 3) := by decide +kernel
theorem dX9_ups_27 : decode cX9_ups 27 = .ok (.iload_n 1, 1) := by decide +kernel
theorem dX9_ups_28 : decode cX9_ups 28 = .ok (.ireturn, 1) := by decide +kernel
theorem dX9_went_0 : decode cX9_went 0 = .ok (.iload_n 1, 1) := by decide +kernel
theorem dX9_went_1 : decode cX9_went 1 = .ok (.ifCond .ne 8, 3) := by decide +kernel
theorem dX9_went_4 : decode cX9_went 4 = .ok (.aload_n 0, 1) := by decide +kernel
theorem dX9_went_5 : decode cX9_went 5 = .ok (.getfield 76, 3) := by decide +kernel
theorem dX9_went_8 : decode cX9_went 8 = .ok (.ireturn, 1) := by decide +kernel
theorem dX9_went_9 : decode cX9_went 9 = .ok (.iload_n 1, 1) := by decide +kernel
theorem dX9_went_10 : decode cX9_went 10 = .ok (.iconst 1, 1) := by decide +kernel
theorem dX9_went_11 : decode cX9_went 11 = .ok (.if_icmp .ne 8, 3) := by decide +kernel
theorem dX9_went_14 : decode cX9_went 14 = .ok (.aload_n 0, 1) := by decide +kernel
theorem dX9_went_15 : decode cX9_went 15 = .ok (.invokevirtual 249, 3) := by decide +kernel
theorem dX9_went_18 : decode cX9_went 18 = .ok (.ireturn, 1) := by decide +kernel
theorem dX9_went_19 : decode cX9_went 19 = .ok (.iload_n 1, 1) := by decide +kernel
theorem dX9_went_20 : decode cX9_went 20 = .ok (.i2l, 1) := by decide +kernel
theorem dX9_went_21 : decode cX9_went 21 = .ok (.ldc2_w 252, 3) := by decide +kernel
theorem dX9_went_24 : decode cX9_went 24 = .ok (.bipush 9, 2) := by decide +kernel
theorem dX9_went_26 : decode cX9_went 26 = .ok (.aload_n 0, 1) := by decide +kernel
theorem dX9_went_27 : decode cX9_went 27 = .ok (.getfield 76, 3) := by decide +kernel
theorem dX9_went_30 : decode cX9_went 30 = .ok (.iadd, 1) := by decide +kernel
theorem dX9_went_31 : decode cX9_went 31 = .ok (.i2l, 1) := by decide +kernel
theorem dX9_went_32 : decode cX9_went 32 = .ok (.invokestatic 60, 3) := by decide +kernel
theorem dX9_went_35 : decode cX9_went 35 = .ok (.ifCond .eq 15, 3) := by decide +kernel
theorem dX9_went_38 : decode cX9_went 38 = .ok (.aload_n 0, 1) := by decide +kernel
theorem dX9_went_39 : decode cX9_went 39 = .ok (.getfield 20, 3) := by decide +kernel
theorem dX9_went_42 : decode cX9_went 42 = .ok (.iload_n 1, 1) := by decide +kernel
theorem dX9_went_43 : decode cX9_went 43 = .ok (.bipush 10, 2) := by decide +kernel
theorem dX9_went_45 : decode cX9_went 45 = .ok (.isub, 1) := by decide +kernel
theorem dX9_went_46 : decode cX9_went 46 = .ok (.iaload, 1) := by decide +kernel
theorem dX9_went_47 : decode cX9_went 47 = .ok (.goto 4, 3) := by decide +kernel
theorem dX9_went_50 : decode cX9_went 50 = .ok (.iconst (-1), 1) := by decide +kernel
theorem dX9_went_51 : decode cX9_went 51 = .ok (.ireturn, 1) := by decide +kernel
theorem dX9_at_0 : decode cX9_at 0 = .ok (.bipush 7, 2) := by decide +kernel
theorem dX9_at_2 : decode cX9_at 2 = .ok (.iload_n 0, 1) := by decide +kernel
theorem dX9_at_3 : decode cX9_at 3 = .ok (.imul, 1) := by decide +kernel
theorem dX9_at_4 : decode cX9_at 4 = .ok (.iload_n 1, 1) := by decide +kernel
theorem dX9_at_5 : decode cX9_at 5 = .ok (.iadd, 1) := by decide +kernel
theorem dX9_at_6 : decode cX9_at 6 = .ok (.iconst 2, 1) := by decide +kernel
theorem dX9_at_7 : decode cX9_at 7 = .ok (.imul, 1) := by decide +kernel
theorem dX9_at_8 : decode cX9_at 8 = .ok (.iload_n 2, 1) := by decide +kernel
theorem dX9_at_9 : decode cX9_at 9 = .ok (.iadd, 1) := by decide +kernel
theorem dX9_at_10 : decode cX9_at 10 = .ok (.bipush 8, 2) := by decide +kernel
theorem dX9_at_12 : decode cX9_at 12 = .ok (.imul, 1) := by decide +kernel
theorem dX9_at_13 : decode cX9_at 13 = .ok (.iload_n 3, 1) := by decide +kernel
theorem dX9_at_14 : decode cX9_at 14 = .ok (.iadd, 1) := by decide +kernel
theorem dX9_at_15 : decode cX9_at 15 = .ok (.ireturn, 1) := by decide +kernel
theorem dX9_isHigh_0 : decode cX9_isHigh 0 = .ok (.aload_n 0, 1) := by decide +kernel
theorem dX9_isHigh_1 : decode cX9_isHigh 1 = .ok (.getfield 26, 3) := by decide +kernel
theorem dX9_isHigh_4 : decode cX9_isHigh 4 = .ok (.bipush 7, 2) := by decide +kernel
theorem dX9_isHigh_6 : decode cX9_isHigh 6 = .ok (.iload_n 2, 1) := by decide +kernel
theorem dX9_isHigh_7 : decode cX9_isHigh 7 = .ok (.imul, 1) := by decide +kernel
theorem dX9_isHigh_8 : decode cX9_isHigh 8 = .ok (.iload_n 3, 1) := by decide +kernel
theorem dX9_isHigh_9 : decode cX9_isHigh 9 = .ok (.iadd, 1) := by decide +kernel
theorem dX9_isHigh_10 : decode cX9_isHigh 10 = .ok (.laload, 1) := by decide +kernel
theorem dX9_isHigh_11 : decode cX9_isHigh 11 = .ok (.aload_n 0, 1) := by decide +kernel
theorem dX9_isHigh_12 : decode cX9_isHigh 12 = .ok (.iload_n 1, 1) := by decide +kernel
theorem dX9_isHigh_13 : decode cX9_isHigh 13 = .ok (.bipush 25, 2) := by decide +kernel
theorem dX9_isHigh_15 : decode cX9_isHigh 15 = .ok (.invokevirtual 122, 3) := by decide +kernel
theorem dX9_isHigh_18 : decode cX9_isHigh 18 = .ok (.i2l, 1) := by decide +kernel
theorem dX9_isHigh_19 : decode cX9_isHigh 19 = .ok (.lcmp, 1) := by decide +kernel
theorem dX9_isHigh_20 : decode cX9_isHigh 20 = .ok (.ifCond .lt 7, 3) := by decide +kernel
theorem dX9_isHigh_23 : decode cX9_isHigh 23 = .ok (.iconst 1, 1) := by decide +kernel
theorem dX9_isHigh_24 : decode cX9_isHigh 24 = .ok (.goto 4, 3) := by decide +kernel
theorem dX9_isHigh_27 : decode cX9_isHigh 27 = .ok (.iconst 0, 1) := by decide +kernel
theorem dX9_isHigh_28 : decode cX9_isHigh 28 = .ok (.ireturn, 1) := by decide +kernel
theorem dX9_inWindow_0 : decode cX9_inWindow 0 = .ok (.iload_n 2, 1) := by decide +kernel
theorem dX9_inWindow_1 : decode cX9_inWindow 1 = .ok (.i2l, 1) := by decide +kernel
theorem dX9_inWindow_2 : decode cX9_inWindow 2 = .ok (.aload_n 0, 1) := by decide +kernel
theorem dX9_inWindow_3 : decode cX9_inWindow 3 = .ok (.iload_n 1, 1) := by decide +kernel
theorem dX9_inWindow_4 : decode cX9_inWindow 4 = .ok (.bipush 21, 2) := by decide +kernel
theorem dX9_inWindow_6 : decode cX9_inWindow 6 = .ok (.invokevirtual 122, 3) := by decide +kernel
theorem dX9_inWindow_9 : decode cX9_inWindow 9 = .ok (.i2l, 1) := by decide +kernel
theorem dX9_inWindow_10 : decode cX9_inWindow 10 = .ok (.aload_n 0, 1) := by decide +kernel
theorem dX9_inWindow_11 : decode cX9_inWindow 11 = .ok (.iload_n 1, 1) := by decide +kernel
theorem dX9_inWindow_12 : decode cX9_inWindow 12 = .ok (.bipush 22, 2) := by decide +kernel
theorem dX9_inWindow_14 : decode cX9_inWindow 14 = .ok (.invokevirtual 122, 3) := by decide +kernel
theorem dX9_inWindow_17 : decode cX9_inWindow 17 = .ok (.i2l, 1) := by decide +kernel
theorem dX9_inWindow_18 : decode cX9_inWindow 18 = .ok (.invokestatic 60, 3) := by decide +kernel
theorem dX9_inWindow_21 : decode cX9_inWindow 21 = .ok (.ireturn, 1) := by decide +kernel
theorem dX9_turned_0 : decode cX9_turned 0 = .ok (.aload_n 0, 1) := by decide +kernel
theorem dX9_turned_1 : decode cX9_turned 1 = .ok (.iload_n 1, 1) := by decide +kernel
theorem dX9_turned_2 : decode cX9_turned 2 = .ok (.iload_n 2, 1) := by decide +kernel
theorem dX9_turned_3 : decode cX9_turned 3 = .ok (.invokevirtual 254, 3) := by decide +kernel
theorem dX9_turned_6 : decode cX9_turned 6 = .ok (.ifCond .ne 7, 3) := by decide +kernel
theorem dX9_turned_9 : decode cX9_turned 9 = .ok (.ldc2_w 116, 3) := by decide +kernel
theorem dX9_turned_12 : decode cX9_turned 12 = .ok (.lreturn, 1) := by decide +kernel
theorem dX9_turned_13 : decode cX9_turned 13 = .ok (.aload_n 0, 1) := by decide +kernel
theorem dX9_turned_14 : decode cX9_turned 14 = .ok (.getfield 26, 3) := by decide +kernel
theorem dX9_turned_17 : decode cX9_turned 17 = .ok (.bipush 7, 2) := by decide +kernel
theorem dX9_turned_19 : decode cX9_turned 19 = .ok (.iload_n 2, 1) := by decide +kernel
theorem dX9_turned_20 : decode cX9_turned 20 = .ok (.imul, 1) := by decide +kernel
theorem dX9_turned_21 : decode cX9_turned 21 = .ok (.iload_n 3, 1) := by decide +kernel
theorem dX9_turned_22 : decode cX9_turned 22 = .ok (.iadd, 1) := by decide +kernel
theorem dX9_turned_23 : decode cX9_turned 23 = .ok (.laload, 1) := by decide +kernel
theorem dX9_turned_24 : decode cX9_turned 24 = .ok (.lstore 5, 2) := by decide +kernel
theorem dX9_turned_26 : decode cX9_turned 26 = .ok (.iload_n 2, 1) := by decide +kernel
theorem dX9_turned_27 : decode cX9_turned 27 = .ok (.ifCond .ne 8, 3) := by decide +kernel
theorem dX9_turned_30 : decode cX9_turned 30 = .ok (.lload 5, 2) := by decide +kernel
theorem dX9_turned_32 : decode cX9_turned 32 = .ok (.goto 19, 3) := by decide +kernel
theorem dX9_turned_35 : decode cX9_turned 35 = .ok (.aload_n 0, 1) := by decide +kernel
theorem dX9_turned_36 : decode cX9_turned 36 = .ok (.getfield 26, 3) := by decide +kernel
theorem dX9_turned_39 : decode cX9_turned 39 = .ok (.bipush 7, 2) := by decide +kernel
theorem dX9_turned_41 : decode cX9_turned 41 = .ok (.iload_n 2, 1) := by decide +kernel
theorem dX9_turned_42 : decode cX9_turned 42 = .ok (.iconst 1, 1) := by decide +kernel
theorem dX9_turned_43 : decode cX9_turned 43 = .ok (.isub, 1) := by decide +kernel
theorem dX9_turned_44 : decode cX9_turned 44 = .ok (.imul, 1) := by decide +kernel
theorem dX9_turned_45 : decode cX9_turned 45 = .ok (.iload_n 3, 1) := by decide +kernel
theorem dX9_turned_46 : decode cX9_turned 46 = .ok (.iadd, 1) := by decide +kernel
theorem dX9_turned_47 : decode cX9_turned 47 = .ok (.iload 4, 2) := by decide +kernel
theorem dX9_turned_49 : decode cX9_turned 49 = .ok (.isub, 1) := by decide +kernel
theorem dX9_turned_50 : decode cX9_turned 50 = .ok (.laload, 1) := by decide +kernel
theorem dX9_turned_51 : decode cX9_turned 51 = .ok (.lstore 7, 2) := by decide +kernel
theorem dX9_turned_53 : decode cX9_turned 53 = .ok (.aload_n 0, 1) := by decide +kernel
theorem dX9_turned_54 : decode cX9_turned 54 = .ok (.iload_n 1, 1) := by decide +kernel
theorem dX9_turned_55 : decode cX9_turned 55 = .ok (.iconst 1, 1) := by decide +kernel
theorem dX9_turned_56 : decode cX9_turned 56 = .ok (.invokevirtual 122, 3) := by decide +kernel
theorem dX9_turned_59 : decode cX9_turned 59 = .ok (.i2l, 1) := by decide +kernel
theorem dX9_turned_60 : decode cX9_turned 60 = .ok (.lload 5, 2) := by decide +kernel
theorem dX9_turned_62 : decode cX9_turned 62 = .ok (.lmul, 1) := by decide +kernel
theorem dX9_turned_63 : decode cX9_turned 63 = .ok (.ldc2_w 110, 3) := by decide +kernel
theorem dX9_turned_66 : decode cX9_turned 66 = .ok (.ldiv, 1) := by decide +kernel
theorem dX9_turned_67 : decode cX9_turned 67 = .ok (.lstore 9, 2) := by decide +kernel
theorem dX9_turned_69 : decode cX9_turned 69 = .ok (.aload_n 0, 1) := by decide +kernel
theorem dX9_turned_70 : decode cX9_turned 70 = .ok (.iload_n 1, 1) := by decide +kernel
theorem dX9_turned_71 : decode cX9_turned 71 = .ok (.iconst 1, 1) := by decide +kernel
theorem dX9_turned_72 : decode cX9_turned 72 = .ok (.invokevirtual 122, 3) := by decide +kernel
theorem dX9_turned_75 : decode cX9_turned 75 = .ok (.i2l, 1) := by decide +kernel
theorem dX9_turned_76 : decode cX9_turned 76 = .ok (.lload 5, 2) := by decide +kernel
theorem dX9_turned_78 : decode cX9_turned 78 = .ok (.lload 7, 2) := by decide +kernel
theorem dX9_turned_80 : decode cX9_turned 80 = .ok (.ladd, 1) := by decide +kernel
theorem dX9_turned_81 : decode cX9_turned 81 = .ok (.lmul, 1) := by decide +kernel
theorem dX9_turned_82 : decode cX9_turned 82 = .ok (.ldc2_w 85, 3) := by decide +kernel
theorem dX9_turned_85 : decode cX9_turned 85 = .ok (.ldiv, 1) := by decide +kernel
theorem dX9_turned_86 : decode cX9_turned 86 = .ok (.lstore 11, 2) := by decide +kernel
theorem dX9_turned_88 : decode cX9_turned 88 = .ok (.aload_n 0, 1) := by decide +kernel
theorem dX9_turned_89 : decode cX9_turned 89 = .ok (.iload_n 1, 1) := by decide +kernel
theorem dX9_turned_90 : decode cX9_turned 90 = .ok (.bipush 26, 2) := by decide +kernel
theorem dX9_turned_92 : decode cX9_turned 92 = .ok (.invokevirtual 122, 3) := by decide +kernel
theorem dX9_turned_95 : decode cX9_turned 95 = .ok (.tableswitch 47 0 2 #[25, 28, 31], 25) := by decide +kernel
theorem dX9_turned_120 : decode cX9_turned 120 = .ok (.lload 9, 2) := by decide +kernel
theorem dX9_turned_122 : decode cX9_turned 122 = .ok (.lreturn, 1) := by decide +kernel
theorem dX9_turned_123 : decode cX9_turned 123 = .ok (.lload 11, 2) := by decide +kernel
theorem dX9_turned_125 : decode cX9_turned 125 = .ok (.lreturn, 1) := by decide +kernel
theorem dX9_turned_126 : decode cX9_turned 126 = .ok (.lload 9, 2) := by decide +kernel
theorem dX9_turned_128 : decode cX9_turned 128 = .ok (.lload 11, 2) := by decide +kernel
theorem dX9_turned_130 : decode cX9_turned 130 = .ok (.lcmp, 1) := by decide +kernel
theorem dX9_turned_131 : decode cX9_turned 131 = .ok (.ifCond .ge 8, 3) := by decide +kernel
theorem dX9_turned_134 : decode cX9_turned 134 = .ok (.lload 9, 2) := by decide +kernel
theorem dX9_turned_136 : decode cX9_turned 136 = .ok (.goto 5, 3) := by decide +kernel
theorem dX9_turned_139 : decode cX9_turned 139 = .ok (.lload 11, 2) := by decide +kernel
theorem dX9_turned_141 : decode cX9_turned 141 = .ok (.lreturn, 1) := by decide +kernel
theorem dX9_turned_142 : decode cX9_turned 142 = .ok (.lload 9, 2) := by decide +kernel
theorem dX9_turned_144 : decode cX9_turned 144 = .ok (.lload 11, 2) := by decide +kernel
theorem dX9_turned_146 : decode cX9_turned 146 = .ok (.lcmp, 1) := by decide +kernel
theorem dX9_turned_147 : decode cX9_turned 147 = .ok (.ifCond .ge 8, 3) := by decide +kernel
theorem dX9_turned_150 : decode cX9_turned 150 = .ok (.lload 11, 2) := by decide +kernel
theorem dX9_turned_152 : decode cX9_turned 152 = .ok (.goto 5, 3) := by decide +kernel
theorem dX9_turned_155 : decode cX9_turned 155 = .ok (.lload 9, 2) := by decide +kernel
theorem dX9_turned_157 : decode cX9_turned 157 = .ok (.lreturn, 1) := by decide +kernel
theorem dX9_marksNow_0 : decode cX9_marksNow 0 = .ok (.iconst 0, 1) := by decide +kernel
theorem dX9_marksNow_1 : decode cX9_marksNow 1 = .ok (.istore_n 3, 1) := by decide +kernel
theorem dX9_marksNow_2 : decode cX9_marksNow 2 = .ok (.iconst 0, 1) := by decide +kernel
theorem dX9_marksNow_3 : decode cX9_marksNow 3 = .ok (.istore 4, 2) := by decide +kernel
theorem dX9_marksNow_5 : decode cX9_marksNow 5 = .ok (.iload 4, 2) := by decide +kernel
theorem dX9_marksNow_7 : decode cX9_marksNow 7 = .ok (.aload_n 0, 1) := by decide +kernel
theorem dX9_marksNow_8 : decode cX9_marksNow 8 = .ok (.iload_n 1, 1) := by decide +kernel
theorem dX9_marksNow_9 : decode cX9_marksNow 9 = .ok (.bipush 24, 2) := by decide +kernel
theorem dX9_marksNow_11 : decode cX9_marksNow 11 = .ok (.invokevirtual 122, 3) := by decide +kernel
theorem dX9_marksNow_14 : decode cX9_marksNow 14 = .ok (.if_icmp .ge 18, 3) := by decide +kernel
theorem dX9_marksNow_17 : decode cX9_marksNow 17 = .ok (.iload_n 3, 1) := by decide +kernel
theorem dX9_marksNow_18 : decode cX9_marksNow 18 = .ok (.iload_n 2, 1) := by decide +kernel
theorem dX9_marksNow_19 : decode cX9_marksNow 19 = .ok (.iload 4, 2) := by decide +kernel
theorem dX9_marksNow_21 : decode cX9_marksNow 21 = .ok (.ishr, 1) := by decide +kernel
theorem dX9_marksNow_22 : decode cX9_marksNow 22 = .ok (.iconst 1, 1) := by decide +kernel
theorem dX9_marksNow_23 : decode cX9_marksNow 23 = .ok (.iand, 1) := by decide +kernel
theorem dX9_marksNow_24 : decode cX9_marksNow 24 = .ok (.iadd, 1) := by decide +kernel
theorem dX9_marksNow_25 : decode cX9_marksNow 25 = .ok (.istore_n 3, 1) := by decide +kernel
theorem dX9_marksNow_26 : decode cX9_marksNow 26 = .ok (.iinc 4 1, 3) := by decide +kernel
theorem dX9_marksNow_29 : decode cX9_marksNow 29 = .ok (.goto (-24), 3) := by decide +kernel
theorem dX9_marksNow_32 : decode cX9_marksNow 32 = .ok (.iload_n 3, 1) := by decide +kernel
theorem dX9_marksNow_33 : decode cX9_marksNow 33 = .ok (.ireturn, 1) := by decide +kernel
theorem dX9_callOf_0 : decode cX9_callOf 0 = .ok (.iload_n 2, 1) := by decide +kernel
theorem dX9_callOf_1 : decode cX9_callOf 1 = .ok (.aload_n 0, 1) := by decide +kernel
theorem dX9_callOf_2 : decode cX9_callOf 2 = .ok (.getfield 94, 3) := by decide +kernel
theorem dX9_callOf_5 : decode cX9_callOf 5 = .ok (.if_icmp .ge 15, 3) := by decide +kernel
theorem dX9_callOf_8 : decode cX9_callOf 8 = .ok (.aload_n 0, 1) := by decide +kernel
theorem dX9_callOf_9 : decode cX9_callOf 9 = .ok (.iload_n 1, 1) := by decide +kernel
theorem dX9_callOf_10 : decode cX9_callOf 10 = .ok (.bipush 9, 2) := by decide +kernel
theorem dX9_callOf_12 : decode cX9_callOf 12 = .ok (.iload_n 2, 1) := by decide +kernel
theorem dX9_callOf_13 : decode cX9_callOf 13 = .ok (.iadd, 1) := by decide +kernel
theorem dX9_callOf_14 : decode cX9_callOf 14 = .ok (.invokevirtual 122, 3) := by decide +kernel
theorem dX9_callOf_17 : decode cX9_callOf 17 = .ok (.goto 4, 3) := by decide +kernel
theorem dX9_callOf_20 : decode cX9_callOf 20 = .ok (.iconst (-1), 1) := by decide +kernel
theorem dX9_callOf_21 : decode cX9_callOf 21 = .ok (.ireturn, 1) := by decide +kernel
theorem dX9_putOf_0 : decode cX9_putOf 0 = .ok (.iload_n 2, 1) := by decide +kernel
theorem dX9_putOf_1 : decode cX9_putOf 1 = .ok (.aload_n 0, 1) := by decide +kernel
theorem dX9_putOf_2 : decode cX9_putOf 2 = .ok (.getfield 94, 3) := by decide +kernel
theorem dX9_putOf_5 : decode cX9_putOf 5 = .ok (.if_icmp .ge 15, 3) := by decide +kernel
theorem dX9_putOf_8 : decode cX9_putOf 8 = .ok (.aload_n 0, 1) := by decide +kernel
theorem dX9_putOf_9 : decode cX9_putOf 9 = .ok (.iload_n 1, 1) := by decide +kernel
theorem dX9_putOf_10 : decode cX9_putOf 10 = .ok (.bipush 15, 2) := by decide +kernel
theorem dX9_putOf_12 : decode cX9_putOf 12 = .ok (.iload_n 2, 1) := by decide +kernel
theorem dX9_putOf_13 : decode cX9_putOf 13 = .ok (.iadd, 1) := by decide +kernel
theorem dX9_putOf_14 : decode cX9_putOf 14 = .ok (.invokevirtual 122, 3) := by decide +kernel
theorem dX9_putOf_17 : decode cX9_putOf 17 = .ok (.goto 4, 3) := by decide +kernel
theorem dX9_putOf_20 : decode cX9_putOf 20 = .ok (.iconst (-1), 1) := by decide +kernel
theorem dX9_putOf_21 : decode cX9_putOf 21 = .ok (.ireturn, 1) := by decide +kernel
theorem dX9_isFree_0 : decode cX9_isFree 0 = .ok (.aload_n 0, 1) := by decide +kernel
theorem dX9_isFree_1 : decode cX9_isFree 1 = .ok (.iload_n 1, 1) := by decide +kernel
theorem dX9_isFree_2 : decode cX9_isFree 2 = .ok (.iload_n 2, 1) := by decide +kernel
theorem dX9_isFree_3 : decode cX9_isFree 3 = .ok (.invokevirtual 257, 3) := by decide +kernel
theorem dX9_isFree_6 : decode cX9_isFree 6 = .ok (.iconst (-1), 1) := by decide +kernel
theorem dX9_isFree_7 : decode cX9_isFree 7 = .ok (.if_icmp .eq 23, 3) := by decide +kernel
theorem dX9_isFree_10 : decode cX9_isFree 10 = .ok (.aload_n 0, 1) := by decide +kernel
theorem dX9_isFree_11 : decode cX9_isFree 11 = .ok (.iload_n 1, 1) := by decide +kernel
theorem dX9_isFree_12 : decode cX9_isFree 12 = .ok (.iload_n 3, 1) := by decide +kernel
theorem dX9_isFree_13 : decode cX9_isFree 13 = .ok (.invokevirtual 260, 3) := by decide +kernel
theorem dX9_isFree_16 : decode cX9_isFree 16 = .ok (.aload_n 0, 1) := by decide +kernel
theorem dX9_isFree_17 : decode cX9_isFree 17 = .ok (.iload_n 1, 1) := by decide +kernel
theorem dX9_isFree_18 : decode cX9_isFree 18 = .ok (.bipush 23, 2) := by decide +kernel
theorem dX9_isFree_20 : decode cX9_isFree 20 = .ok (.invokevirtual 122, 3) := by decide +kernel
theorem dX9_isFree_23 : decode cX9_isFree 23 = .ok (.if_icmp .lt 7, 3) := by decide +kernel
theorem dX9_isFree_26 : decode cX9_isFree 26 = .ok (.iconst 1, 1) := by decide +kernel
theorem dX9_isFree_27 : decode cX9_isFree 27 = .ok (.goto 4, 3) := by decide +kernel
theorem dX9_isFree_30 : decode cX9_isFree 30 = .ok (.iconst 0, 1) := by decide +kernel
theorem dX9_isFree_31 : decode cX9_isFree 31 = .ok (.ireturn, 1) := by decide +kernel
theorem dX9_couponOf_0 : decode cX9_couponOf 0 = .ok (.iload_n 2, 1) := by decide +kernel
theorem dX9_couponOf_1 : decode cX9_couponOf 1 = .ok (.ifCond .ne 7, 3) := by decide +kernel
theorem dX9_couponOf_4 : decode cX9_couponOf 4 = .ok (.iconst 0, 1) := by decide +kernel
theorem dX9_couponOf_5 : decode cX9_couponOf 5 = .ok (.goto 11, 3) := by decide +kernel
theorem dX9_couponOf_8 : decode cX9_couponOf 8 = .ok (.aload_n 0, 1) := by decide +kernel
theorem dX9_couponOf_9 : decode cX9_couponOf 9 = .ok (.iload_n 1, 1) := by decide +kernel
theorem dX9_couponOf_10 : decode cX9_couponOf 10 = .ok (.iconst 2, 1) := by decide +kernel
theorem dX9_couponOf_11 : decode cX9_couponOf 11 = .ok (.iload_n 2, 1) := by decide +kernel
theorem dX9_couponOf_12 : decode cX9_couponOf 12 = .ok (.iadd, 1) := by decide +kernel
theorem dX9_couponOf_13 : decode cX9_couponOf 13 = .ok (.invokevirtual 122, 3) := by decide +kernel
theorem dX9_couponOf_16 : decode cX9_couponOf 16 = .ok (.ireturn, 1) := by decide +kernel
theorem dX9_then_0 : decode cX9_then 0 = .ok (.iload_n 2, 1) := by decide +kernel
theorem dX9_then_1 : decode cX9_then 1 = .ok (.iconst 1, 1) := by decide +kernel
theorem dX9_then_2 : decode cX9_then 2 = .ok (.iadd, 1) := by decide +kernel
theorem dX9_then_3 : decode cX9_then 3 = .ok (.iload_n 3, 1) := by decide +kernel
theorem dX9_then_4 : decode cX9_then 4 = .ok (.iload 6, 2) := by decide +kernel
theorem dX9_then_6 : decode cX9_then 6 = .ok (.iadd, 1) := by decide +kernel
theorem dX9_then_7 : decode cX9_then 7 = .ok (.iload 6, 2) := by decide +kernel
theorem dX9_then_9 : decode cX9_then 9 = .ok (.iload 5, 2) := by decide +kernel
theorem dX9_then_11 : decode cX9_then 11 = .ok (.iconst 1, 1) := by decide +kernel
theorem dX9_then_12 : decode cX9_then 12 = .ok (.ishl, 1) := by decide +kernel
theorem dX9_then_13 : decode cX9_then 13 = .ok (.bipush 7, 2) := by decide +kernel
theorem dX9_then_15 : decode cX9_then 15 = .ok (.iand, 1) := by decide +kernel
theorem dX9_then_16 : decode cX9_then 16 = .ok (.aload_n 0, 1) := by decide +kernel
theorem dX9_then_17 : decode cX9_then 17 = .ok (.iload_n 1, 1) := by decide +kernel
theorem dX9_then_18 : decode cX9_then 18 = .ok (.iload_n 2, 1) := by decide +kernel
theorem dX9_then_19 : decode cX9_then 19 = .ok (.iconst 1, 1) := by decide +kernel
theorem dX9_then_20 : decode cX9_then 20 = .ok (.iadd, 1) := by decide +kernel
theorem dX9_then_21 : decode cX9_then 21 = .ok (.iload_n 3, 1) := by decide +kernel
theorem dX9_then_22 : decode cX9_then 22 = .ok (.iload 6, 2) := by decide +kernel
theorem dX9_then_24 : decode cX9_then 24 = .ok (.iadd, 1) := by decide +kernel
theorem dX9_then_25 : decode cX9_then 25 = .ok (.invokevirtual 263, 3) := by decide +kernel
theorem dX9_then_28 : decode cX9_then 28 = .ok (.ior, 1) := by decide +kernel
theorem dX9_then_29 : decode cX9_then 29 = .ok (.invokestatic 267, 3) := by decide +kernel
theorem dX9_then_32 : decode cX9_then 32 = .ok (.ireturn, 1) := by decide +kernel
theorem dX9_more_0 : decode cX9_more 0 = .ok (.lload_n 0, 1) := by decide +kernel
theorem dX9_more_1 : decode cX9_more 1 = .ok (.lload_n 2, 1) := by decide +kernel
theorem dX9_more_2 : decode cX9_more 2 = .ok (.lcmp, 1) := by decide +kernel
theorem dX9_more_3 : decode cX9_more 3 = .ok (.ifCond .le 7, 3) := by decide +kernel
theorem dX9_more_6 : decode cX9_more 6 = .ok (.lload_n 0, 1) := by decide +kernel
theorem dX9_more_7 : decode cX9_more 7 = .ok (.goto 4, 3) := by decide +kernel
theorem dX9_more_10 : decode cX9_more 10 = .ok (.lload_n 2, 1) := by decide +kernel
theorem dX9_more_11 : decode cX9_more 11 = .ok (.lreturn, 1) := by decide +kernel
theorem dX9_called_0 : decode cX9_called 0 = .ok (.aload_n 0, 1) := by decide +kernel
theorem dX9_called_1 : decode cX9_called 1 = .ok (.iload_n 1, 1) := by decide +kernel
theorem dX9_called_2 : decode cX9_called 2 = .ok (.iload_n 2, 1) := by decide +kernel
theorem dX9_called_3 : decode cX9_called 3 = .ok (.invokevirtual 257, 3) := by decide +kernel
theorem dX9_called_6 : decode cX9_called 6 = .ok (.i2l, 1) := by decide +kernel
theorem dX9_called_7 : decode cX9_called 7 = .ok (.aload_n 0, 1) := by decide +kernel
theorem dX9_called_8 : decode cX9_called 8 = .ok (.iload_n 1, 1) := by decide +kernel
theorem dX9_called_9 : decode cX9_called 9 = .ok (.iload_n 2, 1) := by decide +kernel
theorem dX9_called_10 : decode cX9_called 10 = .ok (.iload_n 3, 1) := by decide +kernel
theorem dX9_called_11 : decode cX9_called 11 = .ok (.iload 4, 2) := by decide +kernel
theorem dX9_called_13 : decode cX9_called 13 = .ok (.invokevirtual 270, 3) := by decide +kernel
theorem dX9_called_16 : decode cX9_called 16 = .ok (.invokestatic 274, 3) := by decide +kernel
theorem dX9_called_19 : decode cX9_called 19 = .ok (.lreturn, 1) := by decide +kernel
theorem dX9_holds_0 : decode cX9_holds 0 = .ok (.aload_n 0, 1) := by decide +kernel
theorem dX9_holds_1 : decode cX9_holds 1 = .ok (.getfield 30, 3) := by decide +kernel
theorem dX9_holds_4 : decode cX9_holds 4 = .ok (.aload_n 0, 1) := by decide +kernel
theorem dX9_holds_5 : decode cX9_holds 5 = .ok (.iload_n 1, 1) := by decide +kernel
theorem dX9_holds_6 : decode cX9_holds 6 = .ok (.iload_n 2, 1) := by decide +kernel
theorem dX9_holds_7 : decode cX9_holds 7 = .ok (.iload_n 3, 1) := by decide +kernel
theorem dX9_holds_8 : decode cX9_holds 8 = .ok (.iload 4, 2) := by decide +kernel
theorem dX9_holds_10 : decode cX9_holds 10 = .ok (.iload 5, 2) := by decide +kernel
theorem dX9_holds_12 : decode cX9_holds 12 = .ok (.iconst 1, 1) := by decide +kernel
theorem dX9_holds_13 : decode cX9_holds 13 = .ok (.invokevirtual 277, 3) := by decide +kernel
theorem dX9_holds_16 : decode cX9_holds 16 = .ok (.laload, 1) := by decide +kernel
theorem dX9_holds_17 : decode cX9_holds 17 = .ok (.lstore 6, 2) := by decide +kernel
theorem dX9_holds_19 : decode cX9_holds 19 = .ok (.aload_n 0, 1) := by decide +kernel
theorem dX9_holds_20 : decode cX9_holds 20 = .ok (.getfield 30, 3) := by decide +kernel
theorem dX9_holds_23 : decode cX9_holds 23 = .ok (.aload_n 0, 1) := by decide +kernel
theorem dX9_holds_24 : decode cX9_holds 24 = .ok (.iload_n 1, 1) := by decide +kernel
theorem dX9_holds_25 : decode cX9_holds 25 = .ok (.iload_n 2, 1) := by decide +kernel
theorem dX9_holds_26 : decode cX9_holds 26 = .ok (.iload_n 3, 1) := by decide +kernel
theorem dX9_holds_27 : decode cX9_holds 27 = .ok (.iload 4, 2) := by decide +kernel
theorem dX9_holds_29 : decode cX9_holds 29 = .ok (.iload 5, 2) := by decide +kernel
theorem dX9_holds_31 : decode cX9_holds 31 = .ok (.iconst 0, 1) := by decide +kernel
theorem dX9_holds_32 : decode cX9_holds 32 = .ok (.invokevirtual 277, 3) := by decide +kernel
theorem dX9_holds_35 : decode cX9_holds 35 = .ok (.laload, 1) := by decide +kernel
theorem dX9_holds_36 : decode cX9_holds 36 = .ok (.lstore 8, 2) := by decide +kernel
theorem dX9_holds_38 : decode cX9_holds 38 = .ok (.aload_n 0, 1) := by decide +kernel
theorem dX9_holds_39 : decode cX9_holds 39 = .ok (.getfield 97, 3) := by decide +kernel
theorem dX9_holds_42 : decode cX9_holds 42 = .ok (.i2l, 1) := by decide +kernel
theorem dX9_holds_43 : decode cX9_holds 43 = .ok (.lload 6, 2) := by decide +kernel
theorem dX9_holds_45 : decode cX9_holds 45 = .ok (.lmul, 1) := by decide +kernel
theorem dX9_holds_46 : decode cX9_holds 46 = .ok (.aload_n 0, 1) := by decide +kernel
theorem dX9_holds_47 : decode cX9_holds 47 = .ok (.getfield 100, 3) := by decide +kernel
theorem dX9_holds_50 : decode cX9_holds 50 = .ok (.aload_n 0, 1) := by decide +kernel
theorem dX9_holds_51 : decode cX9_holds 51 = .ok (.getfield 97, 3) := by decide +kernel
theorem dX9_holds_54 : decode cX9_holds 54 = .ok (.isub, 1) := by decide +kernel
theorem dX9_holds_55 : decode cX9_holds 55 = .ok (.i2l, 1) := by decide +kernel
theorem dX9_holds_56 : decode cX9_holds 56 = .ok (.lload 8, 2) := by decide +kernel
theorem dX9_holds_58 : decode cX9_holds 58 = .ok (.lmul, 1) := by decide +kernel
theorem dX9_holds_59 : decode cX9_holds 59 = .ok (.ladd, 1) := by decide +kernel
theorem dX9_holds_60 : decode cX9_holds 60 = .ok (.ldc2_w 74, 3) := by decide +kernel
theorem dX9_holds_63 : decode cX9_holds 63 = .ok (.lmul, 1) := by decide +kernel
theorem dX9_holds_64 : decode cX9_holds 64 = .ok (.aload_n 0, 1) := by decide +kernel
theorem dX9_holds_65 : decode cX9_holds 65 = .ok (.getfield 100, 3) := by decide +kernel
theorem dX9_holds_68 : decode cX9_holds 68 = .ok (.sipush 1000, 3) := by decide +kernel
theorem dX9_holds_71 : decode cX9_holds 71 = .ok (.aload_n 0, 1) := by decide +kernel
theorem dX9_holds_72 : decode cX9_holds 72 = .ok (.getfield 103, 3) := by decide +kernel
theorem dX9_holds_75 : decode cX9_holds 75 = .ok (.iadd, 1) := by decide +kernel
theorem dX9_holds_76 : decode cX9_holds 76 = .ok (.imul, 1) := by decide +kernel
theorem dX9_holds_77 : decode cX9_holds 77 = .ok (.i2l, 1) := by decide +kernel
theorem dX9_holds_78 : decode cX9_holds 78 = .ok (.ldiv, 1) := by decide +kernel
theorem dX9_holds_79 : decode cX9_holds 79 = .ok (.lreturn, 1) := by decide +kernel
theorem dX9_laysEnd_0 : decode cX9_laysEnd 0 = .ok (.aload_n 0, 1) := by decide +kernel
theorem dX9_laysEnd_1 : decode cX9_laysEnd 1 = .ok (.iload_n 1, 1) := by decide +kernel
theorem dX9_laysEnd_2 : decode cX9_laysEnd 2 = .ok (.aload_n 0, 1) := by decide +kernel
theorem dX9_laysEnd_3 : decode cX9_laysEnd 3 = .ok (.getfield 94, 3) := by decide +kernel
theorem dX9_laysEnd_6 : decode cX9_laysEnd 6 = .ok (.iload_n 2, 1) := by decide +kernel
theorem dX9_laysEnd_7 : decode cX9_laysEnd 7 = .ok (.iload_n 3, 1) := by decide +kernel
theorem dX9_laysEnd_8 : decode cX9_laysEnd 8 = .ok (.invokevirtual 270, 3) := by decide +kernel
theorem dX9_laysEnd_11 : decode cX9_laysEnd 11 = .ok (.lstore 5, 2) := by decide +kernel
theorem dX9_laysEnd_13 : decode cX9_laysEnd 13 = .ok (.aload_n 0, 1) := by decide +kernel
theorem dX9_laysEnd_14 : decode cX9_laysEnd 14 = .ok (.getfield 94, 3) := by decide +kernel
theorem dX9_laysEnd_17 : decode cX9_laysEnd 17 = .ok (.iload_n 2, 1) := by decide +kernel
theorem dX9_laysEnd_18 : decode cX9_laysEnd 18 = .ok (.iload_n 3, 1) := by decide +kernel
theorem dX9_laysEnd_19 : decode cX9_laysEnd 19 = .ok (.iload 4, 2) := by decide +kernel
theorem dX9_laysEnd_21 : decode cX9_laysEnd 21 = .ok (.invokestatic 267, 3) := by decide +kernel
theorem dX9_laysEnd_24 : decode cX9_laysEnd 24 = .ok (.istore 7, 2) := by decide +kernel
theorem dX9_laysEnd_26 : decode cX9_laysEnd 26 = .ok (.aload_n 0, 1) := by decide +kernel
theorem dX9_laysEnd_27 : decode cX9_laysEnd 27 = .ok (.getfield 39, 3) := by decide +kernel
theorem dX9_laysEnd_30 : decode cX9_laysEnd 30 = .ok (.iload 7, 2) := by decide +kernel
theorem dX9_laysEnd_32 : decode cX9_laysEnd 32 = .ok (.lload 5, 2) := by decide +kernel
theorem dX9_laysEnd_34 : decode cX9_laysEnd 34 = .ok (.aload_n 0, 1) := by decide +kernel
theorem dX9_laysEnd_35 : decode cX9_laysEnd 35 = .ok (.iload_n 1, 1) := by decide +kernel
theorem dX9_laysEnd_36 : decode cX9_laysEnd 36 = .ok (.iconst 0, 1) := by decide +kernel
theorem dX9_laysEnd_37 : decode cX9_laysEnd 37 = .ok (.invokevirtual 122, 3) := by decide +kernel
theorem dX9_laysEnd_40 : decode cX9_laysEnd 40 = .ok (.i2l, 1) := by decide +kernel
theorem dX9_laysEnd_41 : decode cX9_laysEnd 41 = .ok (.lcmp, 1) := by decide +kernel
theorem dX9_laysEnd_42 : decode cX9_laysEnd 42 = .ok (.ifCond .le 8, 3) := by decide +kernel
theorem dX9_laysEnd_45 : decode cX9_laysEnd 45 = .ok (.bipush 6, 2) := by decide +kernel
theorem dX9_laysEnd_47 : decode cX9_laysEnd 47 = .ok (.goto 4, 3) := by decide +kernel
theorem dX9_laysEnd_50 : decode cX9_laysEnd 50 = .ok (.iconst 5, 1) := by decide +kernel
theorem dX9_laysEnd_51 : decode cX9_laysEnd 51 = .ok (.iastore, 1) := by decide +kernel
theorem dX9_laysEnd_52 : decode cX9_laysEnd 52 = .ok (.aload_n 0, 1) := by decide +kernel
theorem dX9_laysEnd_53 : decode cX9_laysEnd 53 = .ok (.getfield 33, 3) := by decide +kernel
theorem dX9_laysEnd_56 : decode cX9_laysEnd 56 = .ok (.iload 7, 2) := by decide +kernel
theorem dX9_laysEnd_58 : decode cX9_laysEnd 58 = .ok (.aload_n 0, 1) := by decide +kernel
theorem dX9_laysEnd_59 : decode cX9_laysEnd 59 = .ok (.iload_n 1, 1) := by decide +kernel
theorem dX9_laysEnd_60 : decode cX9_laysEnd 60 = .ok (.iconst 0, 1) := by decide +kernel
theorem dX9_laysEnd_61 : decode cX9_laysEnd 61 = .ok (.invokevirtual 122, 3) := by decide +kernel
theorem dX9_laysEnd_64 : decode cX9_laysEnd 64 = .ok (.i2l, 1) := by decide +kernel
theorem dX9_laysEnd_65 : decode cX9_laysEnd 65 = .ok (.lastore, 1) := by decide +kernel
theorem dX9_laysEnd_66 : decode cX9_laysEnd 66 = .ok (.aload_n 0, 1) := by decide +kernel
theorem dX9_laysEnd_67 : decode cX9_laysEnd 67 = .ok (.getfield 30, 3) := by decide +kernel
theorem dX9_laysEnd_70 : decode cX9_laysEnd 70 = .ok (.iload 7, 2) := by decide +kernel
theorem dX9_laysEnd_72 : decode cX9_laysEnd 72 = .ok (.aload_n 0, 1) := by decide +kernel
theorem dX9_laysEnd_73 : decode cX9_laysEnd 73 = .ok (.iload_n 1, 1) := by decide +kernel
theorem dX9_laysEnd_74 : decode cX9_laysEnd 74 = .ok (.aload_n 0, 1) := by decide +kernel
theorem dX9_laysEnd_75 : decode cX9_laysEnd 75 = .ok (.getfield 94, 3) := by decide +kernel
theorem dX9_laysEnd_78 : decode cX9_laysEnd 78 = .ok (.invokevirtual 281, 3) := by decide +kernel
theorem dX9_laysEnd_81 : decode cX9_laysEnd 81 = .ok (.i2l, 1) := by decide +kernel
theorem dX9_laysEnd_82 : decode cX9_laysEnd 82 = .ok (.aload_n 0, 1) := by decide +kernel
theorem dX9_laysEnd_83 : decode cX9_laysEnd 83 = .ok (.iload_n 1, 1) := by decide +kernel
theorem dX9_laysEnd_84 : decode cX9_laysEnd 84 = .ok (.iconst 0, 1) := by decide +kernel
theorem dX9_laysEnd_85 : decode cX9_laysEnd 85 = .ok (.invokevirtual 122, 3) := by decide +kernel
theorem dX9_laysEnd_88 : decode cX9_laysEnd 88 = .ok (.i2l, 1) := by decide +kernel
theorem dX9_laysEnd_89 : decode cX9_laysEnd 89 = .ok (.lload 5, 2) := by decide +kernel
theorem dX9_laysEnd_91 : decode cX9_laysEnd 91 = .ok (.invokestatic 274, 3) := by decide +kernel
theorem dX9_laysEnd_94 : decode cX9_laysEnd 94 = .ok (.ladd, 1) := by decide +kernel
theorem dX9_laysEnd_95 : decode cX9_laysEnd 95 = .ok (.lastore, 1) := by decide +kernel
theorem dX9_laysEnd_96 : decode cX9_laysEnd 96 = .ok (.return_, 1) := by decide +kernel
theorem dX9_laysState_0 : decode cX9_laysState 0 = .ok (.iload_n 2, 1) := by decide +kernel
theorem dX9_laysState_1 : decode cX9_laysState 1 = .ok (.iload_n 3, 1) := by decide +kernel
theorem dX9_laysState_2 : decode cX9_laysState 2 = .ok (.iload 4, 2) := by decide +kernel
theorem dX9_laysState_4 : decode cX9_laysState 4 = .ok (.iload 5, 2) := by decide +kernel
theorem dX9_laysState_6 : decode cX9_laysState 6 = .ok (.invokestatic 267, 3) := by decide +kernel
theorem dX9_laysState_9 : decode cX9_laysState 9 = .ok (.istore 6, 2) := by decide +kernel
theorem dX9_laysState_11 : decode cX9_laysState 11 = .ok (.aload_n 0, 1) := by decide +kernel
theorem dX9_laysState_12 : decode cX9_laysState 12 = .ok (.iload_n 1, 1) := by decide +kernel
theorem dX9_laysState_13 : decode cX9_laysState 13 = .ok (.iload_n 2, 1) := by decide +kernel
theorem dX9_laysState_14 : decode cX9_laysState 14 = .ok (.iload_n 3, 1) := by decide +kernel
theorem dX9_laysState_15 : decode cX9_laysState 15 = .ok (.iload 4, 2) := by decide +kernel
theorem dX9_laysState_17 : decode cX9_laysState 17 = .ok (.invokevirtual 270, 3) := by decide +kernel
theorem dX9_laysState_20 : decode cX9_laysState 20 = .ok (.lstore 7, 2) := by decide +kernel
theorem dX9_laysState_22 : decode cX9_laysState 22 = .ok (.aload_n 0, 1) := by decide +kernel
theorem dX9_laysState_23 : decode cX9_laysState 23 = .ok (.iload_n 1, 1) := by decide +kernel
theorem dX9_laysState_24 : decode cX9_laysState 24 = .ok (.iload_n 2, 1) := by decide +kernel
theorem dX9_laysState_25 : decode cX9_laysState 25 = .ok (.invokevirtual 284, 3) := by decide +kernel
theorem dX9_laysState_28 : decode cX9_laysState 28 = .ok (.i2l, 1) := by decide +kernel
theorem dX9_laysState_29 : decode cX9_laysState 29 = .ok (.lstore 9, 2) := by decide +kernel
theorem dX9_laysState_31 : decode cX9_laysState 31 = .ok (.aload_n 0, 1) := by decide +kernel
theorem dX9_laysState_32 : decode cX9_laysState 32 = .ok (.iload_n 1, 1) := by decide +kernel
theorem dX9_laysState_33 : decode cX9_laysState 33 = .ok (.iload_n 2, 1) := by decide +kernel
theorem dX9_laysState_34 : decode cX9_laysState 34 = .ok (.iload_n 3, 1) := by decide +kernel
theorem dX9_laysState_35 : decode cX9_laysState 35 = .ok (.iload 4, 2) := by decide +kernel
theorem dX9_laysState_37 : decode cX9_laysState 37 = .ok (.iload 5, 2) := by decide +kernel
theorem dX9_laysState_39 : decode cX9_laysState 39 = .ok (.invokevirtual 287, 3) := by decide +kernel
theorem dX9_laysState_42 : decode cX9_laysState 42 = .ok (.lstore 11, 2) := by decide +kernel
theorem dX9_laysState_44 : decode cX9_laysState 44 = .ok (.aload_n 0, 1) := by decide +kernel
theorem dX9_laysState_45 : decode cX9_laysState 45 = .ok (.iload_n 1, 1) := by decide +kernel
theorem dX9_laysState_46 : decode cX9_laysState 46 = .ok (.iload_n 2, 1) := by decide +kernel
theorem dX9_laysState_47 : decode cX9_laysState 47 = .ok (.iload_n 3, 1) := by decide +kernel
theorem dX9_laysState_48 : decode cX9_laysState 48 = .ok (.iload 4, 2) := by decide +kernel
theorem dX9_laysState_50 : decode cX9_laysState 50 = .ok (.invokevirtual 291, 3) := by decide +kernel
theorem dX9_laysState_53 : decode cX9_laysState 53 = .ok (.lstore 13, 2) := by decide +kernel
theorem dX9_laysState_55 : decode cX9_laysState 55 = .ok (.aload_n 0, 1) := by decide +kernel
theorem dX9_laysState_56 : decode cX9_laysState 56 = .ok (.iload_n 1, 1) := by decide +kernel
theorem dX9_laysState_57 : decode cX9_laysState 57 = .ok (.iload_n 2, 1) := by decide +kernel
theorem dX9_laysState_58 : decode cX9_laysState 58 = .ok (.iload 5, 2) := by decide +kernel
theorem dX9_laysState_60 : decode cX9_laysState 60 = .ok (.invokevirtual 294, 3) := by decide +kernel
theorem dX9_laysState_63 : decode cX9_laysState 63 = .ok (.ifCond .eq 15, 3) := by decide +kernel
theorem dX9_laysState_66 : decode cX9_laysState 66 = .ok (.lload 13, 2) := by decide +kernel
theorem dX9_laysState_68 : decode cX9_laysState 68 = .ok (.lload 11, 2) := by decide +kernel
theorem dX9_laysState_70 : decode cX9_laysState 70 = .ok (.lcmp, 1) := by decide +kernel
theorem dX9_laysState_71 : decode cX9_laysState 71 = .ok (.ifCond .ge 7, 3) := by decide +kernel
theorem dX9_laysState_74 : decode cX9_laysState 74 = .ok (.iconst 1, 1) := by decide +kernel
theorem dX9_laysState_75 : decode cX9_laysState 75 = .ok (.goto 4, 3) := by decide +kernel
theorem dX9_laysState_78 : decode cX9_laysState 78 = .ok (.iconst 0, 1) := by decide +kernel
theorem dX9_laysState_79 : decode cX9_laysState 79 = .ok (.istore 15, 2) := by decide +kernel
theorem dX9_laysState_81 : decode cX9_laysState 81 = .ok (.aload_n 0, 1) := by decide +kernel
theorem dX9_laysState_82 : decode cX9_laysState 82 = .ok (.getfield 33, 3) := by decide +kernel
theorem dX9_laysState_85 : decode cX9_laysState 85 = .ok (.iload 6, 2) := by decide +kernel
theorem dX9_laysState_87 : decode cX9_laysState 87 = .ok (.lload 11, 2) := by decide +kernel
theorem dX9_laysState_89 : decode cX9_laysState 89 = .ok (.lastore, 1) := by decide +kernel
theorem dX9_laysState_90 : decode cX9_laysState 90 = .ok (.aload_n 0, 1) := by decide +kernel
theorem dX9_laysState_91 : decode cX9_laysState 91 = .ok (.getfield 30, 3) := by decide +kernel
theorem dX9_laysState_94 : decode cX9_laysState 94 = .ok (.iload 6, 2) := by decide +kernel
theorem dX9_laysState_96 : decode cX9_laysState 96 = .ok (.aload_n 0, 1) := by decide +kernel
theorem dX9_laysState_97 : decode cX9_laysState 97 = .ok (.iload_n 1, 1) := by decide +kernel
theorem dX9_laysState_98 : decode cX9_laysState 98 = .ok (.iload_n 2, 1) := by decide +kernel
theorem dX9_laysState_99 : decode cX9_laysState 99 = .ok (.invokevirtual 281, 3) := by decide +kernel
theorem dX9_laysState_102 : decode cX9_laysState 102 = .ok (.i2l, 1) := by decide +kernel
theorem dX9_laysState_103 : decode cX9_laysState 103 = .ok (.lload 9, 2) := by decide +kernel
theorem dX9_laysState_105 : decode cX9_laysState 105 = .ok (.lload 7, 2) := by decide +kernel
theorem dX9_laysState_107 : decode cX9_laysState 107 = .ok (.invokestatic 274, 3) := by decide +kernel
theorem dX9_laysState_110 : decode cX9_laysState 110 = .ok (.iload 15, 2) := by decide +kernel
theorem dX9_laysState_112 : decode cX9_laysState 112 = .ok (.ifCond .eq 8, 3) := by decide +kernel
theorem dX9_laysState_115 : decode cX9_laysState 115 = .ok (.lload 13, 2) := by decide +kernel
theorem dX9_laysState_117 : decode cX9_laysState 117 = .ok (.goto 5, 3) := by decide +kernel
theorem dX9_laysState_120 : decode cX9_laysState 120 = .ok (.lload 11, 2) := by decide +kernel
theorem dX9_laysState_122 : decode cX9_laysState 122 = .ok (.invokestatic 274, 3) := by decide +kernel
theorem dX9_laysState_125 : decode cX9_laysState 125 = .ok (.ladd, 1) := by decide +kernel
theorem dX9_laysState_126 : decode cX9_laysState 126 = .ok (.lastore, 1) := by decide +kernel
theorem dX9_laysState_127 : decode cX9_laysState 127 = .ok (.iload 15, 2) := by decide +kernel
theorem dX9_laysState_129 : decode cX9_laysState 129 = .ok (.ifCond .eq 43, 3) := by decide +kernel
theorem dX9_laysState_132 : decode cX9_laysState 132 = .ok (.aload_n 0, 1) := by decide +kernel
theorem dX9_laysState_133 : decode cX9_laysState 133 = .ok (.getfield 39, 3) := by decide +kernel
theorem dX9_laysState_136 : decode cX9_laysState 136 = .ok (.iload 6, 2) := by decide +kernel
theorem dX9_laysState_138 : decode cX9_laysState 138 = .ok (.lload 9, 2) := by decide +kernel
theorem dX9_laysState_140 : decode cX9_laysState 140 = .ok (.lload 13, 2) := by decide +kernel
theorem dX9_laysState_142 : decode cX9_laysState 142 = .ok (.lcmp, 1) := by decide +kernel
theorem dX9_laysState_143 : decode cX9_laysState 143 = .ok (.ifCond .le 7, 3) := by decide +kernel
theorem dX9_laysState_146 : decode cX9_laysState 146 = .ok (.iconst 1, 1) := by decide +kernel
theorem dX9_laysState_147 : decode cX9_laysState 147 = .ok (.goto 21, 3) := by decide +kernel
theorem dX9_laysState_150 : decode cX9_laysState 150 = .ok (.lload 7, 2) := by decide +kernel
theorem dX9_laysState_152 : decode cX9_laysState 152 = .ok (.aload_n 0, 1) := by decide +kernel
theorem dX9_laysState_153 : decode cX9_laysState 153 = .ok (.iload_n 1, 1) := by decide +kernel
theorem dX9_laysState_154 : decode cX9_laysState 154 = .ok (.iload_n 2, 1) := by decide +kernel
theorem dX9_laysState_155 : decode cX9_laysState 155 = .ok (.invokevirtual 257, 3) := by decide +kernel
theorem dX9_laysState_158 : decode cX9_laysState 158 = .ok (.i2l, 1) := by decide +kernel
theorem dX9_laysState_159 : decode cX9_laysState 159 = .ok (.lcmp, 1) := by decide +kernel
theorem dX9_laysState_160 : decode cX9_laysState 160 = .ok (.ifCond .le 7, 3) := by decide +kernel
theorem dX9_laysState_163 : decode cX9_laysState 163 = .ok (.iconst 4, 1) := by decide +kernel
theorem dX9_laysState_164 : decode cX9_laysState 164 = .ok (.goto 4, 3) := by decide +kernel
theorem dX9_laysState_167 : decode cX9_laysState 167 = .ok (.iconst 3, 1) := by decide +kernel
theorem dX9_laysState_168 : decode cX9_laysState 168 = .ok (.iastore, 1) := by decide +kernel
theorem dX9_laysState_169 : decode cX9_laysState 169 = .ok (.goto 52, 3) := by decide +kernel
theorem dX9_laysState_172 : decode cX9_laysState 172 = .ok (.aload_n 0, 1) := by decide +kernel
theorem dX9_laysState_173 : decode cX9_laysState 173 = .ok (.getfield 39, 3) := by decide +kernel
theorem dX9_laysState_176 : decode cX9_laysState 176 = .ok (.iload 6, 2) := by decide +kernel
theorem dX9_laysState_178 : decode cX9_laysState 178 = .ok (.lload 9, 2) := by decide +kernel
theorem dX9_laysState_180 : decode cX9_laysState 180 = .ok (.lload 11, 2) := by decide +kernel
theorem dX9_laysState_182 : decode cX9_laysState 182 = .ok (.lcmp, 1) := by decide +kernel
theorem dX9_laysState_183 : decode cX9_laysState 183 = .ok (.ifCond .gt 15, 3) := by decide +kernel
theorem dX9_laysState_186 : decode cX9_laysState 186 = .ok (.lload 7, 2) := by decide +kernel
theorem dX9_laysState_188 : decode cX9_laysState 188 = .ok (.lload 11, 2) := by decide +kernel
theorem dX9_laysState_190 : decode cX9_laysState 190 = .ok (.lcmp, 1) := by decide +kernel
theorem dX9_laysState_191 : decode cX9_laysState 191 = .ok (.ifCond .gt 7, 3) := by decide +kernel
theorem dX9_laysState_194 : decode cX9_laysState 194 = .ok (.iconst 0, 1) := by decide +kernel
theorem dX9_laysState_195 : decode cX9_laysState 195 = .ok (.goto 25, 3) := by decide +kernel
theorem dX9_laysState_198 : decode cX9_laysState 198 = .ok (.lload 9, 2) := by decide +kernel
theorem dX9_laysState_200 : decode cX9_laysState 200 = .ok (.ldc2_w 116, 3) := by decide +kernel
theorem dX9_laysState_203 : decode cX9_laysState 203 = .ok (.lcmp, 1) := by decide +kernel
theorem dX9_laysState_204 : decode cX9_laysState 204 = .ok (.ifCond .eq 15, 3) := by decide +kernel
theorem dX9_laysState_207 : decode cX9_laysState 207 = .ok (.lload 9, 2) := by decide +kernel
theorem dX9_laysState_209 : decode cX9_laysState 209 = .ok (.lload 7, 2) := by decide +kernel
theorem dX9_laysState_211 : decode cX9_laysState 211 = .ok (.lcmp, 1) := by decide +kernel
theorem dX9_laysState_212 : decode cX9_laysState 212 = .ok (.ifCond .lt 7, 3) := by decide +kernel
theorem dX9_laysState_215 : decode cX9_laysState 215 = .ok (.iconst 1, 1) := by decide +kernel
theorem dX9_laysState_216 : decode cX9_laysState 216 = .ok (.goto 4, 3) := by decide +kernel
theorem dX9_laysState_219 : decode cX9_laysState 219 = .ok (.iconst 2, 1) := by decide +kernel
theorem dX9_laysState_220 : decode cX9_laysState 220 = .ok (.iastore, 1) := by decide +kernel
theorem dX9_laysState_221 : decode cX9_laysState 221 = .ok (.return_, 1) := by decide +kernel
theorem dX9_isState_0 : decode cX9_isState 0 = .ok (.iload_n 0, 1) := by decide +kernel
theorem dX9_isState_1 : decode cX9_isState 1 = .ok (.ifCond .ne 15, 3) := by decide +kernel
theorem dX9_isState_4 : decode cX9_isState 4 = .ok (.iload_n 2, 1) := by decide +kernel
theorem dX9_isState_5 : decode cX9_isState 5 = .ok (.ifCond .ne 7, 3) := by decide +kernel
theorem dX9_isState_8 : decode cX9_isState 8 = .ok (.iconst 1, 1) := by decide +kernel
theorem dX9_isState_9 : decode cX9_isState 9 = .ok (.goto 34, 3) := by decide +kernel
theorem dX9_isState_12 : decode cX9_isState 12 = .ok (.iconst 0, 1) := by decide +kernel
theorem dX9_isState_13 : decode cX9_isState 13 = .ok (.goto 30, 3) := by decide +kernel
theorem dX9_isState_16 : decode cX9_isState 16 = .ok (.iload_n 2, 1) := by decide +kernel
theorem dX9_isState_17 : decode cX9_isState 17 = .ok (.iconst 1, 1) := by decide +kernel
theorem dX9_isState_18 : decode cX9_isState 18 = .ok (.if_icmp .ne 15, 3) := by decide +kernel
theorem dX9_isState_21 : decode cX9_isState 21 = .ok (.iload_n 1, 1) := by decide +kernel
theorem dX9_isState_22 : decode cX9_isState 22 = .ok (.ifCond .le 7, 3) := by decide +kernel
theorem dX9_isState_25 : decode cX9_isState 25 = .ok (.iconst 1, 1) := by decide +kernel
theorem dX9_isState_26 : decode cX9_isState 26 = .ok (.goto 17, 3) := by decide +kernel
theorem dX9_isState_29 : decode cX9_isState 29 = .ok (.iconst 0, 1) := by decide +kernel
theorem dX9_isState_30 : decode cX9_isState 30 = .ok (.goto 13, 3) := by decide +kernel
theorem dX9_isState_33 : decode cX9_isState 33 = .ok (.iload_n 1, 1) := by decide +kernel
theorem dX9_isState_34 : decode cX9_isState 34 = .ok (.iload_n 0, 1) := by decide +kernel
theorem dX9_isState_35 : decode cX9_isState 35 = .ok (.if_icmp .ge 7, 3) := by decide +kernel
theorem dX9_isState_38 : decode cX9_isState 38 = .ok (.iconst 1, 1) := by decide +kernel
theorem dX9_isState_39 : decode cX9_isState 39 = .ok (.goto 4, 3) := by decide +kernel
theorem dX9_isState_42 : decode cX9_isState 42 = .ok (.iconst 0, 1) := by decide +kernel
theorem dX9_isState_43 : decode cX9_isState 43 = .ok (.ireturn, 1) := by decide +kernel
theorem dX9_plays_0 : decode cX9_plays 0 = .ok (.aload_n 0, 1) := by decide +kernel
theorem dX9_plays_1 : decode cX9_plays 1 = .ok (.getfield 94, 3) := by decide +kernel
theorem dX9_plays_4 : decode cX9_plays 4 = .ok (.istore_n 2, 1) := by decide +kernel
theorem dX9_plays_5 : decode cX9_plays 5 = .ok (.iload_n 2, 1) := by decide +kernel
theorem dX9_plays_6 : decode cX9_plays 6 = .ok (.ifCond .lt 104, 3) := by decide +kernel
theorem dX9_plays_9 : decode cX9_plays 9 = .ok (.iconst 0, 1) := by decide +kernel
theorem dX9_plays_10 : decode cX9_plays 10 = .ok (.istore_n 3, 1) := by decide +kernel
theorem dX9_plays_11 : decode cX9_plays 11 = .ok (.iload_n 3, 1) := by decide +kernel
theorem dX9_plays_12 : decode cX9_plays 12 = .ok (.iload_n 2, 1) := by decide +kernel
theorem dX9_plays_13 : decode cX9_plays 13 = .ok (.if_icmp .gt 91, 3) := by decide +kernel
theorem dX9_plays_16 : decode cX9_plays 16 = .ok (.iconst 0, 1) := by decide +kernel
theorem dX9_plays_17 : decode cX9_plays 17 = .ok (.istore 4, 2) := by decide +kernel
theorem dX9_plays_19 : decode cX9_plays 19 = .ok (.iload 4, 2) := by decide +kernel
theorem dX9_plays_21 : decode cX9_plays 21 = .ok (.iconst 2, 1) := by decide +kernel
theorem dX9_plays_22 : decode cX9_plays 22 = .ok (.if_icmp .ge 76, 3) := by decide +kernel
theorem dX9_plays_25 : decode cX9_plays 25 = .ok (.aload_n 0, 1) := by decide +kernel
theorem dX9_plays_26 : decode cX9_plays 26 = .ok (.iload_n 1, 1) := by decide +kernel
theorem dX9_plays_27 : decode cX9_plays 27 = .ok (.iload_n 2, 1) := by decide +kernel
theorem dX9_plays_28 : decode cX9_plays 28 = .ok (.iload_n 3, 1) := by decide +kernel
theorem dX9_plays_29 : decode cX9_plays 29 = .ok (.invokevirtual 263, 3) := by decide +kernel
theorem dX9_plays_32 : decode cX9_plays 32 = .ok (.istore 5, 2) := by decide +kernel
theorem dX9_plays_34 : decode cX9_plays 34 = .ok (.iload 5, 2) := by decide +kernel
theorem dX9_plays_36 : decode cX9_plays 36 = .ok (.bipush 8, 2) := by decide +kernel
theorem dX9_plays_38 : decode cX9_plays 38 = .ok (.if_icmp .ge 54, 3) := by decide +kernel
theorem dX9_plays_41 : decode cX9_plays 41 = .ok (.iload_n 2, 1) := by decide +kernel
theorem dX9_plays_42 : decode cX9_plays 42 = .ok (.iload_n 3, 1) := by decide +kernel
theorem dX9_plays_43 : decode cX9_plays 43 = .ok (.iload 4, 2) := by decide +kernel
theorem dX9_plays_45 : decode cX9_plays 45 = .ok (.invokestatic 297, 3) := by decide +kernel
theorem dX9_plays_48 : decode cX9_plays 48 = .ok (.ifCond .eq 44, 3) := by decide +kernel
theorem dX9_plays_51 : decode cX9_plays 51 = .ok (.iload_n 2, 1) := by decide +kernel
theorem dX9_plays_52 : decode cX9_plays 52 = .ok (.aload_n 0, 1) := by decide +kernel
theorem dX9_plays_53 : decode cX9_plays 53 = .ok (.getfield 94, 3) := by decide +kernel
theorem dX9_plays_56 : decode cX9_plays 56 = .ok (.if_icmp .ne 16, 3) := by decide +kernel
theorem dX9_plays_59 : decode cX9_plays 59 = .ok (.aload_n 0, 1) := by decide +kernel
theorem dX9_plays_60 : decode cX9_plays 60 = .ok (.iload_n 1, 1) := by decide +kernel
theorem dX9_plays_61 : decode cX9_plays 61 = .ok (.iload_n 3, 1) := by decide +kernel
theorem dX9_plays_62 : decode cX9_plays 62 = .ok (.iload 4, 2) := by decide +kernel
theorem dX9_plays_64 : decode cX9_plays 64 = .ok (.iload 5, 2) := by decide +kernel
theorem dX9_plays_66 : decode cX9_plays 66 = .ok (.invokevirtual 300, 3) := by decide +kernel
theorem dX9_plays_69 : decode cX9_plays 69 = .ok (.goto 14, 3) := by decide +kernel
theorem dX9_plays_72 : decode cX9_plays 72 = .ok (.aload_n 0, 1) := by decide +kernel
theorem dX9_plays_73 : decode cX9_plays 73 = .ok (.iload_n 1, 1) := by decide +kernel
theorem dX9_plays_74 : decode cX9_plays 74 = .ok (.iload_n 2, 1) := by decide +kernel
theorem dX9_plays_75 : decode cX9_plays 75 = .ok (.iload_n 3, 1) := by decide +kernel
theorem dX9_plays_76 : decode cX9_plays 76 = .ok (.iload 4, 2) := by decide +kernel
theorem dX9_plays_78 : decode cX9_plays 78 = .ok (.iload 5, 2) := by decide +kernel
theorem dX9_plays_80 : decode cX9_plays 80 = .ok (.invokevirtual 303, 3) := by decide +kernel
theorem dX9_plays_83 : decode cX9_plays 83 = .ok (.iload 5, 2) := by decide +kernel
theorem dX9_plays_85 : decode cX9_plays 85 = .ok (.iconst 2, 1) := by decide +kernel
theorem dX9_plays_86 : decode cX9_plays 86 = .ok (.iadd, 1) := by decide +kernel
theorem dX9_plays_87 : decode cX9_plays 87 = .ok (.istore 5, 2) := by decide +kernel
theorem dX9_plays_89 : decode cX9_plays 89 = .ok (.goto (-55), 3) := by decide +kernel
theorem dX9_plays_92 : decode cX9_plays 92 = .ok (.iinc 4 1, 3) := by decide +kernel
theorem dX9_plays_95 : decode cX9_plays 95 = .ok (.goto (-76), 3) := by decide +kernel
theorem dX9_plays_98 : decode cX9_plays 98 = .ok (.iinc 3 1, 3) := by decide +kernel
theorem dX9_plays_101 : decode cX9_plays 101 = .ok (.goto (-90), 3) := by decide +kernel
theorem dX9_plays_104 : decode cX9_plays 104 = .ok (.iinc 2 (-1), 3) := by decide +kernel
theorem dX9_plays_107 : decode cX9_plays 107 = .ok (.goto (-102), 3) := by decide +kernel
theorem dX9_plays_110 : decode cX9_plays 110 = .ok (.return_, 1) := by decide +kernel
theorem dX9_playsNow_0 : decode cX9_playsNow 0 = .ok (.aload_n 0, 1) := by decide +kernel
theorem dX9_playsNow_1 : decode cX9_playsNow 1 = .ok (.invokevirtual 307, 3) := by decide +kernel
theorem dX9_playsNow_4 : decode cX9_playsNow 4 = .ok (.aload_n 0, 1) := by decide +kernel
theorem dX9_playsNow_5 : decode cX9_playsNow 5 = .ok (.iload_n 1, 1) := by decide +kernel
theorem dX9_playsNow_6 : decode cX9_playsNow 6 = .ok (.invokevirtual 310, 3) := by decide +kernel
theorem dX9_playsNow_9 : decode cX9_playsNow 9 = .ok (.return_, 1) := by decide +kernel
theorem dX9_begin_0 : decode cX9_begin 0 = .ok (.iconst 0, 1) := by decide +kernel
theorem dX9_begin_1 : decode cX9_begin 1 = .ok (.iconst 0, 1) := by decide +kernel
theorem dX9_begin_2 : decode cX9_begin 2 = .ok (.iconst 0, 1) := by decide +kernel
theorem dX9_begin_3 : decode cX9_begin 3 = .ok (.aload_n 0, 1) := by decide +kernel
theorem dX9_begin_4 : decode cX9_begin 4 = .ok (.iload_n 1, 1) := by decide +kernel
theorem dX9_begin_5 : decode cX9_begin 5 = .ok (.iconst 0, 1) := by decide +kernel
theorem dX9_begin_6 : decode cX9_begin 6 = .ok (.iconst 0, 1) := by decide +kernel
theorem dX9_begin_7 : decode cX9_begin 7 = .ok (.invokevirtual 263, 3) := by decide +kernel
theorem dX9_begin_10 : decode cX9_begin 10 = .ok (.invokestatic 267, 3) := by decide +kernel
theorem dX9_begin_13 : decode cX9_begin 13 = .ok (.ireturn, 1) := by decide +kernel
theorem dX9_valueOf_0 : decode cX9_valueOf 0 = .ok (.aload_n 0, 1) := by decide +kernel
theorem dX9_valueOf_1 : decode cX9_valueOf 1 = .ok (.iload_n 1, 1) := by decide +kernel
theorem dX9_valueOf_2 : decode cX9_valueOf 2 = .ok (.invokevirtual 310, 3) := by decide +kernel
theorem dX9_valueOf_5 : decode cX9_valueOf 5 = .ok (.aload_n 0, 1) := by decide +kernel
theorem dX9_valueOf_6 : decode cX9_valueOf 6 = .ok (.getfield 30, 3) := by decide +kernel
theorem dX9_valueOf_9 : decode cX9_valueOf 9 = .ok (.aload_n 0, 1) := by decide +kernel
theorem dX9_valueOf_10 : decode cX9_valueOf 10 = .ok (.iload_n 1, 1) := by decide +kernel
theorem dX9_valueOf_11 : decode cX9_valueOf 11 = .ok (.invokevirtual 313, 3) := by decide +kernel
theorem dX9_valueOf_14 : decode cX9_valueOf 14 = .ok (.laload, 1) := by decide +kernel
theorem dX9_valueOf_15 : decode cX9_valueOf 15 = .ok (.lreturn, 1) := by decide +kernel
theorem dX9_starts_0 : decode cX9_starts 0 = .ok (.aload_n 0, 1) := by decide +kernel
theorem dX9_starts_1 : decode cX9_starts 1 = .ok (.iconst 0, 1) := by decide +kernel
theorem dX9_starts_2 : decode cX9_starts 2 = .ok (.putfield 316, 3) := by decide +kernel
theorem dX9_starts_5 : decode cX9_starts 5 = .ok (.aload_n 0, 1) := by decide +kernel
theorem dX9_starts_6 : decode cX9_starts 6 = .ok (.iconst 0, 1) := by decide +kernel
theorem dX9_starts_7 : decode cX9_starts 7 = .ok (.putfield 319, 3) := by decide +kernel
theorem dX9_starts_10 : decode cX9_starts 10 = .ok (.aload_n 0, 1) := by decide +kernel
theorem dX9_starts_11 : decode cX9_starts 11 = .ok (.iconst 0, 1) := by decide +kernel
theorem dX9_starts_12 : decode cX9_starts 12 = .ok (.putfield 322, 3) := by decide +kernel
theorem dX9_starts_15 : decode cX9_starts 15 = .ok (.aload_n 0, 1) := by decide +kernel
theorem dX9_starts_16 : decode cX9_starts 16 = .ok (.aload_n 0, 1) := by decide +kernel
theorem dX9_starts_17 : decode cX9_starts 17 = .ok (.iload_n 1, 1) := by decide +kernel
theorem dX9_starts_18 : decode cX9_starts 18 = .ok (.iconst 0, 1) := by decide +kernel
theorem dX9_starts_19 : decode cX9_starts 19 = .ok (.iconst 0, 1) := by decide +kernel
theorem dX9_starts_20 : decode cX9_starts 20 = .ok (.invokevirtual 263, 3) := by decide +kernel
theorem dX9_starts_23 : decode cX9_starts 23 = .ok (.putfield 325, 3) := by decide +kernel
theorem dX9_starts_26 : decode cX9_starts 26 = .ok (.return_, 1) := by decide +kernel
theorem dX9_goesOn_0 : decode cX9_goesOn 0 = .ok (.aload_n 0, 1) := by decide +kernel
theorem dX9_goesOn_1 : decode cX9_goesOn 1 = .ok (.aload_n 0, 1) := by decide +kernel
theorem dX9_goesOn_2 : decode cX9_goesOn 2 = .ok (.getfield 316, 3) := by decide +kernel
theorem dX9_goesOn_5 : decode cX9_goesOn 5 = .ok (.iconst 1, 1) := by decide +kernel
theorem dX9_goesOn_6 : decode cX9_goesOn 6 = .ok (.iadd, 1) := by decide +kernel
theorem dX9_goesOn_7 : decode cX9_goesOn 7 = .ok (.putfield 316, 3) := by decide +kernel
theorem dX9_goesOn_10 : decode cX9_goesOn 10 = .ok (.aload_n 0, 1) := by decide +kernel
theorem dX9_goesOn_11 : decode cX9_goesOn 11 = .ok (.aload_n 0, 1) := by decide +kernel
theorem dX9_goesOn_12 : decode cX9_goesOn 12 = .ok (.getfield 319, 3) := by decide +kernel
theorem dX9_goesOn_15 : decode cX9_goesOn 15 = .ok (.iload_n 2, 1) := by decide +kernel
theorem dX9_goesOn_16 : decode cX9_goesOn 16 = .ok (.iadd, 1) := by decide +kernel
theorem dX9_goesOn_17 : decode cX9_goesOn 17 = .ok (.putfield 319, 3) := by decide +kernel
theorem dX9_goesOn_20 : decode cX9_goesOn 20 = .ok (.aload_n 0, 1) := by decide +kernel
theorem dX9_goesOn_21 : decode cX9_goesOn 21 = .ok (.iload_n 2, 1) := by decide +kernel
theorem dX9_goesOn_22 : decode cX9_goesOn 22 = .ok (.putfield 322, 3) := by decide +kernel
theorem dX9_goesOn_25 : decode cX9_goesOn 25 = .ok (.aload_n 0, 1) := by decide +kernel
theorem dX9_goesOn_26 : decode cX9_goesOn 26 = .ok (.aload_n 0, 1) := by decide +kernel
theorem dX9_goesOn_27 : decode cX9_goesOn 27 = .ok (.getfield 325, 3) := by decide +kernel
theorem dX9_goesOn_30 : decode cX9_goesOn 30 = .ok (.iconst 1, 1) := by decide +kernel
theorem dX9_goesOn_31 : decode cX9_goesOn 31 = .ok (.ishl, 1) := by decide +kernel
theorem dX9_goesOn_32 : decode cX9_goesOn 32 = .ok (.bipush 7, 2) := by decide +kernel
theorem dX9_goesOn_34 : decode cX9_goesOn 34 = .ok (.iand, 1) := by decide +kernel
theorem dX9_goesOn_35 : decode cX9_goesOn 35 = .ok (.aload_n 0, 1) := by decide +kernel
theorem dX9_goesOn_36 : decode cX9_goesOn 36 = .ok (.iload_n 1, 1) := by decide +kernel
theorem dX9_goesOn_37 : decode cX9_goesOn 37 = .ok (.aload_n 0, 1) := by decide +kernel
theorem dX9_goesOn_38 : decode cX9_goesOn 38 = .ok (.getfield 316, 3) := by decide +kernel
theorem dX9_goesOn_41 : decode cX9_goesOn 41 = .ok (.aload_n 0, 1) := by decide +kernel
theorem dX9_goesOn_42 : decode cX9_goesOn 42 = .ok (.getfield 319, 3) := by decide +kernel
theorem dX9_goesOn_45 : decode cX9_goesOn 45 = .ok (.invokevirtual 263, 3) := by decide +kernel
theorem dX9_goesOn_48 : decode cX9_goesOn 48 = .ok (.ior, 1) := by decide +kernel
theorem dX9_goesOn_49 : decode cX9_goesOn 49 = .ok (.putfield 325, 3) := by decide +kernel
theorem dX9_goesOn_52 : decode cX9_goesOn 52 = .ok (.return_, 1) := by decide +kernel
theorem dX9_hereNow_0 : decode cX9_hereNow 0 = .ok (.aload_n 0, 1) := by decide +kernel
theorem dX9_hereNow_1 : decode cX9_hereNow 1 = .ok (.getfield 316, 3) := by decide +kernel
theorem dX9_hereNow_4 : decode cX9_hereNow 4 = .ok (.aload_n 0, 1) := by decide +kernel
theorem dX9_hereNow_5 : decode cX9_hereNow 5 = .ok (.getfield 319, 3) := by decide +kernel
theorem dX9_hereNow_8 : decode cX9_hereNow 8 = .ok (.aload_n 0, 1) := by decide +kernel
theorem dX9_hereNow_9 : decode cX9_hereNow 9 = .ok (.getfield 322, 3) := by decide +kernel
theorem dX9_hereNow_12 : decode cX9_hereNow 12 = .ok (.aload_n 0, 1) := by decide +kernel
theorem dX9_hereNow_13 : decode cX9_hereNow 13 = .ok (.getfield 325, 3) := by decide +kernel
theorem dX9_hereNow_16 : decode cX9_hereNow 16 = .ok (.invokestatic 267, 3) := by decide +kernel
theorem dX9_hereNow_19 : decode cX9_hereNow 19 = .ok (.ireturn, 1) := by decide +kernel
theorem dX9_follows_0 : decode cX9_follows 0 = .ok (.aload_n 0, 1) := by decide +kernel
theorem dX9_follows_1 : decode cX9_follows 1 = .ok (.iload_n 1, 1) := by decide +kernel
theorem dX9_follows_2 : decode cX9_follows 2 = .ok (.invokevirtual 328, 3) := by decide +kernel
theorem dX9_follows_5 : decode cX9_follows 5 = .ok (.iconst 0, 1) := by decide +kernel
theorem dX9_follows_6 : decode cX9_follows 6 = .ok (.istore_n 3, 1) := by decide +kernel
theorem dX9_follows_7 : decode cX9_follows 7 = .ok (.iload_n 3, 1) := by decide +kernel
theorem dX9_follows_8 : decode cX9_follows 8 = .ok (.iload_n 2, 1) := by decide +kernel
theorem dX9_follows_9 : decode cX9_follows 9 = .ok (.if_icmp .ge 20, 3) := by decide +kernel
theorem dX9_follows_12 : decode cX9_follows 12 = .ok (.aload_n 0, 1) := by decide +kernel
theorem dX9_follows_13 : decode cX9_follows 13 = .ok (.iload_n 1, 1) := by decide +kernel
theorem dX9_follows_14 : decode cX9_follows 14 = .ok (.aload_n 0, 1) := by decide +kernel
theorem dX9_follows_15 : decode cX9_follows 15 = .ok (.getfield 20, 3) := by decide +kernel
theorem dX9_follows_18 : decode cX9_follows 18 = .ok (.iload_n 3, 1) := by decide +kernel
theorem dX9_follows_19 : decode cX9_follows 19 = .ok (.iaload, 1) := by decide +kernel
theorem dX9_follows_20 : decode cX9_follows 20 = .ok (.invokevirtual 331, 3) := by decide +kernel
theorem dX9_follows_23 : decode cX9_follows 23 = .ok (.iinc 3 1, 3) := by decide +kernel
theorem dX9_follows_26 : decode cX9_follows 26 = .ok (.goto (-19), 3) := by decide +kernel
theorem dX9_follows_29 : decode cX9_follows 29 = .ok (.return_, 1) := by decide +kernel
theorem dX9_value_0 : decode cX9_value 0 = .ok (.iload_n 1, 1) := by decide +kernel
theorem dX9_value_1 : decode cX9_value 1 = .ok (.invokestatic 126, 3) := by decide +kernel
theorem dX9_value_4 : decode cX9_value 4 = .ok (.ifCond .ne 7, 3) := by decide +kernel
theorem dX9_value_7 : decode cX9_value 7 = .ok (.ldc2_w 116, 3) := by decide +kernel
theorem dX9_value_10 : decode cX9_value 10 = .ok (.lreturn, 1) := by decide +kernel
theorem dX9_value_11 : decode cX9_value 11 = .ok (.aload_n 0, 1) := by decide +kernel
theorem dX9_value_12 : decode cX9_value 12 = .ok (.iload_n 1, 1) := by decide +kernel
theorem dX9_value_13 : decode cX9_value 13 = .ok (.invokevirtual 334, 3) := by decide +kernel
theorem dX9_value_16 : decode cX9_value 16 = .ok (.aload_n 0, 1) := by decide +kernel
theorem dX9_value_17 : decode cX9_value 17 = .ok (.iload_n 1, 1) := by decide +kernel
theorem dX9_value_18 : decode cX9_value 18 = .ok (.aload_n 0, 1) := by decide +kernel
theorem dX9_value_19 : decode cX9_value 19 = .ok (.getfield 76, 3) := by decide +kernel
theorem dX9_value_22 : decode cX9_value 22 = .ok (.invokevirtual 337, 3) := by decide +kernel
theorem dX9_value_25 : decode cX9_value 25 = .ok (.aload_n 0, 1) := by decide +kernel
theorem dX9_value_26 : decode cX9_value 26 = .ok (.getfield 30, 3) := by decide +kernel
theorem dX9_value_29 : decode cX9_value 29 = .ok (.aload_n 0, 1) := by decide +kernel
theorem dX9_value_30 : decode cX9_value 30 = .ok (.invokevirtual 340, 3) := by decide +kernel
theorem dX9_value_33 : decode cX9_value 33 = .ok (.laload, 1) := by decide +kernel
theorem dX9_value_34 : decode cX9_value 34 = .ok (.lreturn, 1) := by decide +kernel
theorem dX9_act_0 : decode cX9_act 0 = .ok (.iload_n 1, 1) := by decide +kernel
theorem dX9_act_1 : decode cX9_act 1 = .ok (.invokestatic 126, 3) := by decide +kernel
theorem dX9_act_4 : decode cX9_act 4 = .ok (.ifCond .ne 5, 3) := by decide +kernel
theorem dX9_act_7 : decode cX9_act 7 = .ok (.iconst (-1), 1) := by decide +kernel
theorem dX9_act_8 : decode cX9_act 8 = .ok (.ireturn, 1) := by decide +kernel
theorem dX9_act_9 : decode cX9_act 9 = .ok (.aload_n 0, 1) := by decide +kernel
theorem dX9_act_10 : decode cX9_act 10 = .ok (.iload_n 1, 1) := by decide +kernel
theorem dX9_act_11 : decode cX9_act 11 = .ok (.invokevirtual 334, 3) := by decide +kernel
theorem dX9_act_14 : decode cX9_act 14 = .ok (.aload_n 0, 1) := by decide +kernel
theorem dX9_act_15 : decode cX9_act 15 = .ok (.iload_n 1, 1) := by decide +kernel
theorem dX9_act_16 : decode cX9_act 16 = .ok (.aload_n 0, 1) := by decide +kernel
theorem dX9_act_17 : decode cX9_act 17 = .ok (.getfield 76, 3) := by decide +kernel
theorem dX9_act_20 : decode cX9_act 20 = .ok (.invokevirtual 337, 3) := by decide +kernel
theorem dX9_act_23 : decode cX9_act 23 = .ok (.aload_n 0, 1) := by decide +kernel
theorem dX9_act_24 : decode cX9_act 24 = .ok (.getfield 39, 3) := by decide +kernel
theorem dX9_act_27 : decode cX9_act 27 = .ok (.aload_n 0, 1) := by decide +kernel
theorem dX9_act_28 : decode cX9_act 28 = .ok (.invokevirtual 340, 3) := by decide +kernel
theorem dX9_act_31 : decode cX9_act 31 = .ok (.iaload, 1) := by decide +kernel
theorem dX9_act_32 : decode cX9_act 32 = .ok (.ireturn, 1) := by decide +kernel
theorem dX9_here_0 : decode cX9_here 0 = .ok (.iload_n 1, 1) := by decide +kernel
theorem dX9_here_1 : decode cX9_here 1 = .ok (.invokestatic 126, 3) := by decide +kernel
theorem dX9_here_4 : decode cX9_here 4 = .ok (.ifCond .eq 15, 3) := by decide +kernel
theorem dX9_here_7 : decode cX9_here 7 = .ok (.iload_n 2, 1) := by decide +kernel
theorem dX9_here_8 : decode cX9_here 8 = .ok (.i2l, 1) := by decide +kernel
theorem dX9_here_9 : decode cX9_here 9 = .ok (.lconst 0, 1) := by decide +kernel
theorem dX9_here_10 : decode cX9_here 10 = .ok (.ldc2_w 147, 3) := by decide +kernel
theorem dX9_here_13 : decode cX9_here 13 = .ok (.invokestatic 60, 3) := by decide +kernel
theorem dX9_here_16 : decode cX9_here 16 = .ok (.ifCond .ne 7, 3) := by decide +kernel
theorem dX9_here_19 : decode cX9_here 19 = .ok (.ldc2_w 116, 3) := by decide +kernel
theorem dX9_here_22 : decode cX9_here 22 = .ok (.lreturn, 1) := by decide +kernel
theorem dX9_here_23 : decode cX9_here 23 = .ok (.aload_n 0, 1) := by decide +kernel
theorem dX9_here_24 : decode cX9_here 24 = .ok (.iload_n 1, 1) := by decide +kernel
theorem dX9_here_25 : decode cX9_here 25 = .ok (.invokevirtual 334, 3) := by decide +kernel
theorem dX9_here_28 : decode cX9_here 28 = .ok (.aload_n 0, 1) := by decide +kernel
theorem dX9_here_29 : decode cX9_here 29 = .ok (.iload_n 1, 1) := by decide +kernel
theorem dX9_here_30 : decode cX9_here 30 = .ok (.aload_n 0, 1) := by decide +kernel
theorem dX9_here_31 : decode cX9_here 31 = .ok (.getfield 76, 3) := by decide +kernel
theorem dX9_here_34 : decode cX9_here 34 = .ok (.invokevirtual 337, 3) := by decide +kernel
theorem dX9_here_37 : decode cX9_here 37 = .ok (.iload_n 2, 1) := by decide +kernel
theorem dX9_here_38 : decode cX9_here 38 = .ok (.tableswitch 126 0 3 #[30, 57, 93, 115], 30) := by decide +kernel
theorem dX9_here_68 : decode cX9_here 68 = .ok (.aload_n 0, 1) := by decide +kernel
theorem dX9_here_69 : decode cX9_here 69 = .ok (.getfield 316, 3) := by decide +kernel
theorem dX9_here_72 : decode cX9_here 72 = .ok (.aload_n 0, 1) := by decide +kernel
theorem dX9_here_73 : decode cX9_here 73 = .ok (.getfield 94, 3) := by decide +kernel
theorem dX9_here_76 : decode cX9_here 76 = .ok (.if_icmp .ne 9, 3) := by decide +kernel
theorem dX9_here_79 : decode cX9_here 79 = .ok (.ldc2_w 343, 3) := by decide +kernel
theorem dX9_here_82 : decode cX9_here 82 = .ok (.goto 12, 3) := by decide +kernel
theorem dX9_here_85 : decode cX9_here 85 = .ok (.aload_n 0, 1) := by decide +kernel
theorem dX9_here_86 : decode cX9_here 86 = .ok (.getfield 33, 3) := by decide +kernel
theorem dX9_here_89 : decode cX9_here 89 = .ok (.aload_n 0, 1) := by decide +kernel
theorem dX9_here_90 : decode cX9_here 90 = .ok (.invokevirtual 340, 3) := by decide +kernel
theorem dX9_here_93 : decode cX9_here 93 = .ok (.laload, 1) := by decide +kernel
theorem dX9_here_94 : decode cX9_here 94 = .ok (.lreturn, 1) := by decide +kernel
theorem dX9_here_95 : decode cX9_here 95 = .ok (.aload_n 0, 1) := by decide +kernel
theorem dX9_here_96 : decode cX9_here 96 = .ok (.iload_n 1, 1) := by decide +kernel
theorem dX9_here_97 : decode cX9_here 97 = .ok (.aload_n 0, 1) := by decide +kernel
theorem dX9_here_98 : decode cX9_here 98 = .ok (.getfield 316, 3) := by decide +kernel
theorem dX9_here_101 : decode cX9_here 101 = .ok (.invokevirtual 254, 3) := by decide +kernel
theorem dX9_here_104 : decode cX9_here 104 = .ok (.ifCond .eq 23, 3) := by decide +kernel
theorem dX9_here_107 : decode cX9_here 107 = .ok (.aload_n 0, 1) := by decide +kernel
theorem dX9_here_108 : decode cX9_here 108 = .ok (.iload_n 1, 1) := by decide +kernel
theorem dX9_here_109 : decode cX9_here 109 = .ok (.aload_n 0, 1) := by decide +kernel
theorem dX9_here_110 : decode cX9_here 110 = .ok (.getfield 316, 3) := by decide +kernel
theorem dX9_here_113 : decode cX9_here 113 = .ok (.aload_n 0, 1) := by decide +kernel
theorem dX9_here_114 : decode cX9_here 114 = .ok (.getfield 319, 3) := by decide +kernel
theorem dX9_here_117 : decode cX9_here 117 = .ok (.aload_n 0, 1) := by decide +kernel
theorem dX9_here_118 : decode cX9_here 118 = .ok (.getfield 322, 3) := by decide +kernel
theorem dX9_here_121 : decode cX9_here 121 = .ok (.invokevirtual 270, 3) := by decide +kernel
theorem dX9_here_124 : decode cX9_here 124 = .ok (.goto 6, 3) := by decide +kernel
theorem dX9_here_127 : decode cX9_here 127 = .ok (.ldc2_w 343, 3) := by decide +kernel
theorem dX9_here_130 : decode cX9_here 130 = .ok (.lreturn, 1) := by decide +kernel
theorem dX9_here_131 : decode cX9_here 131 = .ok (.aload_n 0, 1) := by decide +kernel
theorem dX9_here_132 : decode cX9_here 132 = .ok (.iload_n 1, 1) := by decide +kernel
theorem dX9_here_133 : decode cX9_here 133 = .ok (.aload_n 0, 1) := by decide +kernel
theorem dX9_here_134 : decode cX9_here 134 = .ok (.getfield 316, 3) := by decide +kernel
theorem dX9_here_137 : decode cX9_here 137 = .ok (.aload_n 0, 1) := by decide +kernel
theorem dX9_here_138 : decode cX9_here 138 = .ok (.getfield 325, 3) := by decide +kernel
theorem dX9_here_141 : decode cX9_here 141 = .ok (.invokevirtual 294, 3) := by decide +kernel
theorem dX9_here_144 : decode cX9_here 144 = .ok (.ifCond .eq 7, 3) := by decide +kernel
theorem dX9_here_147 : decode cX9_here 147 = .ok (.lconst 1, 1) := by decide +kernel
theorem dX9_here_148 : decode cX9_here 148 = .ok (.goto 4, 3) := by decide +kernel
theorem dX9_here_151 : decode cX9_here 151 = .ok (.lconst 0, 1) := by decide +kernel
theorem dX9_here_152 : decode cX9_here 152 = .ok (.lreturn, 1) := by decide +kernel
theorem dX9_here_153 : decode cX9_here 153 = .ok (.aload_n 0, 1) := by decide +kernel
theorem dX9_here_154 : decode cX9_here 154 = .ok (.iload_n 1, 1) := by decide +kernel
theorem dX9_here_155 : decode cX9_here 155 = .ok (.aload_n 0, 1) := by decide +kernel
theorem dX9_here_156 : decode cX9_here 156 = .ok (.getfield 325, 3) := by decide +kernel
theorem dX9_here_159 : decode cX9_here 159 = .ok (.invokevirtual 260, 3) := by decide +kernel
theorem dX9_here_162 : decode cX9_here 162 = .ok (.i2l, 1) := by decide +kernel
theorem dX9_here_163 : decode cX9_here 163 = .ok (.lreturn, 1) := by decide +kernel
theorem dX9_here_164 : decode cX9_here 164 = .ok (.aload_n 0, 1) := by decide +kernel
theorem dX9_here_165 : decode cX9_here 165 = .ok (.iload_n 1, 1) := by decide +kernel
theorem dX9_here_166 : decode cX9_here 166 = .ok (.aload_n 0, 1) := by decide +kernel
theorem dX9_here_167 : decode cX9_here 167 = .ok (.getfield 316, 3) := by decide +kernel
theorem dX9_here_170 : decode cX9_here 170 = .ok (.invokevirtual 281, 3) := by decide +kernel
theorem dX9_here_173 : decode cX9_here 173 = .ok (.i2l, 1) := by decide +kernel
theorem dX9_here_174 : decode cX9_here 174 = .ok (.lreturn, 1) := by decide +kernel
theorem dX9_paysOf_0 : decode cX9_paysOf 0 = .ok (.iload_n 2, 1) := by decide +kernel
theorem dX9_paysOf_1 : decode cX9_paysOf 1 = .ok (.tableswitch 65 1 5 #[35, 65, 46, 65, 57], 35) := by decide +kernel
theorem dX9_paysOf_36 : decode cX9_paysOf 36 = .ok (.aload_n 0, 1) := by decide +kernel
theorem dX9_paysOf_37 : decode cX9_paysOf 37 = .ok (.iload_n 1, 1) := by decide +kernel
theorem dX9_paysOf_38 : decode cX9_paysOf 38 = .ok (.aload_n 0, 1) := by decide +kernel
theorem dX9_paysOf_39 : decode cX9_paysOf 39 = .ok (.getfield 316, 3) := by decide +kernel
theorem dX9_paysOf_42 : decode cX9_paysOf 42 = .ok (.invokevirtual 284, 3) := by decide +kernel
theorem dX9_paysOf_45 : decode cX9_paysOf 45 = .ok (.i2l, 1) := by decide +kernel
theorem dX9_paysOf_46 : decode cX9_paysOf 46 = .ok (.lreturn, 1) := by decide +kernel
theorem dX9_paysOf_47 : decode cX9_paysOf 47 = .ok (.aload_n 0, 1) := by decide +kernel
theorem dX9_paysOf_48 : decode cX9_paysOf 48 = .ok (.iload_n 1, 1) := by decide +kernel
theorem dX9_paysOf_49 : decode cX9_paysOf 49 = .ok (.aload_n 0, 1) := by decide +kernel
theorem dX9_paysOf_50 : decode cX9_paysOf 50 = .ok (.getfield 316, 3) := by decide +kernel
theorem dX9_paysOf_53 : decode cX9_paysOf 53 = .ok (.invokevirtual 257, 3) := by decide +kernel
theorem dX9_paysOf_56 : decode cX9_paysOf 56 = .ok (.i2l, 1) := by decide +kernel
theorem dX9_paysOf_57 : decode cX9_paysOf 57 = .ok (.lreturn, 1) := by decide +kernel
theorem dX9_paysOf_58 : decode cX9_paysOf 58 = .ok (.aload_n 0, 1) := by decide +kernel
theorem dX9_paysOf_59 : decode cX9_paysOf 59 = .ok (.iload_n 1, 1) := by decide +kernel
theorem dX9_paysOf_60 : decode cX9_paysOf 60 = .ok (.iconst 0, 1) := by decide +kernel
theorem dX9_paysOf_61 : decode cX9_paysOf 61 = .ok (.invokevirtual 122, 3) := by decide +kernel
theorem dX9_paysOf_64 : decode cX9_paysOf 64 = .ok (.i2l, 1) := by decide +kernel
theorem dX9_paysOf_65 : decode cX9_paysOf 65 = .ok (.lreturn, 1) := by decide +kernel
theorem dX9_paysOf_66 : decode cX9_paysOf 66 = .ok (.aload_n 0, 1) := by decide +kernel
theorem dX9_paysOf_67 : decode cX9_paysOf 67 = .ok (.iload_n 1, 1) := by decide +kernel
theorem dX9_paysOf_68 : decode cX9_paysOf 68 = .ok (.aload_n 0, 1) := by decide +kernel
theorem dX9_paysOf_69 : decode cX9_paysOf 69 = .ok (.getfield 316, 3) := by decide +kernel
theorem dX9_paysOf_72 : decode cX9_paysOf 72 = .ok (.aload_n 0, 1) := by decide +kernel
theorem dX9_paysOf_73 : decode cX9_paysOf 73 = .ok (.getfield 319, 3) := by decide +kernel
theorem dX9_paysOf_76 : decode cX9_paysOf 76 = .ok (.aload_n 0, 1) := by decide +kernel
theorem dX9_paysOf_77 : decode cX9_paysOf 77 = .ok (.getfield 322, 3) := by decide +kernel
theorem dX9_paysOf_80 : decode cX9_paysOf 80 = .ok (.invokevirtual 270, 3) := by decide +kernel
theorem dX9_paysOf_83 : decode cX9_paysOf 83 = .ok (.lreturn, 1) := by decide +kernel
theorem dX9_endsAlong_0 : decode cX9_endsAlong 0 = .ok (.aload_n 0, 1) := by decide +kernel
theorem dX9_endsAlong_1 : decode cX9_endsAlong 1 = .ok (.iload_n 1, 1) := by decide +kernel
theorem dX9_endsAlong_2 : decode cX9_endsAlong 2 = .ok (.invokevirtual 328, 3) := by decide +kernel
theorem dX9_endsAlong_5 : decode cX9_endsAlong 5 = .ok (.aload_n 0, 1) := by decide +kernel
theorem dX9_endsAlong_6 : decode cX9_endsAlong 6 = .ok (.lconst 0, 1) := by decide +kernel
theorem dX9_endsAlong_7 : decode cX9_endsAlong 7 = .ok (.putfield 345, 3) := by decide +kernel
theorem dX9_endsAlong_10 : decode cX9_endsAlong 10 = .ok (.iconst 0, 1) := by decide +kernel
theorem dX9_endsAlong_11 : decode cX9_endsAlong 11 = .ok (.istore_n 3, 1) := by decide +kernel
theorem dX9_endsAlong_12 : decode cX9_endsAlong 12 = .ok (.aload_n 0, 1) := by decide +kernel
theorem dX9_endsAlong_13 : decode cX9_endsAlong 13 = .ok (.getfield 39, 3) := by decide +kernel
theorem dX9_endsAlong_16 : decode cX9_endsAlong 16 = .ok (.aload_n 0, 1) := by decide +kernel
theorem dX9_endsAlong_17 : decode cX9_endsAlong 17 = .ok (.invokevirtual 340, 3) := by decide +kernel
theorem dX9_endsAlong_20 : decode cX9_endsAlong 20 = .ok (.iaload, 1) := by decide +kernel
theorem dX9_endsAlong_21 : decode cX9_endsAlong 21 = .ok (.ifCond .ne 45, 3) := by decide +kernel
theorem dX9_endsAlong_24 : decode cX9_endsAlong 24 = .ok (.iload_n 3, 1) := by decide +kernel
theorem dX9_endsAlong_25 : decode cX9_endsAlong 25 = .ok (.iload_n 2, 1) := by decide +kernel
theorem dX9_endsAlong_26 : decode cX9_endsAlong 26 = .ok (.if_icmp .ge 40, 3) := by decide +kernel
theorem dX9_endsAlong_29 : decode cX9_endsAlong 29 = .ok (.aload_n 0, 1) := by decide +kernel
theorem dX9_endsAlong_30 : decode cX9_endsAlong 30 = .ok (.iload_n 1, 1) := by decide +kernel
theorem dX9_endsAlong_31 : decode cX9_endsAlong 31 = .ok (.aload_n 0, 1) := by decide +kernel
theorem dX9_endsAlong_32 : decode cX9_endsAlong 32 = .ok (.getfield 20, 3) := by decide +kernel
theorem dX9_endsAlong_35 : decode cX9_endsAlong 35 = .ok (.iload_n 3, 1) := by decide +kernel
theorem dX9_endsAlong_36 : decode cX9_endsAlong 36 = .ok (.iaload, 1) := by decide +kernel
theorem dX9_endsAlong_37 : decode cX9_endsAlong 37 = .ok (.invokevirtual 331, 3) := by decide +kernel
theorem dX9_endsAlong_40 : decode cX9_endsAlong 40 = .ok (.aload_n 0, 1) := by decide +kernel
theorem dX9_endsAlong_41 : decode cX9_endsAlong 41 = .ok (.aload_n 0, 1) := by decide +kernel
theorem dX9_endsAlong_42 : decode cX9_endsAlong 42 = .ok (.getfield 345, 3) := by decide +kernel
theorem dX9_endsAlong_45 : decode cX9_endsAlong 45 = .ok (.aload_n 0, 1) := by decide +kernel
theorem dX9_endsAlong_46 : decode cX9_endsAlong 46 = .ok (.iload_n 1, 1) := by decide +kernel
theorem dX9_endsAlong_47 : decode cX9_endsAlong 47 = .ok (.aload_n 0, 1) := by decide +kernel
theorem dX9_endsAlong_48 : decode cX9_endsAlong 48 = .ok (.getfield 316, 3) := by decide +kernel
theorem dX9_endsAlong_51 : decode cX9_endsAlong 51 = .ok (.invokevirtual 281, 3) := by decide +kernel
theorem dX9_endsAlong_54 : decode cX9_endsAlong 54 = .ok (.i2l, 1) := by decide +kernel
theorem dX9_endsAlong_55 : decode cX9_endsAlong 55 = .ok (.ladd, 1) := by decide +kernel
theorem dX9_endsAlong_56 : decode cX9_endsAlong 56 = .ok (.putfield 345, 3) := by decide +kernel
theorem dX9_endsAlong_59 : decode cX9_endsAlong 59 = .ok (.iload_n 3, 1) := by decide +kernel
theorem dX9_endsAlong_60 : decode cX9_endsAlong 60 = .ok (.iconst 1, 1) := by decide +kernel
theorem dX9_endsAlong_61 : decode cX9_endsAlong 61 = .ok (.iadd, 1) := by decide +kernel
theorem dX9_endsAlong_62 : decode cX9_endsAlong 62 = .ok (.istore_n 3, 1) := by decide +kernel
theorem dX9_endsAlong_63 : decode cX9_endsAlong 63 = .ok (.goto (-51), 3) := by decide +kernel
theorem dX9_endsAlong_66 : decode cX9_endsAlong 66 = .ok (.aload_n 0, 1) := by decide +kernel
theorem dX9_endsAlong_67 : decode cX9_endsAlong 67 = .ok (.getfield 39, 3) := by decide +kernel
theorem dX9_endsAlong_70 : decode cX9_endsAlong 70 = .ok (.aload_n 0, 1) := by decide +kernel
theorem dX9_endsAlong_71 : decode cX9_endsAlong 71 = .ok (.invokevirtual 340, 3) := by decide +kernel
theorem dX9_endsAlong_74 : decode cX9_endsAlong 74 = .ok (.iaload, 1) := by decide +kernel
theorem dX9_endsAlong_75 : decode cX9_endsAlong 75 = .ok (.ifCond .ne 5, 3) := by decide +kernel
theorem dX9_endsAlong_78 : decode cX9_endsAlong 78 = .ok (.iconst 0, 1) := by decide +kernel
theorem dX9_endsAlong_79 : decode cX9_endsAlong 79 = .ok (.ireturn, 1) := by decide +kernel
theorem dX9_endsAlong_80 : decode cX9_endsAlong 80 = .ok (.aload_n 0, 1) := by decide +kernel
theorem dX9_endsAlong_81 : decode cX9_endsAlong 81 = .ok (.aload_n 0, 1) := by decide +kernel
theorem dX9_endsAlong_82 : decode cX9_endsAlong 82 = .ok (.getfield 345, 3) := by decide +kernel
theorem dX9_endsAlong_85 : decode cX9_endsAlong 85 = .ok (.aload_n 0, 1) := by decide +kernel
theorem dX9_endsAlong_86 : decode cX9_endsAlong 86 = .ok (.iload_n 1, 1) := by decide +kernel
theorem dX9_endsAlong_87 : decode cX9_endsAlong 87 = .ok (.aload_n 0, 1) := by decide +kernel
theorem dX9_endsAlong_88 : decode cX9_endsAlong 88 = .ok (.getfield 39, 3) := by decide +kernel
theorem dX9_endsAlong_91 : decode cX9_endsAlong 91 = .ok (.aload_n 0, 1) := by decide +kernel
theorem dX9_endsAlong_92 : decode cX9_endsAlong 92 = .ok (.invokevirtual 340, 3) := by decide +kernel
theorem dX9_endsAlong_95 : decode cX9_endsAlong 95 = .ok (.iaload, 1) := by decide +kernel
theorem dX9_endsAlong_96 : decode cX9_endsAlong 96 = .ok (.invokevirtual 348, 3) := by decide +kernel
theorem dX9_endsAlong_99 : decode cX9_endsAlong 99 = .ok (.ladd, 1) := by decide +kernel
theorem dX9_endsAlong_100 : decode cX9_endsAlong 100 = .ok (.putfield 345, 3) := by decide +kernel
theorem dX9_endsAlong_103 : decode cX9_endsAlong 103 = .ok (.iconst 1, 1) := by decide +kernel
theorem dX9_endsAlong_104 : decode cX9_endsAlong 104 = .ok (.ireturn, 1) := by decide +kernel
theorem dX9_along_0 : decode cX9_along 0 = .ok (.iload_n 1, 1) := by decide +kernel
theorem dX9_along_1 : decode cX9_along 1 = .ok (.invokestatic 126, 3) := by decide +kernel
theorem dX9_along_4 : decode cX9_along 4 = .ok (.ifCond .eq 15, 3) := by decide +kernel
theorem dX9_along_7 : decode cX9_along 7 = .ok (.iload_n 2, 1) := by decide +kernel
theorem dX9_along_8 : decode cX9_along 8 = .ok (.i2l, 1) := by decide +kernel
theorem dX9_along_9 : decode cX9_along 9 = .ok (.lconst 0, 1) := by decide +kernel
theorem dX9_along_10 : decode cX9_along 10 = .ok (.ldc2_w 58, 3) := by decide +kernel
theorem dX9_along_13 : decode cX9_along 13 = .ok (.invokestatic 60, 3) := by decide +kernel
theorem dX9_along_16 : decode cX9_along 16 = .ok (.ifCond .ne 7, 3) := by decide +kernel
theorem dX9_along_19 : decode cX9_along 19 = .ok (.ldc2_w 116, 3) := by decide +kernel
theorem dX9_along_22 : decode cX9_along 22 = .ok (.lreturn, 1) := by decide +kernel
theorem dX9_along_23 : decode cX9_along 23 = .ok (.aload_n 0, 1) := by decide +kernel
theorem dX9_along_24 : decode cX9_along 24 = .ok (.iload_n 1, 1) := by decide +kernel
theorem dX9_along_25 : decode cX9_along 25 = .ok (.invokevirtual 334, 3) := by decide +kernel
theorem dX9_along_28 : decode cX9_along 28 = .ok (.aload_n 0, 1) := by decide +kernel
theorem dX9_along_29 : decode cX9_along 29 = .ok (.iload_n 1, 1) := by decide +kernel
theorem dX9_along_30 : decode cX9_along 30 = .ok (.aload_n 0, 1) := by decide +kernel
theorem dX9_along_31 : decode cX9_along 31 = .ok (.getfield 76, 3) := by decide +kernel
theorem dX9_along_34 : decode cX9_along 34 = .ok (.invokevirtual 352, 3) := by decide +kernel
theorem dX9_along_37 : decode cX9_along 37 = .ok (.ifCond .ne 7, 3) := by decide +kernel
theorem dX9_along_40 : decode cX9_along 40 = .ok (.ldc2_w 343, 3) := by decide +kernel
theorem dX9_along_43 : decode cX9_along 43 = .ok (.lreturn, 1) := by decide +kernel
theorem dX9_along_44 : decode cX9_along 44 = .ok (.iload_n 2, 1) := by decide +kernel
theorem dX9_along_45 : decode cX9_along 45 = .ok (.ifCond .ne 11, 3) := by decide +kernel
theorem dX9_along_48 : decode cX9_along 48 = .ok (.aload_n 0, 1) := by decide +kernel
theorem dX9_along_49 : decode cX9_along 49 = .ok (.getfield 316, 3) := by decide +kernel
theorem dX9_along_52 : decode cX9_along 52 = .ok (.i2l, 1) := by decide +kernel
theorem dX9_along_53 : decode cX9_along 53 = .ok (.goto 25, 3) := by decide +kernel
theorem dX9_along_56 : decode cX9_along 56 = .ok (.iload_n 2, 1) := by decide +kernel
theorem dX9_along_57 : decode cX9_along 57 = .ok (.iconst 1, 1) := by decide +kernel
theorem dX9_along_58 : decode cX9_along 58 = .ok (.if_icmp .ne 16, 3) := by decide +kernel
theorem dX9_along_61 : decode cX9_along 61 = .ok (.aload_n 0, 1) := by decide +kernel
theorem dX9_along_62 : decode cX9_along 62 = .ok (.getfield 39, 3) := by decide +kernel
theorem dX9_along_65 : decode cX9_along 65 = .ok (.aload_n 0, 1) := by decide +kernel
theorem dX9_along_66 : decode cX9_along 66 = .ok (.invokevirtual 340, 3) := by decide +kernel
theorem dX9_along_69 : decode cX9_along 69 = .ok (.iaload, 1) := by decide +kernel
theorem dX9_along_70 : decode cX9_along 70 = .ok (.i2l, 1) := by decide +kernel
theorem dX9_along_71 : decode cX9_along 71 = .ok (.goto 7, 3) := by decide +kernel
theorem dX9_along_74 : decode cX9_along 74 = .ok (.aload_n 0, 1) := by decide +kernel
theorem dX9_along_75 : decode cX9_along 75 = .ok (.getfield 345, 3) := by decide +kernel
theorem dX9_along_78 : decode cX9_along 78 = .ok (.lreturn, 1) := by decide +kernel
theorem dX9_strips_0 : decode cX9_strips 0 = .ok (.aload_n 0, 1) := by decide +kernel
theorem dX9_strips_1 : decode cX9_strips 1 = .ok (.iload_n 1, 1) := by decide +kernel
theorem dX9_strips_2 : decode cX9_strips 2 = .ok (.iconst 3, 1) := by decide +kernel
theorem dX9_strips_3 : decode cX9_strips 3 = .ok (.invokevirtual 161, 3) := by decide +kernel
theorem dX9_strips_6 : decode cX9_strips 6 = .ok (.iconst 0, 1) := by decide +kernel
theorem dX9_strips_7 : decode cX9_strips 7 = .ok (.istore_n 3, 1) := by decide +kernel
theorem dX9_strips_8 : decode cX9_strips 8 = .ok (.iload_n 3, 1) := by decide +kernel
theorem dX9_strips_9 : decode cX9_strips 9 = .ok (.bipush 6, 2) := by decide +kernel
theorem dX9_strips_11 : decode cX9_strips 11 = .ok (.if_icmp .ge 41, 3) := by decide +kernel
theorem dX9_strips_14 : decode cX9_strips 14 = .ok (.iload_n 2, 1) := by decide +kernel
theorem dX9_strips_15 : decode cX9_strips 15 = .ok (.iconst 1, 1) := by decide +kernel
theorem dX9_strips_16 : decode cX9_strips 16 = .ok (.iand, 1) := by decide +kernel
theorem dX9_strips_17 : decode cX9_strips 17 = .ok (.ifCond .eq 13, 3) := by decide +kernel
theorem dX9_strips_20 : decode cX9_strips 20 = .ok (.aload_n 0, 1) := by decide +kernel
theorem dX9_strips_21 : decode cX9_strips 21 = .ok (.iconst 3, 1) := by decide +kernel
theorem dX9_strips_22 : decode cX9_strips 22 = .ok (.bipush 9, 2) := by decide +kernel
theorem dX9_strips_24 : decode cX9_strips 24 = .ok (.iload_n 3, 1) := by decide +kernel
theorem dX9_strips_25 : decode cX9_strips 25 = .ok (.iadd, 1) := by decide +kernel
theorem dX9_strips_26 : decode cX9_strips 26 = .ok (.iconst (-1), 1) := by decide +kernel
theorem dX9_strips_27 : decode cX9_strips 27 = .ok (.invokevirtual 54, 3) := by decide +kernel
theorem dX9_strips_30 : decode cX9_strips 30 = .ok (.iload_n 2, 1) := by decide +kernel
theorem dX9_strips_31 : decode cX9_strips 31 = .ok (.iconst 2, 1) := by decide +kernel
theorem dX9_strips_32 : decode cX9_strips 32 = .ok (.iand, 1) := by decide +kernel
theorem dX9_strips_33 : decode cX9_strips 33 = .ok (.ifCond .eq 13, 3) := by decide +kernel
theorem dX9_strips_36 : decode cX9_strips 36 = .ok (.aload_n 0, 1) := by decide +kernel
theorem dX9_strips_37 : decode cX9_strips 37 = .ok (.iconst 3, 1) := by decide +kernel
theorem dX9_strips_38 : decode cX9_strips 38 = .ok (.bipush 15, 2) := by decide +kernel
theorem dX9_strips_40 : decode cX9_strips 40 = .ok (.iload_n 3, 1) := by decide +kernel
theorem dX9_strips_41 : decode cX9_strips 41 = .ok (.iadd, 1) := by decide +kernel
theorem dX9_strips_42 : decode cX9_strips 42 = .ok (.iconst (-1), 1) := by decide +kernel
theorem dX9_strips_43 : decode cX9_strips 43 = .ok (.invokevirtual 54, 3) := by decide +kernel
theorem dX9_strips_46 : decode cX9_strips 46 = .ok (.iinc 3 1, 3) := by decide +kernel
theorem dX9_strips_49 : decode cX9_strips 49 = .ok (.goto (-41), 3) := by decide +kernel
theorem dX9_strips_52 : decode cX9_strips 52 = .ok (.iload_n 2, 1) := by decide +kernel
theorem dX9_strips_53 : decode cX9_strips 53 = .ok (.iconst 4, 1) := by decide +kernel
theorem dX9_strips_54 : decode cX9_strips 54 = .ok (.iand, 1) := by decide +kernel
theorem dX9_strips_55 : decode cX9_strips 55 = .ok (.ifCond .eq 12, 3) := by decide +kernel
theorem dX9_strips_58 : decode cX9_strips 58 = .ok (.aload_n 0, 1) := by decide +kernel
theorem dX9_strips_59 : decode cX9_strips 59 = .ok (.iconst 3, 1) := by decide +kernel
theorem dX9_strips_60 : decode cX9_strips 60 = .ok (.bipush 21, 2) := by decide +kernel
theorem dX9_strips_62 : decode cX9_strips 62 = .ok (.bipush 7, 2) := by decide +kernel
theorem dX9_strips_64 : decode cX9_strips 64 = .ok (.invokevirtual 54, 3) := by decide +kernel
theorem dX9_strips_67 : decode cX9_strips 67 = .ok (.iload_n 2, 1) := by decide +kernel
theorem dX9_strips_68 : decode cX9_strips 68 = .ok (.bipush 8, 2) := by decide +kernel
theorem dX9_strips_70 : decode cX9_strips 70 = .ok (.iand, 1) := by decide +kernel
theorem dX9_strips_71 : decode cX9_strips 71 = .ok (.ifCond .eq 11, 3) := by decide +kernel
theorem dX9_strips_74 : decode cX9_strips 74 = .ok (.aload_n 0, 1) := by decide +kernel
theorem dX9_strips_75 : decode cX9_strips 75 = .ok (.iconst 3, 1) := by decide +kernel
theorem dX9_strips_76 : decode cX9_strips 76 = .ok (.bipush 23, 2) := by decide +kernel
theorem dX9_strips_78 : decode cX9_strips 78 = .ok (.iconst 0, 1) := by decide +kernel
theorem dX9_strips_79 : decode cX9_strips 79 = .ok (.invokevirtual 54, 3) := by decide +kernel
theorem dX9_strips_82 : decode cX9_strips 82 = .ok (.return_, 1) := by decide +kernel
theorem dX9_without_0 : decode cX9_without 0 = .ok (.iload_n 1, 1) := by decide +kernel
theorem dX9_without_1 : decode cX9_without 1 = .ok (.invokestatic 126, 3) := by decide +kernel
theorem dX9_without_4 : decode cX9_without 4 = .ok (.ifCond .eq 15, 3) := by decide +kernel
theorem dX9_without_7 : decode cX9_without 7 = .ok (.iload_n 2, 1) := by decide +kernel
theorem dX9_without_8 : decode cX9_without 8 = .ok (.i2l, 1) := by decide +kernel
theorem dX9_without_9 : decode cX9_without 9 = .ok (.lconst 0, 1) := by decide +kernel
theorem dX9_without_10 : decode cX9_without 10 = .ok (.ldc2_w 355, 3) := by decide +kernel
theorem dX9_without_13 : decode cX9_without 13 = .ok (.invokestatic 60, 3) := by decide +kernel
theorem dX9_without_16 : decode cX9_without 16 = .ok (.ifCond .ne 7, 3) := by decide +kernel
theorem dX9_without_19 : decode cX9_without 19 = .ok (.ldc2_w 116, 3) := by decide +kernel
theorem dX9_without_22 : decode cX9_without 22 = .ok (.lreturn, 1) := by decide +kernel
theorem dX9_without_23 : decode cX9_without 23 = .ok (.aload_n 0, 1) := by decide +kernel
theorem dX9_without_24 : decode cX9_without 24 = .ok (.invokevirtual 307, 3) := by decide +kernel
theorem dX9_without_27 : decode cX9_without 27 = .ok (.aload_n 0, 1) := by decide +kernel
theorem dX9_without_28 : decode cX9_without 28 = .ok (.iload_n 1, 1) := by decide +kernel
theorem dX9_without_29 : decode cX9_without 29 = .ok (.iload_n 2, 1) := by decide +kernel
theorem dX9_without_30 : decode cX9_without 30 = .ok (.invokevirtual 357, 3) := by decide +kernel
theorem dX9_without_33 : decode cX9_without 33 = .ok (.aload_n 0, 1) := by decide +kernel
theorem dX9_without_34 : decode cX9_without 34 = .ok (.iconst 3, 1) := by decide +kernel
theorem dX9_without_35 : decode cX9_without 35 = .ok (.invokevirtual 360, 3) := by decide +kernel
theorem dX9_without_38 : decode cX9_without 38 = .ok (.lreturn, 1) := by decide +kernel
theorem dX9_right_0 : decode cX9_right 0 = .ok (.iload_n 1, 1) := by decide +kernel
theorem dX9_right_1 : decode cX9_right 1 = .ok (.invokestatic 126, 3) := by decide +kernel
theorem dX9_right_4 : decode cX9_right 4 = .ok (.ifCond .eq 15, 3) := by decide +kernel
theorem dX9_right_7 : decode cX9_right 7 = .ok (.iload_n 2, 1) := by decide +kernel
theorem dX9_right_8 : decode cX9_right 8 = .ok (.i2l, 1) := by decide +kernel
theorem dX9_right_9 : decode cX9_right 9 = .ok (.lconst 0, 1) := by decide +kernel
theorem dX9_right_10 : decode cX9_right 10 = .ok (.ldc2_w 142, 3) := by decide +kernel
theorem dX9_right_13 : decode cX9_right 13 = .ok (.invokestatic 60, 3) := by decide +kernel
theorem dX9_right_16 : decode cX9_right 16 = .ok (.ifCond .ne 7, 3) := by decide +kernel
theorem dX9_right_19 : decode cX9_right 19 = .ok (.ldc2_w 364, 3) := by decide +kernel
theorem dX9_right_22 : decode cX9_right 22 = .ok (.lreturn, 1) := by decide +kernel
theorem dX9_right_23 : decode cX9_right 23 = .ok (.aload_n 0, 1) := by decide +kernel
theorem dX9_right_24 : decode cX9_right 24 = .ok (.invokevirtual 307, 3) := by decide +kernel
theorem dX9_right_27 : decode cX9_right 27 = .ok (.aload_n 0, 1) := by decide +kernel
theorem dX9_right_28 : decode cX9_right 28 = .ok (.iload_n 1, 1) := by decide +kernel
theorem dX9_right_29 : decode cX9_right 29 = .ok (.iconst 1, 1) := by decide +kernel
theorem dX9_right_30 : decode cX9_right 30 = .ok (.iload_n 2, 1) := by decide +kernel
theorem dX9_right_31 : decode cX9_right 31 = .ok (.ishl, 1) := by decide +kernel
theorem dX9_right_32 : decode cX9_right 32 = .ok (.invokevirtual 357, 3) := by decide +kernel
theorem dX9_right_35 : decode cX9_right 35 = .ok (.aload_n 0, 1) := by decide +kernel
theorem dX9_right_36 : decode cX9_right 36 = .ok (.iconst 3, 1) := by decide +kernel
theorem dX9_right_37 : decode cX9_right 37 = .ok (.invokevirtual 360, 3) := by decide +kernel
theorem dX9_right_40 : decode cX9_right 40 = .ok (.lstore_n 3, 1) := by decide +kernel
theorem dX9_right_41 : decode cX9_right 41 = .ok (.lload_n 3, 1) := by decide +kernel
theorem dX9_right_42 : decode cX9_right 42 = .ok (.aload_n 0, 1) := by decide +kernel
theorem dX9_right_43 : decode cX9_right 43 = .ok (.iload_n 1, 1) := by decide +kernel
theorem dX9_right_44 : decode cX9_right 44 = .ok (.invokevirtual 360, 3) := by decide +kernel
theorem dX9_right_47 : decode cX9_right 47 = .ok (.lsub, 1) := by decide +kernel
theorem dX9_right_48 : decode cX9_right 48 = .ok (.lreturn, 1) := by decide +kernel
theorem dX9_laysWays_0 : decode cX9_laysWays 0 = .ok (.iconst 0, 1) := by decide +kernel
theorem dX9_laysWays_1 : decode cX9_laysWays 1 = .ok (.istore_n 2, 1) := by decide +kernel
theorem dX9_laysWays_2 : decode cX9_laysWays 2 = .ok (.iload_n 2, 1) := by decide +kernel
theorem dX9_laysWays_3 : decode cX9_laysWays 3 = .ok (.sipush 784, 3) := by decide +kernel
theorem dX9_laysWays_6 : decode cX9_laysWays 6 = .ok (.if_icmp .ge 16, 3) := by decide +kernel
theorem dX9_laysWays_9 : decode cX9_laysWays 9 = .ok (.aload_n 0, 1) := by decide +kernel
theorem dX9_laysWays_10 : decode cX9_laysWays 10 = .ok (.getfield 36, 3) := by decide +kernel
theorem dX9_laysWays_13 : decode cX9_laysWays 13 = .ok (.iload_n 2, 1) := by decide +kernel
theorem dX9_laysWays_14 : decode cX9_laysWays 14 = .ok (.lconst 0, 1) := by decide +kernel
theorem dX9_laysWays_15 : decode cX9_laysWays 15 = .ok (.lastore, 1) := by decide +kernel
theorem dX9_laysWays_16 : decode cX9_laysWays 16 = .ok (.iinc 2 1, 3) := by decide +kernel
theorem dX9_laysWays_19 : decode cX9_laysWays 19 = .ok (.goto (-17), 3) := by decide +kernel
theorem dX9_laysWays_22 : decode cX9_laysWays 22 = .ok (.aload_n 0, 1) := by decide +kernel
theorem dX9_laysWays_23 : decode cX9_laysWays 23 = .ok (.getfield 36, 3) := by decide +kernel
theorem dX9_laysWays_26 : decode cX9_laysWays 26 = .ok (.aload_n 0, 1) := by decide +kernel
theorem dX9_laysWays_27 : decode cX9_laysWays 27 = .ok (.iload_n 1, 1) := by decide +kernel
theorem dX9_laysWays_28 : decode cX9_laysWays 28 = .ok (.invokevirtual 313, 3) := by decide +kernel
theorem dX9_laysWays_31 : decode cX9_laysWays 31 = .ok (.lconst 1, 1) := by decide +kernel
theorem dX9_laysWays_32 : decode cX9_laysWays 32 = .ok (.lastore, 1) := by decide +kernel
theorem dX9_laysWays_33 : decode cX9_laysWays 33 = .ok (.iconst 0, 1) := by decide +kernel
theorem dX9_laysWays_34 : decode cX9_laysWays 34 = .ok (.istore_n 2, 1) := by decide +kernel
theorem dX9_laysWays_35 : decode cX9_laysWays 35 = .ok (.iload_n 2, 1) := by decide +kernel
theorem dX9_laysWays_36 : decode cX9_laysWays 36 = .ok (.aload_n 0, 1) := by decide +kernel
theorem dX9_laysWays_37 : decode cX9_laysWays 37 = .ok (.getfield 94, 3) := by decide +kernel
theorem dX9_laysWays_40 : decode cX9_laysWays 40 = .ok (.if_icmp .ge 178, 3) := by decide +kernel
theorem dX9_laysWays_43 : decode cX9_laysWays 43 = .ok (.iconst 0, 1) := by decide +kernel
theorem dX9_laysWays_44 : decode cX9_laysWays 44 = .ok (.istore_n 3, 1) := by decide +kernel
theorem dX9_laysWays_45 : decode cX9_laysWays 45 = .ok (.iload_n 3, 1) := by decide +kernel
theorem dX9_laysWays_46 : decode cX9_laysWays 46 = .ok (.iload_n 2, 1) := by decide +kernel
theorem dX9_laysWays_47 : decode cX9_laysWays 47 = .ok (.if_icmp .gt 165, 3) := by decide +kernel
theorem dX9_laysWays_50 : decode cX9_laysWays 50 = .ok (.iconst 0, 1) := by decide +kernel
theorem dX9_laysWays_51 : decode cX9_laysWays 51 = .ok (.istore 4, 2) := by decide +kernel
theorem dX9_laysWays_53 : decode cX9_laysWays 53 = .ok (.iload 4, 2) := by decide +kernel
theorem dX9_laysWays_55 : decode cX9_laysWays 55 = .ok (.iconst 2, 1) := by decide +kernel
theorem dX9_laysWays_56 : decode cX9_laysWays 56 = .ok (.if_icmp .ge 150, 3) := by decide +kernel
theorem dX9_laysWays_59 : decode cX9_laysWays 59 = .ok (.iconst 0, 1) := by decide +kernel
theorem dX9_laysWays_60 : decode cX9_laysWays 60 = .ok (.istore 5, 2) := by decide +kernel
theorem dX9_laysWays_62 : decode cX9_laysWays 62 = .ok (.iload 5, 2) := by decide +kernel
theorem dX9_laysWays_64 : decode cX9_laysWays 64 = .ok (.bipush 8, 2) := by decide +kernel
theorem dX9_laysWays_66 : decode cX9_laysWays 66 = .ok (.if_icmp .ge 134, 3) := by decide +kernel
theorem dX9_laysWays_69 : decode cX9_laysWays 69 = .ok (.iload_n 2, 1) := by decide +kernel
theorem dX9_laysWays_70 : decode cX9_laysWays 70 = .ok (.iload_n 3, 1) := by decide +kernel
theorem dX9_laysWays_71 : decode cX9_laysWays 71 = .ok (.iload 4, 2) := by decide +kernel
theorem dX9_laysWays_73 : decode cX9_laysWays 73 = .ok (.iload 5, 2) := by decide +kernel
theorem dX9_laysWays_75 : decode cX9_laysWays 75 = .ok (.invokestatic 267, 3) := by decide +kernel
theorem dX9_laysWays_78 : decode cX9_laysWays 78 = .ok (.istore 6, 2) := by decide +kernel
theorem dX9_laysWays_80 : decode cX9_laysWays 80 = .ok (.aload_n 0, 1) := by decide +kernel
theorem dX9_laysWays_81 : decode cX9_laysWays 81 = .ok (.getfield 36, 3) := by decide +kernel
theorem dX9_laysWays_84 : decode cX9_laysWays 84 = .ok (.iload 6, 2) := by decide +kernel
theorem dX9_laysWays_86 : decode cX9_laysWays 86 = .ok (.laload, 1) := by decide +kernel
theorem dX9_laysWays_87 : decode cX9_laysWays 87 = .ok (.lconst 0, 1) := by decide +kernel
theorem dX9_laysWays_88 : decode cX9_laysWays 88 = .ok (.lcmp, 1) := by decide +kernel
theorem dX9_laysWays_89 : decode cX9_laysWays 89 = .ok (.ifCond .eq 105, 3) := by decide +kernel
theorem dX9_laysWays_92 : decode cX9_laysWays 92 = .ok (.aload_n 0, 1) := by decide +kernel
theorem dX9_laysWays_93 : decode cX9_laysWays 93 = .ok (.getfield 39, 3) := by decide +kernel
theorem dX9_laysWays_96 : decode cX9_laysWays 96 = .ok (.iload 6, 2) := by decide +kernel
theorem dX9_laysWays_98 : decode cX9_laysWays 98 = .ok (.iaload, 1) := by decide +kernel
theorem dX9_laysWays_99 : decode cX9_laysWays 99 = .ok (.ifCond .eq 6, 3) := by decide +kernel
theorem dX9_laysWays_102 : decode cX9_laysWays 102 = .ok (.goto 92, 3) := by decide +kernel
theorem dX9_laysWays_105 : decode cX9_laysWays 105 = .ok (.aload_n 0, 1) := by decide +kernel
theorem dX9_laysWays_106 : decode cX9_laysWays 106 = .ok (.iload_n 1, 1) := by decide +kernel
theorem dX9_laysWays_107 : decode cX9_laysWays 107 = .ok (.iload_n 2, 1) := by decide +kernel
theorem dX9_laysWays_108 : decode cX9_laysWays 108 = .ok (.iload_n 3, 1) := by decide +kernel
theorem dX9_laysWays_109 : decode cX9_laysWays 109 = .ok (.iload 4, 2) := by decide +kernel
theorem dX9_laysWays_111 : decode cX9_laysWays 111 = .ok (.iload 5, 2) := by decide +kernel
theorem dX9_laysWays_113 : decode cX9_laysWays 113 = .ok (.iconst 1, 1) := by decide +kernel
theorem dX9_laysWays_114 : decode cX9_laysWays 114 = .ok (.invokevirtual 277, 3) := by decide +kernel
theorem dX9_laysWays_117 : decode cX9_laysWays 117 = .ok (.istore 7, 2) := by decide +kernel
theorem dX9_laysWays_119 : decode cX9_laysWays 119 = .ok (.aload_n 0, 1) := by decide +kernel
theorem dX9_laysWays_120 : decode cX9_laysWays 120 = .ok (.iload_n 1, 1) := by decide +kernel
theorem dX9_laysWays_121 : decode cX9_laysWays 121 = .ok (.iload_n 2, 1) := by decide +kernel
theorem dX9_laysWays_122 : decode cX9_laysWays 122 = .ok (.iload_n 3, 1) := by decide +kernel
theorem dX9_laysWays_123 : decode cX9_laysWays 123 = .ok (.iload 4, 2) := by decide +kernel
theorem dX9_laysWays_125 : decode cX9_laysWays 125 = .ok (.iload 5, 2) := by decide +kernel
theorem dX9_laysWays_127 : decode cX9_laysWays 127 = .ok (.iconst 0, 1) := by decide +kernel
theorem dX9_laysWays_128 : decode cX9_laysWays 128 = .ok (.invokevirtual 277, 3) := by decide +kernel
theorem dX9_laysWays_131 : decode cX9_laysWays 131 = .ok (.istore 8, 2) := by decide +kernel
theorem dX9_laysWays_133 : decode cX9_laysWays 133 = .ok (.aload_n 0, 1) := by decide +kernel
theorem dX9_laysWays_134 : decode cX9_laysWays 134 = .ok (.getfield 36, 3) := by decide +kernel
theorem dX9_laysWays_137 : decode cX9_laysWays 137 = .ok (.iload 7, 2) := by decide +kernel
theorem dX9_laysWays_139 : decode cX9_laysWays 139 = .ok (.aload_n 0, 1) := by decide +kernel
theorem dX9_laysWays_140 : decode cX9_laysWays 140 = .ok (.getfield 36, 3) := by decide +kernel
theorem dX9_laysWays_143 : decode cX9_laysWays 143 = .ok (.iload 7, 2) := by decide +kernel
theorem dX9_laysWays_145 : decode cX9_laysWays 145 = .ok (.laload, 1) := by decide +kernel
theorem dX9_laysWays_146 : decode cX9_laysWays 146 = .ok (.aload_n 0, 1) := by decide +kernel
theorem dX9_laysWays_147 : decode cX9_laysWays 147 = .ok (.getfield 36, 3) := by decide +kernel
theorem dX9_laysWays_150 : decode cX9_laysWays 150 = .ok (.iload 6, 2) := by decide +kernel
theorem dX9_laysWays_152 : decode cX9_laysWays 152 = .ok (.laload, 1) := by decide +kernel
theorem dX9_laysWays_153 : decode cX9_laysWays 153 = .ok (.aload_n 0, 1) := by decide +kernel
theorem dX9_laysWays_154 : decode cX9_laysWays 154 = .ok (.getfield 97, 3) := by decide +kernel
theorem dX9_laysWays_157 : decode cX9_laysWays 157 = .ok (.i2l, 1) := by decide +kernel
theorem dX9_laysWays_158 : decode cX9_laysWays 158 = .ok (.lmul, 1) := by decide +kernel
theorem dX9_laysWays_159 : decode cX9_laysWays 159 = .ok (.ladd, 1) := by decide +kernel
theorem dX9_laysWays_160 : decode cX9_laysWays 160 = .ok (.lastore, 1) := by decide +kernel
theorem dX9_laysWays_161 : decode cX9_laysWays 161 = .ok (.aload_n 0, 1) := by decide +kernel
theorem dX9_laysWays_162 : decode cX9_laysWays 162 = .ok (.getfield 36, 3) := by decide +kernel
theorem dX9_laysWays_165 : decode cX9_laysWays 165 = .ok (.iload 8, 2) := by decide +kernel
theorem dX9_laysWays_167 : decode cX9_laysWays 167 = .ok (.aload_n 0, 1) := by decide +kernel
theorem dX9_laysWays_168 : decode cX9_laysWays 168 = .ok (.getfield 36, 3) := by decide +kernel
theorem dX9_laysWays_171 : decode cX9_laysWays 171 = .ok (.iload 8, 2) := by decide +kernel
theorem dX9_laysWays_173 : decode cX9_laysWays 173 = .ok (.laload, 1) := by decide +kernel
theorem dX9_laysWays_174 : decode cX9_laysWays 174 = .ok (.aload_n 0, 1) := by decide +kernel
theorem dX9_laysWays_175 : decode cX9_laysWays 175 = .ok (.getfield 36, 3) := by decide +kernel
theorem dX9_laysWays_178 : decode cX9_laysWays 178 = .ok (.iload 6, 2) := by decide +kernel
theorem dX9_laysWays_180 : decode cX9_laysWays 180 = .ok (.laload, 1) := by decide +kernel
theorem dX9_laysWays_181 : decode cX9_laysWays 181 = .ok (.aload_n 0, 1) := by decide +kernel
