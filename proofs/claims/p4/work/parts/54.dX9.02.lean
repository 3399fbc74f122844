theorem dX9_laysWays_182 : decode cX9_laysWays 182 = .ok (.getfield 100, 3) := by decide +kernel
theorem dX9_laysWays_185 : decode cX9_laysWays 185 = .ok (.aload_n 0, 1) := by decide +kernel
theorem dX9_laysWays_186 : decode cX9_laysWays 186 = .ok (.getfield 97, 3) := by decide +kernel
theorem dX9_laysWays_189 : decode cX9_laysWays 189 = .ok (.isub, 1) := by decide +kernel
theorem dX9_laysWays_190 : decode cX9_laysWays 190 = .ok (.i2l, 1) := by decide +kernel
theorem dX9_laysWays_191 : decode cX9_laysWays 191 = .ok (.lmul, 1) := by decide +kernel
theorem dX9_laysWays_192 : decode cX9_laysWays 192 = .ok (.ladd, 1) := by decide +kernel
theorem dX9_laysWays_193 : decode cX9_laysWays 193 = .ok (.lastore, 1) := by decide +kernel
theorem dX9_laysWays_194 : decode cX9_laysWays 194 = .ok (.iinc 5 1, 3) := by decide +kernel
theorem dX9_laysWays_197 : decode cX9_laysWays 197 = .ok (.goto (-135), 3) := by decide +kernel
theorem dX9_laysWays_200 : decode cX9_laysWays 200 = .ok (.iinc 4 1, 3) := by decide +kernel
theorem dX9_laysWays_203 : decode cX9_laysWays 203 = .ok (.goto (-150), 3) := by decide +kernel
theorem dX9_laysWays_206 : decode cX9_laysWays 206 = .ok (.iinc 3 1, 3) := by decide +kernel
theorem dX9_laysWays_209 : decode cX9_laysWays 209 = .ok (.goto (-164), 3) := by decide +kernel
theorem dX9_laysWays_212 : decode cX9_laysWays 212 = .ok (.iinc 2 1, 3) := by decide +kernel
theorem dX9_laysWays_215 : decode cX9_laysWays 215 = .ok (.goto (-180), 3) := by decide +kernel
theorem dX9_laysWays_218 : decode cX9_laysWays 218 = .ok (.return_, 1) := by decide +kernel
theorem dX9_dayOf_0 : decode cX9_dayOf 0 = .ok (.iload_n 0, 1) := by decide +kernel
theorem dX9_dayOf_1 : decode cX9_dayOf 1 = .ok (.bipush 112, 2) := by decide +kernel
theorem dX9_dayOf_3 : decode cX9_dayOf 3 = .ok (.idiv, 1) := by decide +kernel
theorem dX9_dayOf_4 : decode cX9_dayOf 4 = .ok (.ireturn, 1) := by decide +kernel
theorem dX9_laysAll_0 : decode cX9_laysAll 0 = .ok (.aload_n 0, 1) := by decide +kernel
theorem dX9_laysAll_1 : decode cX9_laysAll 1 = .ok (.iload_n 1, 1) := by decide +kernel
theorem dX9_laysAll_2 : decode cX9_laysAll 2 = .ok (.invokevirtual 334, 3) := by decide +kernel
theorem dX9_laysAll_5 : decode cX9_laysAll 5 = .ok (.aload_n 0, 1) := by decide +kernel
theorem dX9_laysAll_6 : decode cX9_laysAll 6 = .ok (.iload_n 1, 1) := by decide +kernel
theorem dX9_laysAll_7 : decode cX9_laysAll 7 = .ok (.invokevirtual 366, 3) := by decide +kernel
theorem dX9_laysAll_10 : decode cX9_laysAll 10 = .ok (.return_, 1) := by decide +kernel
theorem dX9_power_0 : decode cX9_power 0 = .ok (.lconst 1, 1) := by decide +kernel
theorem dX9_power_1 : decode cX9_power 1 = .ok (.lstore_n 2, 1) := by decide +kernel
theorem dX9_power_2 : decode cX9_power 2 = .ok (.iconst 0, 1) := by decide +kernel
theorem dX9_power_3 : decode cX9_power 3 = .ok (.istore 4, 2) := by decide +kernel
theorem dX9_power_5 : decode cX9_power 5 = .ok (.iload 4, 2) := by decide +kernel
theorem dX9_power_7 : decode cX9_power 7 = .ok (.iload_n 1, 1) := by decide +kernel
theorem dX9_power_8 : decode cX9_power 8 = .ok (.if_icmp .ge 17, 3) := by decide +kernel
theorem dX9_power_11 : decode cX9_power 11 = .ok (.lload_n 2, 1) := by decide +kernel
theorem dX9_power_12 : decode cX9_power 12 = .ok (.aload_n 0, 1) := by decide +kernel
theorem dX9_power_13 : decode cX9_power 13 = .ok (.getfield 100, 3) := by decide +kernel
theorem dX9_power_16 : decode cX9_power 16 = .ok (.i2l, 1) := by decide +kernel
theorem dX9_power_17 : decode cX9_power 17 = .ok (.lmul, 1) := by decide +kernel
theorem dX9_power_18 : decode cX9_power 18 = .ok (.lstore_n 2, 1) := by decide +kernel
theorem dX9_power_19 : decode cX9_power 19 = .ok (.iinc 4 1, 3) := by decide +kernel
theorem dX9_power_22 : decode cX9_power 22 = .ok (.goto (-17), 3) := by decide +kernel
theorem dX9_power_25 : decode cX9_power 25 = .ok (.lload_n 2, 1) := by decide +kernel
theorem dX9_power_26 : decode cX9_power 26 = .ok (.lreturn, 1) := by decide +kernel
theorem dX9_part_0 : decode cX9_part 0 = .ok (.lload_n 1, 1) := by decide +kernel
theorem dX9_part_1 : decode cX9_part 1 = .ok (.lload_n 3, 1) := by decide +kernel
theorem dX9_part_2 : decode cX9_part 2 = .ok (.invokestatic 118, 3) := by decide +kernel
theorem dX9_part_5 : decode cX9_part 5 = .ok (.lstore 6, 2) := by decide +kernel
theorem dX9_part_7 : decode cX9_part 7 = .ok (.iload 5, 2) := by decide +kernel
theorem dX9_part_9 : decode cX9_part 9 = .ok (.ifCond .ne 10, 3) := by decide +kernel
theorem dX9_part_12 : decode cX9_part 12 = .ok (.lload_n 1, 1) := by decide +kernel
theorem dX9_part_13 : decode cX9_part 13 = .ok (.lload 6, 2) := by decide +kernel
theorem dX9_part_15 : decode cX9_part 15 = .ok (.ldiv, 1) := by decide +kernel
theorem dX9_part_16 : decode cX9_part 16 = .ok (.goto 7, 3) := by decide +kernel
theorem dX9_part_19 : decode cX9_part 19 = .ok (.lload_n 3, 1) := by decide +kernel
theorem dX9_part_20 : decode cX9_part 20 = .ok (.lload 6, 2) := by decide +kernel
theorem dX9_part_22 : decode cX9_part 22 = .ok (.ldiv, 1) := by decide +kernel
theorem dX9_part_23 : decode cX9_part 23 = .ok (.lreturn, 1) := by decide +kernel
theorem dX9_ends_0 : decode cX9_ends 0 = .ok (.iload_n 1, 1) := by decide +kernel
theorem dX9_ends_1 : decode cX9_ends 1 = .ok (.invokestatic 126, 3) := by decide +kernel
theorem dX9_ends_4 : decode cX9_ends 4 = .ok (.ifCond .eq 25, 3) := by decide +kernel
theorem dX9_ends_7 : decode cX9_ends 7 = .ok (.iload_n 2, 1) := by decide +kernel
theorem dX9_ends_8 : decode cX9_ends 8 = .ok (.i2l, 1) := by decide +kernel
theorem dX9_ends_9 : decode cX9_ends 9 = .ok (.lconst 1, 1) := by decide +kernel
theorem dX9_ends_10 : decode cX9_ends 10 = .ok (.ldc2_w 72, 3) := by decide +kernel
theorem dX9_ends_13 : decode cX9_ends 13 = .ok (.invokestatic 60, 3) := by decide +kernel
theorem dX9_ends_16 : decode cX9_ends 16 = .ok (.ifCond .eq 13, 3) := by decide +kernel
theorem dX9_ends_19 : decode cX9_ends 19 = .ok (.iload_n 3, 1) := by decide +kernel
theorem dX9_ends_20 : decode cX9_ends 20 = .ok (.i2l, 1) := by decide +kernel
theorem dX9_ends_21 : decode cX9_ends 21 = .ok (.lconst 0, 1) := by decide +kernel
theorem dX9_ends_22 : decode cX9_ends 22 = .ok (.lconst 1, 1) := by decide +kernel
theorem dX9_ends_23 : decode cX9_ends 23 = .ok (.invokestatic 60, 3) := by decide +kernel
theorem dX9_ends_26 : decode cX9_ends 26 = .ok (.ifCond .ne 7, 3) := by decide +kernel
theorem dX9_ends_29 : decode cX9_ends 29 = .ok (.ldc2_w 116, 3) := by decide +kernel
theorem dX9_ends_32 : decode cX9_ends 32 = .ok (.lreturn, 1) := by decide +kernel
theorem dX9_ends_33 : decode cX9_ends 33 = .ok (.aload_n 0, 1) := by decide +kernel
theorem dX9_ends_34 : decode cX9_ends 34 = .ok (.iload_n 1, 1) := by decide +kernel
theorem dX9_ends_35 : decode cX9_ends 35 = .ok (.invokevirtual 369, 3) := by decide +kernel
theorem dX9_ends_38 : decode cX9_ends 38 = .ok (.lconst 0, 1) := by decide +kernel
theorem dX9_ends_39 : decode cX9_ends 39 = .ok (.lstore 4, 2) := by decide +kernel
theorem dX9_ends_41 : decode cX9_ends 41 = .ok (.iconst 0, 1) := by decide +kernel
theorem dX9_ends_42 : decode cX9_ends 42 = .ok (.istore 6, 2) := by decide +kernel
theorem dX9_ends_44 : decode cX9_ends 44 = .ok (.iload 6, 2) := by decide +kernel
theorem dX9_ends_46 : decode cX9_ends 46 = .ok (.sipush 784, 3) := by decide +kernel
theorem dX9_ends_49 : decode cX9_ends 49 = .ok (.if_icmp .ge 59, 3) := by decide +kernel
theorem dX9_ends_52 : decode cX9_ends 52 = .ok (.aload_n 0, 1) := by decide +kernel
theorem dX9_ends_53 : decode cX9_ends 53 = .ok (.getfield 36, 3) := by decide +kernel
theorem dX9_ends_56 : decode cX9_ends 56 = .ok (.iload 6, 2) := by decide +kernel
theorem dX9_ends_58 : decode cX9_ends 58 = .ok (.laload, 1) := by decide +kernel
theorem dX9_ends_59 : decode cX9_ends 59 = .ok (.lconst 0, 1) := by decide +kernel
theorem dX9_ends_60 : decode cX9_ends 60 = .ok (.lcmp, 1) := by decide +kernel
theorem dX9_ends_61 : decode cX9_ends 61 = .ok (.ifCond .le 41, 3) := by decide +kernel
theorem dX9_ends_64 : decode cX9_ends 64 = .ok (.aload_n 0, 1) := by decide +kernel
theorem dX9_ends_65 : decode cX9_ends 65 = .ok (.getfield 39, 3) := by decide +kernel
theorem dX9_ends_68 : decode cX9_ends 68 = .ok (.iload 6, 2) := by decide +kernel
theorem dX9_ends_70 : decode cX9_ends 70 = .ok (.iaload, 1) := by decide +kernel
theorem dX9_ends_71 : decode cX9_ends 71 = .ok (.iload_n 2, 1) := by decide +kernel
theorem dX9_ends_72 : decode cX9_ends 72 = .ok (.if_icmp .ne 30, 3) := by decide +kernel
theorem dX9_ends_75 : decode cX9_ends 75 = .ok (.lload 4, 2) := by decide +kernel
theorem dX9_ends_77 : decode cX9_ends 77 = .ok (.aload_n 0, 1) := by decide +kernel
theorem dX9_ends_78 : decode cX9_ends 78 = .ok (.getfield 36, 3) := by decide +kernel
theorem dX9_ends_81 : decode cX9_ends 81 = .ok (.iload 6, 2) := by decide +kernel
theorem dX9_ends_83 : decode cX9_ends 83 = .ok (.laload, 1) := by decide +kernel
theorem dX9_ends_84 : decode cX9_ends 84 = .ok (.aload_n 0, 1) := by decide +kernel
theorem dX9_ends_85 : decode cX9_ends 85 = .ok (.aload_n 0, 1) := by decide +kernel
theorem dX9_ends_86 : decode cX9_ends 86 = .ok (.getfield 94, 3) := by decide +kernel
theorem dX9_ends_89 : decode cX9_ends 89 = .ok (.iload 6, 2) := by decide +kernel
theorem dX9_ends_91 : decode cX9_ends 91 = .ok (.invokestatic 372, 3) := by decide +kernel
theorem dX9_ends_94 : decode cX9_ends 94 = .ok (.isub, 1) := by decide +kernel
theorem dX9_ends_95 : decode cX9_ends 95 = .ok (.invokevirtual 375, 3) := by decide +kernel
theorem dX9_ends_98 : decode cX9_ends 98 = .ok (.lmul, 1) := by decide +kernel
theorem dX9_ends_99 : decode cX9_ends 99 = .ok (.ladd, 1) := by decide +kernel
theorem dX9_ends_100 : decode cX9_ends 100 = .ok (.lstore 4, 2) := by decide +kernel
theorem dX9_ends_102 : decode cX9_ends 102 = .ok (.iinc 6 1, 3) := by decide +kernel
theorem dX9_ends_105 : decode cX9_ends 105 = .ok (.goto (-61), 3) := by decide +kernel
theorem dX9_ends_108 : decode cX9_ends 108 = .ok (.aload_n 0, 1) := by decide +kernel
theorem dX9_ends_109 : decode cX9_ends 109 = .ok (.lload 4, 2) := by decide +kernel
theorem dX9_ends_111 : decode cX9_ends 111 = .ok (.aload_n 0, 1) := by decide +kernel
theorem dX9_ends_112 : decode cX9_ends 112 = .ok (.aload_n 0, 1) := by decide +kernel
theorem dX9_ends_113 : decode cX9_ends 113 = .ok (.getfield 94, 3) := by decide +kernel
theorem dX9_ends_116 : decode cX9_ends 116 = .ok (.invokevirtual 375, 3) := by decide +kernel
theorem dX9_ends_119 : decode cX9_ends 119 = .ok (.iload_n 3, 1) := by decide +kernel
theorem dX9_ends_120 : decode cX9_ends 120 = .ok (.invokevirtual 378, 3) := by decide +kernel
theorem dX9_ends_123 : decode cX9_ends 123 = .ok (.lreturn, 1) := by decide +kernel
theorem dX9_life_0 : decode cX9_life 0 = .ok (.iload_n 1, 1) := by decide +kernel
theorem dX9_life_1 : decode cX9_life 1 = .ok (.invokestatic 126, 3) := by decide +kernel
theorem dX9_life_4 : decode cX9_life 4 = .ok (.ifCond .eq 13, 3) := by decide +kernel
theorem dX9_life_7 : decode cX9_life 7 = .ok (.iload_n 2, 1) := by decide +kernel
theorem dX9_life_8 : decode cX9_life 8 = .ok (.i2l, 1) := by decide +kernel
theorem dX9_life_9 : decode cX9_life 9 = .ok (.lconst 0, 1) := by decide +kernel
theorem dX9_life_10 : decode cX9_life 10 = .ok (.lconst 1, 1) := by decide +kernel
theorem dX9_life_11 : decode cX9_life 11 = .ok (.invokestatic 60, 3) := by decide +kernel
theorem dX9_life_14 : decode cX9_life 14 = .ok (.ifCond .ne 7, 3) := by decide +kernel
theorem dX9_life_17 : decode cX9_life 17 = .ok (.ldc2_w 116, 3) := by decide +kernel
theorem dX9_life_20 : decode cX9_life 20 = .ok (.lreturn, 1) := by decide +kernel
theorem dX9_life_21 : decode cX9_life 21 = .ok (.aload_n 0, 1) := by decide +kernel
theorem dX9_life_22 : decode cX9_life 22 = .ok (.iload_n 1, 1) := by decide +kernel
theorem dX9_life_23 : decode cX9_life 23 = .ok (.invokevirtual 369, 3) := by decide +kernel
theorem dX9_life_26 : decode cX9_life 26 = .ok (.lconst 0, 1) := by decide +kernel
theorem dX9_life_27 : decode cX9_life 27 = .ok (.lstore_n 3, 1) := by decide +kernel
theorem dX9_life_28 : decode cX9_life 28 = .ok (.iconst 0, 1) := by decide +kernel
theorem dX9_life_29 : decode cX9_life 29 = .ok (.istore 5, 2) := by decide +kernel
theorem dX9_life_31 : decode cX9_life 31 = .ok (.iload 5, 2) := by decide +kernel
theorem dX9_life_33 : decode cX9_life 33 = .ok (.sipush 784, 3) := by decide +kernel
theorem dX9_life_36 : decode cX9_life 36 = .ok (.if_icmp .ge 63, 3) := by decide +kernel
theorem dX9_life_39 : decode cX9_life 39 = .ok (.aload_n 0, 1) := by decide +kernel
theorem dX9_life_40 : decode cX9_life 40 = .ok (.getfield 36, 3) := by decide +kernel
theorem dX9_life_43 : decode cX9_life 43 = .ok (.iload 5, 2) := by decide +kernel
theorem dX9_life_45 : decode cX9_life 45 = .ok (.laload, 1) := by decide +kernel
theorem dX9_life_46 : decode cX9_life 46 = .ok (.lconst 0, 1) := by decide +kernel
theorem dX9_life_47 : decode cX9_life 47 = .ok (.lcmp, 1) := by decide +kernel
theorem dX9_life_48 : decode cX9_life 48 = .ok (.ifCond .le 45, 3) := by decide +kernel
theorem dX9_life_51 : decode cX9_life 51 = .ok (.aload_n 0, 1) := by decide +kernel
theorem dX9_life_52 : decode cX9_life 52 = .ok (.getfield 39, 3) := by decide +kernel
theorem dX9_life_55 : decode cX9_life 55 = .ok (.iload 5, 2) := by decide +kernel
theorem dX9_life_57 : decode cX9_life 57 = .ok (.iaload, 1) := by decide +kernel
theorem dX9_life_58 : decode cX9_life 58 = .ok (.ifCond .eq 35, 3) := by decide +kernel
theorem dX9_life_61 : decode cX9_life 61 = .ok (.lload_n 3, 1) := by decide +kernel
theorem dX9_life_62 : decode cX9_life 62 = .ok (.aload_n 0, 1) := by decide +kernel
theorem dX9_life_63 : decode cX9_life 63 = .ok (.getfield 36, 3) := by decide +kernel
theorem dX9_life_66 : decode cX9_life 66 = .ok (.iload 5, 2) := by decide +kernel
theorem dX9_life_68 : decode cX9_life 68 = .ok (.laload, 1) := by decide +kernel
theorem dX9_life_69 : decode cX9_life 69 = .ok (.aload_n 0, 1) := by decide +kernel
theorem dX9_life_70 : decode cX9_life 70 = .ok (.aload_n 0, 1) := by decide +kernel
theorem dX9_life_71 : decode cX9_life 71 = .ok (.getfield 94, 3) := by decide +kernel
theorem dX9_life_74 : decode cX9_life 74 = .ok (.iload 5, 2) := by decide +kernel
theorem dX9_life_76 : decode cX9_life 76 = .ok (.invokestatic 372, 3) := by decide +kernel
theorem dX9_life_79 : decode cX9_life 79 = .ok (.isub, 1) := by decide +kernel
theorem dX9_life_80 : decode cX9_life 80 = .ok (.invokevirtual 375, 3) := by decide +kernel
theorem dX9_life_83 : decode cX9_life 83 = .ok (.lmul, 1) := by decide +kernel
theorem dX9_life_84 : decode cX9_life 84 = .ok (.iload 5, 2) := by decide +kernel
theorem dX9_life_86 : decode cX9_life 86 = .ok (.invokestatic 372, 3) := by decide +kernel
theorem dX9_life_89 : decode cX9_life 89 = .ok (.i2l, 1) := by decide +kernel
theorem dX9_life_90 : decode cX9_life 90 = .ok (.lmul, 1) := by decide +kernel
theorem dX9_life_91 : decode cX9_life 91 = .ok (.ladd, 1) := by decide +kernel
theorem dX9_life_92 : decode cX9_life 92 = .ok (.lstore_n 3, 1) := by decide +kernel
theorem dX9_life_93 : decode cX9_life 93 = .ok (.iinc 5 1, 3) := by decide +kernel
theorem dX9_life_96 : decode cX9_life 96 = .ok (.goto (-65), 3) := by decide +kernel
theorem dX9_life_99 : decode cX9_life 99 = .ok (.aload_n 0, 1) := by decide +kernel
theorem dX9_life_100 : decode cX9_life 100 = .ok (.lload_n 3, 1) := by decide +kernel
theorem dX9_life_101 : decode cX9_life 101 = .ok (.aload_n 0, 1) := by decide +kernel
theorem dX9_life_102 : decode cX9_life 102 = .ok (.aload_n 0, 1) := by decide +kernel
theorem dX9_life_103 : decode cX9_life 103 = .ok (.getfield 94, 3) := by decide +kernel
theorem dX9_life_106 : decode cX9_life 106 = .ok (.invokevirtual 375, 3) := by decide +kernel
theorem dX9_life_109 : decode cX9_life 109 = .ok (.iload_n 2, 1) := by decide +kernel
theorem dX9_life_110 : decode cX9_life 110 = .ok (.invokevirtual 378, 3) := by decide +kernel
theorem dX9_life_113 : decode cX9_life 113 = .ok (.lreturn, 1) := by decide +kernel
theorem dX9_states_0 : decode cX9_states 0 = .ok (.iload_n 1, 1) := by decide +kernel
theorem dX9_states_1 : decode cX9_states 1 = .ok (.invokestatic 126, 3) := by decide +kernel
theorem dX9_states_4 : decode cX9_states 4 = .ok (.ifCond .eq 19, 3) := by decide +kernel
theorem dX9_states_7 : decode cX9_states 7 = .ok (.iload_n 2, 1) := by decide +kernel
theorem dX9_states_8 : decode cX9_states 8 = .ok (.i2l, 1) := by decide +kernel
theorem dX9_states_9 : decode cX9_states 9 = .ok (.lconst 0, 1) := by decide +kernel
theorem dX9_states_10 : decode cX9_states 10 = .ok (.aload_n 0, 1) := by decide +kernel
theorem dX9_states_11 : decode cX9_states 11 = .ok (.getfield 13, 3) := by decide +kernel
theorem dX9_states_14 : decode cX9_states 14 = .ok (.iconst 0, 1) := by decide +kernel
theorem dX9_states_15 : decode cX9_states 15 = .ok (.iaload, 1) := by decide +kernel
theorem dX9_states_16 : decode cX9_states 16 = .ok (.i2l, 1) := by decide +kernel
theorem dX9_states_17 : decode cX9_states 17 = .ok (.invokestatic 60, 3) := by decide +kernel
theorem dX9_states_20 : decode cX9_states 20 = .ok (.ifCond .ne 5, 3) := by decide +kernel
theorem dX9_states_23 : decode cX9_states 23 = .ok (.iconst (-1), 1) := by decide +kernel
theorem dX9_states_24 : decode cX9_states 24 = .ok (.ireturn, 1) := by decide +kernel
theorem dX9_states_25 : decode cX9_states 25 = .ok (.aload_n 0, 1) := by decide +kernel
theorem dX9_states_26 : decode cX9_states 26 = .ok (.iload_n 1, 1) := by decide +kernel
theorem dX9_states_27 : decode cX9_states 27 = .ok (.invokevirtual 369, 3) := by decide +kernel
theorem dX9_states_30 : decode cX9_states 30 = .ok (.iconst 0, 1) := by decide +kernel
theorem dX9_states_31 : decode cX9_states 31 = .ok (.istore_n 3, 1) := by decide +kernel
theorem dX9_states_32 : decode cX9_states 32 = .ok (.bipush 112, 2) := by decide +kernel
theorem dX9_states_34 : decode cX9_states 34 = .ok (.iload_n 2, 1) := by decide +kernel
theorem dX9_states_35 : decode cX9_states 35 = .ok (.imul, 1) := by decide +kernel
theorem dX9_states_36 : decode cX9_states 36 = .ok (.istore 4, 2) := by decide +kernel
theorem dX9_states_38 : decode cX9_states 38 = .ok (.iload 4, 2) := by decide +kernel
theorem dX9_states_40 : decode cX9_states 40 = .ok (.bipush 112, 2) := by decide +kernel
theorem dX9_states_42 : decode cX9_states 42 = .ok (.iload_n 2, 1) := by decide +kernel
theorem dX9_states_43 : decode cX9_states 43 = .ok (.imul, 1) := by decide +kernel
theorem dX9_states_44 : decode cX9_states 44 = .ok (.bipush 112, 2) := by decide +kernel
theorem dX9_states_46 : decode cX9_states 46 = .ok (.iadd, 1) := by decide +kernel
theorem dX9_states_47 : decode cX9_states 47 = .ok (.if_icmp .ge 29, 3) := by decide +kernel
theorem dX9_states_50 : decode cX9_states 50 = .ok (.iload_n 3, 1) := by decide +kernel
theorem dX9_states_51 : decode cX9_states 51 = .ok (.aload_n 0, 1) := by decide +kernel
theorem dX9_states_52 : decode cX9_states 52 = .ok (.getfield 36, 3) := by decide +kernel
theorem dX9_states_55 : decode cX9_states 55 = .ok (.iload 4, 2) := by decide +kernel
theorem dX9_states_57 : decode cX9_states 57 = .ok (.laload, 1) := by decide +kernel
theorem dX9_states_58 : decode cX9_states 58 = .ok (.lconst 0, 1) := by decide +kernel
theorem dX9_states_59 : decode cX9_states 59 = .ok (.lcmp, 1) := by decide +kernel
theorem dX9_states_60 : decode cX9_states 60 = .ok (.ifCond .le 7, 3) := by decide +kernel
theorem dX9_states_63 : decode cX9_states 63 = .ok (.iconst 1, 1) := by decide +kernel
theorem dX9_states_64 : decode cX9_states 64 = .ok (.goto 4, 3) := by decide +kernel
theorem dX9_states_67 : decode cX9_states 67 = .ok (.iconst 0, 1) := by decide +kernel
theorem dX9_states_68 : decode cX9_states 68 = .ok (.iadd, 1) := by decide +kernel
theorem dX9_states_69 : decode cX9_states 69 = .ok (.istore_n 3, 1) := by decide +kernel
theorem dX9_states_70 : decode cX9_states 70 = .ok (.iinc 4 1, 3) := by decide +kernel
theorem dX9_states_73 : decode cX9_states 73 = .ok (.goto (-35), 3) := by decide +kernel
theorem dX9_states_76 : decode cX9_states 76 = .ok (.iload_n 3, 1) := by decide +kernel
theorem dX9_states_77 : decode cX9_states 77 = .ok (.ireturn, 1) := by decide +kernel
theorem dX9_first_0 : decode cX9_first 0 = .ok (.iload_n 1, 1) := by decide +kernel
theorem dX9_first_1 : decode cX9_first 1 = .ok (.invokestatic 126, 3) := by decide +kernel
theorem dX9_first_4 : decode cX9_first 4 = .ok (.ifCond .eq 19, 3) := by decide +kernel
theorem dX9_first_7 : decode cX9_first 7 = .ok (.iload_n 2, 1) := by decide +kernel
theorem dX9_first_8 : decode cX9_first 8 = .ok (.i2l, 1) := by decide +kernel
theorem dX9_first_9 : decode cX9_first 9 = .ok (.lconst 0, 1) := by decide +kernel
theorem dX9_first_10 : decode cX9_first 10 = .ok (.aload_n 0, 1) := by decide +kernel
theorem dX9_first_11 : decode cX9_first 11 = .ok (.getfield 13, 3) := by decide +kernel
theorem dX9_first_14 : decode cX9_first 14 = .ok (.iconst 0, 1) := by decide +kernel
theorem dX9_first_15 : decode cX9_first 15 = .ok (.iaload, 1) := by decide +kernel
theorem dX9_first_16 : decode cX9_first 16 = .ok (.i2l, 1) := by decide +kernel
theorem dX9_first_17 : decode cX9_first 17 = .ok (.invokestatic 60, 3) := by decide +kernel
theorem dX9_first_20 : decode cX9_first 20 = .ok (.ifCond .ne 5, 3) := by decide +kernel
theorem dX9_first_23 : decode cX9_first 23 = .ok (.iconst (-1), 1) := by decide +kernel
theorem dX9_first_24 : decode cX9_first 24 = .ok (.ireturn, 1) := by decide +kernel
theorem dX9_first_25 : decode cX9_first 25 = .ok (.aload_n 0, 1) := by decide +kernel
theorem dX9_first_26 : decode cX9_first 26 = .ok (.iload_n 1, 1) := by decide +kernel
theorem dX9_first_27 : decode cX9_first 27 = .ok (.invokevirtual 369, 3) := by decide +kernel
theorem dX9_first_30 : decode cX9_first 30 = .ok (.bipush 112, 2) := by decide +kernel
theorem dX9_first_32 : decode cX9_first 32 = .ok (.iload_n 2, 1) := by decide +kernel
theorem dX9_first_33 : decode cX9_first 33 = .ok (.imul, 1) := by decide +kernel
theorem dX9_first_34 : decode cX9_first 34 = .ok (.istore 4, 2) := by decide +kernel
theorem dX9_first_36 : decode cX9_first 36 = .ok (.iload 4, 2) := by decide +kernel
theorem dX9_first_38 : decode cX9_first 38 = .ok (.bipush 112, 2) := by decide +kernel
theorem dX9_first_40 : decode cX9_first 40 = .ok (.iload_n 2, 1) := by decide +kernel
theorem dX9_first_41 : decode cX9_first 41 = .ok (.imul, 1) := by decide +kernel
theorem dX9_first_42 : decode cX9_first 42 = .ok (.bipush 112, 2) := by decide +kernel
theorem dX9_first_44 : decode cX9_first 44 = .ok (.iadd, 1) := by decide +kernel
theorem dX9_first_45 : decode cX9_first 45 = .ok (.if_icmp .ge 92, 3) := by decide +kernel
theorem dX9_first_48 : decode cX9_first 48 = .ok (.aload_n 0, 1) := by decide +kernel
theorem dX9_first_49 : decode cX9_first 49 = .ok (.getfield 36, 3) := by decide +kernel
theorem dX9_first_52 : decode cX9_first 52 = .ok (.iload 4, 2) := by decide +kernel
theorem dX9_first_54 : decode cX9_first 54 = .ok (.laload, 1) := by decide +kernel
theorem dX9_first_55 : decode cX9_first 55 = .ok (.lconst 0, 1) := by decide +kernel
theorem dX9_first_56 : decode cX9_first 56 = .ok (.lcmp, 1) := by decide +kernel
theorem dX9_first_57 : decode cX9_first 57 = .ok (.ifCond .ne 6, 3) := by decide +kernel
theorem dX9_first_60 : decode cX9_first 60 = .ok (.goto 71, 3) := by decide +kernel
theorem dX9_first_63 : decode cX9_first 63 = .ok (.iload_n 3, 1) := by decide +kernel
theorem dX9_first_64 : decode cX9_first 64 = .ok (.ifCond .eq 23, 3) := by decide +kernel
theorem dX9_first_67 : decode cX9_first 67 = .ok (.aload_n 0, 1) := by decide +kernel
theorem dX9_first_68 : decode cX9_first 68 = .ok (.getfield 39, 3) := by decide +kernel
theorem dX9_first_71 : decode cX9_first 71 = .ok (.iload 4, 2) := by decide +kernel
theorem dX9_first_73 : decode cX9_first 73 = .ok (.iaload, 1) := by decide +kernel
theorem dX9_first_74 : decode cX9_first 74 = .ok (.i2l, 1) := by decide +kernel
theorem dX9_first_75 : decode cX9_first 75 = .ok (.ldc2_w 142, 3) := by decide +kernel
theorem dX9_first_78 : decode cX9_first 78 = .ok (.ldc2_w 147, 3) := by decide +kernel
theorem dX9_first_81 : decode cX9_first 81 = .ok (.invokestatic 60, 3) := by decide +kernel
theorem dX9_first_84 : decode cX9_first 84 = .ok (.goto 31, 3) := by decide +kernel
theorem dX9_first_87 : decode cX9_first 87 = .ok (.aload_n 0, 1) := by decide +kernel
theorem dX9_first_88 : decode cX9_first 88 = .ok (.getfield 39, 3) := by decide +kernel
theorem dX9_first_91 : decode cX9_first 91 = .ok (.iload 4, 2) := by decide +kernel
theorem dX9_first_93 : decode cX9_first 93 = .ok (.iaload, 1) := by decide +kernel
theorem dX9_first_94 : decode cX9_first 94 = .ok (.iconst 2, 1) := by decide +kernel
theorem dX9_first_95 : decode cX9_first 95 = .ok (.if_icmp .eq 15, 3) := by decide +kernel
theorem dX9_first_98 : decode cX9_first 98 = .ok (.aload_n 0, 1) := by decide +kernel
theorem dX9_first_99 : decode cX9_first 99 = .ok (.getfield 39, 3) := by decide +kernel
theorem dX9_first_102 : decode cX9_first 102 = .ok (.iload 4, 2) := by decide +kernel
theorem dX9_first_104 : decode cX9_first 104 = .ok (.iaload, 1) := by decide +kernel
theorem dX9_first_105 : decode cX9_first 105 = .ok (.bipush 6, 2) := by decide +kernel
theorem dX9_first_107 : decode cX9_first 107 = .ok (.if_icmp .ne 7, 3) := by decide +kernel
theorem dX9_first_110 : decode cX9_first 110 = .ok (.iconst 1, 1) := by decide +kernel
theorem dX9_first_111 : decode cX9_first 111 = .ok (.goto 4, 3) := by decide +kernel
theorem dX9_first_114 : decode cX9_first 114 = .ok (.iconst 0, 1) := by decide +kernel
theorem dX9_first_115 : decode cX9_first 115 = .ok (.istore 5, 2) := by decide +kernel
theorem dX9_first_117 : decode cX9_first 117 = .ok (.iload 5, 2) := by decide +kernel
theorem dX9_first_119 : decode cX9_first 119 = .ok (.ifCond .eq 12, 3) := by decide +kernel
theorem dX9_first_122 : decode cX9_first 122 = .ok (.iload 4, 2) := by decide +kernel
theorem dX9_first_124 : decode cX9_first 124 = .ok (.bipush 16, 2) := by decide +kernel
theorem dX9_first_126 : decode cX9_first 126 = .ok (.idiv, 1) := by decide +kernel
theorem dX9_first_127 : decode cX9_first 127 = .ok (.bipush 7, 2) := by decide +kernel
theorem dX9_first_129 : decode cX9_first 129 = .ok (.irem, 1) := by decide +kernel
theorem dX9_first_130 : decode cX9_first 130 = .ok (.ireturn, 1) := by decide +kernel
theorem dX9_first_131 : decode cX9_first 131 = .ok (.iinc 4 1, 3) := by decide +kernel
theorem dX9_first_134 : decode cX9_first 134 = .ok (.goto (-98), 3) := by decide +kernel
theorem dX9_first_137 : decode cX9_first 137 = .ok (.bipush (-2), 2) := by decide +kernel
theorem dX9_first_139 : decode cX9_first 139 = .ok (.ireturn, 1) := by decide +kernel
theorem dX9_days_0 : decode cX9_days 0 = .ok (.iload_n 1, 1) := by decide +kernel
theorem dX9_days_1 : decode cX9_days 1 = .ok (.invokestatic 126, 3) := by decide +kernel
theorem dX9_days_4 : decode cX9_days 4 = .ok (.ifCond .eq 15, 3) := by decide +kernel
theorem dX9_days_7 : decode cX9_days 7 = .ok (.iload_n 2, 1) := by decide +kernel
theorem dX9_days_8 : decode cX9_days 8 = .ok (.i2l, 1) := by decide +kernel
theorem dX9_days_9 : decode cX9_days 9 = .ok (.lconst 0, 1) := by decide +kernel
theorem dX9_days_10 : decode cX9_days 10 = .ok (.ldc2_w 72, 3) := by decide +kernel
theorem dX9_days_13 : decode cX9_days 13 = .ok (.invokestatic 60, 3) := by decide +kernel
theorem dX9_days_16 : decode cX9_days 16 = .ok (.ifCond .ne 5, 3) := by decide +kernel
theorem dX9_days_19 : decode cX9_days 19 = .ok (.iconst (-1), 1) := by decide +kernel
theorem dX9_days_20 : decode cX9_days 20 = .ok (.ireturn, 1) := by decide +kernel
theorem dX9_days_21 : decode cX9_days 21 = .ok (.aload_n 0, 1) := by decide +kernel
theorem dX9_days_22 : decode cX9_days 22 = .ok (.iload_n 1, 1) := by decide +kernel
theorem dX9_days_23 : decode cX9_days 23 = .ok (.invokevirtual 369, 3) := by decide +kernel
theorem dX9_days_26 : decode cX9_days 26 = .ok (.iconst 0, 1) := by decide +kernel
theorem dX9_days_27 : decode cX9_days 27 = .ok (.istore_n 3, 1) := by decide +kernel
theorem dX9_days_28 : decode cX9_days 28 = .ok (.iconst 0, 1) := by decide +kernel
theorem dX9_days_29 : decode cX9_days 29 = .ok (.istore 4, 2) := by decide +kernel
theorem dX9_days_31 : decode cX9_days 31 = .ok (.iload 4, 2) := by decide +kernel
theorem dX9_days_33 : decode cX9_days 33 = .ok (.sipush 784, 3) := by decide +kernel
theorem dX9_days_36 : decode cX9_days 36 = .ok (.if_icmp .ge 42, 3) := by decide +kernel
theorem dX9_days_39 : decode cX9_days 39 = .ok (.aload_n 0, 1) := by decide +kernel
theorem dX9_days_40 : decode cX9_days 40 = .ok (.getfield 36, 3) := by decide +kernel
theorem dX9_days_43 : decode cX9_days 43 = .ok (.iload 4, 2) := by decide +kernel
theorem dX9_days_45 : decode cX9_days 45 = .ok (.laload, 1) := by decide +kernel
theorem dX9_days_46 : decode cX9_days 46 = .ok (.lconst 0, 1) := by decide +kernel
theorem dX9_days_47 : decode cX9_days 47 = .ok (.lcmp, 1) := by decide +kernel
theorem dX9_days_48 : decode cX9_days 48 = .ok (.ifCond .le 24, 3) := by decide +kernel
theorem dX9_days_51 : decode cX9_days 51 = .ok (.aload_n 0, 1) := by decide +kernel
theorem dX9_days_52 : decode cX9_days 52 = .ok (.getfield 39, 3) := by decide +kernel
theorem dX9_days_55 : decode cX9_days 55 = .ok (.iload 4, 2) := by decide +kernel
theorem dX9_days_57 : decode cX9_days 57 = .ok (.iaload, 1) := by decide +kernel
theorem dX9_days_58 : decode cX9_days 58 = .ok (.iload_n 2, 1) := by decide +kernel
theorem dX9_days_59 : decode cX9_days 59 = .ok (.if_icmp .ne 13, 3) := by decide +kernel
theorem dX9_days_62 : decode cX9_days 62 = .ok (.iload_n 3, 1) := by decide +kernel
theorem dX9_days_63 : decode cX9_days 63 = .ok (.iconst 1, 1) := by decide +kernel
theorem dX9_days_64 : decode cX9_days 64 = .ok (.iload 4, 2) := by decide +kernel
theorem dX9_days_66 : decode cX9_days 66 = .ok (.invokestatic 372, 3) := by decide +kernel
theorem dX9_days_69 : decode cX9_days 69 = .ok (.ishl, 1) := by decide +kernel
theorem dX9_days_70 : decode cX9_days 70 = .ok (.ior, 1) := by decide +kernel
theorem dX9_days_71 : decode cX9_days 71 = .ok (.istore_n 3, 1) := by decide +kernel
theorem dX9_days_72 : decode cX9_days 72 = .ok (.iinc 4 1, 3) := by decide +kernel
theorem dX9_days_75 : decode cX9_days 75 = .ok (.goto (-44), 3) := by decide +kernel
theorem dX9_days_78 : decode cX9_days 78 = .ok (.iload_n 3, 1) := by decide +kernel
theorem dX9_days_79 : decode cX9_days 79 = .ok (.ireturn, 1) := by decide +kernel
theorem dX9_table_0 : decode cX9_table 0 = .ok (.iload_n 1, 1) := by decide +kernel
theorem dX9_table_1 : decode cX9_table 1 = .ok (.invokestatic 126, 3) := by decide +kernel
theorem dX9_table_4 : decode cX9_table 4 = .ok (.ifCond .eq 36, 3) := by decide +kernel
theorem dX9_table_7 : decode cX9_table 7 = .ok (.iload_n 2, 1) := by decide +kernel
theorem dX9_table_8 : decode cX9_table 8 = .ok (.i2l, 1) := by decide +kernel
theorem dX9_table_9 : decode cX9_table 9 = .ok (.lconst 0, 1) := by decide +kernel
theorem dX9_table_10 : decode cX9_table 10 = .ok (.aload_n 0, 1) := by decide +kernel
theorem dX9_table_11 : decode cX9_table 11 = .ok (.getfield 13, 3) := by decide +kernel
theorem dX9_table_14 : decode cX9_table 14 = .ok (.iconst 0, 1) := by decide +kernel
theorem dX9_table_15 : decode cX9_table 15 = .ok (.iaload, 1) := by decide +kernel
theorem dX9_table_16 : decode cX9_table 16 = .ok (.i2l, 1) := by decide +kernel
theorem dX9_table_17 : decode cX9_table 17 = .ok (.invokestatic 60, 3) := by decide +kernel
theorem dX9_table_20 : decode cX9_table 20 = .ok (.ifCond .eq 20, 3) := by decide +kernel
theorem dX9_table_23 : decode cX9_table 23 = .ok (.iload_n 3, 1) := by decide +kernel
theorem dX9_table_24 : decode cX9_table 24 = .ok (.ifCond .lt 16, 3) := by decide +kernel
theorem dX9_table_27 : decode cX9_table 27 = .ok (.iload 4, 2) := by decide +kernel
theorem dX9_table_29 : decode cX9_table 29 = .ok (.i2l, 1) := by decide +kernel
theorem dX9_table_30 : decode cX9_table 30 = .ok (.lconst 0, 1) := by decide +kernel
theorem dX9_table_31 : decode cX9_table 31 = .ok (.ldc2_w 147, 3) := by decide +kernel
theorem dX9_table_34 : decode cX9_table 34 = .ok (.invokestatic 60, 3) := by decide +kernel
theorem dX9_table_37 : decode cX9_table 37 = .ok (.ifCond .ne 7, 3) := by decide +kernel
theorem dX9_table_40 : decode cX9_table 40 = .ok (.ldc2_w 116, 3) := by decide +kernel
theorem dX9_table_43 : decode cX9_table 43 = .ok (.lreturn, 1) := by decide +kernel
theorem dX9_table_44 : decode cX9_table 44 = .ok (.aload_n 0, 1) := by decide +kernel
theorem dX9_table_45 : decode cX9_table 45 = .ok (.iload_n 1, 1) := by decide +kernel
theorem dX9_table_46 : decode cX9_table 46 = .ok (.invokevirtual 369, 3) := by decide +kernel
theorem dX9_table_49 : decode cX9_table 49 = .ok (.iload_n 3, 1) := by decide +kernel
theorem dX9_table_50 : decode cX9_table 50 = .ok (.istore 5, 2) := by decide +kernel
theorem dX9_table_52 : decode cX9_table 52 = .ok (.iconst 0, 1) := by decide +kernel
theorem dX9_table_53 : decode cX9_table 53 = .ok (.istore 6, 2) := by decide +kernel
theorem dX9_table_55 : decode cX9_table 55 = .ok (.iload 6, 2) := by decide +kernel
theorem dX9_table_57 : decode cX9_table 57 = .ok (.iload_n 2, 1) := by decide +kernel
theorem dX9_table_58 : decode cX9_table 58 = .ok (.if_icmp .gt 138, 3) := by decide +kernel
theorem dX9_table_61 : decode cX9_table 61 = .ok (.iconst 0, 1) := by decide +kernel
theorem dX9_table_62 : decode cX9_table 62 = .ok (.istore 7, 2) := by decide +kernel
theorem dX9_table_64 : decode cX9_table 64 = .ok (.iload 7, 2) := by decide +kernel
theorem dX9_table_66 : decode cX9_table 66 = .ok (.bipush 8, 2) := by decide +kernel
theorem dX9_table_68 : decode cX9_table 68 = .ok (.if_icmp .ge 122, 3) := by decide +kernel
theorem dX9_table_71 : decode cX9_table 71 = .ok (.iconst 0, 1) := by decide +kernel
theorem dX9_table_72 : decode cX9_table 72 = .ok (.istore 8, 2) := by decide +kernel
theorem dX9_table_74 : decode cX9_table 74 = .ok (.iload 8, 2) := by decide +kernel
theorem dX9_table_76 : decode cX9_table 76 = .ok (.iconst 2, 1) := by decide +kernel
theorem dX9_table_77 : decode cX9_table 77 = .ok (.if_icmp .ge 107, 3) := by decide +kernel
theorem dX9_table_80 : decode cX9_table 80 = .ok (.iload_n 2, 1) := by decide +kernel
theorem dX9_table_81 : decode cX9_table 81 = .ok (.iload 6, 2) := by decide +kernel
theorem dX9_table_83 : decode cX9_table 83 = .ok (.iload 8, 2) := by decide +kernel
theorem dX9_table_85 : decode cX9_table 85 = .ok (.iload 7, 2) := by decide +kernel
theorem dX9_table_87 : decode cX9_table 87 = .ok (.invokestatic 267, 3) := by decide +kernel
theorem dX9_table_90 : decode cX9_table 90 = .ok (.istore 9, 2) := by decide +kernel
theorem dX9_table_92 : decode cX9_table 92 = .ok (.aload_n 0, 1) := by decide +kernel
theorem dX9_table_93 : decode cX9_table 93 = .ok (.getfield 36, 3) := by decide +kernel
theorem dX9_table_96 : decode cX9_table 96 = .ok (.iload 9, 2) := by decide +kernel
theorem dX9_table_98 : decode cX9_table 98 = .ok (.laload, 1) := by decide +kernel
theorem dX9_table_99 : decode cX9_table 99 = .ok (.lconst 0, 1) := by decide +kernel
theorem dX9_table_100 : decode cX9_table 100 = .ok (.lcmp, 1) := by decide +kernel
theorem dX9_table_101 : decode cX9_table 101 = .ok (.ifCond .ne 6, 3) := by decide +kernel
theorem dX9_table_104 : decode cX9_table 104 = .ok (.goto 74, 3) := by decide +kernel
theorem dX9_table_107 : decode cX9_table 107 = .ok (.iload 5, 2) := by decide +kernel
theorem dX9_table_109 : decode cX9_table 109 = .ok (.ifCond .ne 63, 3) := by decide +kernel
theorem dX9_table_112 : decode cX9_table 112 = .ok (.iload 4, 2) := by decide +kernel
theorem dX9_table_114 : decode cX9_table 114 = .ok (.ifCond .ne 9, 3) := by decide +kernel
theorem dX9_table_117 : decode cX9_table 117 = .ok (.iload 6, 2) := by decide +kernel
theorem dX9_table_119 : decode cX9_table 119 = .ok (.i2l, 1) := by decide +kernel
theorem dX9_table_120 : decode cX9_table 120 = .ok (.goto 51, 3) := by decide +kernel
theorem dX9_table_123 : decode cX9_table 123 = .ok (.iload 4, 2) := by decide +kernel
theorem dX9_table_125 : decode cX9_table 125 = .ok (.iconst 1, 1) := by decide +kernel
theorem dX9_table_126 : decode cX9_table 126 = .ok (.if_icmp .ne 9, 3) := by decide +kernel
theorem dX9_table_129 : decode cX9_table 129 = .ok (.iload 7, 2) := by decide +kernel
theorem dX9_table_131 : decode cX9_table 131 = .ok (.i2l, 1) := by decide +kernel
theorem dX9_table_132 : decode cX9_table 132 = .ok (.goto 39, 3) := by decide +kernel
theorem dX9_table_135 : decode cX9_table 135 = .ok (.iload 4, 2) := by decide +kernel
theorem dX9_table_137 : decode cX9_table 137 = .ok (.iconst 2, 1) := by decide +kernel
theorem dX9_table_138 : decode cX9_table 138 = .ok (.if_icmp .ne 9, 3) := by decide +kernel
theorem dX9_table_141 : decode cX9_table 141 = .ok (.iload 8, 2) := by decide +kernel
theorem dX9_table_143 : decode cX9_table 143 = .ok (.i2l, 1) := by decide +kernel
theorem dX9_table_144 : decode cX9_table 144 = .ok (.goto 27, 3) := by decide +kernel
theorem dX9_table_147 : decode cX9_table 147 = .ok (.iload 4, 2) := by decide +kernel
theorem dX9_table_149 : decode cX9_table 149 = .ok (.iconst 3, 1) := by decide +kernel
theorem dX9_table_150 : decode cX9_table 150 = .ok (.if_icmp .ne 13, 3) := by decide +kernel
theorem dX9_table_153 : decode cX9_table 153 = .ok (.aload_n 0, 1) := by decide +kernel
theorem dX9_table_154 : decode cX9_table 154 = .ok (.getfield 30, 3) := by decide +kernel
theorem dX9_table_157 : decode cX9_table 157 = .ok (.iload 9, 2) := by decide +kernel
theorem dX9_table_159 : decode cX9_table 159 = .ok (.laload, 1) := by decide +kernel
theorem dX9_table_160 : decode cX9_table 160 = .ok (.goto 11, 3) := by decide +kernel
theorem dX9_table_163 : decode cX9_table 163 = .ok (.aload_n 0, 1) := by decide +kernel
theorem dX9_table_164 : decode cX9_table 164 = .ok (.getfield 39, 3) := by decide +kernel
theorem dX9_table_167 : decode cX9_table 167 = .ok (.iload 9, 2) := by decide +kernel
theorem dX9_table_169 : decode cX9_table 169 = .ok (.iaload, 1) := by decide +kernel
theorem dX9_table_170 : decode cX9_table 170 = .ok (.i2l, 1) := by decide +kernel
theorem dX9_table_171 : decode cX9_table 171 = .ok (.lreturn, 1) := by decide +kernel
theorem dX9_table_172 : decode cX9_table 172 = .ok (.iload 5, 2) := by decide +kernel
theorem dX9_table_174 : decode cX9_table 174 = .ok (.iconst 1, 1) := by decide +kernel
theorem dX9_table_175 : decode cX9_table 175 = .ok (.isub, 1) := by decide +kernel
theorem dX9_table_176 : decode cX9_table 176 = .ok (.istore 5, 2) := by decide +kernel
theorem dX9_table_178 : decode cX9_table 178 = .ok (.iinc 8 1, 3) := by decide +kernel
theorem dX9_table_181 : decode cX9_table 181 = .ok (.goto (-107), 3) := by decide +kernel
theorem dX9_table_184 : decode cX9_table 184 = .ok (.iinc 7 1, 3) := by decide +kernel
theorem dX9_table_187 : decode cX9_table 187 = .ok (.goto (-123), 3) := by decide +kernel
theorem dX9_table_190 : decode cX9_table 190 = .ok (.iinc 6 1, 3) := by decide +kernel
theorem dX9_table_193 : decode cX9_table 193 = .ok (.goto (-138), 3) := by decide +kernel
theorem dX9_table_196 : decode cX9_table 196 = .ok (.ldc2_w 343, 3) := by decide +kernel
theorem dX9_table_199 : decode cX9_table 199 = .ok (.lreturn, 1) := by decide +kernel
theorem dX9_rise_0 : decode cX9_rise 0 = .ok (.aload_n 0, 1) := by decide +kernel
theorem dX9_rise_1 : decode cX9_rise 1 = .ok (.getfield 26, 3) := by decide +kernel
theorem dX9_rise_4 : decode cX9_rise 4 = .ok (.bipush 7, 2) := by decide +kernel
theorem dX9_rise_6 : decode cX9_rise 6 = .ok (.aload_n 0, 1) := by decide +kernel
theorem dX9_rise_7 : decode cX9_rise 7 = .ok (.getfield 316, 3) := by decide +kernel
theorem dX9_rise_10 : decode cX9_rise 10 = .ok (.iconst 1, 1) := by decide +kernel
theorem dX9_rise_11 : decode cX9_rise 11 = .ok (.iadd, 1) := by decide +kernel
theorem dX9_rise_12 : decode cX9_rise 12 = .ok (.imul, 1) := by decide +kernel
theorem dX9_rise_13 : decode cX9_rise 13 = .ok (.aload_n 0, 1) := by decide +kernel
theorem dX9_rise_14 : decode cX9_rise 14 = .ok (.getfield 319, 3) := by decide +kernel
theorem dX9_rise_17 : decode cX9_rise 17 = .ok (.iadd, 1) := by decide +kernel
theorem dX9_rise_18 : decode cX9_rise 18 = .ok (.iconst 1, 1) := by decide +kernel
theorem dX9_rise_19 : decode cX9_rise 19 = .ok (.iadd, 1) := by decide +kernel
theorem dX9_rise_20 : decode cX9_rise 20 = .ok (.laload, 1) := by decide +kernel
theorem dX9_rise_21 : decode cX9_rise 21 = .ok (.aload_n 0, 1) := by decide +kernel
theorem dX9_rise_22 : decode cX9_rise 22 = .ok (.getfield 26, 3) := by decide +kernel
theorem dX9_rise_25 : decode cX9_rise 25 = .ok (.bipush 7, 2) := by decide +kernel
theorem dX9_rise_27 : decode cX9_rise 27 = .ok (.aload_n 0, 1) := by decide +kernel
theorem dX9_rise_28 : decode cX9_rise 28 = .ok (.getfield 316, 3) := by decide +kernel
theorem dX9_rise_31 : decode cX9_rise 31 = .ok (.iconst 1, 1) := by decide +kernel
theorem dX9_rise_32 : decode cX9_rise 32 = .ok (.iadd, 1) := by decide +kernel
theorem dX9_rise_33 : decode cX9_rise 33 = .ok (.imul, 1) := by decide +kernel
theorem dX9_rise_34 : decode cX9_rise 34 = .ok (.aload_n 0, 1) := by decide +kernel
theorem dX9_rise_35 : decode cX9_rise 35 = .ok (.getfield 319, 3) := by decide +kernel
theorem dX9_rise_38 : decode cX9_rise 38 = .ok (.iadd, 1) := by decide +kernel
theorem dX9_rise_39 : decode cX9_rise 39 = .ok (.laload, 1) := by decide +kernel
theorem dX9_rise_40 : decode cX9_rise 40 = .ok (.lsub, 1) := by decide +kernel
theorem dX9_rise_41 : decode cX9_rise 41 = .ok (.lreturn, 1) := by decide +kernel
theorem dX9_heldOf_0 : decode cX9_heldOf 0 = .ok (.aload_n 0, 1) := by decide +kernel
theorem dX9_heldOf_1 : decode cX9_heldOf 1 = .ok (.getfield 30, 3) := by decide +kernel
theorem dX9_heldOf_4 : decode cX9_heldOf 4 = .ok (.aload_n 0, 1) := by decide +kernel
theorem dX9_heldOf_5 : decode cX9_heldOf 5 = .ok (.iload_n 1, 1) := by decide +kernel
theorem dX9_heldOf_6 : decode cX9_heldOf 6 = .ok (.aload_n 0, 1) := by decide +kernel
theorem dX9_heldOf_7 : decode cX9_heldOf 7 = .ok (.getfield 316, 3) := by decide +kernel
theorem dX9_heldOf_10 : decode cX9_heldOf 10 = .ok (.aload_n 0, 1) := by decide +kernel
theorem dX9_heldOf_11 : decode cX9_heldOf 11 = .ok (.getfield 319, 3) := by decide +kernel
theorem dX9_heldOf_14 : decode cX9_heldOf 14 = .ok (.aload_n 0, 1) := by decide +kernel
theorem dX9_heldOf_15 : decode cX9_heldOf 15 = .ok (.getfield 322, 3) := by decide +kernel
theorem dX9_heldOf_18 : decode cX9_heldOf 18 = .ok (.aload_n 0, 1) := by decide +kernel
theorem dX9_heldOf_19 : decode cX9_heldOf 19 = .ok (.getfield 325, 3) := by decide +kernel
theorem dX9_heldOf_22 : decode cX9_heldOf 22 = .ok (.iconst 1, 1) := by decide +kernel
theorem dX9_heldOf_23 : decode cX9_heldOf 23 = .ok (.invokevirtual 277, 3) := by decide +kernel
theorem dX9_heldOf_26 : decode cX9_heldOf 26 = .ok (.laload, 1) := by decide +kernel
theorem dX9_heldOf_27 : decode cX9_heldOf 27 = .ok (.lstore_n 2, 1) := by decide +kernel
theorem dX9_heldOf_28 : decode cX9_heldOf 28 = .ok (.aload_n 0, 1) := by decide +kernel
theorem dX9_heldOf_29 : decode cX9_heldOf 29 = .ok (.getfield 30, 3) := by decide +kernel
theorem dX9_heldOf_32 : decode cX9_heldOf 32 = .ok (.aload_n 0, 1) := by decide +kernel
theorem dX9_heldOf_33 : decode cX9_heldOf 33 = .ok (.iload_n 1, 1) := by decide +kernel
theorem dX9_heldOf_34 : decode cX9_heldOf 34 = .ok (.aload_n 0, 1) := by decide +kernel
theorem dX9_heldOf_35 : decode cX9_heldOf 35 = .ok (.getfield 316, 3) := by decide +kernel
theorem dX9_heldOf_38 : decode cX9_heldOf 38 = .ok (.aload_n 0, 1) := by decide +kernel
theorem dX9_heldOf_39 : decode cX9_heldOf 39 = .ok (.getfield 319, 3) := by decide +kernel
theorem dX9_heldOf_42 : decode cX9_heldOf 42 = .ok (.aload_n 0, 1) := by decide +kernel
theorem dX9_heldOf_43 : decode cX9_heldOf 43 = .ok (.getfield 322, 3) := by decide +kernel
theorem dX9_heldOf_46 : decode cX9_heldOf 46 = .ok (.aload_n 0, 1) := by decide +kernel
theorem dX9_heldOf_47 : decode cX9_heldOf 47 = .ok (.getfield 325, 3) := by decide +kernel
theorem dX9_heldOf_50 : decode cX9_heldOf 50 = .ok (.iconst 0, 1) := by decide +kernel
theorem dX9_heldOf_51 : decode cX9_heldOf 51 = .ok (.invokevirtual 277, 3) := by decide +kernel
theorem dX9_heldOf_54 : decode cX9_heldOf 54 = .ok (.laload, 1) := by decide +kernel
theorem dX9_heldOf_55 : decode cX9_heldOf 55 = .ok (.lstore 4, 2) := by decide +kernel
theorem dX9_heldOf_57 : decode cX9_heldOf 57 = .ok (.ldc2_w 74, 3) := by decide +kernel
theorem dX9_heldOf_60 : decode cX9_heldOf 60 = .ok (.lload_n 2, 1) := by decide +kernel
theorem dX9_heldOf_61 : decode cX9_heldOf 61 = .ok (.lload 4, 2) := by decide +kernel
theorem dX9_heldOf_63 : decode cX9_heldOf 63 = .ok (.lsub, 1) := by decide +kernel
theorem dX9_heldOf_64 : decode cX9_heldOf 64 = .ok (.lmul, 1) := by decide +kernel
theorem dX9_heldOf_65 : decode cX9_heldOf 65 = .ok (.aload_n 0, 1) := by decide +kernel
theorem dX9_heldOf_66 : decode cX9_heldOf 66 = .ok (.invokevirtual 382, 3) := by decide +kernel
theorem dX9_heldOf_69 : decode cX9_heldOf 69 = .ok (.ldiv, 1) := by decide +kernel
theorem dX9_heldOf_70 : decode cX9_heldOf 70 = .ok (.lreturn, 1) := by decide +kernel
theorem dX9_held_0 : decode cX9_held 0 = .ok (.iload_n 1, 1) := by decide +kernel
theorem dX9_held_1 : decode cX9_held 1 = .ok (.invokestatic 126, 3) := by decide +kernel
theorem dX9_held_4 : decode cX9_held 4 = .ok (.ifCond .ne 7, 3) := by decide +kernel
theorem dX9_held_7 : decode cX9_held 7 = .ok (.ldc2_w 364, 3) := by decide +kernel
theorem dX9_held_10 : decode cX9_held 10 = .ok (.lreturn, 1) := by decide +kernel
theorem dX9_held_11 : decode cX9_held 11 = .ok (.aload_n 0, 1) := by decide +kernel
theorem dX9_held_12 : decode cX9_held 12 = .ok (.iload_n 1, 1) := by decide +kernel
theorem dX9_held_13 : decode cX9_held 13 = .ok (.invokevirtual 334, 3) := by decide +kernel
theorem dX9_held_16 : decode cX9_held 16 = .ok (.aload_n 0, 1) := by decide +kernel
theorem dX9_held_17 : decode cX9_held 17 = .ok (.iload_n 1, 1) := by decide +kernel
theorem dX9_held_18 : decode cX9_held 18 = .ok (.aload_n 0, 1) := by decide +kernel
theorem dX9_held_19 : decode cX9_held 19 = .ok (.getfield 76, 3) := by decide +kernel
theorem dX9_held_22 : decode cX9_held 22 = .ok (.invokevirtual 337, 3) := by decide +kernel
theorem dX9_held_25 : decode cX9_held 25 = .ok (.aload_n 0, 1) := by decide +kernel
theorem dX9_held_26 : decode cX9_held 26 = .ok (.getfield 316, 3) := by decide +kernel
theorem dX9_held_29 : decode cX9_held 29 = .ok (.aload_n 0, 1) := by decide +kernel
theorem dX9_held_30 : decode cX9_held 30 = .ok (.getfield 94, 3) := by decide +kernel
theorem dX9_held_33 : decode cX9_held 33 = .ok (.if_icmp .ne 9, 3) := by decide +kernel
theorem dX9_held_36 : decode cX9_held 36 = .ok (.ldc2_w 343, 3) := by decide +kernel
theorem dX9_held_39 : decode cX9_held 39 = .ok (.goto 23, 3) := by decide +kernel
theorem dX9_held_42 : decode cX9_held 42 = .ok (.aload_n 0, 1) := by decide +kernel
theorem dX9_held_43 : decode cX9_held 43 = .ok (.invokevirtual 382, 3) := by decide +kernel
theorem dX9_held_46 : decode cX9_held 46 = .ok (.lconst 0, 1) := by decide +kernel
theorem dX9_held_47 : decode cX9_held 47 = .ok (.lcmp, 1) := by decide +kernel
theorem dX9_held_48 : decode cX9_held 48 = .ok (.ifCond .ne 9, 3) := by decide +kernel
theorem dX9_held_51 : decode cX9_held 51 = .ok (.ldc2_w 386, 3) := by decide +kernel
theorem dX9_held_54 : decode cX9_held 54 = .ok (.goto 8, 3) := by decide +kernel
theorem dX9_held_57 : decode cX9_held 57 = .ok (.aload_n 0, 1) := by decide +kernel
theorem dX9_held_58 : decode cX9_held 58 = .ok (.iload_n 1, 1) := by decide +kernel
theorem dX9_held_59 : decode cX9_held 59 = .ok (.invokevirtual 388, 3) := by decide +kernel
theorem dX9_held_62 : decode cX9_held 62 = .ok (.lreturn, 1) := by decide +kernel
theorem dX9_hedged_0 : decode cX9_hedged 0 = .ok (.iload_n 1, 1) := by decide +kernel
theorem dX9_hedged_1 : decode cX9_hedged 1 = .ok (.invokestatic 126, 3) := by decide +kernel
theorem dX9_hedged_4 : decode cX9_hedged 4 = .ok (.ifCond .ne 7, 3) := by decide +kernel
theorem dX9_hedged_7 : decode cX9_hedged 7 = .ok (.ldc2_w 364, 3) := by decide +kernel
theorem dX9_hedged_10 : decode cX9_hedged 10 = .ok (.lreturn, 1) := by decide +kernel
theorem dX9_hedged_11 : decode cX9_hedged 11 = .ok (.aload_n 0, 1) := by decide +kernel
theorem dX9_hedged_12 : decode cX9_hedged 12 = .ok (.iload_n 1, 1) := by decide +kernel
theorem dX9_hedged_13 : decode cX9_hedged 13 = .ok (.invokevirtual 334, 3) := by decide +kernel
theorem dX9_hedged_16 : decode cX9_hedged 16 = .ok (.aload_n 0, 1) := by decide +kernel
theorem dX9_hedged_17 : decode cX9_hedged 17 = .ok (.iload_n 1, 1) := by decide +kernel
theorem dX9_hedged_18 : decode cX9_hedged 18 = .ok (.invokevirtual 328, 3) := by decide +kernel
theorem dX9_hedged_21 : decode cX9_hedged 21 = .ok (.aload_n 0, 1) := by decide +kernel
theorem dX9_hedged_22 : decode cX9_hedged 22 = .ok (.getfield 30, 3) := by decide +kernel
theorem dX9_hedged_25 : decode cX9_hedged 25 = .ok (.aload_n 0, 1) := by decide +kernel
theorem dX9_hedged_26 : decode cX9_hedged 26 = .ok (.invokevirtual 340, 3) := by decide +kernel
theorem dX9_hedged_29 : decode cX9_hedged 29 = .ok (.laload, 1) := by decide +kernel
theorem dX9_hedged_30 : decode cX9_hedged 30 = .ok (.lstore_n 2, 1) := by decide +kernel
theorem dX9_hedged_31 : decode cX9_hedged 31 = .ok (.lconst 0, 1) := by decide +kernel
theorem dX9_hedged_32 : decode cX9_hedged 32 = .ok (.lstore 4, 2) := by decide +kernel
theorem dX9_hedged_34 : decode cX9_hedged 34 = .ok (.iconst 0, 1) := by decide +kernel
theorem dX9_hedged_35 : decode cX9_hedged 35 = .ok (.istore 6, 2) := by decide +kernel
theorem dX9_hedged_37 : decode cX9_hedged 37 = .ok (.aload_n 0, 1) := by decide +kernel
theorem dX9_hedged_38 : decode cX9_hedged 38 = .ok (.getfield 39, 3) := by decide +kernel
theorem dX9_hedged_41 : decode cX9_hedged 41 = .ok (.aload_n 0, 1) := by decide +kernel
theorem dX9_hedged_42 : decode cX9_hedged 42 = .ok (.invokevirtual 340, 3) := by decide +kernel
theorem dX9_hedged_45 : decode cX9_hedged 45 = .ok (.iaload, 1) := by decide +kernel
theorem dX9_hedged_46 : decode cX9_hedged 46 = .ok (.ifCond .ne 154, 3) := by decide +kernel
theorem dX9_hedged_49 : decode cX9_hedged 49 = .ok (.iload 6, 2) := by decide +kernel
theorem dX9_hedged_51 : decode cX9_hedged 51 = .ok (.aload_n 0, 1) := by decide +kernel
theorem dX9_hedged_52 : decode cX9_hedged 52 = .ok (.getfield 76, 3) := by decide +kernel
theorem dX9_hedged_55 : decode cX9_hedged 55 = .ok (.if_icmp .ne 7, 3) := by decide +kernel
theorem dX9_hedged_58 : decode cX9_hedged 58 = .ok (.ldc2_w 343, 3) := by decide +kernel
theorem dX9_hedged_61 : decode cX9_hedged 61 = .ok (.lreturn, 1) := by decide +kernel
theorem dX9_hedged_62 : decode cX9_hedged 62 = .ok (.aload_n 0, 1) := by decide +kernel
theorem dX9_hedged_63 : decode cX9_hedged 63 = .ok (.invokevirtual 382, 3) := by decide +kernel
theorem dX9_hedged_66 : decode cX9_hedged 66 = .ok (.lconst 0, 1) := by decide +kernel
theorem dX9_hedged_67 : decode cX9_hedged 67 = .ok (.lcmp, 1) := by decide +kernel
theorem dX9_hedged_68 : decode cX9_hedged 68 = .ok (.ifCond .ne 7, 3) := by decide +kernel
theorem dX9_hedged_71 : decode cX9_hedged 71 = .ok (.lconst 0, 1) := by decide +kernel
theorem dX9_hedged_72 : decode cX9_hedged 72 = .ok (.goto 8, 3) := by decide +kernel
theorem dX9_hedged_75 : decode cX9_hedged 75 = .ok (.aload_n 0, 1) := by decide +kernel
theorem dX9_hedged_76 : decode cX9_hedged 76 = .ok (.iload_n 1, 1) := by decide +kernel
theorem dX9_hedged_77 : decode cX9_hedged 77 = .ok (.invokevirtual 388, 3) := by decide +kernel
theorem dX9_hedged_80 : decode cX9_hedged 80 = .ok (.lstore 7, 2) := by decide +kernel
theorem dX9_hedged_82 : decode cX9_hedged 82 = .ok (.lload 7, 2) := by decide +kernel
theorem dX9_hedged_84 : decode cX9_hedged 84 = .ok (.ldc2_w 391, 3) := by decide +kernel
theorem dX9_hedged_87 : decode cX9_hedged 87 = .ok (.lcmp, 1) := by decide +kernel
theorem dX9_hedged_88 : decode cX9_hedged 88 = .ok (.ifCond .le 9, 3) := by decide +kernel
theorem dX9_hedged_91 : decode cX9_hedged 91 = .ok (.ldc2_w 391, 3) := by decide +kernel
theorem dX9_hedged_94 : decode cX9_hedged 94 = .ok (.goto 20, 3) := by decide +kernel
theorem dX9_hedged_97 : decode cX9_hedged 97 = .ok (.lload 7, 2) := by decide +kernel
theorem dX9_hedged_99 : decode cX9_hedged 99 = .ok (.ldc2_w 393, 3) := by decide +kernel
theorem dX9_hedged_102 : decode cX9_hedged 102 = .ok (.lcmp, 1) := by decide +kernel
theorem dX9_hedged_103 : decode cX9_hedged 103 = .ok (.ifCond .ge 9, 3) := by decide +kernel
theorem dX9_hedged_106 : decode cX9_hedged 106 = .ok (.ldc2_w 393, 3) := by decide +kernel
theorem dX9_hedged_109 : decode cX9_hedged 109 = .ok (.goto 5, 3) := by decide +kernel
theorem dX9_hedged_112 : decode cX9_hedged 112 = .ok (.lload 7, 2) := by decide +kernel
theorem dX9_hedged_114 : decode cX9_hedged 114 = .ok (.lstore 7, 2) := by decide +kernel
theorem dX9_hedged_116 : decode cX9_hedged 116 = .ok (.lload_n 2, 1) := by decide +kernel
theorem dX9_hedged_117 : decode cX9_hedged 117 = .ok (.lload 7, 2) := by decide +kernel
theorem dX9_hedged_119 : decode cX9_hedged 119 = .ok (.lload 4, 2) := by decide +kernel
theorem dX9_hedged_121 : decode cX9_hedged 121 = .ok (.lsub, 1) := by decide +kernel
theorem dX9_hedged_122 : decode cX9_hedged 122 = .ok (.aload_n 0, 1) := by decide +kernel
theorem dX9_hedged_123 : decode cX9_hedged 123 = .ok (.getfield 26, 3) := by decide +kernel
theorem dX9_hedged_126 : decode cX9_hedged 126 = .ok (.bipush 7, 2) := by decide +kernel
theorem dX9_hedged_128 : decode cX9_hedged 128 = .ok (.aload_n 0, 1) := by decide +kernel
theorem dX9_hedged_129 : decode cX9_hedged 129 = .ok (.getfield 316, 3) := by decide +kernel
theorem dX9_hedged_132 : decode cX9_hedged 132 = .ok (.imul, 1) := by decide +kernel
theorem dX9_hedged_133 : decode cX9_hedged 133 = .ok (.aload_n 0, 1) := by decide +kernel
theorem dX9_hedged_134 : decode cX9_hedged 134 = .ok (.getfield 319, 3) := by decide +kernel
theorem dX9_hedged_137 : decode cX9_hedged 137 = .ok (.iadd, 1) := by decide +kernel
theorem dX9_hedged_138 : decode cX9_hedged 138 = .ok (.laload, 1) := by decide +kernel
theorem dX9_hedged_139 : decode cX9_hedged 139 = .ok (.lmul, 1) := by decide +kernel
theorem dX9_hedged_140 : decode cX9_hedged 140 = .ok (.ldc2_w 74, 3) := by decide +kernel
theorem dX9_hedged_143 : decode cX9_hedged 143 = .ok (.ldiv, 1) := by decide +kernel
theorem dX9_hedged_144 : decode cX9_hedged 144 = .ok (.lsub, 1) := by decide +kernel
theorem dX9_hedged_145 : decode cX9_hedged 145 = .ok (.lstore_n 2, 1) := by decide +kernel
theorem dX9_hedged_146 : decode cX9_hedged 146 = .ok (.lload 7, 2) := by decide +kernel
theorem dX9_hedged_148 : decode cX9_hedged 148 = .ok (.lstore 4, 2) := by decide +kernel
theorem dX9_hedged_150 : decode cX9_hedged 150 = .ok (.lload_n 2, 1) := by decide +kernel
theorem dX9_hedged_151 : decode cX9_hedged 151 = .ok (.sipush 1000, 3) := by decide +kernel
theorem dX9_hedged_154 : decode cX9_hedged 154 = .ok (.aload_n 0, 1) := by decide +kernel
theorem dX9_hedged_155 : decode cX9_hedged 155 = .ok (.getfield 103, 3) := by decide +kernel
theorem dX9_hedged_158 : decode cX9_hedged 158 = .ok (.iadd, 1) := by decide +kernel
theorem dX9_hedged_159 : decode cX9_hedged 159 = .ok (.i2l, 1) := by decide +kernel
theorem dX9_hedged_160 : decode cX9_hedged 160 = .ok (.lmul, 1) := by decide +kernel
theorem dX9_hedged_161 : decode cX9_hedged 161 = .ok (.ldc2_w 74, 3) := by decide +kernel
theorem dX9_hedged_164 : decode cX9_hedged 164 = .ok (.ldiv, 1) := by decide +kernel
theorem dX9_hedged_165 : decode cX9_hedged 165 = .ok (.lstore_n 2, 1) := by decide +kernel
theorem dX9_hedged_166 : decode cX9_hedged 166 = .ok (.aload_n 0, 1) := by decide +kernel
theorem dX9_hedged_167 : decode cX9_hedged 167 = .ok (.iload_n 1, 1) := by decide +kernel
theorem dX9_hedged_168 : decode cX9_hedged 168 = .ok (.aload_n 0, 1) := by decide +kernel
theorem dX9_hedged_169 : decode cX9_hedged 169 = .ok (.getfield 20, 3) := by decide +kernel
theorem dX9_hedged_172 : decode cX9_hedged 172 = .ok (.iload 6, 2) := by decide +kernel
theorem dX9_hedged_174 : decode cX9_hedged 174 = .ok (.iaload, 1) := by decide +kernel
theorem dX9_hedged_175 : decode cX9_hedged 175 = .ok (.invokevirtual 331, 3) := by decide +kernel
theorem dX9_hedged_178 : decode cX9_hedged 178 = .ok (.lload_n 2, 1) := by decide +kernel
theorem dX9_hedged_179 : decode cX9_hedged 179 = .ok (.aload_n 0, 1) := by decide +kernel
theorem dX9_hedged_180 : decode cX9_hedged 180 = .ok (.iload_n 1, 1) := by decide +kernel
theorem dX9_hedged_181 : decode cX9_hedged 181 = .ok (.aload_n 0, 1) := by decide +kernel
theorem dX9_hedged_182 : decode cX9_hedged 182 = .ok (.getfield 316, 3) := by decide +kernel
theorem dX9_hedged_185 : decode cX9_hedged 185 = .ok (.invokevirtual 281, 3) := by decide +kernel
theorem dX9_hedged_188 : decode cX9_hedged 188 = .ok (.i2l, 1) := by decide +kernel
theorem dX9_hedged_189 : decode cX9_hedged 189 = .ok (.lsub, 1) := by decide +kernel
theorem dX9_hedged_190 : decode cX9_hedged 190 = .ok (.lstore_n 2, 1) := by decide +kernel
theorem dX9_hedged_191 : decode cX9_hedged 191 = .ok (.iload 6, 2) := by decide +kernel
theorem dX9_hedged_193 : decode cX9_hedged 193 = .ok (.iconst 1, 1) := by decide +kernel
theorem dX9_hedged_194 : decode cX9_hedged 194 = .ok (.iadd, 1) := by decide +kernel
theorem dX9_hedged_195 : decode cX9_hedged 195 = .ok (.istore 6, 2) := by decide +kernel
theorem dX9_hedged_197 : decode cX9_hedged 197 = .ok (.goto (-160), 3) := by decide +kernel
theorem dX9_hedged_200 : decode cX9_hedged 200 = .ok (.lload_n 2, 1) := by decide +kernel
theorem dX9_hedged_201 : decode cX9_hedged 201 = .ok (.lload 4, 2) := by decide +kernel
theorem dX9_hedged_203 : decode cX9_hedged 203 = .ok (.aload_n 0, 1) := by decide +kernel
theorem dX9_hedged_204 : decode cX9_hedged 204 = .ok (.getfield 26, 3) := by decide +kernel
theorem dX9_hedged_207 : decode cX9_hedged 207 = .ok (.bipush 7, 2) := by decide +kernel
theorem dX9_hedged_209 : decode cX9_hedged 209 = .ok (.aload_n 0, 1) := by decide +kernel
theorem dX9_hedged_210 : decode cX9_hedged 210 = .ok (.getfield 316, 3) := by decide +kernel
theorem dX9_hedged_213 : decode cX9_hedged 213 = .ok (.imul, 1) := by decide +kernel
theorem dX9_hedged_214 : decode cX9_hedged 214 = .ok (.aload_n 0, 1) := by decide +kernel
theorem dX9_hedged_215 : decode cX9_hedged 215 = .ok (.getfield 319, 3) := by decide +kernel
theorem dX9_hedged_218 : decode cX9_hedged 218 = .ok (.iadd, 1) := by decide +kernel
theorem dX9_hedged_219 : decode cX9_hedged 219 = .ok (.laload, 1) := by decide +kernel
theorem dX9_hedged_220 : decode cX9_hedged 220 = .ok (.lmul, 1) := by decide +kernel
theorem dX9_hedged_221 : decode cX9_hedged 221 = .ok (.ldc2_w 74, 3) := by decide +kernel
theorem dX9_hedged_224 : decode cX9_hedged 224 = .ok (.ldiv, 1) := by decide +kernel
theorem dX9_hedged_225 : decode cX9_hedged 225 = .ok (.ladd, 1) := by decide +kernel
theorem dX9_hedged_226 : decode cX9_hedged 226 = .ok (.aload_n 0, 1) := by decide +kernel
theorem dX9_hedged_227 : decode cX9_hedged 227 = .ok (.iload_n 1, 1) := by decide +kernel
theorem dX9_hedged_228 : decode cX9_hedged 228 = .ok (.aload_n 0, 1) := by decide +kernel
theorem dX9_hedged_229 : decode cX9_hedged 229 = .ok (.getfield 39, 3) := by decide +kernel
theorem dX9_hedged_232 : decode cX9_hedged 232 = .ok (.aload_n 0, 1) := by decide +kernel
theorem dX9_hedged_233 : decode cX9_hedged 233 = .ok (.invokevirtual 340, 3) := by decide +kernel
theorem dX9_hedged_236 : decode cX9_hedged 236 = .ok (.iaload, 1) := by decide +kernel
theorem dX9_hedged_237 : decode cX9_hedged 237 = .ok (.invokevirtual 348, 3) := by decide +kernel
theorem dX9_hedged_240 : decode cX9_hedged 240 = .ok (.lsub, 1) := by decide +kernel
theorem dX9_hedged_241 : decode cX9_hedged 241 = .ok (.lreturn, 1) := by decide +kernel
theorem dX9_valueWith_0 : decode cX9_valueWith 0 = .ok (.iload_n 1, 1) := by decide +kernel
theorem dX9_valueWith_1 : decode cX9_valueWith 1 = .ok (.ifCond .ne 10, 3) := by decide +kernel
theorem dX9_valueWith_4 : decode cX9_valueWith 4 = .ok (.aload_n 0, 1) := by decide +kernel
theorem dX9_valueWith_5 : decode cX9_valueWith 5 = .ok (.iconst 3, 1) := by decide +kernel
theorem dX9_valueWith_6 : decode cX9_valueWith 6 = .ok (.iconst 1, 1) := by decide +kernel
theorem dX9_valueWith_7 : decode cX9_valueWith 7 = .ok (.iload_n 2, 1) := by decide +kernel
theorem dX9_valueWith_8 : decode cX9_valueWith 8 = .ok (.invokevirtual 54, 3) := by decide +kernel
theorem dX9_valueWith_11 : decode cX9_valueWith 11 = .ok (.iconst 1, 1) := by decide +kernel
theorem dX9_valueWith_12 : decode cX9_valueWith 12 = .ok (.istore_n 3, 1) := by decide +kernel
theorem dX9_valueWith_13 : decode cX9_valueWith 13 = .ok (.iload_n 3, 1) := by decide +kernel
theorem dX9_valueWith_14 : decode cX9_valueWith 14 = .ok (.bipush 6, 2) := by decide +kernel
theorem dX9_valueWith_16 : decode cX9_valueWith 16 = .ok (.if_icmp .gt 22, 3) := by decide +kernel
theorem dX9_valueWith_19 : decode cX9_valueWith 19 = .ok (.iload_n 1, 1) := by decide +kernel
theorem dX9_valueWith_20 : decode cX9_valueWith 20 = .ok (.ifCond .eq 18, 3) := by decide +kernel
theorem dX9_valueWith_23 : decode cX9_valueWith 23 = .ok (.aload_n 0, 1) := by decide +kernel
theorem dX9_valueWith_24 : decode cX9_valueWith 24 = .ok (.iconst 3, 1) := by decide +kernel
theorem dX9_valueWith_25 : decode cX9_valueWith 25 = .ok (.iconst 2, 1) := by decide +kernel
theorem dX9_valueWith_26 : decode cX9_valueWith 26 = .ok (.iload_n 3, 1) := by decide +kernel
theorem dX9_valueWith_27 : decode cX9_valueWith 27 = .ok (.iadd, 1) := by decide +kernel
theorem dX9_valueWith_28 : decode cX9_valueWith 28 = .ok (.iload_n 2, 1) := by decide +kernel
theorem dX9_valueWith_29 : decode cX9_valueWith 29 = .ok (.invokevirtual 54, 3) := by decide +kernel
theorem dX9_valueWith_32 : decode cX9_valueWith 32 = .ok (.iinc 3 1, 3) := by decide +kernel
theorem dX9_valueWith_35 : decode cX9_valueWith 35 = .ok (.goto (-22), 3) := by decide +kernel
theorem dX9_valueWith_38 : decode cX9_valueWith 38 = .ok (.aload_n 0, 1) := by decide +kernel
theorem dX9_valueWith_39 : decode cX9_valueWith 39 = .ok (.iconst 3, 1) := by decide +kernel
theorem dX9_valueWith_40 : decode cX9_valueWith 40 = .ok (.invokevirtual 360, 3) := by decide +kernel
theorem dX9_valueWith_43 : decode cX9_valueWith 43 = .ok (.lreturn, 1) := by decide +kernel
theorem dX9_fair_0 : decode cX9_fair 0 = .ok (.iload_n 1, 1) := by decide +kernel
theorem dX9_fair_1 : decode cX9_fair 1 = .ok (.invokestatic 126, 3) := by decide +kernel
theorem dX9_fair_4 : decode cX9_fair 4 = .ok (.ifCond .ne 5, 3) := by decide +kernel
theorem dX9_fair_7 : decode cX9_fair 7 = .ok (.iconst (-1), 1) := by decide +kernel
theorem dX9_fair_8 : decode cX9_fair 8 = .ok (.ireturn, 1) := by decide +kernel
theorem dX9_fair_9 : decode cX9_fair 9 = .ok (.aload_n 0, 1) := by decide +kernel
theorem dX9_fair_10 : decode cX9_fair 10 = .ok (.invokevirtual 307, 3) := by decide +kernel
theorem dX9_fair_13 : decode cX9_fair 13 = .ok (.aload_n 0, 1) := by decide +kernel
theorem dX9_fair_14 : decode cX9_fair 14 = .ok (.iload_n 1, 1) := by decide +kernel
theorem dX9_fair_15 : decode cX9_fair 15 = .ok (.iconst 3, 1) := by decide +kernel
theorem dX9_fair_16 : decode cX9_fair 16 = .ok (.invokevirtual 161, 3) := by decide +kernel
theorem dX9_fair_19 : decode cX9_fair 19 = .ok (.aload_n 0, 1) := by decide +kernel
theorem dX9_fair_20 : decode cX9_fair 20 = .ok (.iload 4, 2) := by decide +kernel
theorem dX9_fair_22 : decode cX9_fair 22 = .ok (.sipush 1000, 3) := by decide +kernel
theorem dX9_fair_25 : decode cX9_fair 25 = .ok (.invokevirtual 395, 3) := by decide +kernel
theorem dX9_fair_28 : decode cX9_fair 28 = .ok (.lload_n 2, 1) := by decide +kernel
theorem dX9_fair_29 : decode cX9_fair 29 = .ok (.lcmp, 1) := by decide +kernel
theorem dX9_fair_30 : decode cX9_fair 30 = .ok (.ifCond .ge 6, 3) := by decide +kernel
theorem dX9_fair_33 : decode cX9_fair 33 = .ok (.bipush (-2), 2) := by decide +kernel
theorem dX9_fair_35 : decode cX9_fair 35 = .ok (.ireturn, 1) := by decide +kernel
theorem dX9_fair_36 : decode cX9_fair 36 = .ok (.iconst 0, 1) := by decide +kernel
theorem dX9_fair_37 : decode cX9_fair 37 = .ok (.istore 5, 2) := by decide +kernel
theorem dX9_fair_39 : decode cX9_fair 39 = .ok (.sipush 1000, 3) := by decide +kernel
theorem dX9_fair_42 : decode cX9_fair 42 = .ok (.istore 6, 2) := by decide +kernel
theorem dX9_fair_44 : decode cX9_fair 44 = .ok (.iload 5, 2) := by decide +kernel
theorem dX9_fair_46 : decode cX9_fair 46 = .ok (.iload 6, 2) := by decide +kernel
theorem dX9_fair_48 : decode cX9_fair 48 = .ok (.if_icmp .ge 41, 3) := by decide +kernel
theorem dX9_fair_51 : decode cX9_fair 51 = .ok (.iload 5, 2) := by decide +kernel
theorem dX9_fair_53 : decode cX9_fair 53 = .ok (.iload 6, 2) := by decide +kernel
theorem dX9_fair_55 : decode cX9_fair 55 = .ok (.iadd, 1) := by decide +kernel
theorem dX9_fair_56 : decode cX9_fair 56 = .ok (.iconst 2, 1) := by decide +kernel
theorem dX9_fair_57 : decode cX9_fair 57 = .ok (.idiv, 1) := by decide +kernel
theorem dX9_fair_58 : decode cX9_fair 58 = .ok (.istore 7, 2) := by decide +kernel
theorem dX9_fair_60 : decode cX9_fair 60 = .ok (.aload_n 0, 1) := by decide +kernel
theorem dX9_fair_61 : decode cX9_fair 61 = .ok (.iload 4, 2) := by decide +kernel
theorem dX9_fair_63 : decode cX9_fair 63 = .ok (.iload 7, 2) := by decide +kernel
theorem dX9_fair_65 : decode cX9_fair 65 = .ok (.invokevirtual 395, 3) := by decide +kernel
theorem dX9_fair_68 : decode cX9_fair 68 = .ok (.lload_n 2, 1) := by decide +kernel
theorem dX9_fair_69 : decode cX9_fair 69 = .ok (.lcmp, 1) := by decide +kernel
theorem dX9_fair_70 : decode cX9_fair 70 = .ok (.ifCond .lt 10, 3) := by decide +kernel
theorem dX9_fair_73 : decode cX9_fair 73 = .ok (.iload 7, 2) := by decide +kernel
theorem dX9_fair_75 : decode cX9_fair 75 = .ok (.istore 6, 2) := by decide +kernel
theorem dX9_fair_77 : decode cX9_fair 77 = .ok (.goto 9, 3) := by decide +kernel
theorem dX9_fair_80 : decode cX9_fair 80 = .ok (.iload 7, 2) := by decide +kernel
theorem dX9_fair_82 : decode cX9_fair 82 = .ok (.iconst 1, 1) := by decide +kernel
theorem dX9_fair_83 : decode cX9_fair 83 = .ok (.iadd, 1) := by decide +kernel
theorem dX9_fair_84 : decode cX9_fair 84 = .ok (.istore 5, 2) := by decide +kernel
theorem dX9_fair_86 : decode cX9_fair 86 = .ok (.goto (-42), 3) := by decide +kernel
theorem dX9_fair_89 : decode cX9_fair 89 = .ok (.iload 5, 2) := by decide +kernel
theorem dX9_fair_91 : decode cX9_fair 91 = .ok (.ireturn, 1) := by decide +kernel
theorem dX9_fairCoupon_0 : decode cX9_fairCoupon 0 = .ok (.aload_n 0, 1) := by decide +kernel
theorem dX9_fairCoupon_1 : decode cX9_fairCoupon 1 = .ok (.iload_n 1, 1) := by decide +kernel
theorem dX9_fairCoupon_2 : decode cX9_fairCoupon 2 = .ok (.lload_n 2, 1) := by decide +kernel
theorem dX9_fairCoupon_3 : decode cX9_fairCoupon 3 = .ok (.iconst 1, 1) := by decide +kernel
theorem dX9_fairCoupon_4 : decode cX9_fairCoupon 4 = .ok (.invokevirtual 399, 3) := by decide +kernel
theorem dX9_fairCoupon_7 : decode cX9_fairCoupon 7 = .ok (.ireturn, 1) := by decide +kernel
theorem dX9_fairRatio_0 : decode cX9_fairRatio 0 = .ok (.aload_n 0, 1) := by decide +kernel
theorem dX9_fairRatio_1 : decode cX9_fairRatio 1 = .ok (.iload_n 1, 1) := by decide +kernel
theorem dX9_fairRatio_2 : decode cX9_fairRatio 2 = .ok (.lload_n 2, 1) := by decide +kernel
theorem dX9_fairRatio_3 : decode cX9_fairRatio 3 = .ok (.iconst 0, 1) := by decide +kernel
theorem dX9_fairRatio_4 : decode cX9_fairRatio 4 = .ok (.invokevirtual 399, 3) := by decide +kernel
theorem dX9_fairRatio_7 : decode cX9_fairRatio 7 = .ok (.ireturn, 1) := by decide +kernel
theorem dX9_fairRate_0 : decode cX9_fairRate 0 = .ok (.iload_n 1, 1) := by decide +kernel
theorem dX9_fairRate_1 : decode cX9_fairRate 1 = .ok (.invokestatic 126, 3) := by decide +kernel
theorem dX9_fairRate_4 : decode cX9_fairRate 4 = .ok (.ifCond .ne 5, 3) := by decide +kernel
theorem dX9_fairRate_7 : decode cX9_fairRate 7 = .ok (.iconst (-1), 1) := by decide +kernel
theorem dX9_fairRate_8 : decode cX9_fairRate 8 = .ok (.ireturn, 1) := by decide +kernel
theorem dX9_fairRate_9 : decode cX9_fairRate 9 = .ok (.aload_n 0, 1) := by decide +kernel
theorem dX9_fairRate_10 : decode cX9_fairRate 10 = .ok (.invokevirtual 307, 3) := by decide +kernel
theorem dX9_fairRate_13 : decode cX9_fairRate 13 = .ok (.iconst 0, 1) := by decide +kernel
theorem dX9_fairRate_14 : decode cX9_fairRate 14 = .ok (.istore 4, 2) := by decide +kernel
theorem dX9_fairRate_16 : decode cX9_fairRate 16 = .ok (.iload 4, 2) := by decide +kernel
theorem dX9_fairRate_18 : decode cX9_fairRate 18 = .ok (.sipush 200, 3) := by decide +kernel
theorem dX9_fairRate_21 : decode cX9_fairRate 21 = .ok (.if_icmp .gt 28, 3) := by decide +kernel
theorem dX9_fairRate_24 : decode cX9_fairRate 24 = .ok (.aload_n 0, 1) := by decide +kernel
theorem dX9_fairRate_25 : decode cX9_fairRate 25 = .ok (.iload 4, 2) := by decide +kernel
theorem dX9_fairRate_27 : decode cX9_fairRate 27 = .ok (.putfield 103, 3) := by decide +kernel
theorem dX9_fairRate_30 : decode cX9_fairRate 30 = .ok (.aload_n 0, 1) := by decide +kernel
theorem dX9_fairRate_31 : decode cX9_fairRate 31 = .ok (.iload_n 1, 1) := by decide +kernel
theorem dX9_fairRate_32 : decode cX9_fairRate 32 = .ok (.invokevirtual 360, 3) := by decide +kernel
theorem dX9_fairRate_35 : decode cX9_fairRate 35 = .ok (.lload_n 2, 1) := by decide +kernel
theorem dX9_fairRate_36 : decode cX9_fairRate 36 = .ok (.lcmp, 1) := by decide +kernel
theorem dX9_fairRate_37 : decode cX9_fairRate 37 = .ok (.ifCond .gt 6, 3) := by decide +kernel
theorem dX9_fairRate_40 : decode cX9_fairRate 40 = .ok (.iload 4, 2) := by decide +kernel
theorem dX9_fairRate_42 : decode cX9_fairRate 42 = .ok (.ireturn, 1) := by decide +kernel
theorem dX9_fairRate_43 : decode cX9_fairRate 43 = .ok (.iinc 4 1, 3) := by decide +kernel
theorem dX9_fairRate_46 : decode cX9_fairRate 46 = .ok (.goto (-30), 3) := by decide +kernel
theorem dX9_fairRate_49 : decode cX9_fairRate 49 = .ok (.bipush (-2), 2) := by decide +kernel
theorem dX9_fairRate_51 : decode cX9_fairRate 51 = .ok (.ireturn, 1) := by decide +kernel
theorem dX9_bestOne_0 : decode cX9_bestOne 0 = .ok (.iload_n 1, 1) := by decide +kernel
theorem dX9_bestOne_1 : decode cX9_bestOne 1 = .ok (.invokestatic 126, 3) := by decide +kernel
theorem dX9_bestOne_4 : decode cX9_bestOne 4 = .ok (.ifCond .eq 26, 3) := by decide +kernel
theorem dX9_bestOne_7 : decode cX9_bestOne 7 = .ok (.iload_n 3, 1) := by decide +kernel
theorem dX9_bestOne_8 : decode cX9_bestOne 8 = .ok (.i2l, 1) := by decide +kernel
theorem dX9_bestOne_9 : decode cX9_bestOne 9 = .ok (.lconst 0, 1) := by decide +kernel
theorem dX9_bestOne_10 : decode cX9_bestOne 10 = .ok (.ldc2_w 130, 3) := by decide +kernel
theorem dX9_bestOne_13 : decode cX9_bestOne 13 = .ok (.invokestatic 60, 3) := by decide +kernel
theorem dX9_bestOne_16 : decode cX9_bestOne 16 = .ok (.ifCond .eq 14, 3) := by decide +kernel
theorem dX9_bestOne_19 : decode cX9_bestOne 19 = .ok (.iload 4, 2) := by decide +kernel
theorem dX9_bestOne_21 : decode cX9_bestOne 21 = .ok (.i2l, 1) := by decide +kernel
theorem dX9_bestOne_22 : decode cX9_bestOne 22 = .ok (.lconst 0, 1) := by decide +kernel
theorem dX9_bestOne_23 : decode cX9_bestOne 23 = .ok (.lconst 1, 1) := by decide +kernel
theorem dX9_bestOne_24 : decode cX9_bestOne 24 = .ok (.invokestatic 60, 3) := by decide +kernel
theorem dX9_bestOne_27 : decode cX9_bestOne 27 = .ok (.ifCond .ne 7, 3) := by decide +kernel
theorem dX9_bestOne_30 : decode cX9_bestOne 30 = .ok (.ldc2_w 116, 3) := by decide +kernel
theorem dX9_bestOne_33 : decode cX9_bestOne 33 = .ok (.lreturn, 1) := by decide +kernel
theorem dX9_bestOne_34 : decode cX9_bestOne 34 = .ok (.aload_n 0, 1) := by decide +kernel
theorem dX9_bestOne_35 : decode cX9_bestOne 35 = .ok (.invokevirtual 307, 3) := by decide +kernel
theorem dX9_bestOne_38 : decode cX9_bestOne 38 = .ok (.iconst (-1), 1) := by decide +kernel
theorem dX9_bestOne_39 : decode cX9_bestOne 39 = .ok (.istore 5, 2) := by decide +kernel
theorem dX9_bestOne_41 : decode cX9_bestOne 41 = .ok (.lconst 0, 1) := by decide +kernel
theorem dX9_bestOne_42 : decode cX9_bestOne 42 = .ok (.lstore 6, 2) := by decide +kernel
theorem dX9_bestOne_44 : decode cX9_bestOne 44 = .ok (.iconst 0, 1) := by decide +kernel
theorem dX9_bestOne_45 : decode cX9_bestOne 45 = .ok (.istore 8, 2) := by decide +kernel
theorem dX9_bestOne_47 : decode cX9_bestOne 47 = .ok (.iload 8, 2) := by decide +kernel
theorem dX9_bestOne_49 : decode cX9_bestOne 49 = .ok (.aload_n 0, 1) := by decide +kernel
theorem dX9_bestOne_50 : decode cX9_bestOne 50 = .ok (.getfield 94, 3) := by decide +kernel
theorem dX9_bestOne_53 : decode cX9_bestOne 53 = .ok (.if_icmp .ge 74, 3) := by decide +kernel
theorem dX9_bestOne_56 : decode cX9_bestOne 56 = .ok (.aload_n 0, 1) := by decide +kernel
theorem dX9_bestOne_57 : decode cX9_bestOne 57 = .ok (.iload_n 1, 1) := by decide +kernel
theorem dX9_bestOne_58 : decode cX9_bestOne 58 = .ok (.iconst 3, 1) := by decide +kernel
theorem dX9_bestOne_59 : decode cX9_bestOne 59 = .ok (.invokevirtual 161, 3) := by decide +kernel
theorem dX9_bestOne_62 : decode cX9_bestOne 62 = .ok (.aload_n 0, 1) := by decide +kernel
theorem dX9_bestOne_63 : decode cX9_bestOne 63 = .ok (.iconst 3, 1) := by decide +kernel
theorem dX9_bestOne_64 : decode cX9_bestOne 64 = .ok (.iload_n 2, 1) := by decide +kernel
theorem dX9_bestOne_65 : decode cX9_bestOne 65 = .ok (.iload 8, 2) := by decide +kernel
theorem dX9_bestOne_67 : decode cX9_bestOne 67 = .ok (.iadd, 1) := by decide +kernel
theorem dX9_bestOne_68 : decode cX9_bestOne 68 = .ok (.iload_n 3, 1) := by decide +kernel
theorem dX9_bestOne_69 : decode cX9_bestOne 69 = .ok (.invokevirtual 54, 3) := by decide +kernel
theorem dX9_bestOne_72 : decode cX9_bestOne 72 = .ok (.aload_n 0, 1) := by decide +kernel
theorem dX9_bestOne_73 : decode cX9_bestOne 73 = .ok (.iconst 3, 1) := by decide +kernel
theorem dX9_bestOne_74 : decode cX9_bestOne 74 = .ok (.invokevirtual 360, 3) := by decide +kernel
theorem dX9_bestOne_77 : decode cX9_bestOne 77 = .ok (.lstore 9, 2) := by decide +kernel
theorem dX9_bestOne_79 : decode cX9_bestOne 79 = .ok (.iload 5, 2) := by decide +kernel
theorem dX9_bestOne_81 : decode cX9_bestOne 81 = .ok (.iconst (-1), 1) := by decide +kernel
theorem dX9_bestOne_82 : decode cX9_bestOne 82 = .ok (.if_icmp .eq 31, 3) := by decide +kernel
theorem dX9_bestOne_85 : decode cX9_bestOne 85 = .ok (.iload_n 2, 1) := by decide +kernel
theorem dX9_bestOne_86 : decode cX9_bestOne 86 = .ok (.bipush 9, 2) := by decide +kernel
theorem dX9_bestOne_88 : decode cX9_bestOne 88 = .ok (.if_icmp .ne 14, 3) := by decide +kernel
theorem dX9_bestOne_91 : decode cX9_bestOne 91 = .ok (.lload 9, 2) := by decide +kernel
theorem dX9_bestOne_93 : decode cX9_bestOne 93 = .ok (.lload 6, 2) := by decide +kernel
theorem dX9_bestOne_95 : decode cX9_bestOne 95 = .ok (.lcmp, 1) := by decide +kernel
theorem dX9_bestOne_96 : decode cX9_bestOne 96 = .ok (.ifCond .lt 17, 3) := by decide +kernel
theorem dX9_bestOne_99 : decode cX9_bestOne 99 = .ok (.goto 22, 3) := by decide +kernel
theorem dX9_bestOne_102 : decode cX9_bestOne 102 = .ok (.lload 9, 2) := by decide +kernel
theorem dX9_bestOne_104 : decode cX9_bestOne 104 = .ok (.lload 6, 2) := by decide +kernel
theorem dX9_bestOne_106 : decode cX9_bestOne 106 = .ok (.lcmp, 1) := by decide +kernel
theorem dX9_bestOne_107 : decode cX9_bestOne 107 = .ok (.ifCond .gt 6, 3) := by decide +kernel
theorem dX9_bestOne_110 : decode cX9_bestOne 110 = .ok (.goto 11, 3) := by decide +kernel
theorem dX9_bestOne_113 : decode cX9_bestOne 113 = .ok (.iload 8, 2) := by decide +kernel
theorem dX9_bestOne_115 : decode cX9_bestOne 115 = .ok (.istore 5, 2) := by decide +kernel
theorem dX9_bestOne_117 : decode cX9_bestOne 117 = .ok (.lload 9, 2) := by decide +kernel
theorem dX9_bestOne_119 : decode cX9_bestOne 119 = .ok (.lstore 6, 2) := by decide +kernel
theorem dX9_bestOne_121 : decode cX9_bestOne 121 = .ok (.iinc 8 1, 3) := by decide +kernel
theorem dX9_bestOne_124 : decode cX9_bestOne 124 = .ok (.goto (-77), 3) := by decide +kernel
theorem dX9_bestOne_127 : decode cX9_bestOne 127 = .ok (.iload 4, 2) := by decide +kernel
theorem dX9_bestOne_129 : decode cX9_bestOne 129 = .ok (.ifCond .ne 9, 3) := by decide +kernel
theorem dX9_bestOne_132 : decode cX9_bestOne 132 = .ok (.iload 5, 2) := by decide +kernel
theorem dX9_bestOne_134 : decode cX9_bestOne 134 = .ok (.i2l, 1) := by decide +kernel
theorem dX9_bestOne_135 : decode cX9_bestOne 135 = .ok (.goto 5, 3) := by decide +kernel
theorem dX9_bestOne_138 : decode cX9_bestOne 138 = .ok (.lload 6, 2) := by decide +kernel
theorem dX9_bestOne_140 : decode cX9_bestOne 140 = .ok (.lreturn, 1) := by decide +kernel
theorem dX9_bestCall_0 : decode cX9_bestCall 0 = .ok (.aload_n 0, 1) := by decide +kernel
theorem dX9_bestCall_1 : decode cX9_bestCall 1 = .ok (.iload_n 1, 1) := by decide +kernel
theorem dX9_bestCall_2 : decode cX9_bestCall 2 = .ok (.bipush 9, 2) := by decide +kernel
theorem dX9_bestCall_4 : decode cX9_bestCall 4 = .ok (.iload_n 2, 1) := by decide +kernel
theorem dX9_bestCall_5 : decode cX9_bestCall 5 = .ok (.iload_n 3, 1) := by decide +kernel
theorem dX9_bestCall_6 : decode cX9_bestCall 6 = .ok (.invokevirtual 403, 3) := by decide +kernel
theorem dX9_bestCall_9 : decode cX9_bestCall 9 = .ok (.lreturn, 1) := by decide +kernel
theorem dX9_bestPut_0 : decode cX9_bestPut 0 = .ok (.aload_n 0, 1) := by decide +kernel
theorem dX9_bestPut_1 : decode cX9_bestPut 1 = .ok (.iload_n 1, 1) := by decide +kernel
theorem dX9_bestPut_2 : decode cX9_bestPut 2 = .ok (.bipush 15, 2) := by decide +kernel
theorem dX9_bestPut_4 : decode cX9_bestPut 4 = .ok (.iload_n 2, 1) := by decide +kernel
theorem dX9_bestPut_5 : decode cX9_bestPut 5 = .ok (.iload_n 3, 1) := by decide +kernel
theorem dX9_bestPut_6 : decode cX9_bestPut 6 = .ok (.invokevirtual 403, 3) := by decide +kernel
theorem dX9_bestPut_9 : decode cX9_bestPut 9 = .ok (.lreturn, 1) := by decide +kernel
theorem dX9_givesBy_0 : decode cX9_givesBy 0 = .ok (.aload_n 0, 1) := by decide +kernel
theorem dX9_givesBy_1 : decode cX9_givesBy 1 = .ok (.iload_n 1, 1) := by decide +kernel
theorem dX9_givesBy_2 : decode cX9_givesBy 2 = .ok (.aload_n 0, 1) := by decide +kernel
theorem dX9_givesBy_3 : decode cX9_givesBy 3 = .ok (.getfield 316, 3) := by decide +kernel
theorem dX9_givesBy_6 : decode cX9_givesBy 6 = .ok (.invokevirtual 281, 3) := by decide +kernel
theorem dX9_givesBy_9 : decode cX9_givesBy 9 = .ok (.i2l, 1) := by decide +kernel
theorem dX9_givesBy_10 : decode cX9_givesBy 10 = .ok (.lstore_n 3, 1) := by decide +kernel
theorem dX9_givesBy_11 : decode cX9_givesBy 11 = .ok (.iload_n 2, 1) := by decide +kernel
theorem dX9_givesBy_12 : decode cX9_givesBy 12 = .ok (.tableswitch 110 0 2 #[28, 40, 72], 28) := by decide +kernel
theorem dX9_givesBy_40 : decode cX9_givesBy 40 = .ok (.lload_n 3, 1) := by decide +kernel
theorem dX9_givesBy_41 : decode cX9_givesBy 41 = .ok (.aload_n 0, 1) := by decide +kernel
theorem dX9_givesBy_42 : decode cX9_givesBy 42 = .ok (.getfield 33, 3) := by decide +kernel
theorem dX9_givesBy_45 : decode cX9_givesBy 45 = .ok (.aload_n 0, 1) := by decide +kernel
theorem dX9_givesBy_46 : decode cX9_givesBy 46 = .ok (.invokevirtual 340, 3) := by decide +kernel
theorem dX9_givesBy_49 : decode cX9_givesBy 49 = .ok (.laload, 1) := by decide +kernel
theorem dX9_givesBy_50 : decode cX9_givesBy 50 = .ok (.ladd, 1) := by decide +kernel
theorem dX9_givesBy_51 : decode cX9_givesBy 51 = .ok (.lreturn, 1) := by decide +kernel
theorem dX9_givesBy_52 : decode cX9_givesBy 52 = .ok (.aload_n 0, 1) := by decide +kernel
theorem dX9_givesBy_53 : decode cX9_givesBy 53 = .ok (.iload_n 1, 1) := by decide +kernel
theorem dX9_givesBy_54 : decode cX9_givesBy 54 = .ok (.aload_n 0, 1) := by decide +kernel
theorem dX9_givesBy_55 : decode cX9_givesBy 55 = .ok (.getfield 316, 3) := by decide +kernel
theorem dX9_givesBy_58 : decode cX9_givesBy 58 = .ok (.invokevirtual 284, 3) := by decide +kernel
theorem dX9_givesBy_61 : decode cX9_givesBy 61 = .ok (.iconst (-1), 1) := by decide +kernel
theorem dX9_givesBy_62 : decode cX9_givesBy 62 = .ok (.if_icmp .ne 9, 3) := by decide +kernel
theorem dX9_givesBy_65 : decode cX9_givesBy 65 = .ok (.ldc2_w 343, 3) := by decide +kernel
theorem dX9_givesBy_68 : decode cX9_givesBy 68 = .ok (.goto 15, 3) := by decide +kernel
theorem dX9_givesBy_71 : decode cX9_givesBy 71 = .ok (.lload_n 3, 1) := by decide +kernel
theorem dX9_givesBy_72 : decode cX9_givesBy 72 = .ok (.aload_n 0, 1) := by decide +kernel
theorem dX9_givesBy_73 : decode cX9_givesBy 73 = .ok (.iload_n 1, 1) := by decide +kernel
theorem dX9_givesBy_74 : decode cX9_givesBy 74 = .ok (.aload_n 0, 1) := by decide +kernel
theorem dX9_givesBy_75 : decode cX9_givesBy 75 = .ok (.getfield 316, 3) := by decide +kernel
theorem dX9_givesBy_78 : decode cX9_givesBy 78 = .ok (.invokevirtual 284, 3) := by decide +kernel
theorem dX9_givesBy_81 : decode cX9_givesBy 81 = .ok (.i2l, 1) := by decide +kernel
theorem dX9_givesBy_82 : decode cX9_givesBy 82 = .ok (.ladd, 1) := by decide +kernel
theorem dX9_givesBy_83 : decode cX9_givesBy 83 = .ok (.lreturn, 1) := by decide +kernel
theorem dX9_givesBy_84 : decode cX9_givesBy 84 = .ok (.aload_n 0, 1) := by decide +kernel
theorem dX9_givesBy_85 : decode cX9_givesBy 85 = .ok (.iload_n 1, 1) := by decide +kernel
theorem dX9_givesBy_86 : decode cX9_givesBy 86 = .ok (.aload_n 0, 1) := by decide +kernel
theorem dX9_givesBy_87 : decode cX9_givesBy 87 = .ok (.getfield 316, 3) := by decide +kernel
theorem dX9_givesBy_90 : decode cX9_givesBy 90 = .ok (.invokevirtual 254, 3) := by decide +kernel
theorem dX9_givesBy_93 : decode cX9_givesBy 93 = .ok (.ifCond .eq 25, 3) := by decide +kernel
theorem dX9_givesBy_96 : decode cX9_givesBy 96 = .ok (.lload_n 3, 1) := by decide +kernel
theorem dX9_givesBy_97 : decode cX9_givesBy 97 = .ok (.aload_n 0, 1) := by decide +kernel
theorem dX9_givesBy_98 : decode cX9_givesBy 98 = .ok (.iload_n 1, 1) := by decide +kernel
theorem dX9_givesBy_99 : decode cX9_givesBy 99 = .ok (.aload_n 0, 1) := by decide +kernel
theorem dX9_givesBy_100 : decode cX9_givesBy 100 = .ok (.getfield 316, 3) := by decide +kernel
theorem dX9_givesBy_103 : decode cX9_givesBy 103 = .ok (.aload_n 0, 1) := by decide +kernel
theorem dX9_givesBy_104 : decode cX9_givesBy 104 = .ok (.getfield 319, 3) := by decide +kernel
theorem dX9_givesBy_107 : decode cX9_givesBy 107 = .ok (.aload_n 0, 1) := by decide +kernel
theorem dX9_givesBy_108 : decode cX9_givesBy 108 = .ok (.getfield 322, 3) := by decide +kernel
theorem dX9_givesBy_111 : decode cX9_givesBy 111 = .ok (.invokevirtual 270, 3) := by decide +kernel
theorem dX9_givesBy_114 : decode cX9_givesBy 114 = .ok (.ladd, 1) := by decide +kernel
theorem dX9_givesBy_115 : decode cX9_givesBy 115 = .ok (.goto 6, 3) := by decide +kernel
theorem dX9_givesBy_118 : decode cX9_givesBy 118 = .ok (.ldc2_w 343, 3) := by decide +kernel
theorem dX9_givesBy_121 : decode cX9_givesBy 121 = .ok (.lreturn, 1) := by decide +kernel
theorem dX9_givesBy_122 : decode cX9_givesBy 122 = .ok (.aload_n 0, 1) := by decide +kernel
theorem dX9_givesBy_123 : decode cX9_givesBy 123 = .ok (.iload_n 1, 1) := by decide +kernel
theorem dX9_givesBy_124 : decode cX9_givesBy 124 = .ok (.aload_n 0, 1) := by decide +kernel
theorem dX9_givesBy_125 : decode cX9_givesBy 125 = .ok (.getfield 316, 3) := by decide +kernel
theorem dX9_givesBy_128 : decode cX9_givesBy 128 = .ok (.aload_n 0, 1) := by decide +kernel
theorem dX9_givesBy_129 : decode cX9_givesBy 129 = .ok (.getfield 325, 3) := by decide +kernel
theorem dX9_givesBy_132 : decode cX9_givesBy 132 = .ok (.invokevirtual 294, 3) := by decide +kernel
theorem dX9_givesBy_135 : decode cX9_givesBy 135 = .ok (.ifCond .eq 25, 3) := by decide +kernel
theorem dX9_givesBy_138 : decode cX9_givesBy 138 = .ok (.lload_n 3, 1) := by decide +kernel
theorem dX9_givesBy_139 : decode cX9_givesBy 139 = .ok (.aload_n 0, 1) := by decide +kernel
theorem dX9_givesBy_140 : decode cX9_givesBy 140 = .ok (.iload_n 1, 1) := by decide +kernel
theorem dX9_givesBy_141 : decode cX9_givesBy 141 = .ok (.aload_n 0, 1) := by decide +kernel
theorem dX9_givesBy_142 : decode cX9_givesBy 142 = .ok (.getfield 316, 3) := by decide +kernel
theorem dX9_givesBy_145 : decode cX9_givesBy 145 = .ok (.aload_n 0, 1) := by decide +kernel
theorem dX9_givesBy_146 : decode cX9_givesBy 146 = .ok (.getfield 319, 3) := by decide +kernel
theorem dX9_givesBy_149 : decode cX9_givesBy 149 = .ok (.aload_n 0, 1) := by decide +kernel
theorem dX9_givesBy_150 : decode cX9_givesBy 150 = .ok (.getfield 322, 3) := by decide +kernel
theorem dX9_givesBy_153 : decode cX9_givesBy 153 = .ok (.invokevirtual 291, 3) := by decide +kernel
theorem dX9_givesBy_156 : decode cX9_givesBy 156 = .ok (.ladd, 1) := by decide +kernel
theorem dX9_givesBy_157 : decode cX9_givesBy 157 = .ok (.goto 6, 3) := by decide +kernel
theorem dX9_givesBy_160 : decode cX9_givesBy 160 = .ok (.ldc2_w 343, 3) := by decide +kernel
theorem dX9_givesBy_163 : decode cX9_givesBy 163 = .ok (.lreturn, 1) := by decide +kernel
theorem dX9_instead_0 : decode cX9_instead 0 = .ok (.iload_n 1, 1) := by decide +kernel
theorem dX9_instead_1 : decode cX9_instead 1 = .ok (.invokestatic 126, 3) := by decide +kernel
theorem dX9_instead_4 : decode cX9_instead 4 = .ok (.ifCond .eq 15, 3) := by decide +kernel
theorem dX9_instead_7 : decode cX9_instead 7 = .ok (.iload_n 2, 1) := by decide +kernel
theorem dX9_instead_8 : decode cX9_instead 8 = .ok (.i2l, 1) := by decide +kernel
theorem dX9_instead_9 : decode cX9_instead 9 = .ok (.lconst 0, 1) := by decide +kernel
theorem dX9_instead_10 : decode cX9_instead 10 = .ok (.ldc2_w 142, 3) := by decide +kernel
theorem dX9_instead_13 : decode cX9_instead 13 = .ok (.invokestatic 60, 3) := by decide +kernel
theorem dX9_instead_16 : decode cX9_instead 16 = .ok (.ifCond .ne 7, 3) := by decide +kernel
theorem dX9_instead_19 : decode cX9_instead 19 = .ok (.ldc2_w 116, 3) := by decide +kernel
theorem dX9_instead_22 : decode cX9_instead 22 = .ok (.lreturn, 1) := by decide +kernel
theorem dX9_instead_23 : decode cX9_instead 23 = .ok (.aload_n 0, 1) := by decide +kernel
theorem dX9_instead_24 : decode cX9_instead 24 = .ok (.iload_n 1, 1) := by decide +kernel
theorem dX9_instead_25 : decode cX9_instead 25 = .ok (.invokevirtual 334, 3) := by decide +kernel
theorem dX9_instead_28 : decode cX9_instead 28 = .ok (.aload_n 0, 1) := by decide +kernel
theorem dX9_instead_29 : decode cX9_instead 29 = .ok (.iload_n 1, 1) := by decide +kernel
theorem dX9_instead_30 : decode cX9_instead 30 = .ok (.aload_n 0, 1) := by decide +kernel
theorem dX9_instead_31 : decode cX9_instead 31 = .ok (.getfield 76, 3) := by decide +kernel
theorem dX9_instead_34 : decode cX9_instead 34 = .ok (.invokevirtual 337, 3) := by decide +kernel
theorem dX9_instead_37 : decode cX9_instead 37 = .ok (.aload_n 0, 1) := by decide +kernel
theorem dX9_instead_38 : decode cX9_instead 38 = .ok (.iload_n 1, 1) := by decide +kernel
theorem dX9_instead_39 : decode cX9_instead 39 = .ok (.iload_n 2, 1) := by decide +kernel
theorem dX9_instead_40 : decode cX9_instead 40 = .ok (.invokevirtual 406, 3) := by decide +kernel
theorem dX9_instead_43 : decode cX9_instead 43 = .ok (.lreturn, 1) := by decide +kernel
theorem dX9_shifted_0 : decode cX9_shifted 0 = .ok (.iload_n 1, 1) := by decide +kernel
theorem dX9_shifted_1 : decode cX9_shifted 1 = .ok (.invokestatic 126, 3) := by decide +kernel
theorem dX9_shifted_4 : decode cX9_shifted 4 = .ok (.ifCond .eq 24, 3) := by decide +kernel
theorem dX9_shifted_7 : decode cX9_shifted 7 = .ok (.iload_n 2, 1) := by decide +kernel
theorem dX9_shifted_8 : decode cX9_shifted 8 = .ok (.i2l, 1) := by decide +kernel
theorem dX9_shifted_9 : decode cX9_shifted 9 = .ok (.lconst 1, 1) := by decide +kernel
theorem dX9_shifted_10 : decode cX9_shifted 10 = .ok (.ldc2_w 74, 3) := by decide +kernel
theorem dX9_shifted_13 : decode cX9_shifted 13 = .ok (.invokestatic 60, 3) := by decide +kernel
theorem dX9_shifted_16 : decode cX9_shifted 16 = .ok (.ifCond .eq 12, 3) := by decide +kernel
theorem dX9_shifted_19 : decode cX9_shifted 19 = .ok (.iload_n 3, 1) := by decide +kernel
theorem dX9_shifted_20 : decode cX9_shifted 20 = .ok (.iload 4, 2) := by decide +kernel
theorem dX9_shifted_22 : decode cX9_shifted 22 = .ok (.invokestatic 81, 3) := by decide +kernel
theorem dX9_shifted_25 : decode cX9_shifted 25 = .ok (.ifCond .ne 7, 3) := by decide +kernel
theorem dX9_shifted_28 : decode cX9_shifted 28 = .ok (.ldc2_w 116, 3) := by decide +kernel
theorem dX9_shifted_31 : decode cX9_shifted 31 = .ok (.lreturn, 1) := by decide +kernel
theorem dX9_shifted_32 : decode cX9_shifted 32 = .ok (.aload_n 0, 1) := by decide +kernel
theorem dX9_shifted_33 : decode cX9_shifted 33 = .ok (.iconst 0, 1) := by decide +kernel
theorem dX9_shifted_34 : decode cX9_shifted 34 = .ok (.iload_n 2, 1) := by decide +kernel
theorem dX9_shifted_35 : decode cX9_shifted 35 = .ok (.invokevirtual 112, 3) := by decide +kernel
theorem dX9_shifted_38 : decode cX9_shifted 38 = .ok (.aload_n 0, 1) := by decide +kernel
theorem dX9_shifted_39 : decode cX9_shifted 39 = .ok (.iload_n 3, 1) := by decide +kernel
theorem dX9_shifted_40 : decode cX9_shifted 40 = .ok (.putfield 97, 3) := by decide +kernel
theorem dX9_shifted_43 : decode cX9_shifted 43 = .ok (.aload_n 0, 1) := by decide +kernel
theorem dX9_shifted_44 : decode cX9_shifted 44 = .ok (.iload 4, 2) := by decide +kernel
theorem dX9_shifted_46 : decode cX9_shifted 46 = .ok (.putfield 100, 3) := by decide +kernel
theorem dX9_shifted_49 : decode cX9_shifted 49 = .ok (.aload_n 0, 1) := by decide +kernel
theorem dX9_shifted_50 : decode cX9_shifted 50 = .ok (.iload_n 1, 1) := by decide +kernel
theorem dX9_shifted_51 : decode cX9_shifted 51 = .ok (.invokevirtual 360, 3) := by decide +kernel
theorem dX9_shifted_54 : decode cX9_shifted 54 = .ok (.lreturn, 1) := by decide +kernel
theorem dX9_standsByHand_0 : decode cX9_standsByHand 0 = .ok (.aload_n 0, 1) := by decide +kernel
theorem dX9_standsByHand_1 : decode cX9_standsByHand 1 = .ok (.iconst 1, 1) := by decide +kernel
theorem dX9_standsByHand_2 : decode cX9_standsByHand 2 = .ok (.aload_n 0, 1) := by decide +kernel
theorem dX9_standsByHand_3 : decode cX9_standsByHand 3 = .ok (.getfield 13, 3) := by decide +kernel
theorem dX9_standsByHand_6 : decode cX9_standsByHand 6 = .ok (.bipush 10, 2) := by decide +kernel
theorem dX9_standsByHand_8 : decode cX9_standsByHand 8 = .ok (.iaload, 1) := by decide +kernel
theorem dX9_standsByHand_9 : decode cX9_standsByHand 9 = .ok (.invokevirtual 112, 3) := by decide +kernel
theorem dX9_standsByHand_12 : decode cX9_standsByHand 12 = .ok (.aload_n 0, 1) := by decide +kernel
theorem dX9_standsByHand_13 : decode cX9_standsByHand 13 = .ok (.iconst 4, 1) := by decide +kernel
theorem dX9_standsByHand_14 : decode cX9_standsByHand 14 = .ok (.invokevirtual 310, 3) := by decide +kernel
theorem dX9_standsByHand_17 : decode cX9_standsByHand 17 = .ok (.aload_n 0, 1) := by decide +kernel
theorem dX9_standsByHand_18 : decode cX9_standsByHand 18 = .ok (.iconst 4, 1) := by decide +kernel
theorem dX9_standsByHand_19 : decode cX9_standsByHand 19 = .ok (.invokevirtual 328, 3) := by decide +kernel
theorem dX9_standsByHand_22 : decode cX9_standsByHand 22 = .ok (.iconst 0, 1) := by decide +kernel
theorem dX9_standsByHand_23 : decode cX9_standsByHand 23 = .ok (.istore_n 1, 1) := by decide +kernel
theorem dX9_standsByHand_24 : decode cX9_standsByHand 24 = .ok (.iload_n 1, 1) := by decide +kernel
theorem dX9_standsByHand_25 : decode cX9_standsByHand 25 = .ok (.aload_n 0, 1) := by decide +kernel
theorem dX9_standsByHand_26 : decode cX9_standsByHand 26 = .ok (.getfield 409, 3) := by decide +kernel
theorem dX9_standsByHand_29 : decode cX9_standsByHand 29 = .ok (.if_icmp .ge 20, 3) := by decide +kernel
theorem dX9_standsByHand_32 : decode cX9_standsByHand 32 = .ok (.aload_n 0, 1) := by decide +kernel
theorem dX9_standsByHand_33 : decode cX9_standsByHand 33 = .ok (.iconst 4, 1) := by decide +kernel
theorem dX9_standsByHand_34 : decode cX9_standsByHand 34 = .ok (.aload_n 0, 1) := by decide +kernel
theorem dX9_standsByHand_35 : decode cX9_standsByHand 35 = .ok (.getfield 23, 3) := by decide +kernel
theorem dX9_standsByHand_38 : decode cX9_standsByHand 38 = .ok (.iload_n 1, 1) := by decide +kernel
theorem dX9_standsByHand_39 : decode cX9_standsByHand 39 = .ok (.iaload, 1) := by decide +kernel
theorem dX9_standsByHand_40 : decode cX9_standsByHand 40 = .ok (.invokevirtual 331, 3) := by decide +kernel
theorem dX9_standsByHand_43 : decode cX9_standsByHand 43 = .ok (.iinc 1 1, 3) := by decide +kernel
theorem dX9_standsByHand_46 : decode cX9_standsByHand 46 = .ok (.goto (-22), 3) := by decide +kernel
theorem dX9_standsByHand_49 : decode cX9_standsByHand 49 = .ok (.return_, 1) := by decide +kernel
theorem dX9_open_0 : decode cX9_open 0 = .ok (.iload_n 1, 1) := by decide +kernel
theorem dX9_open_1 : decode cX9_open 1 = .ok (.invokestatic 126, 3) := by decide +kernel
theorem dX9_open_4 : decode cX9_open 4 = .ok (.ifCond .ne 7, 3) := by decide +kernel
theorem dX9_open_7 : decode cX9_open 7 = .ok (.ldc2_w 116, 3) := by decide +kernel
theorem dX9_open_10 : decode cX9_open 10 = .ok (.lreturn, 1) := by decide +kernel
theorem dX9_open_11 : decode cX9_open 11 = .ok (.iconst 0, 1) := by decide +kernel
theorem dX9_open_12 : decode cX9_open 12 = .ok (.istore_n 2, 1) := by decide +kernel
theorem dX9_open_13 : decode cX9_open 13 = .ok (.iload_n 2, 1) := by decide +kernel
theorem dX9_open_14 : decode cX9_open 14 = .ok (.bipush 9, 2) := by decide +kernel
theorem dX9_open_16 : decode cX9_open 16 = .ok (.if_icmp .ge 24, 3) := by decide +kernel
theorem dX9_open_19 : decode cX9_open 19 = .ok (.aload_n 0, 1) := by decide +kernel
theorem dX9_open_20 : decode cX9_open 20 = .ok (.getfield 13, 3) := by decide +kernel
theorem dX9_open_23 : decode cX9_open 23 = .ok (.bipush 9, 2) := by decide +kernel
theorem dX9_open_25 : decode cX9_open 25 = .ok (.iload_n 2, 1) := by decide +kernel
theorem dX9_open_26 : decode cX9_open 26 = .ok (.iadd, 1) := by decide +kernel
theorem dX9_open_27 : decode cX9_open 27 = .ok (.aload_n 0, 1) := by decide +kernel
theorem dX9_open_28 : decode cX9_open 28 = .ok (.getfield 13, 3) := by decide +kernel
theorem dX9_open_31 : decode cX9_open 31 = .ok (.iload_n 2, 1) := by decide +kernel
theorem dX9_open_32 : decode cX9_open 32 = .ok (.iaload, 1) := by decide +kernel
theorem dX9_open_33 : decode cX9_open 33 = .ok (.iastore, 1) := by decide +kernel
theorem dX9_open_34 : decode cX9_open 34 = .ok (.iinc 2 1, 3) := by decide +kernel
theorem dX9_open_37 : decode cX9_open 37 = .ok (.goto (-24), 3) := by decide +kernel
theorem dX9_open_40 : decode cX9_open 40 = .ok (.aload_n 0, 1) := by decide +kernel
theorem dX9_open_41 : decode cX9_open 41 = .ok (.iload_n 1, 1) := by decide +kernel
theorem dX9_open_42 : decode cX9_open 42 = .ok (.iconst 4, 1) := by decide +kernel
theorem dX9_open_43 : decode cX9_open 43 = .ok (.invokevirtual 161, 3) := by decide +kernel
theorem dX9_open_46 : decode cX9_open 46 = .ok (.aload_n 0, 1) := by decide +kernel
theorem dX9_open_47 : decode cX9_open 47 = .ok (.iconst 1, 1) := by decide +kernel
theorem dX9_open_48 : decode cX9_open 48 = .ok (.putfield 412, 3) := by decide +kernel
theorem dX9_open_51 : decode cX9_open 51 = .ok (.aload_n 0, 1) := by decide +kernel
theorem dX9_open_52 : decode cX9_open 52 = .ok (.iconst 1, 1) := by decide +kernel
theorem dX9_open_53 : decode cX9_open 53 = .ok (.putfield 416, 3) := by decide +kernel
theorem dX9_open_56 : decode cX9_open 56 = .ok (.aload_n 0, 1) := by decide +kernel
theorem dX9_open_57 : decode cX9_open 57 = .ok (.iconst 0, 1) := by decide +kernel
theorem dX9_open_58 : decode cX9_open 58 = .ok (.putfield 409, 3) := by decide +kernel
theorem dX9_open_61 : decode cX9_open 61 = .ok (.aload_n 0, 1) := by decide +kernel
theorem dX9_open_62 : decode cX9_open 62 = .ok (.lconst 0, 1) := by decide +kernel
theorem dX9_open_63 : decode cX9_open 63 = .ok (.putfield 419, 3) := by decide +kernel
theorem dX9_open_66 : decode cX9_open 66 = .ok (.aload_n 0, 1) := by decide +kernel
theorem dX9_open_67 : decode cX9_open 67 = .ok (.lconst 0, 1) := by decide +kernel
theorem dX9_open_68 : decode cX9_open 68 = .ok (.putfield 422, 3) := by decide +kernel
theorem dX9_open_71 : decode cX9_open 71 = .ok (.aload_n 0, 1) := by decide +kernel
theorem dX9_open_72 : decode cX9_open 72 = .ok (.invokevirtual 425, 3) := by decide +kernel
theorem dX9_open_75 : decode cX9_open 75 = .ok (.aload_n 0, 1) := by decide +kernel
theorem dX9_open_76 : decode cX9_open 76 = .ok (.getfield 30, 3) := by decide +kernel
theorem dX9_open_79 : decode cX9_open 79 = .ok (.aload_n 0, 1) := by decide +kernel
theorem dX9_open_80 : decode cX9_open 80 = .ok (.invokevirtual 340, 3) := by decide +kernel
theorem dX9_open_83 : decode cX9_open 83 = .ok (.laload, 1) := by decide +kernel
theorem dX9_open_84 : decode cX9_open 84 = .ok (.lreturn, 1) := by decide +kernel
theorem dX9_regrets_0 : decode cX9_regrets 0 = .ok (.aload_n 0, 1) := by decide +kernel
theorem dX9_regrets_1 : decode cX9_regrets 1 = .ok (.getfield 30, 3) := by decide +kernel
theorem dX9_regrets_4 : decode cX9_regrets 4 = .ok (.aload_n 0, 1) := by decide +kernel
theorem dX9_regrets_5 : decode cX9_regrets 5 = .ok (.invokevirtual 340, 3) := by decide +kernel
theorem dX9_regrets_8 : decode cX9_regrets 8 = .ok (.laload, 1) := by decide +kernel
theorem dX9_regrets_9 : decode cX9_regrets 9 = .ok (.aload_n 0, 1) := by decide +kernel
theorem dX9_regrets_10 : decode cX9_regrets 10 = .ok (.iconst 4, 1) := by decide +kernel
theorem dX9_regrets_11 : decode cX9_regrets 11 = .ok (.iload_n 1, 1) := by decide +kernel
theorem dX9_regrets_12 : decode cX9_regrets 12 = .ok (.invokevirtual 406, 3) := by decide +kernel
theorem dX9_regrets_15 : decode cX9_regrets 15 = .ok (.lsub, 1) := by decide +kernel
theorem dX9_regrets_16 : decode cX9_regrets 16 = .ok (.lstore_n 2, 1) := by decide +kernel
theorem dX9_regrets_17 : decode cX9_regrets 17 = .ok (.aload_n 0, 1) := by decide +kernel
theorem dX9_regrets_18 : decode cX9_regrets 18 = .ok (.aload_n 0, 1) := by decide +kernel
theorem dX9_regrets_19 : decode cX9_regrets 19 = .ok (.getfield 422, 3) := by decide +kernel
theorem dX9_regrets_22 : decode cX9_regrets 22 = .ok (.lload_n 2, 1) := by decide +kernel
theorem dX9_regrets_23 : decode cX9_regrets 23 = .ok (.lconst 0, 1) := by decide +kernel
theorem dX9_regrets_24 : decode cX9_regrets 24 = .ok (.lcmp, 1) := by decide +kernel
theorem dX9_regrets_25 : decode cX9_regrets 25 = .ok (.ifCond .ge 8, 3) := by decide +kernel
theorem dX9_regrets_28 : decode cX9_regrets 28 = .ok (.lload_n 2, 1) := by decide +kernel
theorem dX9_regrets_29 : decode cX9_regrets 29 = .ok (.lneg, 1) := by decide +kernel
theorem dX9_regrets_30 : decode cX9_regrets 30 = .ok (.goto 4, 3) := by decide +kernel
theorem dX9_regrets_33 : decode cX9_regrets 33 = .ok (.lload_n 2, 1) := by decide +kernel
theorem dX9_regrets_34 : decode cX9_regrets 34 = .ok (.ladd, 1) := by decide +kernel
theorem dX9_regrets_35 : decode cX9_regrets 35 = .ok (.putfield 422, 3) := by decide +kernel
theorem dX9_regrets_38 : decode cX9_regrets 38 = .ok (.return_, 1) := by decide +kernel
theorem dX9_go_0 : decode cX9_go 0 = .ok (.aload_n 0, 1) := by decide +kernel
theorem dX9_go_1 : decode cX9_go 1 = .ok (.getfield 412, 3) := by decide +kernel
theorem dX9_go_4 : decode cX9_go 4 = .ok (.ifCond .ne 5, 3) := by decide +kernel
theorem dX9_go_7 : decode cX9_go 7 = .ok (.iconst (-1), 1) := by decide +kernel
theorem dX9_go_8 : decode cX9_go 8 = .ok (.ireturn, 1) := by decide +kernel
theorem dX9_go_9 : decode cX9_go 9 = .ok (.aload_n 0, 1) := by decide +kernel
theorem dX9_go_10 : decode cX9_go 10 = .ok (.invokevirtual 425, 3) := by decide +kernel
theorem dX9_go_13 : decode cX9_go 13 = .ok (.aload_n 0, 1) := by decide +kernel
theorem dX9_go_14 : decode cX9_go 14 = .ok (.getfield 416, 3) := by decide +kernel
theorem dX9_go_17 : decode cX9_go 17 = .ok (.ifCond .eq 14, 3) := by decide +kernel
theorem dX9_go_20 : decode cX9_go 20 = .ok (.aload_n 0, 1) := by decide +kernel
theorem dX9_go_21 : decode cX9_go 21 = .ok (.getfield 316, 3) := by decide +kernel
theorem dX9_go_24 : decode cX9_go 24 = .ok (.aload_n 0, 1) := by decide +kernel
theorem dX9_go_25 : decode cX9_go 25 = .ok (.getfield 94, 3) := by decide +kernel
theorem dX9_go_28 : decode cX9_go 28 = .ok (.if_icmp .ne 6, 3) := by decide +kernel
theorem dX9_go_31 : decode cX9_go 31 = .ok (.bipush (-2), 2) := by decide +kernel
theorem dX9_go_33 : decode cX9_go 33 = .ok (.ireturn, 1) := by decide +kernel
theorem dX9_go_34 : decode cX9_go 34 = .ok (.aload_n 0, 1) := by decide +kernel
theorem dX9_go_35 : decode cX9_go 35 = .ok (.iconst 0, 1) := by decide +kernel
theorem dX9_go_36 : decode cX9_go 36 = .ok (.invokevirtual 428, 3) := by decide +kernel
theorem dX9_go_39 : decode cX9_go 39 = .ok (.aload_n 0, 1) := by decide +kernel
theorem dX9_go_40 : decode cX9_go 40 = .ok (.getfield 23, 3) := by decide +kernel
theorem dX9_go_43 : decode cX9_go 43 = .ok (.aload_n 0, 1) := by decide +kernel
theorem dX9_go_44 : decode cX9_go 44 = .ok (.getfield 409, 3) := by decide +kernel
theorem dX9_go_47 : decode cX9_go 47 = .ok (.iload_n 1, 1) := by decide +kernel
theorem dX9_go_48 : decode cX9_go 48 = .ok (.ifCond .eq 7, 3) := by decide +kernel
theorem dX9_go_51 : decode cX9_go 51 = .ok (.iconst 1, 1) := by decide +kernel
theorem dX9_go_52 : decode cX9_go 52 = .ok (.goto 4, 3) := by decide +kernel
theorem dX9_go_55 : decode cX9_go 55 = .ok (.iconst 0, 1) := by decide +kernel
theorem dX9_go_56 : decode cX9_go 56 = .ok (.iastore, 1) := by decide +kernel
theorem dX9_go_57 : decode cX9_go 57 = .ok (.aload_n 0, 1) := by decide +kernel
theorem dX9_go_58 : decode cX9_go 58 = .ok (.aload_n 0, 1) := by decide +kernel
theorem dX9_go_59 : decode cX9_go 59 = .ok (.getfield 409, 3) := by decide +kernel
theorem dX9_go_62 : decode cX9_go 62 = .ok (.iconst 1, 1) := by decide +kernel
theorem dX9_go_63 : decode cX9_go 63 = .ok (.iadd, 1) := by decide +kernel
theorem dX9_go_64 : decode cX9_go 64 = .ok (.putfield 409, 3) := by decide +kernel
theorem dX9_go_67 : decode cX9_go 67 = .ok (.aload_n 0, 1) := by decide +kernel
theorem dX9_go_68 : decode cX9_go 68 = .ok (.aload_n 0, 1) := by decide +kernel
theorem dX9_go_69 : decode cX9_go 69 = .ok (.getfield 419, 3) := by decide +kernel
theorem dX9_go_72 : decode cX9_go 72 = .ok (.aload_n 0, 1) := by decide +kernel
theorem dX9_go_73 : decode cX9_go 73 = .ok (.iconst 4, 1) := by decide +kernel
theorem dX9_go_74 : decode cX9_go 74 = .ok (.aload_n 0, 1) := by decide +kernel
theorem dX9_go_75 : decode cX9_go 75 = .ok (.getfield 409, 3) := by decide +kernel
theorem dX9_go_78 : decode cX9_go 78 = .ok (.invokevirtual 281, 3) := by decide +kernel
theorem dX9_go_81 : decode cX9_go 81 = .ok (.i2l, 1) := by decide +kernel
theorem dX9_go_82 : decode cX9_go 82 = .ok (.ladd, 1) := by decide +kernel
theorem dX9_go_83 : decode cX9_go 83 = .ok (.putfield 419, 3) := by decide +kernel
theorem dX9_go_86 : decode cX9_go 86 = .ok (.aload_n 0, 1) := by decide +kernel
theorem dX9_go_87 : decode cX9_go 87 = .ok (.getfield 409, 3) := by decide +kernel
theorem dX9_go_90 : decode cX9_go 90 = .ok (.ireturn, 1) := by decide +kernel
theorem dX9_does_0 : decode cX9_does 0 = .ok (.aload_n 0, 1) := by decide +kernel
theorem dX9_does_1 : decode cX9_does 1 = .ok (.getfield 412, 3) := by decide +kernel
theorem dX9_does_4 : decode cX9_does 4 = .ok (.ifCond .eq 15, 3) := by decide +kernel
theorem dX9_does_7 : decode cX9_does 7 = .ok (.iload_n 1, 1) := by decide +kernel
theorem dX9_does_8 : decode cX9_does 8 = .ok (.i2l, 1) := by decide +kernel
theorem dX9_does_9 : decode cX9_does 9 = .ok (.lconst 0, 1) := by decide +kernel
theorem dX9_does_10 : decode cX9_does 10 = .ok (.ldc2_w 142, 3) := by decide +kernel
theorem dX9_does_13 : decode cX9_does 13 = .ok (.invokestatic 60, 3) := by decide +kernel
theorem dX9_does_16 : decode cX9_does 16 = .ok (.ifCond .ne 7, 3) := by decide +kernel
theorem dX9_does_19 : decode cX9_does 19 = .ok (.ldc2_w 116, 3) := by decide +kernel
theorem dX9_does_22 : decode cX9_does 22 = .ok (.lreturn, 1) := by decide +kernel
theorem dX9_does_23 : decode cX9_does 23 = .ok (.aload_n 0, 1) := by decide +kernel
theorem dX9_does_24 : decode cX9_does 24 = .ok (.invokevirtual 425, 3) := by decide +kernel
theorem dX9_does_27 : decode cX9_does 27 = .ok (.aload_n 0, 1) := by decide +kernel
theorem dX9_does_28 : decode cX9_does 28 = .ok (.getfield 416, 3) := by decide +kernel
theorem dX9_does_31 : decode cX9_does 31 = .ok (.ifCond .eq 18, 3) := by decide +kernel
theorem dX9_does_34 : decode cX9_does 34 = .ok (.iload_n 1, 1) := by decide +kernel
theorem dX9_does_35 : decode cX9_does 35 = .ok (.ifCond .ne 18, 3) := by decide +kernel
theorem dX9_does_38 : decode cX9_does 38 = .ok (.aload_n 0, 1) := by decide +kernel
theorem dX9_does_39 : decode cX9_does 39 = .ok (.getfield 316, 3) := by decide +kernel
theorem dX9_does_42 : decode cX9_does 42 = .ok (.aload_n 0, 1) := by decide +kernel
theorem dX9_does_43 : decode cX9_does 43 = .ok (.getfield 94, 3) := by decide +kernel
theorem dX9_does_46 : decode cX9_does 46 = .ok (.if_icmp .ge 7, 3) := by decide +kernel
theorem dX9_does_49 : decode cX9_does 49 = .ok (.ldc2_w 343, 3) := by decide +kernel
theorem dX9_does_52 : decode cX9_does 52 = .ok (.lreturn, 1) := by decide +kernel
theorem dX9_does_53 : decode cX9_does 53 = .ok (.aload_n 0, 1) := by decide +kernel
theorem dX9_does_54 : decode cX9_does 54 = .ok (.iconst 4, 1) := by decide +kernel
theorem dX9_does_55 : decode cX9_does 55 = .ok (.iload_n 1, 1) := by decide +kernel
theorem dX9_does_56 : decode cX9_does 56 = .ok (.invokevirtual 406, 3) := by decide +kernel
theorem dX9_does_59 : decode cX9_does 59 = .ok (.lstore_n 2, 1) := by decide +kernel
theorem dX9_does_60 : decode cX9_does 60 = .ok (.lload_n 2, 1) := by decide +kernel
theorem dX9_does_61 : decode cX9_does 61 = .ok (.lconst 0, 1) := by decide +kernel
theorem dX9_does_62 : decode cX9_does 62 = .ok (.lcmp, 1) := by decide +kernel
theorem dX9_does_63 : decode cX9_does 63 = .ok (.ifCond .ge 7, 3) := by decide +kernel
theorem dX9_does_66 : decode cX9_does 66 = .ok (.ldc2_w 386, 3) := by decide +kernel
theorem dX9_does_69 : decode cX9_does 69 = .ok (.lreturn, 1) := by decide +kernel
theorem dX9_does_70 : decode cX9_does 70 = .ok (.aload_n 0, 1) := by decide +kernel
theorem dX9_does_71 : decode cX9_does 71 = .ok (.iload_n 1, 1) := by decide +kernel
theorem dX9_does_72 : decode cX9_does 72 = .ok (.invokevirtual 428, 3) := by decide +kernel
theorem dX9_does_75 : decode cX9_does 75 = .ok (.aload_n 0, 1) := by decide +kernel
theorem dX9_does_76 : decode cX9_does 76 = .ok (.aload_n 0, 1) := by decide +kernel
theorem dX9_does_77 : decode cX9_does 77 = .ok (.getfield 419, 3) := by decide +kernel
theorem dX9_does_80 : decode cX9_does 80 = .ok (.lload_n 2, 1) := by decide +kernel
theorem dX9_does_81 : decode cX9_does 81 = .ok (.ladd, 1) := by decide +kernel
theorem dX9_does_82 : decode cX9_does 82 = .ok (.aload_n 0, 1) := by decide +kernel
theorem dX9_does_83 : decode cX9_does 83 = .ok (.iconst 4, 1) := by decide +kernel
theorem dX9_does_84 : decode cX9_does 84 = .ok (.aload_n 0, 1) := by decide +kernel
theorem dX9_does_85 : decode cX9_does 85 = .ok (.getfield 316, 3) := by decide +kernel
theorem dX9_does_88 : decode cX9_does 88 = .ok (.invokevirtual 281, 3) := by decide +kernel
theorem dX9_does_91 : decode cX9_does 91 = .ok (.i2l, 1) := by decide +kernel
theorem dX9_does_92 : decode cX9_does 92 = .ok (.lsub, 1) := by decide +kernel
theorem dX9_does_93 : decode cX9_does 93 = .ok (.putfield 419, 3) := by decide +kernel
theorem dX9_does_96 : decode cX9_does 96 = .ok (.aload_n 0, 1) := by decide +kernel
theorem dX9_does_97 : decode cX9_does 97 = .ok (.iconst 0, 1) := by decide +kernel
theorem dX9_does_98 : decode cX9_does 98 = .ok (.putfield 416, 3) := by decide +kernel
theorem dX9_does_101 : decode cX9_does 101 = .ok (.aload_n 0, 1) := by decide +kernel
theorem dX9_does_102 : decode cX9_does 102 = .ok (.getfield 419, 3) := by decide +kernel
theorem dX9_does_105 : decode cX9_does 105 = .ok (.lreturn, 1) := by decide +kernel
theorem dX9_byHand_0 : decode cX9_byHand 0 = .ok (.aload_n 0, 1) := by decide +kernel
theorem dX9_byHand_1 : decode cX9_byHand 1 = .ok (.getfield 412, 3) := by decide +kernel
theorem dX9_byHand_4 : decode cX9_byHand 4 = .ok (.ifCond .eq 15, 3) := by decide +kernel
theorem dX9_byHand_7 : decode cX9_byHand 7 = .ok (.iload_n 1, 1) := by decide +kernel
theorem dX9_byHand_8 : decode cX9_byHand 8 = .ok (.i2l, 1) := by decide +kernel
theorem dX9_byHand_9 : decode cX9_byHand 9 = .ok (.lconst 0, 1) := by decide +kernel
theorem dX9_byHand_10 : decode cX9_byHand 10 = .ok (.ldc2_w 147, 3) := by decide +kernel
theorem dX9_byHand_13 : decode cX9_byHand 13 = .ok (.invokestatic 60, 3) := by decide +kernel
theorem dX9_byHand_16 : decode cX9_byHand 16 = .ok (.ifCond .ne 7, 3) := by decide +kernel
theorem dX9_byHand_19 : decode cX9_byHand 19 = .ok (.ldc2_w 116, 3) := by decide +kernel
theorem dX9_byHand_22 : decode cX9_byHand 22 = .ok (.lreturn, 1) := by decide +kernel
theorem dX9_byHand_23 : decode cX9_byHand 23 = .ok (.aload_n 0, 1) := by decide +kernel
theorem dX9_byHand_24 : decode cX9_byHand 24 = .ok (.invokevirtual 425, 3) := by decide +kernel
theorem dX9_byHand_27 : decode cX9_byHand 27 = .ok (.iload_n 1, 1) := by decide +kernel
theorem dX9_byHand_28 : decode cX9_byHand 28 = .ok (.ifCond .ne 18, 3) := by decide +kernel
theorem dX9_byHand_31 : decode cX9_byHand 31 = .ok (.aload_n 0, 1) := by decide +kernel
theorem dX9_byHand_32 : decode cX9_byHand 32 = .ok (.getfield 416, 3) := by decide +kernel
theorem dX9_byHand_35 : decode cX9_byHand 35 = .ok (.ifCond .eq 7, 3) := by decide +kernel
theorem dX9_byHand_38 : decode cX9_byHand 38 = .ok (.lconst 1, 1) := by decide +kernel
theorem dX9_byHand_39 : decode cX9_byHand 39 = .ok (.goto 54, 3) := by decide +kernel
theorem dX9_byHand_42 : decode cX9_byHand 42 = .ok (.lconst 0, 1) := by decide +kernel
theorem dX9_byHand_43 : decode cX9_byHand 43 = .ok (.goto 50, 3) := by decide +kernel
theorem dX9_byHand_46 : decode cX9_byHand 46 = .ok (.iload_n 1, 1) := by decide +kernel
theorem dX9_byHand_47 : decode cX9_byHand 47 = .ok (.iconst 1, 1) := by decide +kernel
theorem dX9_byHand_48 : decode cX9_byHand 48 = .ok (.if_icmp .ne 11, 3) := by decide +kernel
theorem dX9_byHand_51 : decode cX9_byHand 51 = .ok (.aload_n 0, 1) := by decide +kernel
theorem dX9_byHand_52 : decode cX9_byHand 52 = .ok (.getfield 316, 3) := by decide +kernel
theorem dX9_byHand_55 : decode cX9_byHand 55 = .ok (.i2l, 1) := by decide +kernel
theorem dX9_byHand_56 : decode cX9_byHand 56 = .ok (.goto 37, 3) := by decide +kernel
theorem dX9_byHand_59 : decode cX9_byHand 59 = .ok (.iload_n 1, 1) := by decide +kernel
theorem dX9_byHand_60 : decode cX9_byHand 60 = .ok (.iconst 2, 1) := by decide +kernel
theorem dX9_byHand_61 : decode cX9_byHand 61 = .ok (.if_icmp .ne 10, 3) := by decide +kernel
theorem dX9_byHand_64 : decode cX9_byHand 64 = .ok (.aload_n 0, 1) := by decide +kernel
theorem dX9_byHand_65 : decode cX9_byHand 65 = .ok (.getfield 419, 3) := by decide +kernel
theorem dX9_byHand_68 : decode cX9_byHand 68 = .ok (.goto 25, 3) := by decide +kernel
theorem dX9_byHand_71 : decode cX9_byHand 71 = .ok (.iload_n 1, 1) := by decide +kernel
theorem dX9_byHand_72 : decode cX9_byHand 72 = .ok (.iconst 3, 1) := by decide +kernel
theorem dX9_byHand_73 : decode cX9_byHand 73 = .ok (.if_icmp .ne 10, 3) := by decide +kernel
theorem dX9_byHand_76 : decode cX9_byHand 76 = .ok (.aload_n 0, 1) := by decide +kernel
theorem dX9_byHand_77 : decode cX9_byHand 77 = .ok (.getfield 422, 3) := by decide +kernel
theorem dX9_byHand_80 : decode cX9_byHand 80 = .ok (.goto 13, 3) := by decide +kernel
theorem dX9_byHand_83 : decode cX9_byHand 83 = .ok (.aload_n 0, 1) := by decide +kernel
theorem dX9_byHand_84 : decode cX9_byHand 84 = .ok (.getfield 39, 3) := by decide +kernel
theorem dX9_byHand_87 : decode cX9_byHand 87 = .ok (.aload_n 0, 1) := by decide +kernel
theorem dX9_byHand_88 : decode cX9_byHand 88 = .ok (.invokevirtual 340, 3) := by decide +kernel
theorem dX9_byHand_91 : decode cX9_byHand 91 = .ok (.iaload, 1) := by decide +kernel
theorem dX9_byHand_92 : decode cX9_byHand 92 = .ok (.i2l, 1) := by decide +kernel
theorem dX9_byHand_93 : decode cX9_byHand 93 = .ok (.lreturn, 1) := by decide +kernel
theorem dX9_laysByRule_0 : decode cX9_laysByRule 0 = .ok (.iload_n 2, 1) := by decide +kernel
theorem dX9_laysByRule_1 : decode cX9_laysByRule 1 = .ok (.iload_n 3, 1) := by decide +kernel
theorem dX9_laysByRule_2 : decode cX9_laysByRule 2 = .ok (.iload 4, 2) := by decide +kernel
theorem dX9_laysByRule_4 : decode cX9_laysByRule 4 = .ok (.iload 5, 2) := by decide +kernel
theorem dX9_laysByRule_6 : decode cX9_laysByRule 6 = .ok (.invokestatic 267, 3) := by decide +kernel
theorem dX9_laysByRule_9 : decode cX9_laysByRule 9 = .ok (.istore 8, 2) := by decide +kernel
theorem dX9_laysByRule_11 : decode cX9_laysByRule 11 = .ok (.aload_n 0, 1) := by decide +kernel
theorem dX9_laysByRule_12 : decode cX9_laysByRule 12 = .ok (.iload_n 1, 1) := by decide +kernel
theorem dX9_laysByRule_13 : decode cX9_laysByRule 13 = .ok (.iload_n 2, 1) := by decide +kernel
theorem dX9_laysByRule_14 : decode cX9_laysByRule 14 = .ok (.iload_n 3, 1) := by decide +kernel
theorem dX9_laysByRule_15 : decode cX9_laysByRule 15 = .ok (.iload 4, 2) := by decide +kernel
theorem dX9_laysByRule_17 : decode cX9_laysByRule 17 = .ok (.invokevirtual 270, 3) := by decide +kernel
theorem dX9_laysByRule_20 : decode cX9_laysByRule 20 = .ok (.lstore 9, 2) := by decide +kernel
theorem dX9_laysByRule_22 : decode cX9_laysByRule 22 = .ok (.lload 9, 2) := by decide +kernel
theorem dX9_laysByRule_24 : decode cX9_laysByRule 24 = .ok (.ldc2_w 116, 3) := by decide +kernel
theorem dX9_laysByRule_27 : decode cX9_laysByRule 27 = .ok (.lcmp, 1) := by decide +kernel
theorem dX9_laysByRule_28 : decode cX9_laysByRule 28 = .ok (.ifCond .eq 49, 3) := by decide +kernel
theorem dX9_laysByRule_31 : decode cX9_laysByRule 31 = .ok (.aload_n 0, 1) := by decide +kernel
theorem dX9_laysByRule_32 : decode cX9_laysByRule 32 = .ok (.getfield 26, 3) := by decide +kernel
theorem dX9_laysByRule_35 : decode cX9_laysByRule 35 = .ok (.bipush 7, 2) := by decide +kernel
theorem dX9_laysByRule_37 : decode cX9_laysByRule 37 = .ok (.iload_n 2, 1) := by decide +kernel
theorem dX9_laysByRule_38 : decode cX9_laysByRule 38 = .ok (.imul, 1) := by decide +kernel
theorem dX9_laysByRule_39 : decode cX9_laysByRule 39 = .ok (.iload_n 3, 1) := by decide +kernel
theorem dX9_laysByRule_40 : decode cX9_laysByRule 40 = .ok (.iadd, 1) := by decide +kernel
theorem dX9_laysByRule_41 : decode cX9_laysByRule 41 = .ok (.laload, 1) := by decide +kernel
theorem dX9_laysByRule_42 : decode cX9_laysByRule 42 = .ok (.iload 6, 2) := by decide +kernel
theorem dX9_laysByRule_44 : decode cX9_laysByRule 44 = .ok (.i2l, 1) := by decide +kernel
theorem dX9_laysByRule_45 : decode cX9_laysByRule 45 = .ok (.lcmp, 1) := by decide +kernel
theorem dX9_laysByRule_46 : decode cX9_laysByRule 46 = .ok (.ifCond .lt 31, 3) := by decide +kernel
theorem dX9_laysByRule_49 : decode cX9_laysByRule 49 = .ok (.aload_n 0, 1) := by decide +kernel
theorem dX9_laysByRule_50 : decode cX9_laysByRule 50 = .ok (.getfield 39, 3) := by decide +kernel
theorem dX9_laysByRule_53 : decode cX9_laysByRule 53 = .ok (.iload 8, 2) := by decide +kernel
theorem dX9_laysByRule_55 : decode cX9_laysByRule 55 = .ok (.iconst 2, 1) := by decide +kernel
theorem dX9_laysByRule_56 : decode cX9_laysByRule 56 = .ok (.iastore, 1) := by decide +kernel
theorem dX9_laysByRule_57 : decode cX9_laysByRule 57 = .ok (.aload_n 0, 1) := by decide +kernel
theorem dX9_laysByRule_58 : decode cX9_laysByRule 58 = .ok (.getfield 30, 3) := by decide +kernel
theorem dX9_laysByRule_61 : decode cX9_laysByRule 61 = .ok (.iload 8, 2) := by decide +kernel
theorem dX9_laysByRule_63 : decode cX9_laysByRule 63 = .ok (.aload_n 0, 1) := by decide +kernel
theorem dX9_laysByRule_64 : decode cX9_laysByRule 64 = .ok (.iload_n 1, 1) := by decide +kernel
theorem dX9_laysByRule_65 : decode cX9_laysByRule 65 = .ok (.iload_n 2, 1) := by decide +kernel
theorem dX9_laysByRule_66 : decode cX9_laysByRule 66 = .ok (.invokevirtual 281, 3) := by decide +kernel
theorem dX9_laysByRule_69 : decode cX9_laysByRule 69 = .ok (.i2l, 1) := by decide +kernel
theorem dX9_laysByRule_70 : decode cX9_laysByRule 70 = .ok (.lload 9, 2) := by decide +kernel
theorem dX9_laysByRule_72 : decode cX9_laysByRule 72 = .ok (.ladd, 1) := by decide +kernel
theorem dX9_laysByRule_73 : decode cX9_laysByRule 73 = .ok (.lastore, 1) := by decide +kernel
theorem dX9_laysByRule_74 : decode cX9_laysByRule 74 = .ok (.goto 118, 3) := by decide +kernel
theorem dX9_laysByRule_77 : decode cX9_laysByRule 77 = .ok (.aload_n 0, 1) := by decide +kernel
theorem dX9_laysByRule_78 : decode cX9_laysByRule 78 = .ok (.iload_n 1, 1) := by decide +kernel
theorem dX9_laysByRule_79 : decode cX9_laysByRule 79 = .ok (.iload_n 2, 1) := by decide +kernel
theorem dX9_laysByRule_80 : decode cX9_laysByRule 80 = .ok (.iload 5, 2) := by decide +kernel
theorem dX9_laysByRule_82 : decode cX9_laysByRule 82 = .ok (.invokevirtual 294, 3) := by decide +kernel
theorem dX9_laysByRule_85 : decode cX9_laysByRule 85 = .ok (.ifCond .eq 73, 3) := by decide +kernel
theorem dX9_laysByRule_88 : decode cX9_laysByRule 88 = .ok (.aload_n 0, 1) := by decide +kernel
theorem dX9_laysByRule_89 : decode cX9_laysByRule 89 = .ok (.getfield 26, 3) := by decide +kernel
theorem dX9_laysByRule_92 : decode cX9_laysByRule 92 = .ok (.bipush 7, 2) := by decide +kernel
theorem dX9_laysByRule_94 : decode cX9_laysByRule 94 = .ok (.iload_n 2, 1) := by decide +kernel
theorem dX9_laysByRule_95 : decode cX9_laysByRule 95 = .ok (.imul, 1) := by decide +kernel
theorem dX9_laysByRule_96 : decode cX9_laysByRule 96 = .ok (.iload_n 3, 1) := by decide +kernel
theorem dX9_laysByRule_97 : decode cX9_laysByRule 97 = .ok (.iadd, 1) := by decide +kernel
theorem dX9_laysByRule_98 : decode cX9_laysByRule 98 = .ok (.laload, 1) := by decide +kernel
theorem dX9_laysByRule_99 : decode cX9_laysByRule 99 = .ok (.iload 7, 2) := by decide +kernel
theorem dX9_laysByRule_101 : decode cX9_laysByRule 101 = .ok (.i2l, 1) := by decide +kernel
theorem dX9_laysByRule_102 : decode cX9_laysByRule 102 = .ok (.lcmp, 1) := by decide +kernel
theorem dX9_laysByRule_103 : decode cX9_laysByRule 103 = .ok (.ifCond .lt 55, 3) := by decide +kernel
theorem dX9_laysByRule_106 : decode cX9_laysByRule 106 = .ok (.aload_n 0, 1) := by decide +kernel
theorem dX9_laysByRule_107 : decode cX9_laysByRule 107 = .ok (.getfield 39, 3) := by decide +kernel
theorem dX9_laysByRule_110 : decode cX9_laysByRule 110 = .ok (.iload 8, 2) := by decide +kernel
theorem dX9_laysByRule_112 : decode cX9_laysByRule 112 = .ok (.lload 9, 2) := by decide +kernel
theorem dX9_laysByRule_114 : decode cX9_laysByRule 114 = .ok (.aload_n 0, 1) := by decide +kernel
theorem dX9_laysByRule_115 : decode cX9_laysByRule 115 = .ok (.iload_n 1, 1) := by decide +kernel
theorem dX9_laysByRule_116 : decode cX9_laysByRule 116 = .ok (.iload_n 2, 1) := by decide +kernel
theorem dX9_laysByRule_117 : decode cX9_laysByRule 117 = .ok (.invokevirtual 257, 3) := by decide +kernel
theorem dX9_laysByRule_120 : decode cX9_laysByRule 120 = .ok (.i2l, 1) := by decide +kernel
theorem dX9_laysByRule_121 : decode cX9_laysByRule 121 = .ok (.lcmp, 1) := by decide +kernel
theorem dX9_laysByRule_122 : decode cX9_laysByRule 122 = .ok (.ifCond .le 7, 3) := by decide +kernel
theorem dX9_laysByRule_125 : decode cX9_laysByRule 125 = .ok (.iconst 4, 1) := by decide +kernel
theorem dX9_laysByRule_126 : decode cX9_laysByRule 126 = .ok (.goto 4, 3) := by decide +kernel
theorem dX9_laysByRule_129 : decode cX9_laysByRule 129 = .ok (.iconst 3, 1) := by decide +kernel
theorem dX9_laysByRule_130 : decode cX9_laysByRule 130 = .ok (.iastore, 1) := by decide +kernel
theorem dX9_laysByRule_131 : decode cX9_laysByRule 131 = .ok (.aload_n 0, 1) := by decide +kernel
theorem dX9_laysByRule_132 : decode cX9_laysByRule 132 = .ok (.getfield 30, 3) := by decide +kernel
theorem dX9_laysByRule_135 : decode cX9_laysByRule 135 = .ok (.iload 8, 2) := by decide +kernel
theorem dX9_laysByRule_137 : decode cX9_laysByRule 137 = .ok (.aload_n 0, 1) := by decide +kernel
theorem dX9_laysByRule_138 : decode cX9_laysByRule 138 = .ok (.iload_n 1, 1) := by decide +kernel
theorem dX9_laysByRule_139 : decode cX9_laysByRule 139 = .ok (.iload_n 2, 1) := by decide +kernel
theorem dX9_laysByRule_140 : decode cX9_laysByRule 140 = .ok (.invokevirtual 281, 3) := by decide +kernel
theorem dX9_laysByRule_143 : decode cX9_laysByRule 143 = .ok (.i2l, 1) := by decide +kernel
theorem dX9_laysByRule_144 : decode cX9_laysByRule 144 = .ok (.aload_n 0, 1) := by decide +kernel
theorem dX9_laysByRule_145 : decode cX9_laysByRule 145 = .ok (.iload_n 1, 1) := by decide +kernel
theorem dX9_laysByRule_146 : decode cX9_laysByRule 146 = .ok (.iload_n 2, 1) := by decide +kernel
theorem dX9_laysByRule_147 : decode cX9_laysByRule 147 = .ok (.iload_n 3, 1) := by decide +kernel
theorem dX9_laysByRule_148 : decode cX9_laysByRule 148 = .ok (.iload 4, 2) := by decide +kernel
theorem dX9_laysByRule_150 : decode cX9_laysByRule 150 = .ok (.invokevirtual 291, 3) := by decide +kernel
theorem dX9_laysByRule_153 : decode cX9_laysByRule 153 = .ok (.ladd, 1) := by decide +kernel
theorem dX9_laysByRule_154 : decode cX9_laysByRule 154 = .ok (.lastore, 1) := by decide +kernel
theorem dX9_laysByRule_155 : decode cX9_laysByRule 155 = .ok (.goto 37, 3) := by decide +kernel
theorem dX9_laysByRule_158 : decode cX9_laysByRule 158 = .ok (.aload_n 0, 1) := by decide +kernel
theorem dX9_laysByRule_159 : decode cX9_laysByRule 159 = .ok (.getfield 39, 3) := by decide +kernel
theorem dX9_laysByRule_162 : decode cX9_laysByRule 162 = .ok (.iload 8, 2) := by decide +kernel
theorem dX9_laysByRule_164 : decode cX9_laysByRule 164 = .ok (.iconst 0, 1) := by decide +kernel
theorem dX9_laysByRule_165 : decode cX9_laysByRule 165 = .ok (.iastore, 1) := by decide +kernel
theorem dX9_laysByRule_166 : decode cX9_laysByRule 166 = .ok (.aload_n 0, 1) := by decide +kernel
theorem dX9_laysByRule_167 : decode cX9_laysByRule 167 = .ok (.getfield 30, 3) := by decide +kernel
theorem dX9_laysByRule_170 : decode cX9_laysByRule 170 = .ok (.iload 8, 2) := by decide +kernel
theorem dX9_laysByRule_172 : decode cX9_laysByRule 172 = .ok (.aload_n 0, 1) := by decide +kernel
theorem dX9_laysByRule_173 : decode cX9_laysByRule 173 = .ok (.iload_n 1, 1) := by decide +kernel
theorem dX9_laysByRule_174 : decode cX9_laysByRule 174 = .ok (.iload_n 2, 1) := by decide +kernel
theorem dX9_laysByRule_175 : decode cX9_laysByRule 175 = .ok (.invokevirtual 281, 3) := by decide +kernel
theorem dX9_laysByRule_178 : decode cX9_laysByRule 178 = .ok (.i2l, 1) := by decide +kernel
theorem dX9_laysByRule_179 : decode cX9_laysByRule 179 = .ok (.aload_n 0, 1) := by decide +kernel
theorem dX9_laysByRule_180 : decode cX9_laysByRule 180 = .ok (.iload_n 1, 1) := by decide +kernel
theorem dX9_laysByRule_181 : decode cX9_laysByRule 181 = .ok (.iload_n 2, 1) := by decide +kernel
theorem dX9_laysByRule_182 : decode cX9_laysByRule 182 = .ok (.iload_n 3, 1) := by decide +kernel
theorem dX9_laysByRule_183 : decode cX9_laysByRule 183 = .ok (.iload 4, 2) := by decide +kernel
theorem dX9_laysByRule_185 : decode cX9_laysByRule 185 = .ok (.iload 5, 2) := by decide +kernel
theorem dX9_laysByRule_187 : decode cX9_laysByRule 187 = .ok (.invokevirtual 287, 3) := by decide +kernel
theorem dX9_laysByRule_190 : decode cX9_laysByRule 190 = .ok (.ladd, 1) := by decide +kernel
theorem dX9_laysByRule_191 : decode cX9_laysByRule 191 = .ok (.lastore, 1) := by decide +kernel
theorem dX9_laysByRule_192 : decode cX9_laysByRule 192 = .ok (.return_, 1) := by decide +kernel
theorem dX9_byRule_0 : decode cX9_byRule 0 = .ok (.iload_n 1, 1) := by decide +kernel
theorem dX9_byRule_1 : decode cX9_byRule 1 = .ok (.invokestatic 126, 3) := by decide +kernel
theorem dX9_byRule_4 : decode cX9_byRule 4 = .ok (.ifCond .eq 27, 3) := by decide +kernel
theorem dX9_byRule_7 : decode cX9_byRule 7 = .ok (.iload_n 2, 1) := by decide +kernel
theorem dX9_byRule_8 : decode cX9_byRule 8 = .ok (.i2l, 1) := by decide +kernel
theorem dX9_byRule_9 : decode cX9_byRule 9 = .ok (.lconst 0, 1) := by decide +kernel
theorem dX9_byRule_10 : decode cX9_byRule 10 = .ok (.ldc2_w 130, 3) := by decide +kernel
theorem dX9_byRule_13 : decode cX9_byRule 13 = .ok (.invokestatic 60, 3) := by decide +kernel
theorem dX9_byRule_16 : decode cX9_byRule 16 = .ok (.ifCond .eq 15, 3) := by decide +kernel
theorem dX9_byRule_19 : decode cX9_byRule 19 = .ok (.iload_n 3, 1) := by decide +kernel
theorem dX9_byRule_20 : decode cX9_byRule 20 = .ok (.i2l, 1) := by decide +kernel
theorem dX9_byRule_21 : decode cX9_byRule 21 = .ok (.lconst 0, 1) := by decide +kernel
theorem dX9_byRule_22 : decode cX9_byRule 22 = .ok (.ldc2_w 130, 3) := by decide +kernel
theorem dX9_byRule_25 : decode cX9_byRule 25 = .ok (.invokestatic 60, 3) := by decide +kernel
theorem dX9_byRule_28 : decode cX9_byRule 28 = .ok (.ifCond .ne 7, 3) := by decide +kernel
theorem dX9_byRule_31 : decode cX9_byRule 31 = .ok (.ldc2_w 116, 3) := by decide +kernel
theorem dX9_byRule_34 : decode cX9_byRule 34 = .ok (.lreturn, 1) := by decide +kernel
theorem dX9_byRule_35 : decode cX9_byRule 35 = .ok (.aload_n 0, 1) := by decide +kernel
theorem dX9_byRule_36 : decode cX9_byRule 36 = .ok (.iload_n 1, 1) := by decide +kernel
theorem dX9_byRule_37 : decode cX9_byRule 37 = .ok (.invokevirtual 334, 3) := by decide +kernel
theorem dX9_byRule_40 : decode cX9_byRule 40 = .ok (.aload_n 0, 1) := by decide +kernel
theorem dX9_byRule_41 : decode cX9_byRule 41 = .ok (.getfield 94, 3) := by decide +kernel
theorem dX9_byRule_44 : decode cX9_byRule 44 = .ok (.iconst 1, 1) := by decide +kernel
theorem dX9_byRule_45 : decode cX9_byRule 45 = .ok (.isub, 1) := by decide +kernel
theorem dX9_byRule_46 : decode cX9_byRule 46 = .ok (.istore 5, 2) := by decide +kernel
theorem dX9_byRule_48 : decode cX9_byRule 48 = .ok (.iload 5, 2) := by decide +kernel
theorem dX9_byRule_50 : decode cX9_byRule 50 = .ok (.ifCond .lt 94, 3) := by decide +kernel
theorem dX9_byRule_53 : decode cX9_byRule 53 = .ok (.iconst 0, 1) := by decide +kernel
theorem dX9_byRule_54 : decode cX9_byRule 54 = .ok (.istore 6, 2) := by decide +kernel
theorem dX9_byRule_56 : decode cX9_byRule 56 = .ok (.iload 6, 2) := by decide +kernel
theorem dX9_byRule_58 : decode cX9_byRule 58 = .ok (.iload 5, 2) := by decide +kernel
theorem dX9_byRule_60 : decode cX9_byRule 60 = .ok (.if_icmp .gt 78, 3) := by decide +kernel
theorem dX9_byRule_63 : decode cX9_byRule 63 = .ok (.iconst 0, 1) := by decide +kernel
theorem dX9_byRule_64 : decode cX9_byRule 64 = .ok (.istore 7, 2) := by decide +kernel
theorem dX9_byRule_66 : decode cX9_byRule 66 = .ok (.iload 7, 2) := by decide +kernel
theorem dX9_byRule_68 : decode cX9_byRule 68 = .ok (.iconst 2, 1) := by decide +kernel
theorem dX9_byRule_69 : decode cX9_byRule 69 = .ok (.if_icmp .ge 63, 3) := by decide +kernel
theorem dX9_byRule_72 : decode cX9_byRule 72 = .ok (.aload_n 0, 1) := by decide +kernel
theorem dX9_byRule_73 : decode cX9_byRule 73 = .ok (.iload_n 1, 1) := by decide +kernel
theorem dX9_byRule_74 : decode cX9_byRule 74 = .ok (.iload 5, 2) := by decide +kernel
theorem dX9_byRule_76 : decode cX9_byRule 76 = .ok (.iload 6, 2) := by decide +kernel
theorem dX9_byRule_78 : decode cX9_byRule 78 = .ok (.invokevirtual 263, 3) := by decide +kernel
theorem dX9_byRule_81 : decode cX9_byRule 81 = .ok (.istore 8, 2) := by decide +kernel
theorem dX9_byRule_83 : decode cX9_byRule 83 = .ok (.iload 8, 2) := by decide +kernel
theorem dX9_byRule_85 : decode cX9_byRule 85 = .ok (.bipush 8, 2) := by decide +kernel
theorem dX9_byRule_87 : decode cX9_byRule 87 = .ok (.if_icmp .ge 39, 3) := by decide +kernel
theorem dX9_byRule_90 : decode cX9_byRule 90 = .ok (.iload 5, 2) := by decide +kernel
theorem dX9_byRule_92 : decode cX9_byRule 92 = .ok (.iload 6, 2) := by decide +kernel
theorem dX9_byRule_94 : decode cX9_byRule 94 = .ok (.iload 7, 2) := by decide +kernel
theorem dX9_byRule_96 : decode cX9_byRule 96 = .ok (.invokestatic 297, 3) := by decide +kernel
theorem dX9_byRule_99 : decode cX9_byRule 99 = .ok (.ifCond .eq 27, 3) := by decide +kernel
theorem dX9_byRule_102 : decode cX9_byRule 102 = .ok (.aload_n 0, 1) := by decide +kernel
theorem dX9_byRule_103 : decode cX9_byRule 103 = .ok (.iload_n 1, 1) := by decide +kernel
theorem dX9_byRule_104 : decode cX9_byRule 104 = .ok (.iload 5, 2) := by decide +kernel
theorem dX9_byRule_106 : decode cX9_byRule 106 = .ok (.iload 6, 2) := by decide +kernel
theorem dX9_byRule_108 : decode cX9_byRule 108 = .ok (.iload 7, 2) := by decide +kernel
theorem dX9_byRule_110 : decode cX9_byRule 110 = .ok (.iload 8, 2) := by decide +kernel
theorem dX9_byRule_112 : decode cX9_byRule 112 = .ok (.iload_n 2, 1) := by decide +kernel
theorem dX9_byRule_113 : decode cX9_byRule 113 = .ok (.iload_n 3, 1) := by decide +kernel
theorem dX9_byRule_114 : decode cX9_byRule 114 = .ok (.invokevirtual 431, 3) := by decide +kernel
theorem dX9_byRule_117 : decode cX9_byRule 117 = .ok (.iload 8, 2) := by decide +kernel
theorem dX9_byRule_119 : decode cX9_byRule 119 = .ok (.iconst 2, 1) := by decide +kernel
theorem dX9_byRule_120 : decode cX9_byRule 120 = .ok (.iadd, 1) := by decide +kernel
theorem dX9_byRule_121 : decode cX9_byRule 121 = .ok (.istore 8, 2) := by decide +kernel
theorem dX9_byRule_123 : decode cX9_byRule 123 = .ok (.goto (-40), 3) := by decide +kernel
theorem dX9_byRule_126 : decode cX9_byRule 126 = .ok (.iinc 7 1, 3) := by decide +kernel
theorem dX9_byRule_129 : decode cX9_byRule 129 = .ok (.goto (-63), 3) := by decide +kernel
theorem dX9_byRule_132 : decode cX9_byRule 132 = .ok (.iinc 6 1, 3) := by decide +kernel
theorem dX9_byRule_135 : decode cX9_byRule 135 = .ok (.goto (-79), 3) := by decide +kernel
theorem dX9_byRule_138 : decode cX9_byRule 138 = .ok (.iinc 5 (-1), 3) := by decide +kernel
theorem dX9_byRule_141 : decode cX9_byRule 141 = .ok (.goto (-93), 3) := by decide +kernel
theorem dX9_byRule_144 : decode cX9_byRule 144 = .ok (.iload 4, 2) := by decide +kernel
theorem dX9_byRule_146 : decode cX9_byRule 146 = .ok (.ifCond .ne 14, 3) := by decide +kernel
theorem dX9_byRule_149 : decode cX9_byRule 149 = .ok (.aload_n 0, 1) := by decide +kernel
theorem dX9_byRule_150 : decode cX9_byRule 150 = .ok (.getfield 30, 3) := by decide +kernel
theorem dX9_byRule_153 : decode cX9_byRule 153 = .ok (.aload_n 0, 1) := by decide +kernel
theorem dX9_byRule_154 : decode cX9_byRule 154 = .ok (.iload_n 1, 1) := by decide +kernel
theorem dX9_byRule_155 : decode cX9_byRule 155 = .ok (.invokevirtual 313, 3) := by decide +kernel
theorem dX9_byRule_158 : decode cX9_byRule 158 = .ok (.laload, 1) := by decide +kernel
theorem dX9_byRule_159 : decode cX9_byRule 159 = .ok (.lreturn, 1) := by decide +kernel
theorem dX9_byRule_160 : decode cX9_byRule 160 = .ok (.aload_n 0, 1) := by decide +kernel
theorem dX9_byRule_161 : decode cX9_byRule 161 = .ok (.iload_n 1, 1) := by decide +kernel
theorem dX9_byRule_162 : decode cX9_byRule 162 = .ok (.aload_n 0, 1) := by decide +kernel
theorem dX9_byRule_163 : decode cX9_byRule 163 = .ok (.getfield 76, 3) := by decide +kernel
theorem dX9_byRule_166 : decode cX9_byRule 166 = .ok (.invokevirtual 337, 3) := by decide +kernel
theorem dX9_byRule_169 : decode cX9_byRule 169 = .ok (.aload_n 0, 1) := by decide +kernel
theorem dX9_byRule_170 : decode cX9_byRule 170 = .ok (.getfield 39, 3) := by decide +kernel
theorem dX9_byRule_173 : decode cX9_byRule 173 = .ok (.aload_n 0, 1) := by decide +kernel
theorem dX9_byRule_174 : decode cX9_byRule 174 = .ok (.invokevirtual 340, 3) := by decide +kernel
theorem dX9_byRule_177 : decode cX9_byRule 177 = .ok (.iaload, 1) := by decide +kernel
theorem dX9_byRule_178 : decode cX9_byRule 178 = .ok (.i2l, 1) := by decide +kernel
theorem dX9_byRule_179 : decode cX9_byRule 179 = .ok (.lreturn, 1) := by decide +kernel
theorem dX9_swaps_0 : decode cX9_swaps 0 = .ok (.iconst 0, 1) := by decide +kernel
theorem dX9_swaps_1 : decode cX9_swaps 1 = .ok (.istore_n 1, 1) := by decide +kernel
