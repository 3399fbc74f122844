theorem dX9_swaps_2 : decode cX9_swaps 2 = .ok (.iload_n 1, 1) := by decide +kernel
theorem dX9_swaps_3 : decode cX9_swaps 3 = .ok (.bipush 6, 2) := by decide +kernel
theorem dX9_swaps_5 : decode cX9_swaps 5 = .ok (.if_icmp .ge 35, 3) := by decide +kernel
theorem dX9_swaps_8 : decode cX9_swaps 8 = .ok (.aload_n 0, 1) := by decide +kernel
theorem dX9_swaps_9 : decode cX9_swaps 9 = .ok (.getfield 42, 3) := by decide +kernel
theorem dX9_swaps_12 : decode cX9_swaps 12 = .ok (.iload_n 1, 1) := by decide +kernel
theorem dX9_swaps_13 : decode cX9_swaps 13 = .ok (.iaload, 1) := by decide +kernel
theorem dX9_swaps_14 : decode cX9_swaps 14 = .ok (.istore_n 2, 1) := by decide +kernel
theorem dX9_swaps_15 : decode cX9_swaps 15 = .ok (.aload_n 0, 1) := by decide +kernel
theorem dX9_swaps_16 : decode cX9_swaps 16 = .ok (.getfield 42, 3) := by decide +kernel
theorem dX9_swaps_19 : decode cX9_swaps 19 = .ok (.iload_n 1, 1) := by decide +kernel
theorem dX9_swaps_20 : decode cX9_swaps 20 = .ok (.aload_n 0, 1) := by decide +kernel
theorem dX9_swaps_21 : decode cX9_swaps 21 = .ok (.getfield 20, 3) := by decide +kernel
theorem dX9_swaps_24 : decode cX9_swaps 24 = .ok (.iload_n 1, 1) := by decide +kernel
theorem dX9_swaps_25 : decode cX9_swaps 25 = .ok (.iaload, 1) := by decide +kernel
theorem dX9_swaps_26 : decode cX9_swaps 26 = .ok (.iastore, 1) := by decide +kernel
theorem dX9_swaps_27 : decode cX9_swaps 27 = .ok (.aload_n 0, 1) := by decide +kernel
theorem dX9_swaps_28 : decode cX9_swaps 28 = .ok (.getfield 20, 3) := by decide +kernel
theorem dX9_swaps_31 : decode cX9_swaps 31 = .ok (.iload_n 1, 1) := by decide +kernel
theorem dX9_swaps_32 : decode cX9_swaps 32 = .ok (.iload_n 2, 1) := by decide +kernel
theorem dX9_swaps_33 : decode cX9_swaps 33 = .ok (.iastore, 1) := by decide +kernel
theorem dX9_swaps_34 : decode cX9_swaps 34 = .ok (.iinc 1 1, 3) := by decide +kernel
theorem dX9_swaps_37 : decode cX9_swaps 37 = .ok (.goto (-35), 3) := by decide +kernel
theorem dX9_swaps_40 : decode cX9_swaps 40 = .ok (.return_, 1) := by decide +kernel
theorem dX9_run_0 : decode cX9_run 0 = .ok (.iload_n 1, 1) := by decide +kernel
theorem dX9_run_1 : decode cX9_run 1 = .ok (.invokestatic 126, 3) := by decide +kernel
theorem dX9_run_4 : decode cX9_run 4 = .ok (.ifCond .eq 15, 3) := by decide +kernel
theorem dX9_run_7 : decode cX9_run 7 = .ok (.iload_n 3, 1) := by decide +kernel
theorem dX9_run_8 : decode cX9_run 8 = .ok (.i2l, 1) := by decide +kernel
theorem dX9_run_9 : decode cX9_run 9 = .ok (.lconst 1, 1) := by decide +kernel
theorem dX9_run_10 : decode cX9_run 10 = .ok (.ldc2_w 110, 3) := by decide +kernel
theorem dX9_run_13 : decode cX9_run 13 = .ok (.invokestatic 60, 3) := by decide +kernel
theorem dX9_run_16 : decode cX9_run 16 = .ok (.ifCond .ne 7, 3) := by decide +kernel
theorem dX9_run_19 : decode cX9_run 19 = .ok (.ldc2_w 116, 3) := by decide +kernel
theorem dX9_run_22 : decode cX9_run 22 = .ok (.lreturn, 1) := by decide +kernel
theorem dX9_run_23 : decode cX9_run 23 = .ok (.aload_n 0, 1) := by decide +kernel
theorem dX9_run_24 : decode cX9_run 24 = .ok (.iload_n 1, 1) := by decide +kernel
theorem dX9_run_25 : decode cX9_run 25 = .ok (.invokevirtual 334, 3) := by decide +kernel
theorem dX9_run_28 : decode cX9_run 28 = .ok (.aload_n 0, 1) := by decide +kernel
theorem dX9_run_29 : decode cX9_run 29 = .ok (.invokevirtual 435, 3) := by decide +kernel
theorem dX9_run_32 : decode cX9_run 32 = .ok (.aload_n 0, 1) := by decide +kernel
theorem dX9_run_33 : decode cX9_run 33 = .ok (.iload_n 2, 1) := by decide +kernel
theorem dX9_run_34 : decode cX9_run 34 = .ok (.ldc 245, 2) := by decide +kernel
theorem dX9_run_36 : decode cX9_run 36 = .ok (.iand, 1) := by decide +kernel
theorem dX9_run_37 : decode cX9_run 37 = .ok (.putfield 241, 3) := by decide +kernel
theorem dX9_run_40 : decode cX9_run 40 = .ok (.lconst 0, 1) := by decide +kernel
theorem dX9_run_41 : decode cX9_run 41 = .ok (.lstore 4, 2) := by decide +kernel
theorem dX9_run_43 : decode cX9_run 43 = .ok (.iconst 0, 1) := by decide +kernel
theorem dX9_run_44 : decode cX9_run 44 = .ok (.istore 6, 2) := by decide +kernel
theorem dX9_run_46 : decode cX9_run 46 = .ok (.iload 6, 2) := by decide +kernel
theorem dX9_run_48 : decode cX9_run 48 = .ok (.iload_n 3, 1) := by decide +kernel
theorem dX9_run_49 : decode cX9_run 49 = .ok (.if_icmp .ge 84, 3) := by decide +kernel
theorem dX9_run_52 : decode cX9_run 52 = .ok (.iconst 0, 1) := by decide +kernel
theorem dX9_run_53 : decode cX9_run 53 = .ok (.istore 7, 2) := by decide +kernel
theorem dX9_run_55 : decode cX9_run 55 = .ok (.iload 7, 2) := by decide +kernel
theorem dX9_run_57 : decode cX9_run 57 = .ok (.aload_n 0, 1) := by decide +kernel
theorem dX9_run_58 : decode cX9_run 58 = .ok (.getfield 94, 3) := by decide +kernel
theorem dX9_run_61 : decode cX9_run 61 = .ok (.if_icmp .ge 36, 3) := by decide +kernel
theorem dX9_run_64 : decode cX9_run 64 = .ok (.aload_n 0, 1) := by decide +kernel
theorem dX9_run_65 : decode cX9_run 65 = .ok (.getfield 20, 3) := by decide +kernel
theorem dX9_run_68 : decode cX9_run 68 = .ok (.iload 7, 2) := by decide +kernel
theorem dX9_run_70 : decode cX9_run 70 = .ok (.aload_n 0, 1) := by decide +kernel
theorem dX9_run_71 : decode cX9_run 71 = .ok (.aload_n 0, 1) := by decide +kernel
theorem dX9_run_72 : decode cX9_run 72 = .ok (.getfield 100, 3) := by decide +kernel
theorem dX9_run_75 : decode cX9_run 75 = .ok (.invokevirtual 246, 3) := by decide +kernel
theorem dX9_run_78 : decode cX9_run 78 = .ok (.aload_n 0, 1) := by decide +kernel
theorem dX9_run_79 : decode cX9_run 79 = .ok (.getfield 97, 3) := by decide +kernel
theorem dX9_run_82 : decode cX9_run 82 = .ok (.if_icmp .ge 7, 3) := by decide +kernel
theorem dX9_run_85 : decode cX9_run 85 = .ok (.iconst 1, 1) := by decide +kernel
theorem dX9_run_86 : decode cX9_run 86 = .ok (.goto 4, 3) := by decide +kernel
theorem dX9_run_89 : decode cX9_run 89 = .ok (.iconst 0, 1) := by decide +kernel
theorem dX9_run_90 : decode cX9_run 90 = .ok (.iastore, 1) := by decide +kernel
theorem dX9_run_91 : decode cX9_run 91 = .ok (.iinc 7 1, 3) := by decide +kernel
theorem dX9_run_94 : decode cX9_run 94 = .ok (.goto (-39), 3) := by decide +kernel
theorem dX9_run_97 : decode cX9_run 97 = .ok (.aload_n 0, 1) := by decide +kernel
theorem dX9_run_98 : decode cX9_run 98 = .ok (.iload_n 1, 1) := by decide +kernel
theorem dX9_run_99 : decode cX9_run 99 = .ok (.aload_n 0, 1) := by decide +kernel
theorem dX9_run_100 : decode cX9_run 100 = .ok (.getfield 94, 3) := by decide +kernel
theorem dX9_run_103 : decode cX9_run 103 = .ok (.invokevirtual 352, 3) := by decide +kernel
theorem dX9_run_106 : decode cX9_run 106 = .ok (.istore 7, 2) := by decide +kernel
theorem dX9_run_108 : decode cX9_run 108 = .ok (.iload 7, 2) := by decide +kernel
theorem dX9_run_110 : decode cX9_run 110 = .ok (.ifCond .eq 13, 3) := by decide +kernel
theorem dX9_run_113 : decode cX9_run 113 = .ok (.lload 4, 2) := by decide +kernel
theorem dX9_run_115 : decode cX9_run 115 = .ok (.aload_n 0, 1) := by decide +kernel
theorem dX9_run_116 : decode cX9_run 116 = .ok (.getfield 345, 3) := by decide +kernel
theorem dX9_run_119 : decode cX9_run 119 = .ok (.ladd, 1) := by decide +kernel
theorem dX9_run_120 : decode cX9_run 120 = .ok (.goto 5, 3) := by decide +kernel
theorem dX9_run_123 : decode cX9_run 123 = .ok (.lload 4, 2) := by decide +kernel
theorem dX9_run_125 : decode cX9_run 125 = .ok (.lstore 4, 2) := by decide +kernel
theorem dX9_run_127 : decode cX9_run 127 = .ok (.iinc 6 1, 3) := by decide +kernel
theorem dX9_run_130 : decode cX9_run 130 = .ok (.goto (-84), 3) := by decide +kernel
theorem dX9_run_133 : decode cX9_run 133 = .ok (.aload_n 0, 1) := by decide +kernel
theorem dX9_run_134 : decode cX9_run 134 = .ok (.invokevirtual 435, 3) := by decide +kernel
theorem dX9_run_137 : decode cX9_run 137 = .ok (.lload 4, 2) := by decide +kernel
theorem dX9_run_139 : decode cX9_run 139 = .ok (.lreturn, 1) := by decide +kernel
theorem dX9_extreme_0 : decode cX9_extreme 0 = .ok (.iload_n 1, 1) := by decide +kernel
theorem dX9_extreme_1 : decode cX9_extreme 1 = .ok (.invokestatic 126, 3) := by decide +kernel
theorem dX9_extreme_4 : decode cX9_extreme 4 = .ok (.ifCond .eq 13, 3) := by decide +kernel
theorem dX9_extreme_7 : decode cX9_extreme 7 = .ok (.iload_n 3, 1) := by decide +kernel
theorem dX9_extreme_8 : decode cX9_extreme 8 = .ok (.i2l, 1) := by decide +kernel
theorem dX9_extreme_9 : decode cX9_extreme 9 = .ok (.lconst 0, 1) := by decide +kernel
theorem dX9_extreme_10 : decode cX9_extreme 10 = .ok (.lconst 1, 1) := by decide +kernel
theorem dX9_extreme_11 : decode cX9_extreme 11 = .ok (.invokestatic 60, 3) := by decide +kernel
theorem dX9_extreme_14 : decode cX9_extreme 14 = .ok (.ifCond .ne 7, 3) := by decide +kernel
theorem dX9_extreme_17 : decode cX9_extreme 17 = .ok (.ldc2_w 116, 3) := by decide +kernel
theorem dX9_extreme_20 : decode cX9_extreme 20 = .ok (.lreturn, 1) := by decide +kernel
theorem dX9_extreme_21 : decode cX9_extreme 21 = .ok (.aload_n 0, 1) := by decide +kernel
theorem dX9_extreme_22 : decode cX9_extreme 22 = .ok (.iload_n 1, 1) := by decide +kernel
theorem dX9_extreme_23 : decode cX9_extreme 23 = .ok (.invokevirtual 334, 3) := by decide +kernel
theorem dX9_extreme_26 : decode cX9_extreme 26 = .ok (.aload_n 0, 1) := by decide +kernel
theorem dX9_extreme_27 : decode cX9_extreme 27 = .ok (.invokevirtual 435, 3) := by decide +kernel
theorem dX9_extreme_30 : decode cX9_extreme 30 = .ok (.iconst (-1), 1) := by decide +kernel
theorem dX9_extreme_31 : decode cX9_extreme 31 = .ok (.istore 4, 2) := by decide +kernel
theorem dX9_extreme_33 : decode cX9_extreme 33 = .ok (.lconst 0, 1) := by decide +kernel
theorem dX9_extreme_34 : decode cX9_extreme 34 = .ok (.lstore 5, 2) := by decide +kernel
theorem dX9_extreme_36 : decode cX9_extreme 36 = .ok (.iconst 0, 1) := by decide +kernel
theorem dX9_extreme_37 : decode cX9_extreme 37 = .ok (.istore 7, 2) := by decide +kernel
theorem dX9_extreme_39 : decode cX9_extreme 39 = .ok (.iload 7, 2) := by decide +kernel
theorem dX9_extreme_41 : decode cX9_extreme 41 = .ok (.iconst 1, 1) := by decide +kernel
theorem dX9_extreme_42 : decode cX9_extreme 42 = .ok (.aload_n 0, 1) := by decide +kernel
theorem dX9_extreme_43 : decode cX9_extreme 43 = .ok (.getfield 94, 3) := by decide +kernel
theorem dX9_extreme_46 : decode cX9_extreme 46 = .ok (.ishl, 1) := by decide +kernel
theorem dX9_extreme_47 : decode cX9_extreme 47 = .ok (.if_icmp .ge 103, 3) := by decide +kernel
theorem dX9_extreme_50 : decode cX9_extreme 50 = .ok (.iconst 0, 1) := by decide +kernel
theorem dX9_extreme_51 : decode cX9_extreme 51 = .ok (.istore 8, 2) := by decide +kernel
theorem dX9_extreme_53 : decode cX9_extreme 53 = .ok (.iload 8, 2) := by decide +kernel
theorem dX9_extreme_55 : decode cX9_extreme 55 = .ok (.aload_n 0, 1) := by decide +kernel
theorem dX9_extreme_56 : decode cX9_extreme 56 = .ok (.getfield 94, 3) := by decide +kernel
theorem dX9_extreme_59 : decode cX9_extreme 59 = .ok (.if_icmp .ge 23, 3) := by decide +kernel
theorem dX9_extreme_62 : decode cX9_extreme 62 = .ok (.aload_n 0, 1) := by decide +kernel
theorem dX9_extreme_63 : decode cX9_extreme 63 = .ok (.getfield 20, 3) := by decide +kernel
theorem dX9_extreme_66 : decode cX9_extreme 66 = .ok (.iload 8, 2) := by decide +kernel
theorem dX9_extreme_68 : decode cX9_extreme 68 = .ok (.iload 7, 2) := by decide +kernel
theorem dX9_extreme_70 : decode cX9_extreme 70 = .ok (.iload 8, 2) := by decide +kernel
theorem dX9_extreme_72 : decode cX9_extreme 72 = .ok (.ishr, 1) := by decide +kernel
theorem dX9_extreme_73 : decode cX9_extreme 73 = .ok (.iconst 1, 1) := by decide +kernel
theorem dX9_extreme_74 : decode cX9_extreme 74 = .ok (.iand, 1) := by decide +kernel
theorem dX9_extreme_75 : decode cX9_extreme 75 = .ok (.iastore, 1) := by decide +kernel
theorem dX9_extreme_76 : decode cX9_extreme 76 = .ok (.iinc 8 1, 3) := by decide +kernel
theorem dX9_extreme_79 : decode cX9_extreme 79 = .ok (.goto (-26), 3) := by decide +kernel
theorem dX9_extreme_82 : decode cX9_extreme 82 = .ok (.aload_n 0, 1) := by decide +kernel
theorem dX9_extreme_83 : decode cX9_extreme 83 = .ok (.iload_n 1, 1) := by decide +kernel
theorem dX9_extreme_84 : decode cX9_extreme 84 = .ok (.aload_n 0, 1) := by decide +kernel
theorem dX9_extreme_85 : decode cX9_extreme 85 = .ok (.getfield 94, 3) := by decide +kernel
theorem dX9_extreme_88 : decode cX9_extreme 88 = .ok (.invokevirtual 352, 3) := by decide +kernel
theorem dX9_extreme_91 : decode cX9_extreme 91 = .ok (.istore 8, 2) := by decide +kernel
theorem dX9_extreme_93 : decode cX9_extreme 93 = .ok (.iload 8, 2) := by decide +kernel
theorem dX9_extreme_95 : decode cX9_extreme 95 = .ok (.ifCond .eq 49, 3) := by decide +kernel
theorem dX9_extreme_98 : decode cX9_extreme 98 = .ok (.iload 4, 2) := by decide +kernel
theorem dX9_extreme_100 : decode cX9_extreme 100 = .ok (.iconst (-1), 1) := by decide +kernel
theorem dX9_extreme_101 : decode cX9_extreme 101 = .ok (.if_icmp .eq 33, 3) := by decide +kernel
theorem dX9_extreme_104 : decode cX9_extreme 104 = .ok (.iload_n 2, 1) := by decide +kernel
theorem dX9_extreme_105 : decode cX9_extreme 105 = .ok (.ifCond .eq 16, 3) := by decide +kernel
theorem dX9_extreme_108 : decode cX9_extreme 108 = .ok (.aload_n 0, 1) := by decide +kernel
theorem dX9_extreme_109 : decode cX9_extreme 109 = .ok (.getfield 345, 3) := by decide +kernel
theorem dX9_extreme_112 : decode cX9_extreme 112 = .ok (.lload 5, 2) := by decide +kernel
theorem dX9_extreme_114 : decode cX9_extreme 114 = .ok (.lcmp, 1) := by decide +kernel
theorem dX9_extreme_115 : decode cX9_extreme 115 = .ok (.ifCond .gt 19, 3) := by decide +kernel
theorem dX9_extreme_118 : decode cX9_extreme 118 = .ok (.goto 26, 3) := by decide +kernel
theorem dX9_extreme_121 : decode cX9_extreme 121 = .ok (.aload_n 0, 1) := by decide +kernel
theorem dX9_extreme_122 : decode cX9_extreme 122 = .ok (.getfield 345, 3) := by decide +kernel
theorem dX9_extreme_125 : decode cX9_extreme 125 = .ok (.lload 5, 2) := by decide +kernel
theorem dX9_extreme_127 : decode cX9_extreme 127 = .ok (.lcmp, 1) := by decide +kernel
theorem dX9_extreme_128 : decode cX9_extreme 128 = .ok (.ifCond .lt 6, 3) := by decide +kernel
theorem dX9_extreme_131 : decode cX9_extreme 131 = .ok (.goto 13, 3) := by decide +kernel
theorem dX9_extreme_134 : decode cX9_extreme 134 = .ok (.iload 7, 2) := by decide +kernel
theorem dX9_extreme_136 : decode cX9_extreme 136 = .ok (.istore 4, 2) := by decide +kernel
theorem dX9_extreme_138 : decode cX9_extreme 138 = .ok (.aload_n 0, 1) := by decide +kernel
theorem dX9_extreme_139 : decode cX9_extreme 139 = .ok (.getfield 345, 3) := by decide +kernel
theorem dX9_extreme_142 : decode cX9_extreme 142 = .ok (.lstore 5, 2) := by decide +kernel
theorem dX9_extreme_144 : decode cX9_extreme 144 = .ok (.iinc 7 1, 3) := by decide +kernel
theorem dX9_extreme_147 : decode cX9_extreme 147 = .ok (.goto (-108), 3) := by decide +kernel
theorem dX9_extreme_150 : decode cX9_extreme 150 = .ok (.aload_n 0, 1) := by decide +kernel
theorem dX9_extreme_151 : decode cX9_extreme 151 = .ok (.invokevirtual 435, 3) := by decide +kernel
theorem dX9_extreme_154 : decode cX9_extreme 154 = .ok (.iload_n 3, 1) := by decide +kernel
theorem dX9_extreme_155 : decode cX9_extreme 155 = .ok (.ifCond .ne 8, 3) := by decide +kernel
theorem dX9_extreme_158 : decode cX9_extreme 158 = .ok (.lload 5, 2) := by decide +kernel
theorem dX9_extreme_160 : decode cX9_extreme 160 = .ok (.goto 6, 3) := by decide +kernel
theorem dX9_extreme_163 : decode cX9_extreme 163 = .ok (.iload 4, 2) := by decide +kernel
theorem dX9_extreme_165 : decode cX9_extreme 165 = .ok (.i2l, 1) := by decide +kernel
theorem dX9_extreme_166 : decode cX9_extreme 166 = .ok (.lreturn, 1) := by decide +kernel
theorem dX9_alike_0 : decode cX9_alike 0 = .ok (.iload_n 1, 1) := by decide +kernel
theorem dX9_alike_1 : decode cX9_alike 1 = .ok (.invokestatic 126, 3) := by decide +kernel
theorem dX9_alike_4 : decode cX9_alike 4 = .ok (.ifCond .eq 20, 3) := by decide +kernel
theorem dX9_alike_7 : decode cX9_alike 7 = .ok (.iload_n 2, 1) := by decide +kernel
theorem dX9_alike_8 : decode cX9_alike 8 = .ok (.invokestatic 126, 3) := by decide +kernel
theorem dX9_alike_11 : decode cX9_alike 11 = .ok (.ifCond .eq 13, 3) := by decide +kernel
theorem dX9_alike_14 : decode cX9_alike 14 = .ok (.iload_n 3, 1) := by decide +kernel
theorem dX9_alike_15 : decode cX9_alike 15 = .ok (.i2l, 1) := by decide +kernel
theorem dX9_alike_16 : decode cX9_alike 16 = .ok (.lconst 0, 1) := by decide +kernel
theorem dX9_alike_17 : decode cX9_alike 17 = .ok (.lconst 1, 1) := by decide +kernel
theorem dX9_alike_18 : decode cX9_alike 18 = .ok (.invokestatic 60, 3) := by decide +kernel
theorem dX9_alike_21 : decode cX9_alike 21 = .ok (.ifCond .ne 5, 3) := by decide +kernel
theorem dX9_alike_24 : decode cX9_alike 24 = .ok (.iconst (-1), 1) := by decide +kernel
theorem dX9_alike_25 : decode cX9_alike 25 = .ok (.ireturn, 1) := by decide +kernel
theorem dX9_alike_26 : decode cX9_alike 26 = .ok (.aload_n 0, 1) := by decide +kernel
theorem dX9_alike_27 : decode cX9_alike 27 = .ok (.iload_n 1, 1) := by decide +kernel
theorem dX9_alike_28 : decode cX9_alike 28 = .ok (.invokevirtual 334, 3) := by decide +kernel
theorem dX9_alike_31 : decode cX9_alike 31 = .ok (.iconst 0, 1) := by decide +kernel
theorem dX9_alike_32 : decode cX9_alike 32 = .ok (.istore 4, 2) := by decide +kernel
theorem dX9_alike_34 : decode cX9_alike 34 = .ok (.iload 4, 2) := by decide +kernel
theorem dX9_alike_36 : decode cX9_alike 36 = .ok (.sipush 784, 3) := by decide +kernel
theorem dX9_alike_39 : decode cX9_alike 39 = .ok (.if_icmp .ge 23, 3) := by decide +kernel
theorem dX9_alike_42 : decode cX9_alike 42 = .ok (.aload_n 0, 1) := by decide +kernel
theorem dX9_alike_43 : decode cX9_alike 43 = .ok (.getfield 45, 3) := by decide +kernel
theorem dX9_alike_46 : decode cX9_alike 46 = .ok (.iload 4, 2) := by decide +kernel
theorem dX9_alike_48 : decode cX9_alike 48 = .ok (.aload_n 0, 1) := by decide +kernel
theorem dX9_alike_49 : decode cX9_alike 49 = .ok (.getfield 30, 3) := by decide +kernel
theorem dX9_alike_52 : decode cX9_alike 52 = .ok (.iload 4, 2) := by decide +kernel
theorem dX9_alike_54 : decode cX9_alike 54 = .ok (.laload, 1) := by decide +kernel
theorem dX9_alike_55 : decode cX9_alike 55 = .ok (.lastore, 1) := by decide +kernel
theorem dX9_alike_56 : decode cX9_alike 56 = .ok (.iinc 4 1, 3) := by decide +kernel
theorem dX9_alike_59 : decode cX9_alike 59 = .ok (.goto (-25), 3) := by decide +kernel
theorem dX9_alike_62 : decode cX9_alike 62 = .ok (.aload_n 0, 1) := by decide +kernel
theorem dX9_alike_63 : decode cX9_alike 63 = .ok (.iload_n 2, 1) := by decide +kernel
theorem dX9_alike_64 : decode cX9_alike 64 = .ok (.invokevirtual 310, 3) := by decide +kernel
theorem dX9_alike_67 : decode cX9_alike 67 = .ok (.bipush 7, 2) := by decide +kernel
theorem dX9_alike_69 : decode cX9_alike 69 = .ok (.istore 4, 2) := by decide +kernel
theorem dX9_alike_71 : decode cX9_alike 71 = .ok (.iconst 0, 1) := by decide +kernel
theorem dX9_alike_72 : decode cX9_alike 72 = .ok (.istore 5, 2) := by decide +kernel
theorem dX9_alike_74 : decode cX9_alike 74 = .ok (.iload 5, 2) := by decide +kernel
theorem dX9_alike_76 : decode cX9_alike 76 = .ok (.iconst 1, 1) := by decide +kernel
theorem dX9_alike_77 : decode cX9_alike 77 = .ok (.aload_n 0, 1) := by decide +kernel
theorem dX9_alike_78 : decode cX9_alike 78 = .ok (.getfield 94, 3) := by decide +kernel
theorem dX9_alike_81 : decode cX9_alike 81 = .ok (.ishl, 1) := by decide +kernel
theorem dX9_alike_82 : decode cX9_alike 82 = .ok (.if_icmp .ge 182, 3) := by decide +kernel
theorem dX9_alike_85 : decode cX9_alike 85 = .ok (.aload_n 0, 1) := by decide +kernel
theorem dX9_alike_86 : decode cX9_alike 86 = .ok (.iload_n 1, 1) := by decide +kernel
theorem dX9_alike_87 : decode cX9_alike 87 = .ok (.invokevirtual 328, 3) := by decide +kernel
theorem dX9_alike_90 : decode cX9_alike 90 = .ok (.aload_n 0, 1) := by decide +kernel
theorem dX9_alike_91 : decode cX9_alike 91 = .ok (.invokevirtual 340, 3) := by decide +kernel
theorem dX9_alike_94 : decode cX9_alike 94 = .ok (.istore 6, 2) := by decide +kernel
theorem dX9_alike_96 : decode cX9_alike 96 = .ok (.aload_n 0, 1) := by decide +kernel
theorem dX9_alike_97 : decode cX9_alike 97 = .ok (.iload_n 2, 1) := by decide +kernel
theorem dX9_alike_98 : decode cX9_alike 98 = .ok (.invokevirtual 328, 3) := by decide +kernel
theorem dX9_alike_101 : decode cX9_alike 101 = .ok (.aload_n 0, 1) := by decide +kernel
theorem dX9_alike_102 : decode cX9_alike 102 = .ok (.invokevirtual 340, 3) := by decide +kernel
theorem dX9_alike_105 : decode cX9_alike 105 = .ok (.istore 7, 2) := by decide +kernel
theorem dX9_alike_107 : decode cX9_alike 107 = .ok (.iconst 0, 1) := by decide +kernel
theorem dX9_alike_108 : decode cX9_alike 108 = .ok (.istore 8, 2) := by decide +kernel
theorem dX9_alike_110 : decode cX9_alike 110 = .ok (.iload 8, 2) := by decide +kernel
theorem dX9_alike_112 : decode cX9_alike 112 = .ok (.iload 4, 2) := by decide +kernel
theorem dX9_alike_114 : decode cX9_alike 114 = .ok (.if_icmp .ge 119, 3) := by decide +kernel
theorem dX9_alike_117 : decode cX9_alike 117 = .ok (.aload_n 0, 1) := by decide +kernel
theorem dX9_alike_118 : decode cX9_alike 118 = .ok (.getfield 45, 3) := by decide +kernel
theorem dX9_alike_121 : decode cX9_alike 121 = .ok (.iload 6, 2) := by decide +kernel
theorem dX9_alike_123 : decode cX9_alike 123 = .ok (.laload, 1) := by decide +kernel
theorem dX9_alike_124 : decode cX9_alike 124 = .ok (.aload_n 0, 1) := by decide +kernel
theorem dX9_alike_125 : decode cX9_alike 125 = .ok (.getfield 30, 3) := by decide +kernel
theorem dX9_alike_128 : decode cX9_alike 128 = .ok (.iload 7, 2) := by decide +kernel
theorem dX9_alike_130 : decode cX9_alike 130 = .ok (.laload, 1) := by decide +kernel
theorem dX9_alike_131 : decode cX9_alike 131 = .ok (.lcmp, 1) := by decide +kernel
theorem dX9_alike_132 : decode cX9_alike 132 = .ok (.ifCond .ne 101, 3) := by decide +kernel
theorem dX9_alike_135 : decode cX9_alike 135 = .ok (.iload 8, 2) := by decide +kernel
theorem dX9_alike_137 : decode cX9_alike 137 = .ok (.iconst 1, 1) := by decide +kernel
theorem dX9_alike_138 : decode cX9_alike 138 = .ok (.iadd, 1) := by decide +kernel
theorem dX9_alike_139 : decode cX9_alike 139 = .ok (.istore 8, 2) := by decide +kernel
theorem dX9_alike_141 : decode cX9_alike 141 = .ok (.iload 8, 2) := by decide +kernel
theorem dX9_alike_143 : decode cX9_alike 143 = .ok (.aload_n 0, 1) := by decide +kernel
theorem dX9_alike_144 : decode cX9_alike 144 = .ok (.getfield 94, 3) := by decide +kernel
theorem dX9_alike_147 : decode cX9_alike 147 = .ok (.if_icmp .le 6, 3) := by decide +kernel
theorem dX9_alike_150 : decode cX9_alike 150 = .ok (.goto 83, 3) := by decide +kernel
theorem dX9_alike_153 : decode cX9_alike 153 = .ok (.iload 5, 2) := by decide +kernel
theorem dX9_alike_155 : decode cX9_alike 155 = .ok (.iload 8, 2) := by decide +kernel
theorem dX9_alike_157 : decode cX9_alike 157 = .ok (.iconst 1, 1) := by decide +kernel
theorem dX9_alike_158 : decode cX9_alike 158 = .ok (.isub, 1) := by decide +kernel
theorem dX9_alike_159 : decode cX9_alike 159 = .ok (.ishr, 1) := by decide +kernel
theorem dX9_alike_160 : decode cX9_alike 160 = .ok (.iconst 1, 1) := by decide +kernel
theorem dX9_alike_161 : decode cX9_alike 161 = .ok (.iand, 1) := by decide +kernel
theorem dX9_alike_162 : decode cX9_alike 162 = .ok (.istore 9, 2) := by decide +kernel
theorem dX9_alike_164 : decode cX9_alike 164 = .ok (.aload_n 0, 1) := by decide +kernel
theorem dX9_alike_165 : decode cX9_alike 165 = .ok (.iload_n 1, 1) := by decide +kernel
theorem dX9_alike_166 : decode cX9_alike 166 = .ok (.iload 8, 2) := by decide +kernel
theorem dX9_alike_168 : decode cX9_alike 168 = .ok (.iconst 1, 1) := by decide +kernel
theorem dX9_alike_169 : decode cX9_alike 169 = .ok (.isub, 1) := by decide +kernel
theorem dX9_alike_170 : decode cX9_alike 170 = .ok (.iload 6, 2) := by decide +kernel
theorem dX9_alike_172 : decode cX9_alike 172 = .ok (.bipush 16, 2) := by decide +kernel
theorem dX9_alike_174 : decode cX9_alike 174 = .ok (.idiv, 1) := by decide +kernel
theorem dX9_alike_175 : decode cX9_alike 175 = .ok (.bipush 7, 2) := by decide +kernel
theorem dX9_alike_177 : decode cX9_alike 177 = .ok (.irem, 1) := by decide +kernel
theorem dX9_alike_178 : decode cX9_alike 178 = .ok (.iload 6, 2) := by decide +kernel
theorem dX9_alike_180 : decode cX9_alike 180 = .ok (.bipush 8, 2) := by decide +kernel
theorem dX9_alike_182 : decode cX9_alike 182 = .ok (.idiv, 1) := by decide +kernel
theorem dX9_alike_183 : decode cX9_alike 183 = .ok (.iconst 2, 1) := by decide +kernel
theorem dX9_alike_184 : decode cX9_alike 184 = .ok (.irem, 1) := by decide +kernel
theorem dX9_alike_185 : decode cX9_alike 185 = .ok (.iload 6, 2) := by decide +kernel
theorem dX9_alike_187 : decode cX9_alike 187 = .ok (.bipush 8, 2) := by decide +kernel
theorem dX9_alike_189 : decode cX9_alike 189 = .ok (.irem, 1) := by decide +kernel
theorem dX9_alike_190 : decode cX9_alike 190 = .ok (.iload 9, 2) := by decide +kernel
theorem dX9_alike_192 : decode cX9_alike 192 = .ok (.invokevirtual 277, 3) := by decide +kernel
theorem dX9_alike_195 : decode cX9_alike 195 = .ok (.istore 6, 2) := by decide +kernel
theorem dX9_alike_197 : decode cX9_alike 197 = .ok (.aload_n 0, 1) := by decide +kernel
theorem dX9_alike_198 : decode cX9_alike 198 = .ok (.iload_n 2, 1) := by decide +kernel
theorem dX9_alike_199 : decode cX9_alike 199 = .ok (.iload 8, 2) := by decide +kernel
theorem dX9_alike_201 : decode cX9_alike 201 = .ok (.iconst 1, 1) := by decide +kernel
theorem dX9_alike_202 : decode cX9_alike 202 = .ok (.isub, 1) := by decide +kernel
theorem dX9_alike_203 : decode cX9_alike 203 = .ok (.iload 7, 2) := by decide +kernel
theorem dX9_alike_205 : decode cX9_alike 205 = .ok (.bipush 16, 2) := by decide +kernel
theorem dX9_alike_207 : decode cX9_alike 207 = .ok (.idiv, 1) := by decide +kernel
theorem dX9_alike_208 : decode cX9_alike 208 = .ok (.bipush 7, 2) := by decide +kernel
theorem dX9_alike_210 : decode cX9_alike 210 = .ok (.irem, 1) := by decide +kernel
theorem dX9_alike_211 : decode cX9_alike 211 = .ok (.iload 7, 2) := by decide +kernel
theorem dX9_alike_213 : decode cX9_alike 213 = .ok (.bipush 8, 2) := by decide +kernel
theorem dX9_alike_215 : decode cX9_alike 215 = .ok (.idiv, 1) := by decide +kernel
theorem dX9_alike_216 : decode cX9_alike 216 = .ok (.iconst 2, 1) := by decide +kernel
theorem dX9_alike_217 : decode cX9_alike 217 = .ok (.irem, 1) := by decide +kernel
theorem dX9_alike_218 : decode cX9_alike 218 = .ok (.iload 7, 2) := by decide +kernel
theorem dX9_alike_220 : decode cX9_alike 220 = .ok (.bipush 8, 2) := by decide +kernel
theorem dX9_alike_222 : decode cX9_alike 222 = .ok (.irem, 1) := by decide +kernel
theorem dX9_alike_223 : decode cX9_alike 223 = .ok (.iload 9, 2) := by decide +kernel
theorem dX9_alike_225 : decode cX9_alike 225 = .ok (.invokevirtual 277, 3) := by decide +kernel
theorem dX9_alike_228 : decode cX9_alike 228 = .ok (.istore 7, 2) := by decide +kernel
theorem dX9_alike_230 : decode cX9_alike 230 = .ok (.goto (-120), 3) := by decide +kernel
theorem dX9_alike_233 : decode cX9_alike 233 = .ok (.iload 8, 2) := by decide +kernel
theorem dX9_alike_235 : decode cX9_alike 235 = .ok (.aload_n 0, 1) := by decide +kernel
theorem dX9_alike_236 : decode cX9_alike 236 = .ok (.getfield 94, 3) := by decide +kernel
theorem dX9_alike_239 : decode cX9_alike 239 = .ok (.if_icmp .gt 15, 3) := by decide +kernel
theorem dX9_alike_242 : decode cX9_alike 242 = .ok (.iload 8, 2) := by decide +kernel
theorem dX9_alike_244 : decode cX9_alike 244 = .ok (.iload 4, 2) := by decide +kernel
theorem dX9_alike_246 : decode cX9_alike 246 = .ok (.if_icmp .ge 8, 3) := by decide +kernel
theorem dX9_alike_249 : decode cX9_alike 249 = .ok (.iload 8, 2) := by decide +kernel
theorem dX9_alike_251 : decode cX9_alike 251 = .ok (.goto 5, 3) := by decide +kernel
theorem dX9_alike_254 : decode cX9_alike 254 = .ok (.iload 4, 2) := by decide +kernel
theorem dX9_alike_256 : decode cX9_alike 256 = .ok (.istore 4, 2) := by decide +kernel
theorem dX9_alike_258 : decode cX9_alike 258 = .ok (.iinc 5 1, 3) := by decide +kernel
theorem dX9_alike_261 : decode cX9_alike 261 = .ok (.goto (-187), 3) := by decide +kernel
theorem dX9_alike_264 : decode cX9_alike 264 = .ok (.iload_n 3, 1) := by decide +kernel
theorem dX9_alike_265 : decode cX9_alike 265 = .ok (.ifCond .ne 18, 3) := by decide +kernel
theorem dX9_alike_268 : decode cX9_alike 268 = .ok (.iload 4, 2) := by decide +kernel
theorem dX9_alike_270 : decode cX9_alike 270 = .ok (.bipush 7, 2) := by decide +kernel
theorem dX9_alike_272 : decode cX9_alike 272 = .ok (.if_icmp .ne 7, 3) := by decide +kernel
theorem dX9_alike_275 : decode cX9_alike 275 = .ok (.iconst 1, 1) := by decide +kernel
theorem dX9_alike_276 : decode cX9_alike 276 = .ok (.goto 21, 3) := by decide +kernel
theorem dX9_alike_279 : decode cX9_alike 279 = .ok (.iconst 0, 1) := by decide +kernel
theorem dX9_alike_280 : decode cX9_alike 280 = .ok (.goto 17, 3) := by decide +kernel
theorem dX9_alike_283 : decode cX9_alike 283 = .ok (.iload 4, 2) := by decide +kernel
theorem dX9_alike_285 : decode cX9_alike 285 = .ok (.bipush 7, 2) := by decide +kernel
theorem dX9_alike_287 : decode cX9_alike 287 = .ok (.if_icmp .ne 8, 3) := by decide +kernel
theorem dX9_alike_290 : decode cX9_alike 290 = .ok (.bipush (-2), 2) := by decide +kernel
theorem dX9_alike_292 : decode cX9_alike 292 = .ok (.goto 5, 3) := by decide +kernel
theorem dX9_alike_295 : decode cX9_alike 295 = .ok (.iload 4, 2) := by decide +kernel
theorem dX9_alike_297 : decode cX9_alike 297 = .ok (.ireturn, 1) := by decide +kernel
theorem dX9_best_0 : decode cX9_best 0 = .ok (.aload_n 0, 1) := by decide +kernel
theorem dX9_best_1 : decode cX9_best 1 = .ok (.invokevirtual 307, 3) := by decide +kernel
theorem dX9_best_4 : decode cX9_best 4 = .ok (.iconst (-1), 1) := by decide +kernel
theorem dX9_best_5 : decode cX9_best 5 = .ok (.istore_n 2, 1) := by decide +kernel
theorem dX9_best_6 : decode cX9_best 6 = .ok (.lconst 0, 1) := by decide +kernel
theorem dX9_best_7 : decode cX9_best 7 = .ok (.lstore_n 3, 1) := by decide +kernel
theorem dX9_best_8 : decode cX9_best 8 = .ok (.iconst 0, 1) := by decide +kernel
theorem dX9_best_9 : decode cX9_best 9 = .ok (.istore 5, 2) := by decide +kernel
theorem dX9_best_11 : decode cX9_best 11 = .ok (.iload 5, 2) := by decide +kernel
theorem dX9_best_13 : decode cX9_best 13 = .ok (.iconst 3, 1) := by decide +kernel
theorem dX9_best_14 : decode cX9_best 14 = .ok (.if_icmp .ge 52, 3) := by decide +kernel
theorem dX9_best_17 : decode cX9_best 17 = .ok (.aload_n 0, 1) := by decide +kernel
theorem dX9_best_18 : decode cX9_best 18 = .ok (.iload 5, 2) := by decide +kernel
theorem dX9_best_20 : decode cX9_best 20 = .ok (.invokevirtual 360, 3) := by decide +kernel
theorem dX9_best_23 : decode cX9_best 23 = .ok (.lstore 6, 2) := by decide +kernel
theorem dX9_best_25 : decode cX9_best 25 = .ok (.iload_n 2, 1) := by decide +kernel
theorem dX9_best_26 : decode cX9_best 26 = .ok (.iconst (-1), 1) := by decide +kernel
theorem dX9_best_27 : decode cX9_best 27 = .ok (.if_icmp .eq 27, 3) := by decide +kernel
theorem dX9_best_30 : decode cX9_best 30 = .ok (.iload_n 1, 1) := by decide +kernel
theorem dX9_best_31 : decode cX9_best 31 = .ok (.ifCond .eq 13, 3) := by decide +kernel
theorem dX9_best_34 : decode cX9_best 34 = .ok (.lload 6, 2) := by decide +kernel
theorem dX9_best_36 : decode cX9_best 36 = .ok (.lload_n 3, 1) := by decide +kernel
theorem dX9_best_37 : decode cX9_best 37 = .ok (.lcmp, 1) := by decide +kernel
theorem dX9_best_38 : decode cX9_best 38 = .ok (.ifCond .gt 16, 3) := by decide +kernel
theorem dX9_best_41 : decode cX9_best 41 = .ok (.goto 19, 3) := by decide +kernel
theorem dX9_best_44 : decode cX9_best 44 = .ok (.lload 6, 2) := by decide +kernel
theorem dX9_best_46 : decode cX9_best 46 = .ok (.lload_n 3, 1) := by decide +kernel
theorem dX9_best_47 : decode cX9_best 47 = .ok (.lcmp, 1) := by decide +kernel
theorem dX9_best_48 : decode cX9_best 48 = .ok (.ifCond .lt 6, 3) := by decide +kernel
theorem dX9_best_51 : decode cX9_best 51 = .ok (.goto 9, 3) := by decide +kernel
theorem dX9_best_54 : decode cX9_best 54 = .ok (.iload 5, 2) := by decide +kernel
theorem dX9_best_56 : decode cX9_best 56 = .ok (.istore_n 2, 1) := by decide +kernel
theorem dX9_best_57 : decode cX9_best 57 = .ok (.lload 6, 2) := by decide +kernel
theorem dX9_best_59 : decode cX9_best 59 = .ok (.lstore_n 3, 1) := by decide +kernel
theorem dX9_best_60 : decode cX9_best 60 = .ok (.iinc 5 1, 3) := by decide +kernel
theorem dX9_best_63 : decode cX9_best 63 = .ok (.goto (-52), 3) := by decide +kernel
theorem dX9_best_66 : decode cX9_best 66 = .ok (.iload_n 2, 1) := by decide +kernel
theorem dX9_best_67 : decode cX9_best 67 = .ok (.ireturn, 1) := by decide +kernel
theorem dX9_book_0 : decode cX9_book 0 = .ok (.iload_n 1, 1) := by decide +kernel
theorem dX9_book_1 : decode cX9_book 1 = .ok (.i2l, 1) := by decide +kernel
theorem dX9_book_2 : decode cX9_book 2 = .ok (.ldc2_w 438, 3) := by decide +kernel
theorem dX9_book_5 : decode cX9_book 5 = .ok (.ldc2_w 110, 3) := by decide +kernel
theorem dX9_book_8 : decode cX9_book 8 = .ok (.invokestatic 60, 3) := by decide +kernel
theorem dX9_book_11 : decode cX9_book 11 = .ok (.ifCond .eq 31, 3) := by decide +kernel
theorem dX9_book_14 : decode cX9_book 14 = .ok (.iload_n 2, 1) := by decide +kernel
theorem dX9_book_15 : decode cX9_book 15 = .ok (.i2l, 1) := by decide +kernel
theorem dX9_book_16 : decode cX9_book 16 = .ok (.ldc2_w 438, 3) := by decide +kernel
theorem dX9_book_19 : decode cX9_book 19 = .ok (.ldc2_w 110, 3) := by decide +kernel
theorem dX9_book_22 : decode cX9_book 22 = .ok (.invokestatic 60, 3) := by decide +kernel
theorem dX9_book_25 : decode cX9_book 25 = .ok (.ifCond .eq 17, 3) := by decide +kernel
theorem dX9_book_28 : decode cX9_book 28 = .ok (.iload_n 3, 1) := by decide +kernel
theorem dX9_book_29 : decode cX9_book 29 = .ok (.i2l, 1) := by decide +kernel
theorem dX9_book_30 : decode cX9_book 30 = .ok (.ldc2_w 438, 3) := by decide +kernel
theorem dX9_book_33 : decode cX9_book 33 = .ok (.ldc2_w 110, 3) := by decide +kernel
theorem dX9_book_36 : decode cX9_book 36 = .ok (.invokestatic 60, 3) := by decide +kernel
theorem dX9_book_39 : decode cX9_book 39 = .ok (.ifCond .ne 7, 3) := by decide +kernel
theorem dX9_book_42 : decode cX9_book 42 = .ok (.ldc2_w 364, 3) := by decide +kernel
theorem dX9_book_45 : decode cX9_book 45 = .ok (.lreturn, 1) := by decide +kernel
theorem dX9_book_46 : decode cX9_book 46 = .ok (.aload_n 0, 1) := by decide +kernel
theorem dX9_book_47 : decode cX9_book 47 = .ok (.invokevirtual 307, 3) := by decide +kernel
theorem dX9_book_50 : decode cX9_book 50 = .ok (.iload_n 1, 1) := by decide +kernel
theorem dX9_book_51 : decode cX9_book 51 = .ok (.i2l, 1) := by decide +kernel
theorem dX9_book_52 : decode cX9_book 52 = .ok (.aload_n 0, 1) := by decide +kernel
theorem dX9_book_53 : decode cX9_book 53 = .ok (.iconst 0, 1) := by decide +kernel
theorem dX9_book_54 : decode cX9_book 54 = .ok (.invokevirtual 360, 3) := by decide +kernel
theorem dX9_book_57 : decode cX9_book 57 = .ok (.lmul, 1) := by decide +kernel
theorem dX9_book_58 : decode cX9_book 58 = .ok (.lstore 4, 2) := by decide +kernel
theorem dX9_book_60 : decode cX9_book 60 = .ok (.lload 4, 2) := by decide +kernel
theorem dX9_book_62 : decode cX9_book 62 = .ok (.iload_n 2, 1) := by decide +kernel
theorem dX9_book_63 : decode cX9_book 63 = .ok (.i2l, 1) := by decide +kernel
theorem dX9_book_64 : decode cX9_book 64 = .ok (.aload_n 0, 1) := by decide +kernel
theorem dX9_book_65 : decode cX9_book 65 = .ok (.iconst 1, 1) := by decide +kernel
theorem dX9_book_66 : decode cX9_book 66 = .ok (.invokevirtual 360, 3) := by decide +kernel
theorem dX9_book_69 : decode cX9_book 69 = .ok (.lmul, 1) := by decide +kernel
theorem dX9_book_70 : decode cX9_book 70 = .ok (.ladd, 1) := by decide +kernel
theorem dX9_book_71 : decode cX9_book 71 = .ok (.lstore 4, 2) := by decide +kernel
theorem dX9_book_73 : decode cX9_book 73 = .ok (.lload 4, 2) := by decide +kernel
theorem dX9_book_75 : decode cX9_book 75 = .ok (.iload_n 3, 1) := by decide +kernel
theorem dX9_book_76 : decode cX9_book 76 = .ok (.i2l, 1) := by decide +kernel
theorem dX9_book_77 : decode cX9_book 77 = .ok (.aload_n 0, 1) := by decide +kernel
theorem dX9_book_78 : decode cX9_book 78 = .ok (.iconst 2, 1) := by decide +kernel
theorem dX9_book_79 : decode cX9_book 79 = .ok (.invokevirtual 360, 3) := by decide +kernel
theorem dX9_book_82 : decode cX9_book 82 = .ok (.lmul, 1) := by decide +kernel
theorem dX9_book_83 : decode cX9_book 83 = .ok (.ladd, 1) := by decide +kernel
theorem dX9_book_84 : decode cX9_book 84 = .ok (.lreturn, 1) := by decide +kernel
theorem dX9_keeps_0 : decode cX9_keeps 0 = .ok (.aload_n 0, 1) := by decide +kernel
theorem dX9_keeps_1 : decode cX9_keeps 1 = .ok (.getfield 440, 3) := by decide +kernel
theorem dX9_keeps_4 : decode cX9_keeps 4 = .ok (.ifCond .eq 13, 3) := by decide +kernel
theorem dX9_keeps_7 : decode cX9_keeps 7 = .ok (.aload_n 0, 1) := by decide +kernel
theorem dX9_keeps_8 : decode cX9_keeps 8 = .ok (.getfield 48, 3) := by decide +kernel
theorem dX9_keeps_11 : decode cX9_keeps 11 = .ok (.aload_n 0, 1) := by decide +kernel
theorem dX9_keeps_12 : decode cX9_keeps 12 = .ok (.getfield 443, 3) := by decide +kernel
theorem dX9_keeps_15 : decode cX9_keeps 15 = .ok (.iload_n 1, 1) := by decide +kernel
theorem dX9_keeps_16 : decode cX9_keeps 16 = .ok (.iastore, 1) := by decide +kernel
theorem dX9_keeps_17 : decode cX9_keeps 17 = .ok (.aload_n 0, 1) := by decide +kernel
theorem dX9_keeps_18 : decode cX9_keeps 18 = .ok (.aload_n 0, 1) := by decide +kernel
theorem dX9_keeps_19 : decode cX9_keeps 19 = .ok (.getfield 443, 3) := by decide +kernel
theorem dX9_keeps_22 : decode cX9_keeps 22 = .ok (.iconst 1, 1) := by decide +kernel
theorem dX9_keeps_23 : decode cX9_keeps 23 = .ok (.iadd, 1) := by decide +kernel
theorem dX9_keeps_24 : decode cX9_keeps 24 = .ok (.putfield 443, 3) := by decide +kernel
theorem dX9_keeps_27 : decode cX9_keeps 27 = .ok (.aload_n 0, 1) := by decide +kernel
theorem dX9_keeps_28 : decode cX9_keeps 28 = .ok (.getfield 48, 3) := by decide +kernel
theorem dX9_keeps_31 : decode cX9_keeps 31 = .ok (.aload_n 0, 1) := by decide +kernel
theorem dX9_keeps_32 : decode cX9_keeps 32 = .ok (.getfield 443, 3) := by decide +kernel
theorem dX9_keeps_35 : decode cX9_keeps 35 = .ok (.iconst 1, 1) := by decide +kernel
theorem dX9_keeps_36 : decode cX9_keeps 36 = .ok (.isub, 1) := by decide +kernel
theorem dX9_keeps_37 : decode cX9_keeps 37 = .ok (.iaload, 1) := by decide +kernel
theorem dX9_keeps_38 : decode cX9_keeps 38 = .ok (.ireturn, 1) := by decide +kernel
theorem dX9_keepsAll_0 : decode cX9_keepsAll 0 = .ok (.aload_n 0, 1) := by decide +kernel
theorem dX9_keepsAll_1 : decode cX9_keepsAll 1 = .ok (.iload_n 1, 1) := by decide +kernel
theorem dX9_keepsAll_2 : decode cX9_keepsAll 2 = .ok (.putfield 440, 3) := by decide +kernel
theorem dX9_keepsAll_5 : decode cX9_keepsAll 5 = .ok (.aload_n 0, 1) := by decide +kernel
theorem dX9_keepsAll_6 : decode cX9_keepsAll 6 = .ok (.sipush 178, 3) := by decide +kernel
theorem dX9_keepsAll_9 : decode cX9_keepsAll 9 = .ok (.aload_n 0, 1) := by decide +kernel
theorem dX9_keepsAll_10 : decode cX9_keepsAll 10 = .ok (.getfield 446, 3) := by decide +kernel
theorem dX9_keepsAll_13 : decode cX9_keepsAll 13 = .ok (.imul, 1) := by decide +kernel
theorem dX9_keepsAll_14 : decode cX9_keepsAll 14 = .ok (.putfield 443, 3) := by decide +kernel
theorem dX9_keepsAll_17 : decode cX9_keepsAll 17 = .ok (.iconst 0, 1) := by decide +kernel
theorem dX9_keepsAll_18 : decode cX9_keepsAll 18 = .ok (.istore_n 2, 1) := by decide +kernel
theorem dX9_keepsAll_19 : decode cX9_keepsAll 19 = .ok (.iload_n 2, 1) := by decide +kernel
theorem dX9_keepsAll_20 : decode cX9_keepsAll 20 = .ok (.bipush 18, 2) := by decide +kernel
theorem dX9_keepsAll_22 : decode cX9_keepsAll 22 = .ok (.if_icmp .ge 25, 3) := by decide +kernel
theorem dX9_keepsAll_25 : decode cX9_keepsAll 25 = .ok (.aload_n 0, 1) := by decide +kernel
theorem dX9_keepsAll_26 : decode cX9_keepsAll 26 = .ok (.getfield 13, 3) := by decide +kernel
theorem dX9_keepsAll_29 : decode cX9_keepsAll 29 = .ok (.iload_n 2, 1) := by decide +kernel
theorem dX9_keepsAll_30 : decode cX9_keepsAll 30 = .ok (.aload_n 0, 1) := by decide +kernel
theorem dX9_keepsAll_31 : decode cX9_keepsAll 31 = .ok (.aload_n 0, 1) := by decide +kernel
theorem dX9_keepsAll_32 : decode cX9_keepsAll 32 = .ok (.getfield 13, 3) := by decide +kernel
theorem dX9_keepsAll_35 : decode cX9_keepsAll 35 = .ok (.iload_n 2, 1) := by decide +kernel
theorem dX9_keepsAll_36 : decode cX9_keepsAll 36 = .ok (.iaload, 1) := by decide +kernel
theorem dX9_keepsAll_37 : decode cX9_keepsAll 37 = .ok (.invokevirtual 449, 3) := by decide +kernel
theorem dX9_keepsAll_40 : decode cX9_keepsAll 40 = .ok (.iastore, 1) := by decide +kernel
theorem dX9_keepsAll_41 : decode cX9_keepsAll 41 = .ok (.iinc 2 1, 3) := by decide +kernel
theorem dX9_keepsAll_44 : decode cX9_keepsAll 44 = .ok (.goto (-25), 3) := by decide +kernel
theorem dX9_keepsAll_47 : decode cX9_keepsAll 47 = .ok (.iconst 0, 1) := by decide +kernel
theorem dX9_keepsAll_48 : decode cX9_keepsAll 48 = .ok (.istore_n 2, 1) := by decide +kernel
theorem dX9_keepsAll_49 : decode cX9_keepsAll 49 = .ok (.iload_n 2, 1) := by decide +kernel
theorem dX9_keepsAll_50 : decode cX9_keepsAll 50 = .ok (.sipush 135, 3) := by decide +kernel
theorem dX9_keepsAll_53 : decode cX9_keepsAll 53 = .ok (.if_icmp .ge 25, 3) := by decide +kernel
theorem dX9_keepsAll_56 : decode cX9_keepsAll 56 = .ok (.aload_n 0, 1) := by decide +kernel
theorem dX9_keepsAll_57 : decode cX9_keepsAll 57 = .ok (.getfield 17, 3) := by decide +kernel
theorem dX9_keepsAll_60 : decode cX9_keepsAll 60 = .ok (.iload_n 2, 1) := by decide +kernel
theorem dX9_keepsAll_61 : decode cX9_keepsAll 61 = .ok (.aload_n 0, 1) := by decide +kernel
theorem dX9_keepsAll_62 : decode cX9_keepsAll 62 = .ok (.aload_n 0, 1) := by decide +kernel
theorem dX9_keepsAll_63 : decode cX9_keepsAll 63 = .ok (.getfield 17, 3) := by decide +kernel
theorem dX9_keepsAll_66 : decode cX9_keepsAll 66 = .ok (.iload_n 2, 1) := by decide +kernel
theorem dX9_keepsAll_67 : decode cX9_keepsAll 67 = .ok (.iaload, 1) := by decide +kernel
theorem dX9_keepsAll_68 : decode cX9_keepsAll 68 = .ok (.invokevirtual 449, 3) := by decide +kernel
theorem dX9_keepsAll_71 : decode cX9_keepsAll 71 = .ok (.iastore, 1) := by decide +kernel
theorem dX9_keepsAll_72 : decode cX9_keepsAll 72 = .ok (.iinc 2 1, 3) := by decide +kernel
theorem dX9_keepsAll_75 : decode cX9_keepsAll 75 = .ok (.goto (-26), 3) := by decide +kernel
theorem dX9_keepsAll_78 : decode cX9_keepsAll 78 = .ok (.iconst 0, 1) := by decide +kernel
theorem dX9_keepsAll_79 : decode cX9_keepsAll 79 = .ok (.istore_n 2, 1) := by decide +kernel
theorem dX9_keepsAll_80 : decode cX9_keepsAll 80 = .ok (.iload_n 2, 1) := by decide +kernel
theorem dX9_keepsAll_81 : decode cX9_keepsAll 81 = .ok (.bipush 6, 2) := by decide +kernel
theorem dX9_keepsAll_83 : decode cX9_keepsAll 83 = .ok (.if_icmp .ge 41, 3) := by decide +kernel
theorem dX9_keepsAll_86 : decode cX9_keepsAll 86 = .ok (.aload_n 0, 1) := by decide +kernel
theorem dX9_keepsAll_87 : decode cX9_keepsAll 87 = .ok (.getfield 20, 3) := by decide +kernel
theorem dX9_keepsAll_90 : decode cX9_keepsAll 90 = .ok (.iload_n 2, 1) := by decide +kernel
theorem dX9_keepsAll_91 : decode cX9_keepsAll 91 = .ok (.aload_n 0, 1) := by decide +kernel
theorem dX9_keepsAll_92 : decode cX9_keepsAll 92 = .ok (.aload_n 0, 1) := by decide +kernel
theorem dX9_keepsAll_93 : decode cX9_keepsAll 93 = .ok (.getfield 20, 3) := by decide +kernel
theorem dX9_keepsAll_96 : decode cX9_keepsAll 96 = .ok (.iload_n 2, 1) := by decide +kernel
theorem dX9_keepsAll_97 : decode cX9_keepsAll 97 = .ok (.iaload, 1) := by decide +kernel
theorem dX9_keepsAll_98 : decode cX9_keepsAll 98 = .ok (.invokevirtual 449, 3) := by decide +kernel
theorem dX9_keepsAll_101 : decode cX9_keepsAll 101 = .ok (.iastore, 1) := by decide +kernel
theorem dX9_keepsAll_102 : decode cX9_keepsAll 102 = .ok (.aload_n 0, 1) := by decide +kernel
theorem dX9_keepsAll_103 : decode cX9_keepsAll 103 = .ok (.getfield 23, 3) := by decide +kernel
theorem dX9_keepsAll_106 : decode cX9_keepsAll 106 = .ok (.iload_n 2, 1) := by decide +kernel
theorem dX9_keepsAll_107 : decode cX9_keepsAll 107 = .ok (.aload_n 0, 1) := by decide +kernel
theorem dX9_keepsAll_108 : decode cX9_keepsAll 108 = .ok (.aload_n 0, 1) := by decide +kernel
theorem dX9_keepsAll_109 : decode cX9_keepsAll 109 = .ok (.getfield 23, 3) := by decide +kernel
theorem dX9_keepsAll_112 : decode cX9_keepsAll 112 = .ok (.iload_n 2, 1) := by decide +kernel
theorem dX9_keepsAll_113 : decode cX9_keepsAll 113 = .ok (.iaload, 1) := by decide +kernel
theorem dX9_keepsAll_114 : decode cX9_keepsAll 114 = .ok (.invokevirtual 449, 3) := by decide +kernel
theorem dX9_keepsAll_117 : decode cX9_keepsAll 117 = .ok (.iastore, 1) := by decide +kernel
theorem dX9_keepsAll_118 : decode cX9_keepsAll 118 = .ok (.iinc 2 1, 3) := by decide +kernel
theorem dX9_keepsAll_121 : decode cX9_keepsAll 121 = .ok (.goto (-41), 3) := by decide +kernel
theorem dX9_keepsAll_124 : decode cX9_keepsAll 124 = .ok (.aload_n 0, 1) := by decide +kernel
theorem dX9_keepsAll_125 : decode cX9_keepsAll 125 = .ok (.aload_n 0, 1) := by decide +kernel
theorem dX9_keepsAll_126 : decode cX9_keepsAll 126 = .ok (.aload_n 0, 1) := by decide +kernel
theorem dX9_keepsAll_127 : decode cX9_keepsAll 127 = .ok (.getfield 76, 3) := by decide +kernel
theorem dX9_keepsAll_130 : decode cX9_keepsAll 130 = .ok (.invokevirtual 449, 3) := by decide +kernel
theorem dX9_keepsAll_133 : decode cX9_keepsAll 133 = .ok (.putfield 76, 3) := by decide +kernel
theorem dX9_keepsAll_136 : decode cX9_keepsAll 136 = .ok (.aload_n 0, 1) := by decide +kernel
theorem dX9_keepsAll_137 : decode cX9_keepsAll 137 = .ok (.aload_n 0, 1) := by decide +kernel
theorem dX9_keepsAll_138 : decode cX9_keepsAll 138 = .ok (.aload_n 0, 1) := by decide +kernel
theorem dX9_keepsAll_139 : decode cX9_keepsAll 139 = .ok (.getfield 409, 3) := by decide +kernel
theorem dX9_keepsAll_142 : decode cX9_keepsAll 142 = .ok (.invokevirtual 449, 3) := by decide +kernel
theorem dX9_keepsAll_145 : decode cX9_keepsAll 145 = .ok (.putfield 409, 3) := by decide +kernel
theorem dX9_keepsAll_148 : decode cX9_keepsAll 148 = .ok (.aload_n 0, 1) := by decide +kernel
theorem dX9_keepsAll_149 : decode cX9_keepsAll 149 = .ok (.aload_n 0, 1) := by decide +kernel
theorem dX9_keepsAll_150 : decode cX9_keepsAll 150 = .ok (.aload_n 0, 1) := by decide +kernel
theorem dX9_keepsAll_151 : decode cX9_keepsAll 151 = .ok (.getfield 412, 3) := by decide +kernel
theorem dX9_keepsAll_154 : decode cX9_keepsAll 154 = .ok (.ifCond .eq 7, 3) := by decide +kernel
theorem dX9_keepsAll_157 : decode cX9_keepsAll 157 = .ok (.iconst 1, 1) := by decide +kernel
theorem dX9_keepsAll_158 : decode cX9_keepsAll 158 = .ok (.goto 4, 3) := by decide +kernel
theorem dX9_keepsAll_161 : decode cX9_keepsAll 161 = .ok (.iconst 0, 1) := by decide +kernel
theorem dX9_keepsAll_162 : decode cX9_keepsAll 162 = .ok (.invokevirtual 449, 3) := by decide +kernel
theorem dX9_keepsAll_165 : decode cX9_keepsAll 165 = .ok (.iconst 1, 1) := by decide +kernel
theorem dX9_keepsAll_166 : decode cX9_keepsAll 166 = .ok (.if_icmp .ne 7, 3) := by decide +kernel
theorem dX9_keepsAll_169 : decode cX9_keepsAll 169 = .ok (.iconst 1, 1) := by decide +kernel
theorem dX9_keepsAll_170 : decode cX9_keepsAll 170 = .ok (.goto 4, 3) := by decide +kernel
theorem dX9_keepsAll_173 : decode cX9_keepsAll 173 = .ok (.iconst 0, 1) := by decide +kernel
theorem dX9_keepsAll_174 : decode cX9_keepsAll 174 = .ok (.putfield 412, 3) := by decide +kernel
theorem dX9_keepsAll_177 : decode cX9_keepsAll 177 = .ok (.aload_n 0, 1) := by decide +kernel
theorem dX9_keepsAll_178 : decode cX9_keepsAll 178 = .ok (.aload_n 0, 1) := by decide +kernel
theorem dX9_keepsAll_179 : decode cX9_keepsAll 179 = .ok (.aload_n 0, 1) := by decide +kernel
theorem dX9_keepsAll_180 : decode cX9_keepsAll 180 = .ok (.getfield 416, 3) := by decide +kernel
theorem dX9_keepsAll_183 : decode cX9_keepsAll 183 = .ok (.ifCond .eq 7, 3) := by decide +kernel
theorem dX9_keepsAll_186 : decode cX9_keepsAll 186 = .ok (.iconst 1, 1) := by decide +kernel
theorem dX9_keepsAll_187 : decode cX9_keepsAll 187 = .ok (.goto 4, 3) := by decide +kernel
theorem dX9_keepsAll_190 : decode cX9_keepsAll 190 = .ok (.iconst 0, 1) := by decide +kernel
theorem dX9_keepsAll_191 : decode cX9_keepsAll 191 = .ok (.invokevirtual 449, 3) := by decide +kernel
theorem dX9_keepsAll_194 : decode cX9_keepsAll 194 = .ok (.iconst 1, 1) := by decide +kernel
theorem dX9_keepsAll_195 : decode cX9_keepsAll 195 = .ok (.if_icmp .ne 7, 3) := by decide +kernel
theorem dX9_keepsAll_198 : decode cX9_keepsAll 198 = .ok (.iconst 1, 1) := by decide +kernel
theorem dX9_keepsAll_199 : decode cX9_keepsAll 199 = .ok (.goto 4, 3) := by decide +kernel
theorem dX9_keepsAll_202 : decode cX9_keepsAll 202 = .ok (.iconst 0, 1) := by decide +kernel
theorem dX9_keepsAll_203 : decode cX9_keepsAll 203 = .ok (.putfield 416, 3) := by decide +kernel
theorem dX9_keepsAll_206 : decode cX9_keepsAll 206 = .ok (.iload_n 1, 1) := by decide +kernel
theorem dX9_keepsAll_207 : decode cX9_keepsAll 207 = .ok (.ifCond .eq 35, 3) := by decide +kernel
theorem dX9_keepsAll_210 : decode cX9_keepsAll 210 = .ok (.aload_n 0, 1) := by decide +kernel
theorem dX9_keepsAll_211 : decode cX9_keepsAll 211 = .ok (.getfield 51, 3) := by decide +kernel
theorem dX9_keepsAll_214 : decode cX9_keepsAll 214 = .ok (.iconst 2, 1) := by decide +kernel
theorem dX9_keepsAll_215 : decode cX9_keepsAll 215 = .ok (.aload_n 0, 1) := by decide +kernel
theorem dX9_keepsAll_216 : decode cX9_keepsAll 216 = .ok (.getfield 446, 3) := by decide +kernel
theorem dX9_keepsAll_219 : decode cX9_keepsAll 219 = .ok (.imul, 1) := by decide +kernel
theorem dX9_keepsAll_220 : decode cX9_keepsAll 220 = .ok (.aload_n 0, 1) := by decide +kernel
theorem dX9_keepsAll_221 : decode cX9_keepsAll 221 = .ok (.getfield 419, 3) := by decide +kernel
theorem dX9_keepsAll_224 : decode cX9_keepsAll 224 = .ok (.lastore, 1) := by decide +kernel
theorem dX9_keepsAll_225 : decode cX9_keepsAll 225 = .ok (.aload_n 0, 1) := by decide +kernel
theorem dX9_keepsAll_226 : decode cX9_keepsAll 226 = .ok (.getfield 51, 3) := by decide +kernel
theorem dX9_keepsAll_229 : decode cX9_keepsAll 229 = .ok (.iconst 2, 1) := by decide +kernel
theorem dX9_keepsAll_230 : decode cX9_keepsAll 230 = .ok (.aload_n 0, 1) := by decide +kernel
theorem dX9_keepsAll_231 : decode cX9_keepsAll 231 = .ok (.getfield 446, 3) := by decide +kernel
theorem dX9_keepsAll_234 : decode cX9_keepsAll 234 = .ok (.imul, 1) := by decide +kernel
theorem dX9_keepsAll_235 : decode cX9_keepsAll 235 = .ok (.iconst 1, 1) := by decide +kernel
theorem dX9_keepsAll_236 : decode cX9_keepsAll 236 = .ok (.iadd, 1) := by decide +kernel
theorem dX9_keepsAll_237 : decode cX9_keepsAll 237 = .ok (.aload_n 0, 1) := by decide +kernel
theorem dX9_keepsAll_238 : decode cX9_keepsAll 238 = .ok (.getfield 422, 3) := by decide +kernel
theorem dX9_keepsAll_241 : decode cX9_keepsAll 241 = .ok (.lastore, 1) := by decide +kernel
theorem dX9_keepsAll_242 : decode cX9_keepsAll 242 = .ok (.aload_n 0, 1) := by decide +kernel
theorem dX9_keepsAll_243 : decode cX9_keepsAll 243 = .ok (.aload_n 0, 1) := by decide +kernel
theorem dX9_keepsAll_244 : decode cX9_keepsAll 244 = .ok (.getfield 51, 3) := by decide +kernel
theorem dX9_keepsAll_247 : decode cX9_keepsAll 247 = .ok (.iconst 2, 1) := by decide +kernel
theorem dX9_keepsAll_248 : decode cX9_keepsAll 248 = .ok (.aload_n 0, 1) := by decide +kernel
theorem dX9_keepsAll_249 : decode cX9_keepsAll 249 = .ok (.getfield 446, 3) := by decide +kernel
theorem dX9_keepsAll_252 : decode cX9_keepsAll 252 = .ok (.imul, 1) := by decide +kernel
theorem dX9_keepsAll_253 : decode cX9_keepsAll 253 = .ok (.laload, 1) := by decide +kernel
theorem dX9_keepsAll_254 : decode cX9_keepsAll 254 = .ok (.putfield 419, 3) := by decide +kernel
theorem dX9_keepsAll_257 : decode cX9_keepsAll 257 = .ok (.aload_n 0, 1) := by decide +kernel
theorem dX9_keepsAll_258 : decode cX9_keepsAll 258 = .ok (.aload_n 0, 1) := by decide +kernel
theorem dX9_keepsAll_259 : decode cX9_keepsAll 259 = .ok (.getfield 51, 3) := by decide +kernel
theorem dX9_keepsAll_262 : decode cX9_keepsAll 262 = .ok (.iconst 2, 1) := by decide +kernel
theorem dX9_keepsAll_263 : decode cX9_keepsAll 263 = .ok (.aload_n 0, 1) := by decide +kernel
theorem dX9_keepsAll_264 : decode cX9_keepsAll 264 = .ok (.getfield 446, 3) := by decide +kernel
theorem dX9_keepsAll_267 : decode cX9_keepsAll 267 = .ok (.imul, 1) := by decide +kernel
theorem dX9_keepsAll_268 : decode cX9_keepsAll 268 = .ok (.iconst 1, 1) := by decide +kernel
theorem dX9_keepsAll_269 : decode cX9_keepsAll 269 = .ok (.iadd, 1) := by decide +kernel
theorem dX9_keepsAll_270 : decode cX9_keepsAll 270 = .ok (.laload, 1) := by decide +kernel
theorem dX9_keepsAll_271 : decode cX9_keepsAll 271 = .ok (.putfield 422, 3) := by decide +kernel
theorem dX9_keepsAll_274 : decode cX9_keepsAll 274 = .ok (.return_, 1) := by decide +kernel
theorem dX9_count_0 : decode cX9_count 0 = .ok (.iload_n 1, 1) := by decide +kernel
theorem dX9_count_1 : decode cX9_count 1 = .ok (.i2l, 1) := by decide +kernel
theorem dX9_count_2 : decode cX9_count 2 = .ok (.lconst 0, 1) := by decide +kernel
theorem dX9_count_3 : decode cX9_count 3 = .ok (.ldc2_w 452, 3) := by decide +kernel
theorem dX9_count_6 : decode cX9_count 6 = .ok (.invokestatic 60, 3) := by decide +kernel
theorem dX9_count_9 : decode cX9_count 9 = .ok (.ifCond .eq 10, 3) := by decide +kernel
theorem dX9_count_12 : decode cX9_count 12 = .ok (.aload_n 0, 1) := by decide +kernel
theorem dX9_count_13 : decode cX9_count 13 = .ok (.getfield 13, 3) := by decide +kernel
theorem dX9_count_16 : decode cX9_count 16 = .ok (.iload_n 1, 1) := by decide +kernel
theorem dX9_count_17 : decode cX9_count 17 = .ok (.iaload, 1) := by decide +kernel
theorem dX9_count_18 : decode cX9_count 18 = .ok (.ireturn, 1) := by decide +kernel
theorem dX9_count_19 : decode cX9_count 19 = .ok (.iload_n 1, 1) := by decide +kernel
theorem dX9_count_20 : decode cX9_count 20 = .ok (.bipush 9, 2) := by decide +kernel
theorem dX9_count_22 : decode cX9_count 22 = .ok (.if_icmp .ne 10, 3) := by decide +kernel
theorem dX9_count_25 : decode cX9_count 25 = .ok (.aload_n 0, 1) := by decide +kernel
theorem dX9_count_26 : decode cX9_count 26 = .ok (.getfield 64, 3) := by decide +kernel
theorem dX9_count_29 : decode cX9_count 29 = .ok (.goto 17, 3) := by decide +kernel
theorem dX9_count_32 : decode cX9_count 32 = .ok (.iload_n 1, 1) := by decide +kernel
theorem dX9_count_33 : decode cX9_count 33 = .ok (.bipush 10, 2) := by decide +kernel
theorem dX9_count_35 : decode cX9_count 35 = .ok (.if_icmp .ne 10, 3) := by decide +kernel
theorem dX9_count_38 : decode cX9_count 38 = .ok (.aload_n 0, 1) := by decide +kernel
theorem dX9_count_39 : decode cX9_count 39 = .ok (.getfield 446, 3) := by decide +kernel
theorem dX9_count_42 : decode cX9_count 42 = .ok (.goto 4, 3) := by decide +kernel
theorem dX9_count_45 : decode cX9_count 45 = .ok (.iconst (-1), 1) := by decide +kernel
theorem dX9_count_46 : decode cX9_count 46 = .ok (.ireturn, 1) := by decide +kernel
theorem dX9_keep_0 : decode cX9_keep 0 = .ok (.aload_n 0, 1) := by decide +kernel
theorem dX9_keep_1 : decode cX9_keep 1 = .ok (.getfield 446, 3) := by decide +kernel
theorem dX9_keep_4 : decode cX9_keep 4 = .ok (.bipush 8, 2) := by decide +kernel
theorem dX9_keep_6 : decode cX9_keep 6 = .ok (.if_icmp .ne 5, 3) := by decide +kernel
theorem dX9_keep_9 : decode cX9_keep 9 = .ok (.iconst (-1), 1) := by decide +kernel
theorem dX9_keep_10 : decode cX9_keep 10 = .ok (.ireturn, 1) := by decide +kernel
theorem dX9_keep_11 : decode cX9_keep 11 = .ok (.aload_n 0, 1) := by decide +kernel
theorem dX9_keep_12 : decode cX9_keep 12 = .ok (.iconst 1, 1) := by decide +kernel
theorem dX9_keep_13 : decode cX9_keep 13 = .ok (.invokevirtual 454, 3) := by decide +kernel
theorem dX9_keep_16 : decode cX9_keep 16 = .ok (.aload_n 0, 1) := by decide +kernel
theorem dX9_keep_17 : decode cX9_keep 17 = .ok (.aload_n 0, 1) := by decide +kernel
theorem dX9_keep_18 : decode cX9_keep 18 = .ok (.getfield 446, 3) := by decide +kernel
theorem dX9_keep_21 : decode cX9_keep 21 = .ok (.iconst 1, 1) := by decide +kernel
theorem dX9_keep_22 : decode cX9_keep 22 = .ok (.iadd, 1) := by decide +kernel
theorem dX9_keep_23 : decode cX9_keep 23 = .ok (.putfield 446, 3) := by decide +kernel
theorem dX9_keep_26 : decode cX9_keep 26 = .ok (.aload_n 0, 1) := by decide +kernel
theorem dX9_keep_27 : decode cX9_keep 27 = .ok (.getfield 446, 3) := by decide +kernel
theorem dX9_keep_30 : decode cX9_keep 30 = .ok (.ireturn, 1) := by decide +kernel
theorem dX9_undo_0 : decode cX9_undo 0 = .ok (.aload_n 0, 1) := by decide +kernel
theorem dX9_undo_1 : decode cX9_undo 1 = .ok (.getfield 446, 3) := by decide +kernel
theorem dX9_undo_4 : decode cX9_undo 4 = .ok (.ifCond .ne 5, 3) := by decide +kernel
theorem dX9_undo_7 : decode cX9_undo 7 = .ok (.iconst (-1), 1) := by decide +kernel
theorem dX9_undo_8 : decode cX9_undo 8 = .ok (.ireturn, 1) := by decide +kernel
theorem dX9_undo_9 : decode cX9_undo 9 = .ok (.aload_n 0, 1) := by decide +kernel
theorem dX9_undo_10 : decode cX9_undo 10 = .ok (.aload_n 0, 1) := by decide +kernel
theorem dX9_undo_11 : decode cX9_undo 11 = .ok (.getfield 446, 3) := by decide +kernel
theorem dX9_undo_14 : decode cX9_undo 14 = .ok (.iconst 1, 1) := by decide +kernel
theorem dX9_undo_15 : decode cX9_undo 15 = .ok (.isub, 1) := by decide +kernel
theorem dX9_undo_16 : decode cX9_undo 16 = .ok (.putfield 446, 3) := by decide +kernel
theorem dX9_undo_19 : decode cX9_undo 19 = .ok (.aload_n 0, 1) := by decide +kernel
theorem dX9_undo_20 : decode cX9_undo 20 = .ok (.iconst 0, 1) := by decide +kernel
theorem dX9_undo_21 : decode cX9_undo 21 = .ok (.invokevirtual 454, 3) := by decide +kernel
theorem dX9_undo_24 : decode cX9_undo 24 = .ok (.aload_n 0, 1) := by decide +kernel
theorem dX9_undo_25 : decode cX9_undo 25 = .ok (.getfield 446, 3) := by decide +kernel
theorem dX9_undo_28 : decode cX9_undo 28 = .ok (.ireturn, 1) := by decide +kernel
