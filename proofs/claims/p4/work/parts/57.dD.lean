theorem dX8_byHand_74 : decode cX8_byHand 74 = .ok (.getfield 298, 3) := by decide +kernel
theorem dX8_byHand_77 : decode cX8_byHand 77 = .ok (.invokestatic 166, 3) := by decide +kernel
theorem dX8_byHand_80 : decode cX8_byHand 80 = .ok (.i2l, 1) := by decide +kernel
theorem dX8_byHand_81 : decode cX8_byHand 81 = .ok (.lreturn, 1) := by decide +kernel
theorem dX8_byHand_82 : decode cX8_byHand 82 = .ok (.aload_n 2, 1) := by decide +kernel
theorem dX8_byHand_83 : decode cX8_byHand 83 = .ok (.getfield 309, 3) := by decide +kernel
theorem dX8_byHand_86 : decode cX8_byHand 86 = .ok (.lreturn, 1) := by decide +kernel
theorem dX8_byHand_87 : decode cX8_byHand 87 = .ok (.aload_n 2, 1) := by decide +kernel
theorem dX8_byHand_88 : decode cX8_byHand 88 = .ok (.getfield 294, 3) := by decide +kernel
theorem dX8_byHand_91 : decode cX8_byHand 91 = .ok (.lreturn, 1) := by decide +kernel
theorem dX8_byHand_92 : decode cX8_byHand 92 = .ok (.aload_n 0, 1) := by decide +kernel
theorem dX8_byHand_93 : decode cX8_byHand 93 = .ok (.invokevirtual 291, 3) := by decide +kernel
theorem dX8_byHand_96 : decode cX8_byHand 96 = .ok (.aload_n 0, 1) := by decide +kernel
theorem dX8_byHand_97 : decode cX8_byHand 97 = .ok (.getfield 36, 3) := by decide +kernel
theorem dX8_byHand_100 : decode cX8_byHand 100 = .ok (.aload_n 2, 1) := by decide +kernel
theorem dX8_byHand_101 : decode cX8_byHand 101 = .ok (.getfield 298, 3) := by decide +kernel
theorem dX8_byHand_104 : decode cX8_byHand 104 = .ok (.invokevirtual 202, 3) := by decide +kernel
theorem dX8_byHand_107 : decode cX8_byHand 107 = .ok (.i2l, 1) := by decide +kernel
theorem dX8_byHand_108 : decode cX8_byHand 108 = .ok (.lreturn, 1) := by decide +kernel
theorem dX8_byRule_0 : decode cX8_byRule 0 = .ok (.iload_n 1, 1) := by decide +kernel
theorem dX8_byRule_1 : decode cX8_byRule 1 = .ok (.invokestatic 116, 3) := by decide +kernel
theorem dX8_byRule_4 : decode cX8_byRule 4 = .ok (.ifCond .eq 17, 3) := by decide +kernel
theorem dX8_byRule_7 : decode cX8_byRule 7 = .ok (.iload_n 2, 1) := by decide +kernel
theorem dX8_byRule_8 : decode cX8_byRule 8 = .ok (.invokestatic 135, 3) := by decide +kernel
theorem dX8_byRule_11 : decode cX8_byRule 11 = .ok (.ifCond .eq 10, 3) := by decide +kernel
theorem dX8_byRule_14 : decode cX8_byRule 14 = .ok (.iload_n 3, 1) := by decide +kernel
theorem dX8_byRule_15 : decode cX8_byRule 15 = .ok (.invokestatic 135, 3) := by decide +kernel
theorem dX8_byRule_18 : decode cX8_byRule 18 = .ok (.ifCond .ne 7, 3) := by decide +kernel
theorem dX8_byRule_21 : decode cX8_byRule 21 = .ok (.ldc2_w 97, 3) := by decide +kernel
theorem dX8_byRule_24 : decode cX8_byRule 24 = .ok (.lreturn, 1) := by decide +kernel
theorem dX8_byRule_25 : decode cX8_byRule 25 = .ok (.aload_n 0, 1) := by decide +kernel
theorem dX8_byRule_26 : decode cX8_byRule 26 = .ok (.getfield 36, 3) := by decide +kernel
theorem dX8_byRule_29 : decode cX8_byRule 29 = .ok (.aload_n 0, 1) := by decide +kernel
theorem dX8_byRule_30 : decode cX8_byRule 30 = .ok (.getfield 21, 3) := by decide +kernel
theorem dX8_byRule_33 : decode cX8_byRule 33 = .ok (.getfield 73, 3) := by decide +kernel
theorem dX8_byRule_36 : decode cX8_byRule 36 = .ok (.aload_n 0, 1) := by decide +kernel
theorem dX8_byRule_37 : decode cX8_byRule 37 = .ok (.getfield 21, 3) := by decide +kernel
theorem dX8_byRule_40 : decode cX8_byRule 40 = .ok (.getfield 120, 3) := by decide +kernel
theorem dX8_byRule_43 : decode cX8_byRule 43 = .ok (.iload_n 1, 1) := by decide +kernel
theorem dX8_byRule_44 : decode cX8_byRule 44 = .ok (.aaload, 1) := by decide +kernel
theorem dX8_byRule_45 : decode cX8_byRule 45 = .ok (.invokevirtual 265, 3) := by decide +kernel
theorem dX8_byRule_48 : decode cX8_byRule 48 = .ok (.aload_n 0, 1) := by decide +kernel
theorem dX8_byRule_49 : decode cX8_byRule 49 = .ok (.getfield 36, 3) := by decide +kernel
theorem dX8_byRule_52 : decode cX8_byRule 52 = .ok (.iload_n 2, 1) := by decide +kernel
theorem dX8_byRule_53 : decode cX8_byRule 53 = .ok (.iload_n 3, 1) := by decide +kernel
theorem dX8_byRule_54 : decode cX8_byRule 54 = .ok (.invokevirtual 315, 3) := by decide +kernel
theorem dX8_byRule_57 : decode cX8_byRule 57 = .ok (.iload 4, 2) := by decide +kernel
theorem dX8_byRule_59 : decode cX8_byRule 59 = .ok (.ifCond .eq 21, 3) := by decide +kernel
theorem dX8_byRule_62 : decode cX8_byRule 62 = .ok (.aload_n 0, 1) := by decide +kernel
theorem dX8_byRule_63 : decode cX8_byRule 63 = .ok (.getfield 36, 3) := by decide +kernel
theorem dX8_byRule_66 : decode cX8_byRule 66 = .ok (.aload_n 0, 1) := by decide +kernel
theorem dX8_byRule_67 : decode cX8_byRule 67 = .ok (.getfield 21, 3) := by decide +kernel
theorem dX8_byRule_70 : decode cX8_byRule 70 = .ok (.getfield 83, 3) := by decide +kernel
theorem dX8_byRule_73 : decode cX8_byRule 73 = .ok (.invokevirtual 202, 3) := by decide +kernel
theorem dX8_byRule_76 : decode cX8_byRule 76 = .ok (.i2l, 1) := by decide +kernel
theorem dX8_byRule_77 : decode cX8_byRule 77 = .ok (.goto 11, 3) := by decide +kernel
theorem dX8_byRule_80 : decode cX8_byRule 80 = .ok (.aload_n 0, 1) := by decide +kernel
theorem dX8_byRule_81 : decode cX8_byRule 81 = .ok (.getfield 36, 3) := by decide +kernel
theorem dX8_byRule_84 : decode cX8_byRule 84 = .ok (.iconst 1, 1) := by decide +kernel
theorem dX8_byRule_85 : decode cX8_byRule 85 = .ok (.invokevirtual 176, 3) := by decide +kernel
theorem dX8_byRule_88 : decode cX8_byRule 88 = .ok (.lreturn, 1) := by decide +kernel
theorem dX8_run_0 : decode cX8_run 0 = .ok (.iload_n 1, 1) := by decide +kernel
theorem dX8_run_1 : decode cX8_run 1 = .ok (.invokestatic 116, 3) := by decide +kernel
theorem dX8_run_4 : decode cX8_run 4 = .ok (.ifCond .eq 13, 3) := by decide +kernel
theorem dX8_run_7 : decode cX8_run 7 = .ok (.iload_n 3, 1) := by decide +kernel
theorem dX8_run_8 : decode cX8_run 8 = .ok (.iconst 1, 1) := by decide +kernel
theorem dX8_run_9 : decode cX8_run 9 = .ok (.bipush 100, 2) := by decide +kernel
theorem dX8_run_11 : decode cX8_run 11 = .ok (.invokestatic 65, 3) := by decide +kernel
theorem dX8_run_14 : decode cX8_run 14 = .ok (.ifCond .ne 7, 3) := by decide +kernel
theorem dX8_run_17 : decode cX8_run 17 = .ok (.ldc2_w 97, 3) := by decide +kernel
theorem dX8_run_20 : decode cX8_run 20 = .ok (.lreturn, 1) := by decide +kernel
theorem dX8_run_21 : decode cX8_run 21 = .ok (.aload_n 0, 1) := by decide +kernel
theorem dX8_run_22 : decode cX8_run 22 = .ok (.iload_n 1, 1) := by decide +kernel
theorem dX8_run_23 : decode cX8_run 23 = .ok (.invokevirtual 173, 3) := by decide +kernel
theorem dX8_run_26 : decode cX8_run 26 = .ok (.aload_n 0, 1) := by decide +kernel
theorem dX8_run_27 : decode cX8_run 27 = .ok (.getfield 46, 3) := by decide +kernel
theorem dX8_run_30 : decode cX8_run 30 = .ok (.iload_n 2, 1) := by decide +kernel
theorem dX8_run_31 : decode cX8_run 31 = .ok (.invokevirtual 159, 3) := by decide +kernel
theorem dX8_run_34 : decode cX8_run 34 = .ok (.lconst 0, 1) := by decide +kernel
theorem dX8_run_35 : decode cX8_run 35 = .ok (.lstore 4, 2) := by decide +kernel
theorem dX8_run_37 : decode cX8_run 37 = .ok (.iconst 0, 1) := by decide +kernel
theorem dX8_run_38 : decode cX8_run 38 = .ok (.istore 6, 2) := by decide +kernel
theorem dX8_run_40 : decode cX8_run 40 = .ok (.iload 6, 2) := by decide +kernel
theorem dX8_run_42 : decode cX8_run 42 = .ok (.iload_n 3, 1) := by decide +kernel
theorem dX8_run_43 : decode cX8_run 43 = .ok (.if_icmp .ge 56, 3) := by decide +kernel
theorem dX8_run_46 : decode cX8_run 46 = .ok (.aload_n 0, 1) := by decide +kernel
theorem dX8_run_47 : decode cX8_run 47 = .ok (.getfield 46, 3) := by decide +kernel
theorem dX8_run_50 : decode cX8_run 50 = .ok (.aload_n 0, 1) := by decide +kernel
theorem dX8_run_51 : decode cX8_run 51 = .ok (.getfield 21, 3) := by decide +kernel
theorem dX8_run_54 : decode cX8_run 54 = .ok (.getfield 73, 3) := by decide +kernel
theorem dX8_run_57 : decode cX8_run 57 = .ok (.invokevirtual 318, 3) := by decide +kernel
theorem dX8_run_60 : decode cX8_run 60 = .ok (.aload_n 0, 1) := by decide +kernel
theorem dX8_run_61 : decode cX8_run 61 = .ok (.getfield 21, 3) := by decide +kernel
theorem dX8_run_64 : decode cX8_run 64 = .ok (.getfield 73, 3) := by decide +kernel
theorem dX8_run_67 : decode cX8_run 67 = .ok (.invokevirtual 162, 3) := by decide +kernel
theorem dX8_run_70 : decode cX8_run 70 = .ok (.istore 7, 2) := by decide +kernel
theorem dX8_run_72 : decode cX8_run 72 = .ok (.lload 4, 2) := by decide +kernel
theorem dX8_run_74 : decode cX8_run 74 = .ok (.aload_n 0, 1) := by decide +kernel
theorem dX8_run_75 : decode cX8_run 75 = .ok (.getfield 36, 3) := by decide +kernel
theorem dX8_run_78 : decode cX8_run 78 = .ok (.aload_n 0, 1) := by decide +kernel
theorem dX8_run_79 : decode cX8_run 79 = .ok (.getfield 36, 3) := by decide +kernel
theorem dX8_run_82 : decode cX8_run 82 = .ok (.iload 7, 2) := by decide +kernel
theorem dX8_run_84 : decode cX8_run 84 = .ok (.invokevirtual 205, 3) := by decide +kernel
theorem dX8_run_87 : decode cX8_run 87 = .ok (.invokevirtual 210, 3) := by decide +kernel
theorem dX8_run_90 : decode cX8_run 90 = .ok (.ladd, 1) := by decide +kernel
theorem dX8_run_91 : decode cX8_run 91 = .ok (.lstore 4, 2) := by decide +kernel
theorem dX8_run_93 : decode cX8_run 93 = .ok (.iinc 6 1, 3) := by decide +kernel
theorem dX8_run_96 : decode cX8_run 96 = .ok (.goto (-56), 3) := by decide +kernel
theorem dX8_run_99 : decode cX8_run 99 = .ok (.lload 4, 2) := by decide +kernel
theorem dX8_run_101 : decode cX8_run 101 = .ok (.lreturn, 1) := by decide +kernel
theorem dX8_extreme_0 : decode cX8_extreme 0 = .ok (.iload_n 1, 1) := by decide +kernel
theorem dX8_extreme_1 : decode cX8_extreme 1 = .ok (.invokestatic 116, 3) := by decide +kernel
theorem dX8_extreme_4 : decode cX8_extreme 4 = .ok (.ifCond .eq 12, 3) := by decide +kernel
theorem dX8_extreme_7 : decode cX8_extreme 7 = .ok (.iload_n 3, 1) := by decide +kernel
theorem dX8_extreme_8 : decode cX8_extreme 8 = .ok (.iconst 0, 1) := by decide +kernel
theorem dX8_extreme_9 : decode cX8_extreme 9 = .ok (.iconst 1, 1) := by decide +kernel
theorem dX8_extreme_10 : decode cX8_extreme 10 = .ok (.invokestatic 65, 3) := by decide +kernel
theorem dX8_extreme_13 : decode cX8_extreme 13 = .ok (.ifCond .ne 7, 3) := by decide +kernel
theorem dX8_extreme_16 : decode cX8_extreme 16 = .ok (.ldc2_w 97, 3) := by decide +kernel
theorem dX8_extreme_19 : decode cX8_extreme 19 = .ok (.lreturn, 1) := by decide +kernel
theorem dX8_extreme_20 : decode cX8_extreme 20 = .ok (.aload_n 0, 1) := by decide +kernel
theorem dX8_extreme_21 : decode cX8_extreme 21 = .ok (.iload_n 1, 1) := by decide +kernel
theorem dX8_extreme_22 : decode cX8_extreme 22 = .ok (.invokevirtual 173, 3) := by decide +kernel
theorem dX8_extreme_25 : decode cX8_extreme 25 = .ok (.aload_n 0, 1) := by decide +kernel
theorem dX8_extreme_26 : decode cX8_extreme 26 = .ok (.getfield 21, 3) := by decide +kernel
theorem dX8_extreme_29 : decode cX8_extreme 29 = .ok (.getfield 73, 3) := by decide +kernel
theorem dX8_extreme_32 : decode cX8_extreme 32 = .ok (.invokevirtual 318, 3) := by decide +kernel
theorem dX8_extreme_35 : decode cX8_extreme 35 = .ok (.istore 4, 2) := by decide +kernel
theorem dX8_extreme_37 : decode cX8_extreme 37 = .ok (.lconst 0, 1) := by decide +kernel
theorem dX8_extreme_38 : decode cX8_extreme 38 = .ok (.lstore 5, 2) := by decide +kernel
theorem dX8_extreme_40 : decode cX8_extreme 40 = .ok (.iconst 0, 1) := by decide +kernel
theorem dX8_extreme_41 : decode cX8_extreme 41 = .ok (.istore 7, 2) := by decide +kernel
theorem dX8_extreme_43 : decode cX8_extreme 43 = .ok (.iconst 0, 1) := by decide +kernel
theorem dX8_extreme_44 : decode cX8_extreme 44 = .ok (.istore 8, 2) := by decide +kernel
theorem dX8_extreme_46 : decode cX8_extreme 46 = .ok (.iload 8, 2) := by decide +kernel
theorem dX8_extreme_48 : decode cX8_extreme 48 = .ok (.iconst 1, 1) := by decide +kernel
theorem dX8_extreme_49 : decode cX8_extreme 49 = .ok (.iload 4, 2) := by decide +kernel
theorem dX8_extreme_51 : decode cX8_extreme 51 = .ok (.ishl, 1) := by decide +kernel
theorem dX8_extreme_52 : decode cX8_extreme 52 = .ok (.if_icmp .ge 68, 3) := by decide +kernel
theorem dX8_extreme_55 : decode cX8_extreme 55 = .ok (.aload_n 0, 1) := by decide +kernel
theorem dX8_extreme_56 : decode cX8_extreme 56 = .ok (.getfield 36, 3) := by decide +kernel
theorem dX8_extreme_59 : decode cX8_extreme 59 = .ok (.aload_n 0, 1) := by decide +kernel
theorem dX8_extreme_60 : decode cX8_extreme 60 = .ok (.getfield 36, 3) := by decide +kernel
theorem dX8_extreme_63 : decode cX8_extreme 63 = .ok (.iload 8, 2) := by decide +kernel
theorem dX8_extreme_65 : decode cX8_extreme 65 = .ok (.iload 4, 2) := by decide +kernel
theorem dX8_extreme_67 : decode cX8_extreme 67 = .ok (.invokestatic 321, 3) := by decide +kernel
theorem dX8_extreme_70 : decode cX8_extreme 70 = .ok (.invokevirtual 205, 3) := by decide +kernel
theorem dX8_extreme_73 : decode cX8_extreme 73 = .ok (.invokevirtual 210, 3) := by decide +kernel
theorem dX8_extreme_76 : decode cX8_extreme 76 = .ok (.lstore 9, 2) := by decide +kernel
theorem dX8_extreme_78 : decode cX8_extreme 78 = .ok (.iload 8, 2) := by decide +kernel
theorem dX8_extreme_80 : decode cX8_extreme 80 = .ok (.ifCond .eq 26, 3) := by decide +kernel
theorem dX8_extreme_83 : decode cX8_extreme 83 = .ok (.iload_n 2, 1) := by decide +kernel
theorem dX8_extreme_84 : decode cX8_extreme 84 = .ok (.ifCond .eq 14, 3) := by decide +kernel
theorem dX8_extreme_87 : decode cX8_extreme 87 = .ok (.lload 9, 2) := by decide +kernel
theorem dX8_extreme_89 : decode cX8_extreme 89 = .ok (.lload 5, 2) := by decide +kernel
theorem dX8_extreme_91 : decode cX8_extreme 91 = .ok (.lcmp, 1) := by decide +kernel
theorem dX8_extreme_92 : decode cX8_extreme 92 = .ok (.ifCond .le 22, 3) := by decide +kernel
theorem dX8_extreme_95 : decode cX8_extreme 95 = .ok (.goto 11, 3) := by decide +kernel
theorem dX8_extreme_98 : decode cX8_extreme 98 = .ok (.lload 9, 2) := by decide +kernel
theorem dX8_extreme_100 : decode cX8_extreme 100 = .ok (.lload 5, 2) := by decide +kernel
theorem dX8_extreme_102 : decode cX8_extreme 102 = .ok (.lcmp, 1) := by decide +kernel
theorem dX8_extreme_103 : decode cX8_extreme 103 = .ok (.ifCond .ge 11, 3) := by decide +kernel
theorem dX8_extreme_106 : decode cX8_extreme 106 = .ok (.lload 9, 2) := by decide +kernel
theorem dX8_extreme_108 : decode cX8_extreme 108 = .ok (.lstore 5, 2) := by decide +kernel
theorem dX8_extreme_110 : decode cX8_extreme 110 = .ok (.iload 8, 2) := by decide +kernel
theorem dX8_extreme_112 : decode cX8_extreme 112 = .ok (.istore 7, 2) := by decide +kernel
theorem dX8_extreme_114 : decode cX8_extreme 114 = .ok (.iinc 8 1, 3) := by decide +kernel
theorem dX8_extreme_117 : decode cX8_extreme 117 = .ok (.goto (-71), 3) := by decide +kernel
theorem dX8_extreme_120 : decode cX8_extreme 120 = .ok (.iload_n 3, 1) := by decide +kernel
theorem dX8_extreme_121 : decode cX8_extreme 121 = .ok (.ifCond .ne 8, 3) := by decide +kernel
theorem dX8_extreme_124 : decode cX8_extreme 124 = .ok (.lload 5, 2) := by decide +kernel
theorem dX8_extreme_126 : decode cX8_extreme 126 = .ok (.goto 6, 3) := by decide +kernel
theorem dX8_extreme_129 : decode cX8_extreme 129 = .ok (.iload 7, 2) := by decide +kernel
theorem dX8_extreme_131 : decode cX8_extreme 131 = .ok (.i2l, 1) := by decide +kernel
theorem dX8_extreme_132 : decode cX8_extreme 132 = .ok (.lreturn, 1) := by decide +kernel
theorem dX8_days_0 : decode cX8_days 0 = .ok (.iload_n 1, 1) := by decide +kernel
theorem dX8_days_1 : decode cX8_days 1 = .ok (.invokestatic 116, 3) := by decide +kernel
theorem dX8_days_4 : decode cX8_days 4 = .ok (.ifCond .eq 13, 3) := by decide +kernel
theorem dX8_days_7 : decode cX8_days 7 = .ok (.iload_n 2, 1) := by decide +kernel
theorem dX8_days_8 : decode cX8_days 8 = .ok (.iconst 0, 1) := by decide +kernel
theorem dX8_days_9 : decode cX8_days 9 = .ok (.bipush 6, 2) := by decide +kernel
theorem dX8_days_11 : decode cX8_days 11 = .ok (.invokestatic 65, 3) := by decide +kernel
theorem dX8_days_14 : decode cX8_days 14 = .ok (.ifCond .ne 5, 3) := by decide +kernel
theorem dX8_days_17 : decode cX8_days 17 = .ok (.iconst (-1), 1) := by decide +kernel
theorem dX8_days_18 : decode cX8_days 18 = .ok (.ireturn, 1) := by decide +kernel
theorem dX8_days_19 : decode cX8_days 19 = .ok (.aload_n 0, 1) := by decide +kernel
theorem dX8_days_20 : decode cX8_days 20 = .ok (.iload_n 1, 1) := by decide +kernel
theorem dX8_days_21 : decode cX8_days 21 = .ok (.invokevirtual 173, 3) := by decide +kernel
theorem dX8_days_24 : decode cX8_days 24 = .ok (.iconst 0, 1) := by decide +kernel
theorem dX8_days_25 : decode cX8_days 25 = .ok (.istore_n 3, 1) := by decide +kernel
theorem dX8_days_26 : decode cX8_days 26 = .ok (.iconst 1, 1) := by decide +kernel
theorem dX8_days_27 : decode cX8_days 27 = .ok (.istore 4, 2) := by decide +kernel
theorem dX8_days_29 : decode cX8_days 29 = .ok (.iload 4, 2) := by decide +kernel
theorem dX8_days_31 : decode cX8_days 31 = .ok (.aload_n 0, 1) := by decide +kernel
theorem dX8_days_32 : decode cX8_days 32 = .ok (.getfield 36, 3) := by decide +kernel
theorem dX8_days_35 : decode cX8_days 35 = .ok (.invokevirtual 324, 3) := by decide +kernel
theorem dX8_days_38 : decode cX8_days 38 = .ok (.if_icmp .gt 44, 3) := by decide +kernel
theorem dX8_days_41 : decode cX8_days 41 = .ok (.aload_n 0, 1) := by decide +kernel
theorem dX8_days_42 : decode cX8_days 42 = .ok (.getfield 36, 3) := by decide +kernel
theorem dX8_days_45 : decode cX8_days 45 = .ok (.iload 4, 2) := by decide +kernel
theorem dX8_days_47 : decode cX8_days 47 = .ok (.invokevirtual 202, 3) := by decide +kernel
theorem dX8_days_50 : decode cX8_days 50 = .ok (.iload_n 2, 1) := by decide +kernel
theorem dX8_days_51 : decode cX8_days 51 = .ok (.if_icmp .ne 25, 3) := by decide +kernel
theorem dX8_days_54 : decode cX8_days 54 = .ok (.aload_n 0, 1) := by decide +kernel
theorem dX8_days_55 : decode cX8_days 55 = .ok (.getfield 36, 3) := by decide +kernel
theorem dX8_days_58 : decode cX8_days 58 = .ok (.iload 4, 2) := by decide +kernel
theorem dX8_days_60 : decode cX8_days 60 = .ok (.invokevirtual 327, 3) := by decide +kernel
theorem dX8_days_63 : decode cX8_days 63 = .ok (.ifCond .eq 13, 3) := by decide +kernel
theorem dX8_days_66 : decode cX8_days 66 = .ok (.iload_n 3, 1) := by decide +kernel
theorem dX8_days_67 : decode cX8_days 67 = .ok (.iconst 1, 1) := by decide +kernel
theorem dX8_days_68 : decode cX8_days 68 = .ok (.iload 4, 2) := by decide +kernel
theorem dX8_days_70 : decode cX8_days 70 = .ok (.invokestatic 166, 3) := by decide +kernel
theorem dX8_days_73 : decode cX8_days 73 = .ok (.ishl, 1) := by decide +kernel
theorem dX8_days_74 : decode cX8_days 74 = .ok (.ior, 1) := by decide +kernel
theorem dX8_days_75 : decode cX8_days 75 = .ok (.istore_n 3, 1) := by decide +kernel
theorem dX8_days_76 : decode cX8_days 76 = .ok (.iinc 4 1, 3) := by decide +kernel
theorem dX8_days_79 : decode cX8_days 79 = .ok (.goto (-50), 3) := by decide +kernel
theorem dX8_days_82 : decode cX8_days 82 = .ok (.iload_n 3, 1) := by decide +kernel
theorem dX8_days_83 : decode cX8_days 83 = .ok (.ireturn, 1) := by decide +kernel
theorem dX8_table_0 : decode cX8_table 0 = .ok (.iload_n 1, 1) := by decide +kernel
theorem dX8_table_1 : decode cX8_table 1 = .ok (.invokestatic 116, 3) := by decide +kernel
theorem dX8_table_4 : decode cX8_table 4 = .ok (.ifCond .eq 25, 3) := by decide +kernel
theorem dX8_table_7 : decode cX8_table 7 = .ok (.aload_n 0, 1) := by decide +kernel
theorem dX8_table_8 : decode cX8_table 8 = .ok (.iload_n 2, 1) := by decide +kernel
theorem dX8_table_9 : decode cX8_table 9 = .ok (.invokevirtual 94, 3) := by decide +kernel
theorem dX8_table_12 : decode cX8_table 12 = .ok (.ifCond .eq 17, 3) := by decide +kernel
theorem dX8_table_15 : decode cX8_table 15 = .ok (.iload_n 3, 1) := by decide +kernel
theorem dX8_table_16 : decode cX8_table 16 = .ok (.ifCond .lt 13, 3) := by decide +kernel
theorem dX8_table_19 : decode cX8_table 19 = .ok (.iload 4, 2) := by decide +kernel
theorem dX8_table_21 : decode cX8_table 21 = .ok (.iconst 0, 1) := by decide +kernel
theorem dX8_table_22 : decode cX8_table 22 = .ok (.iconst 4, 1) := by decide +kernel
theorem dX8_table_23 : decode cX8_table 23 = .ok (.invokestatic 65, 3) := by decide +kernel
theorem dX8_table_26 : decode cX8_table 26 = .ok (.ifCond .ne 7, 3) := by decide +kernel
theorem dX8_table_29 : decode cX8_table 29 = .ok (.ldc2_w 97, 3) := by decide +kernel
theorem dX8_table_32 : decode cX8_table 32 = .ok (.lreturn, 1) := by decide +kernel
theorem dX8_table_33 : decode cX8_table 33 = .ok (.aload_n 0, 1) := by decide +kernel
theorem dX8_table_34 : decode cX8_table 34 = .ok (.iload_n 1, 1) := by decide +kernel
theorem dX8_table_35 : decode cX8_table 35 = .ok (.invokevirtual 173, 3) := by decide +kernel
theorem dX8_table_38 : decode cX8_table 38 = .ok (.iload_n 3, 1) := by decide +kernel
theorem dX8_table_39 : decode cX8_table 39 = .ok (.aload_n 0, 1) := by decide +kernel
theorem dX8_table_40 : decode cX8_table 40 = .ok (.getfield 36, 3) := by decide +kernel
theorem dX8_table_43 : decode cX8_table 43 = .ok (.iload_n 2, 1) := by decide +kernel
theorem dX8_table_44 : decode cX8_table 44 = .ok (.invokevirtual 233, 3) := by decide +kernel
theorem dX8_table_47 : decode cX8_table 47 = .ok (.if_icmp .lt 7, 3) := by decide +kernel
theorem dX8_table_50 : decode cX8_table 50 = .ok (.ldc2_w 208, 3) := by decide +kernel
theorem dX8_table_53 : decode cX8_table 53 = .ok (.lreturn, 1) := by decide +kernel
theorem dX8_table_54 : decode cX8_table 54 = .ok (.aload_n 0, 1) := by decide +kernel
theorem dX8_table_55 : decode cX8_table 55 = .ok (.getfield 36, 3) := by decide +kernel
theorem dX8_table_58 : decode cX8_table 58 = .ok (.iload_n 3, 1) := by decide +kernel
theorem dX8_table_59 : decode cX8_table 59 = .ok (.invokevirtual 236, 3) := by decide +kernel
theorem dX8_table_62 : decode cX8_table 62 = .ok (.istore 5, 2) := by decide +kernel
theorem dX8_table_64 : decode cX8_table 64 = .ok (.iload 4, 2) := by decide +kernel
theorem dX8_table_66 : decode cX8_table 66 = .ok (.tableswitch 72 0 3 #[30, 37, 48, 62], 30) := by decide +kernel
theorem dX8_table_96 : decode cX8_table 96 = .ok (.iload 5, 2) := by decide +kernel
theorem dX8_table_98 : decode cX8_table 98 = .ok (.invokestatic 156, 3) := by decide +kernel
theorem dX8_table_101 : decode cX8_table 101 = .ok (.i2l, 1) := by decide +kernel
theorem dX8_table_102 : decode cX8_table 102 = .ok (.lreturn, 1) := by decide +kernel
theorem dX8_table_103 : decode cX8_table 103 = .ok (.aload_n 0, 1) := by decide +kernel
theorem dX8_table_104 : decode cX8_table 104 = .ok (.getfield 36, 3) := by decide +kernel
theorem dX8_table_107 : decode cX8_table 107 = .ok (.iload 5, 2) := by decide +kernel
theorem dX8_table_109 : decode cX8_table 109 = .ok (.invokevirtual 193, 3) := by decide +kernel
theorem dX8_table_112 : decode cX8_table 112 = .ok (.i2l, 1) := by decide +kernel
theorem dX8_table_113 : decode cX8_table 113 = .ok (.lreturn, 1) := by decide +kernel
theorem dX8_table_114 : decode cX8_table 114 = .ok (.iload 5, 2) := by decide +kernel
theorem dX8_table_116 : decode cX8_table 116 = .ok (.invokestatic 330, 3) := by decide +kernel
theorem dX8_table_119 : decode cX8_table 119 = .ok (.ifCond .eq 7, 3) := by decide +kernel
theorem dX8_table_122 : decode cX8_table 122 = .ok (.lconst 1, 1) := by decide +kernel
theorem dX8_table_123 : decode cX8_table 123 = .ok (.goto 4, 3) := by decide +kernel
theorem dX8_table_126 : decode cX8_table 126 = .ok (.lconst 0, 1) := by decide +kernel
theorem dX8_table_127 : decode cX8_table 127 = .ok (.lreturn, 1) := by decide +kernel
theorem dX8_table_128 : decode cX8_table 128 = .ok (.aload_n 0, 1) := by decide +kernel
theorem dX8_table_129 : decode cX8_table 129 = .ok (.getfield 36, 3) := by decide +kernel
theorem dX8_table_132 : decode cX8_table 132 = .ok (.iload 5, 2) := by decide +kernel
theorem dX8_table_134 : decode cX8_table 134 = .ok (.invokevirtual 176, 3) := by decide +kernel
theorem dX8_table_137 : decode cX8_table 137 = .ok (.lreturn, 1) := by decide +kernel
theorem dX8_table_138 : decode cX8_table 138 = .ok (.aload_n 0, 1) := by decide +kernel
theorem dX8_table_139 : decode cX8_table 139 = .ok (.getfield 36, 3) := by decide +kernel
theorem dX8_table_142 : decode cX8_table 142 = .ok (.iload 5, 2) := by decide +kernel
theorem dX8_table_144 : decode cX8_table 144 = .ok (.invokevirtual 202, 3) := by decide +kernel
theorem dX8_table_147 : decode cX8_table 147 = .ok (.i2l, 1) := by decide +kernel
theorem dX8_table_148 : decode cX8_table 148 = .ok (.lreturn, 1) := by decide +kernel
theorem dX8_hedged_0 : decode cX8_hedged 0 = .ok (.iload_n 1, 1) := by decide +kernel
theorem dX8_hedged_1 : decode cX8_hedged 1 = .ok (.invokestatic 116, 3) := by decide +kernel
theorem dX8_hedged_4 : decode cX8_hedged 4 = .ok (.ifCond .ne 7, 3) := by decide +kernel
theorem dX8_hedged_7 : decode cX8_hedged 7 = .ok (.ldc2_w 216, 3) := by decide +kernel
theorem dX8_hedged_10 : decode cX8_hedged 10 = .ok (.lreturn, 1) := by decide +kernel
theorem dX8_hedged_11 : decode cX8_hedged 11 = .ok (.aload_n 0, 1) := by decide +kernel
theorem dX8_hedged_12 : decode cX8_hedged 12 = .ok (.iload_n 1, 1) := by decide +kernel
theorem dX8_hedged_13 : decode cX8_hedged 13 = .ok (.invokevirtual 173, 3) := by decide +kernel
theorem dX8_hedged_16 : decode cX8_hedged 16 = .ok (.aload_n 0, 1) := by decide +kernel
theorem dX8_hedged_17 : decode cX8_hedged 17 = .ok (.getfield 36, 3) := by decide +kernel
theorem dX8_hedged_20 : decode cX8_hedged 20 = .ok (.aload_n 0, 1) := by decide +kernel
theorem dX8_hedged_21 : decode cX8_hedged 21 = .ok (.getfield 21, 3) := by decide +kernel
theorem dX8_hedged_24 : decode cX8_hedged 24 = .ok (.getfield 83, 3) := by decide +kernel
theorem dX8_hedged_27 : decode cX8_hedged 27 = .ok (.invokevirtual 333, 3) := by decide +kernel
theorem dX8_hedged_30 : decode cX8_hedged 30 = .ok (.lreturn, 1) := by decide +kernel
theorem dX8_letter_0 : decode cX8_letter 0 = .ok (.iload_n 1, 1) := by decide +kernel
theorem dX8_letter_1 : decode cX8_letter 1 = .ok (.invokestatic 116, 3) := by decide +kernel
theorem dX8_letter_4 : decode cX8_letter 4 = .ok (.ifCond .eq 8, 3) := by decide +kernel
theorem dX8_letter_7 : decode cX8_letter 7 = .ok (.iload_n 2, 1) := by decide +kernel
theorem dX8_letter_8 : decode cX8_letter 8 = .ok (.iconst (-1), 1) := by decide +kernel
theorem dX8_letter_9 : decode cX8_letter 9 = .ok (.if_icmp .ge 5, 3) := by decide +kernel
theorem dX8_letter_12 : decode cX8_letter 12 = .ok (.iconst (-1), 1) := by decide +kernel
theorem dX8_letter_13 : decode cX8_letter 13 = .ok (.ireturn, 1) := by decide +kernel
theorem dX8_letter_14 : decode cX8_letter 14 = .ok (.aload_n 0, 1) := by decide +kernel
theorem dX8_letter_15 : decode cX8_letter 15 = .ok (.getfield 53, 3) := by decide +kernel
theorem dX8_letter_18 : decode cX8_letter 18 = .ok (.iconst 0, 1) := by decide +kernel
theorem dX8_letter_19 : decode cX8_letter 19 = .ok (.invokevirtual 336, 3) := by decide +kernel
theorem dX8_letter_22 : decode cX8_letter 22 = .ok (.aload_n 0, 1) := by decide +kernel
theorem dX8_letter_23 : decode cX8_letter 23 = .ok (.getfield 21, 3) := by decide +kernel
theorem dX8_letter_26 : decode cX8_letter 26 = .ok (.getfield 120, 3) := by decide +kernel
theorem dX8_letter_29 : decode cX8_letter 29 = .ok (.iload_n 1, 1) := by decide +kernel
theorem dX8_letter_30 : decode cX8_letter 30 = .ok (.aaload, 1) := by decide +kernel
theorem dX8_letter_31 : decode cX8_letter 31 = .ok (.aload_n 0, 1) := by decide +kernel
theorem dX8_letter_32 : decode cX8_letter 32 = .ok (.getfield 53, 3) := by decide +kernel
theorem dX8_letter_35 : decode cX8_letter 35 = .ok (.invokevirtual 339, 3) := by decide +kernel
theorem dX8_letter_38 : decode cX8_letter 38 = .ok (.iload_n 2, 1) := by decide +kernel
theorem dX8_letter_39 : decode cX8_letter 39 = .ok (.iconst (-1), 1) := by decide +kernel
theorem dX8_letter_40 : decode cX8_letter 40 = .ok (.if_icmp .ne 11, 3) := by decide +kernel
theorem dX8_letter_43 : decode cX8_letter 43 = .ok (.aload_n 0, 1) := by decide +kernel
theorem dX8_letter_44 : decode cX8_letter 44 = .ok (.getfield 53, 3) := by decide +kernel
theorem dX8_letter_47 : decode cX8_letter 47 = .ok (.invokevirtual 343, 3) := by decide +kernel
theorem dX8_letter_50 : decode cX8_letter 50 = .ok (.ireturn, 1) := by decide +kernel
theorem dX8_letter_51 : decode cX8_letter 51 = .ok (.iload_n 2, 1) := by decide +kernel
theorem dX8_letter_52 : decode cX8_letter 52 = .ok (.aload_n 0, 1) := by decide +kernel
theorem dX8_letter_53 : decode cX8_letter 53 = .ok (.getfield 53, 3) := by decide +kernel
theorem dX8_letter_56 : decode cX8_letter 56 = .ok (.invokevirtual 343, 3) := by decide +kernel
theorem dX8_letter_59 : decode cX8_letter 59 = .ok (.if_icmp .ge 14, 3) := by decide +kernel
theorem dX8_letter_62 : decode cX8_letter 62 = .ok (.aload_n 0, 1) := by decide +kernel
theorem dX8_letter_63 : decode cX8_letter 63 = .ok (.getfield 53, 3) := by decide +kernel
theorem dX8_letter_66 : decode cX8_letter 66 = .ok (.iload_n 2, 1) := by decide +kernel
theorem dX8_letter_67 : decode cX8_letter 67 = .ok (.invokevirtual 346, 3) := by decide +kernel
theorem dX8_letter_70 : decode cX8_letter 70 = .ok (.goto 5, 3) := by decide +kernel
theorem dX8_letter_73 : decode cX8_letter 73 = .ok (.bipush (-2), 2) := by decide +kernel
theorem dX8_letter_75 : decode cX8_letter 75 = .ok (.ireturn, 1) := by decide +kernel
theorem dX8_alike_0 : decode cX8_alike 0 = .ok (.iload_n 1, 1) := by decide +kernel
theorem dX8_alike_1 : decode cX8_alike 1 = .ok (.invokestatic 116, 3) := by decide +kernel
theorem dX8_alike_4 : decode cX8_alike 4 = .ok (.ifCond .eq 19, 3) := by decide +kernel
theorem dX8_alike_7 : decode cX8_alike 7 = .ok (.iload_n 2, 1) := by decide +kernel
theorem dX8_alike_8 : decode cX8_alike 8 = .ok (.invokestatic 116, 3) := by decide +kernel
theorem dX8_alike_11 : decode cX8_alike 11 = .ok (.ifCond .eq 12, 3) := by decide +kernel
theorem dX8_alike_14 : decode cX8_alike 14 = .ok (.iload_n 3, 1) := by decide +kernel
theorem dX8_alike_15 : decode cX8_alike 15 = .ok (.iconst 0, 1) := by decide +kernel
theorem dX8_alike_16 : decode cX8_alike 16 = .ok (.iconst 1, 1) := by decide +kernel
theorem dX8_alike_17 : decode cX8_alike 17 = .ok (.invokestatic 65, 3) := by decide +kernel
theorem dX8_alike_20 : decode cX8_alike 20 = .ok (.ifCond .ne 5, 3) := by decide +kernel
theorem dX8_alike_23 : decode cX8_alike 23 = .ok (.iconst (-1), 1) := by decide +kernel
theorem dX8_alike_24 : decode cX8_alike 24 = .ok (.ireturn, 1) := by decide +kernel
theorem dX8_alike_25 : decode cX8_alike 25 = .ok (.aload_n 0, 1) := by decide +kernel
theorem dX8_alike_26 : decode cX8_alike 26 = .ok (.iload_n 1, 1) := by decide +kernel
theorem dX8_alike_27 : decode cX8_alike 27 = .ok (.invokevirtual 173, 3) := by decide +kernel
theorem dX8_alike_30 : decode cX8_alike 30 = .ok (.aload_n 0, 1) := by decide +kernel
theorem dX8_alike_31 : decode cX8_alike 31 = .ok (.getfield 40, 3) := by decide +kernel
theorem dX8_alike_34 : decode cX8_alike 34 = .ok (.aload_n 0, 1) := by decide +kernel
theorem dX8_alike_35 : decode cX8_alike 35 = .ok (.getfield 21, 3) := by decide +kernel
theorem dX8_alike_38 : decode cX8_alike 38 = .ok (.getfield 73, 3) := by decide +kernel
theorem dX8_alike_41 : decode cX8_alike 41 = .ok (.aload_n 0, 1) := by decide +kernel
theorem dX8_alike_42 : decode cX8_alike 42 = .ok (.getfield 21, 3) := by decide +kernel
theorem dX8_alike_45 : decode cX8_alike 45 = .ok (.getfield 120, 3) := by decide +kernel
theorem dX8_alike_48 : decode cX8_alike 48 = .ok (.iload_n 2, 1) := by decide +kernel
theorem dX8_alike_49 : decode cX8_alike 49 = .ok (.aaload, 1) := by decide +kernel
theorem dX8_alike_50 : decode cX8_alike 50 = .ok (.invokevirtual 265, 3) := by decide +kernel
theorem dX8_alike_53 : decode cX8_alike 53 = .ok (.aload_n 0, 1) := by decide +kernel
theorem dX8_alike_54 : decode cX8_alike 54 = .ok (.getfield 40, 3) := by decide +kernel
theorem dX8_alike_57 : decode cX8_alike 57 = .ok (.invokevirtual 269, 3) := by decide +kernel
theorem dX8_alike_60 : decode cX8_alike 60 = .ok (.iconst 1, 1) := by decide +kernel
theorem dX8_alike_61 : decode cX8_alike 61 = .ok (.istore 4, 2) := by decide +kernel
theorem dX8_alike_63 : decode cX8_alike 63 = .ok (.iload 4, 2) := by decide +kernel
theorem dX8_alike_65 : decode cX8_alike 65 = .ok (.aload_n 0, 1) := by decide +kernel
theorem dX8_alike_66 : decode cX8_alike 66 = .ok (.getfield 36, 3) := by decide +kernel
theorem dX8_alike_69 : decode cX8_alike 69 = .ok (.invokevirtual 324, 3) := by decide +kernel
theorem dX8_alike_72 : decode cX8_alike 72 = .ok (.if_icmp .gt 45, 3) := by decide +kernel
theorem dX8_alike_75 : decode cX8_alike 75 = .ok (.aload_n 0, 1) := by decide +kernel
theorem dX8_alike_76 : decode cX8_alike 76 = .ok (.getfield 36, 3) := by decide +kernel
theorem dX8_alike_79 : decode cX8_alike 79 = .ok (.iload 4, 2) := by decide +kernel
theorem dX8_alike_81 : decode cX8_alike 81 = .ok (.invokevirtual 176, 3) := by decide +kernel
theorem dX8_alike_84 : decode cX8_alike 84 = .ok (.aload_n 0, 1) := by decide +kernel
theorem dX8_alike_85 : decode cX8_alike 85 = .ok (.getfield 40, 3) := by decide +kernel
theorem dX8_alike_88 : decode cX8_alike 88 = .ok (.iload 4, 2) := by decide +kernel
theorem dX8_alike_90 : decode cX8_alike 90 = .ok (.invokevirtual 176, 3) := by decide +kernel
theorem dX8_alike_93 : decode cX8_alike 93 = .ok (.lcmp, 1) := by decide +kernel
theorem dX8_alike_94 : decode cX8_alike 94 = .ok (.ifCond .eq 17, 3) := by decide +kernel
theorem dX8_alike_97 : decode cX8_alike 97 = .ok (.iload_n 3, 1) := by decide +kernel
theorem dX8_alike_98 : decode cX8_alike 98 = .ok (.ifCond .ne 7, 3) := by decide +kernel
theorem dX8_alike_101 : decode cX8_alike 101 = .ok (.iconst 0, 1) := by decide +kernel
theorem dX8_alike_102 : decode cX8_alike 102 = .ok (.goto 8, 3) := by decide +kernel
theorem dX8_alike_105 : decode cX8_alike 105 = .ok (.iload 4, 2) := by decide +kernel
theorem dX8_alike_107 : decode cX8_alike 107 = .ok (.invokestatic 166, 3) := by decide +kernel
theorem dX8_alike_110 : decode cX8_alike 110 = .ok (.ireturn, 1) := by decide +kernel
theorem dX8_alike_111 : decode cX8_alike 111 = .ok (.iinc 4 1, 3) := by decide +kernel
theorem dX8_alike_114 : decode cX8_alike 114 = .ok (.goto (-51), 3) := by decide +kernel
theorem dX8_alike_117 : decode cX8_alike 117 = .ok (.iload_n 3, 1) := by decide +kernel
theorem dX8_alike_118 : decode cX8_alike 118 = .ok (.ifCond .ne 7, 3) := by decide +kernel
theorem dX8_alike_121 : decode cX8_alike 121 = .ok (.iconst 1, 1) := by decide +kernel
theorem dX8_alike_122 : decode cX8_alike 122 = .ok (.goto 5, 3) := by decide +kernel
theorem dX8_alike_125 : decode cX8_alike 125 = .ok (.bipush (-2), 2) := by decide +kernel
theorem dX8_alike_127 : decode cX8_alike 127 = .ok (.ireturn, 1) := by decide +kernel
theorem dX8_best_0 : decode cX8_best 0 = .ok (.iconst 0, 1) := by decide +kernel
theorem dX8_best_1 : decode cX8_best 1 = .ok (.istore_n 2, 1) := by decide +kernel
theorem dX8_best_2 : decode cX8_best 2 = .ok (.aload_n 0, 1) := by decide +kernel
theorem dX8_best_3 : decode cX8_best 3 = .ok (.iconst 0, 1) := by decide +kernel
theorem dX8_best_4 : decode cX8_best 4 = .ok (.iconst 0, 1) := by decide +kernel
theorem dX8_best_5 : decode cX8_best 5 = .ok (.invokevirtual 213, 3) := by decide +kernel
theorem dX8_best_8 : decode cX8_best 8 = .ok (.lstore_n 3, 1) := by decide +kernel
theorem dX8_best_9 : decode cX8_best 9 = .ok (.iconst 1, 1) := by decide +kernel
theorem dX8_best_10 : decode cX8_best 10 = .ok (.istore 5, 2) := by decide +kernel
theorem dX8_best_12 : decode cX8_best 12 = .ok (.iload 5, 2) := by decide +kernel
theorem dX8_best_14 : decode cX8_best 14 = .ok (.iconst 3, 1) := by decide +kernel
theorem dX8_best_15 : decode cX8_best 15 = .ok (.if_icmp .ge 45, 3) := by decide +kernel
theorem dX8_best_18 : decode cX8_best 18 = .ok (.aload_n 0, 1) := by decide +kernel
theorem dX8_best_19 : decode cX8_best 19 = .ok (.iload 5, 2) := by decide +kernel
theorem dX8_best_21 : decode cX8_best 21 = .ok (.iconst 0, 1) := by decide +kernel
theorem dX8_best_22 : decode cX8_best 22 = .ok (.invokevirtual 213, 3) := by decide +kernel
theorem dX8_best_25 : decode cX8_best 25 = .ok (.lstore 6, 2) := by decide +kernel
theorem dX8_best_27 : decode cX8_best 27 = .ok (.iload_n 1, 1) := by decide +kernel
theorem dX8_best_28 : decode cX8_best 28 = .ok (.ifCond .eq 13, 3) := by decide +kernel
theorem dX8_best_31 : decode cX8_best 31 = .ok (.lload 6, 2) := by decide +kernel
theorem dX8_best_33 : decode cX8_best 33 = .ok (.lload_n 3, 1) := by decide +kernel
theorem dX8_best_34 : decode cX8_best 34 = .ok (.lcmp, 1) := by decide +kernel
theorem dX8_best_35 : decode cX8_best 35 = .ok (.ifCond .le 19, 3) := by decide +kernel
theorem dX8_best_38 : decode cX8_best 38 = .ok (.goto 10, 3) := by decide +kernel
theorem dX8_best_41 : decode cX8_best 41 = .ok (.lload 6, 2) := by decide +kernel
theorem dX8_best_43 : decode cX8_best 43 = .ok (.lload_n 3, 1) := by decide +kernel
theorem dX8_best_44 : decode cX8_best 44 = .ok (.lcmp, 1) := by decide +kernel
theorem dX8_best_45 : decode cX8_best 45 = .ok (.ifCond .ge 9, 3) := by decide +kernel
theorem dX8_best_48 : decode cX8_best 48 = .ok (.iload 5, 2) := by decide +kernel
theorem dX8_best_50 : decode cX8_best 50 = .ok (.istore_n 2, 1) := by decide +kernel
theorem dX8_best_51 : decode cX8_best 51 = .ok (.lload 6, 2) := by decide +kernel
theorem dX8_best_53 : decode cX8_best 53 = .ok (.lstore_n 3, 1) := by decide +kernel
theorem dX8_best_54 : decode cX8_best 54 = .ok (.iinc 5 1, 3) := by decide +kernel
theorem dX8_best_57 : decode cX8_best 57 = .ok (.goto (-45), 3) := by decide +kernel
theorem dX8_best_60 : decode cX8_best 60 = .ok (.iload_n 2, 1) := by decide +kernel
theorem dX8_best_61 : decode cX8_best 61 = .ok (.ireturn, 1) := by decide +kernel
theorem dX8_book_0 : decode cX8_book 0 = .ok (.iload_n 1, 1) := by decide +kernel
theorem dX8_book_1 : decode cX8_book 1 = .ok (.bipush (-100), 2) := by decide +kernel
theorem dX8_book_3 : decode cX8_book 3 = .ok (.bipush 100, 2) := by decide +kernel
theorem dX8_book_5 : decode cX8_book 5 = .ok (.invokestatic 65, 3) := by decide +kernel
theorem dX8_book_8 : decode cX8_book 8 = .ok (.ifCond .eq 25, 3) := by decide +kernel
theorem dX8_book_11 : decode cX8_book 11 = .ok (.iload_n 2, 1) := by decide +kernel
theorem dX8_book_12 : decode cX8_book 12 = .ok (.bipush (-100), 2) := by decide +kernel
theorem dX8_book_14 : decode cX8_book 14 = .ok (.bipush 100, 2) := by decide +kernel
theorem dX8_book_16 : decode cX8_book 16 = .ok (.invokestatic 65, 3) := by decide +kernel
theorem dX8_book_19 : decode cX8_book 19 = .ok (.ifCond .eq 14, 3) := by decide +kernel
theorem dX8_book_22 : decode cX8_book 22 = .ok (.iload_n 3, 1) := by decide +kernel
theorem dX8_book_23 : decode cX8_book 23 = .ok (.bipush (-100), 2) := by decide +kernel
theorem dX8_book_25 : decode cX8_book 25 = .ok (.bipush 100, 2) := by decide +kernel
theorem dX8_book_27 : decode cX8_book 27 = .ok (.invokestatic 65, 3) := by decide +kernel
theorem dX8_book_30 : decode cX8_book 30 = .ok (.ifCond .ne 7, 3) := by decide +kernel
theorem dX8_book_33 : decode cX8_book 33 = .ok (.ldc2_w 216, 3) := by decide +kernel
theorem dX8_book_36 : decode cX8_book 36 = .ok (.lreturn, 1) := by decide +kernel
theorem dX8_book_37 : decode cX8_book 37 = .ok (.iload_n 1, 1) := by decide +kernel
theorem dX8_book_38 : decode cX8_book 38 = .ok (.i2l, 1) := by decide +kernel
theorem dX8_book_39 : decode cX8_book 39 = .ok (.aload_n 0, 1) := by decide +kernel
theorem dX8_book_40 : decode cX8_book 40 = .ok (.iconst 0, 1) := by decide +kernel
theorem dX8_book_41 : decode cX8_book 41 = .ok (.iconst 0, 1) := by decide +kernel
theorem dX8_book_42 : decode cX8_book 42 = .ok (.invokevirtual 213, 3) := by decide +kernel
theorem dX8_book_45 : decode cX8_book 45 = .ok (.lmul, 1) := by decide +kernel
theorem dX8_book_46 : decode cX8_book 46 = .ok (.iload_n 2, 1) := by decide +kernel
theorem dX8_book_47 : decode cX8_book 47 = .ok (.i2l, 1) := by decide +kernel
theorem dX8_book_48 : decode cX8_book 48 = .ok (.aload_n 0, 1) := by decide +kernel
theorem dX8_book_49 : decode cX8_book 49 = .ok (.iconst 1, 1) := by decide +kernel
theorem dX8_book_50 : decode cX8_book 50 = .ok (.iconst 0, 1) := by decide +kernel
theorem dX8_book_51 : decode cX8_book 51 = .ok (.invokevirtual 213, 3) := by decide +kernel
theorem dX8_book_54 : decode cX8_book 54 = .ok (.lmul, 1) := by decide +kernel
theorem dX8_book_55 : decode cX8_book 55 = .ok (.ladd, 1) := by decide +kernel
theorem dX8_book_56 : decode cX8_book 56 = .ok (.iload_n 3, 1) := by decide +kernel
theorem dX8_book_57 : decode cX8_book 57 = .ok (.i2l, 1) := by decide +kernel
theorem dX8_book_58 : decode cX8_book 58 = .ok (.aload_n 0, 1) := by decide +kernel
theorem dX8_book_59 : decode cX8_book 59 = .ok (.iconst 2, 1) := by decide +kernel
theorem dX8_book_60 : decode cX8_book 60 = .ok (.iconst 0, 1) := by decide +kernel
theorem dX8_book_61 : decode cX8_book 61 = .ok (.invokevirtual 213, 3) := by decide +kernel
theorem dX8_book_64 : decode cX8_book 64 = .ok (.lmul, 1) := by decide +kernel
theorem dX8_book_65 : decode cX8_book 65 = .ok (.ladd, 1) := by decide +kernel
theorem dX8_book_66 : decode cX8_book 66 = .ok (.lreturn, 1) := by decide +kernel
theorem dX8_count_0 : decode cX8_count 0 = .ok (.iload_n 1, 1) := by decide +kernel
theorem dX8_count_1 : decode cX8_count 1 = .ok (.iconst 0, 1) := by decide +kernel
theorem dX8_count_2 : decode cX8_count 2 = .ok (.bipush 8, 2) := by decide +kernel
theorem dX8_count_4 : decode cX8_count 4 = .ok (.invokestatic 65, 3) := by decide +kernel
theorem dX8_count_7 : decode cX8_count 7 = .ok (.ifCond .eq 15, 3) := by decide +kernel
theorem dX8_count_10 : decode cX8_count 10 = .ok (.aload_n 0, 1) := by decide +kernel
theorem dX8_count_11 : decode cX8_count 11 = .ok (.getfield 21, 3) := by decide +kernel
theorem dX8_count_14 : decode cX8_count 14 = .ok (.getfield 73, 3) := by decide +kernel
theorem dX8_count_17 : decode cX8_count 17 = .ok (.iload_n 1, 1) := by decide +kernel
theorem dX8_count_18 : decode cX8_count 18 = .ok (.invokevirtual 90, 3) := by decide +kernel
theorem dX8_count_21 : decode cX8_count 21 = .ok (.ireturn, 1) := by decide +kernel
theorem dX8_count_22 : decode cX8_count 22 = .ok (.iload_n 1, 1) := by decide +kernel
theorem dX8_count_23 : decode cX8_count 23 = .ok (.bipush 9, 2) := by decide +kernel
theorem dX8_count_25 : decode cX8_count 25 = .ok (.if_icmp .ne 11, 3) := by decide +kernel
theorem dX8_count_28 : decode cX8_count 28 = .ok (.aload_n 0, 1) := by decide +kernel
theorem dX8_count_29 : decode cX8_count 29 = .ok (.getfield 12, 3) := by decide +kernel
theorem dX8_count_32 : decode cX8_count 32 = .ok (.invokevirtual 57, 3) := by decide +kernel
theorem dX8_count_35 : decode cX8_count 35 = .ok (.ireturn, 1) := by decide +kernel
theorem dX8_count_36 : decode cX8_count 36 = .ok (.iload_n 1, 1) := by decide +kernel
theorem dX8_count_37 : decode cX8_count 37 = .ok (.bipush 10, 2) := by decide +kernel
theorem dX8_count_39 : decode cX8_count 39 = .ok (.if_icmp .ne 10, 3) := by decide +kernel
theorem dX8_count_42 : decode cX8_count 42 = .ok (.aload_n 0, 1) := by decide +kernel
theorem dX8_count_43 : decode cX8_count 43 = .ok (.getfield 29, 3) := by decide +kernel
theorem dX8_count_46 : decode cX8_count 46 = .ok (.goto 4, 3) := by decide +kernel
theorem dX8_count_49 : decode cX8_count 49 = .ok (.iconst (-1), 1) := by decide +kernel
theorem dX8_count_50 : decode cX8_count 50 = .ok (.ireturn, 1) := by decide +kernel
theorem dX8_keep_0 : decode cX8_keep 0 = .ok (.aload_n 0, 1) := by decide +kernel
theorem dX8_keep_1 : decode cX8_keep 1 = .ok (.getfield 29, 3) := by decide +kernel
theorem dX8_keep_4 : decode cX8_keep 4 = .ok (.iconst 0, 1) := by decide +kernel
theorem dX8_keep_5 : decode cX8_keep 5 = .ok (.bipush 7, 2) := by decide +kernel
theorem dX8_keep_7 : decode cX8_keep 7 = .ok (.invokestatic 65, 3) := by decide +kernel
theorem dX8_keep_10 : decode cX8_keep 10 = .ok (.ifCond .ne 5, 3) := by decide +kernel
theorem dX8_keep_13 : decode cX8_keep 13 = .ok (.iconst (-1), 1) := by decide +kernel
theorem dX8_keep_14 : decode cX8_keep 14 = .ok (.ireturn, 1) := by decide +kernel
theorem dX8_keep_15 : decode cX8_keep 15 = .ok (.aload_n 0, 1) := by decide +kernel
theorem dX8_keep_16 : decode cX8_keep 16 = .ok (.getfield 25, 3) := by decide +kernel
theorem dX8_keep_19 : decode cX8_keep 19 = .ok (.aload_n 0, 1) := by decide +kernel
theorem dX8_keep_20 : decode cX8_keep 20 = .ok (.getfield 29, 3) := by decide +kernel
theorem dX8_keep_23 : decode cX8_keep 23 = .ok (.aaload, 1) := by decide +kernel
theorem dX8_keep_24 : decode cX8_keep 24 = .ok (.ifnonnull 19, 3) := by decide +kernel
theorem dX8_keep_27 : decode cX8_keep 27 = .ok (.aload_n 0, 1) := by decide +kernel
theorem dX8_keep_28 : decode cX8_keep 28 = .ok (.getfield 25, 3) := by decide +kernel
theorem dX8_keep_31 : decode cX8_keep 31 = .ok (.aload_n 0, 1) := by decide +kernel
theorem dX8_keep_32 : decode cX8_keep 32 = .ok (.getfield 29, 3) := by decide +kernel
theorem dX8_keep_35 : decode cX8_keep 35 = .ok (.new 18, 3) := by decide +kernel
theorem dX8_keep_38 : decode cX8_keep 38 = .ok (.dup, 1) := by decide +kernel
theorem dX8_keep_39 : decode cX8_keep 39 = .ok (.invokespecial 20, 3) := by decide +kernel
theorem dX8_keep_42 : decode cX8_keep 42 = .ok (.aastore, 1) := by decide +kernel
theorem dX8_keep_43 : decode cX8_keep 43 = .ok (.aload_n 0, 1) := by decide +kernel
theorem dX8_keep_44 : decode cX8_keep 44 = .ok (.getfield 25, 3) := by decide +kernel
theorem dX8_keep_47 : decode cX8_keep 47 = .ok (.aload_n 0, 1) := by decide +kernel
theorem dX8_keep_48 : decode cX8_keep 48 = .ok (.getfield 29, 3) := by decide +kernel
theorem dX8_keep_51 : decode cX8_keep 51 = .ok (.aaload, 1) := by decide +kernel
theorem dX8_keep_52 : decode cX8_keep 52 = .ok (.aload_n 0, 1) := by decide +kernel
theorem dX8_keep_53 : decode cX8_keep 53 = .ok (.getfield 21, 3) := by decide +kernel
theorem dX8_keep_56 : decode cX8_keep 56 = .ok (.invokevirtual 350, 3) := by decide +kernel
theorem dX8_keep_59 : decode cX8_keep 59 = .ok (.aload_n 0, 1) := by decide +kernel
theorem dX8_keep_60 : decode cX8_keep 60 = .ok (.dup, 1) := by decide +kernel
theorem dX8_keep_61 : decode cX8_keep 61 = .ok (.getfield 29, 3) := by decide +kernel
theorem dX8_keep_64 : decode cX8_keep 64 = .ok (.iconst 1, 1) := by decide +kernel
theorem dX8_keep_65 : decode cX8_keep 65 = .ok (.iadd, 1) := by decide +kernel
theorem dX8_keep_66 : decode cX8_keep 66 = .ok (.putfield 29, 3) := by decide +kernel
theorem dX8_keep_69 : decode cX8_keep 69 = .ok (.aload_n 0, 1) := by decide +kernel
theorem dX8_keep_70 : decode cX8_keep 70 = .ok (.getfield 29, 3) := by decide +kernel
theorem dX8_keep_73 : decode cX8_keep 73 = .ok (.ireturn, 1) := by decide +kernel
theorem dX8_undo_0 : decode cX8_undo 0 = .ok (.aload_n 0, 1) := by decide +kernel
theorem dX8_undo_1 : decode cX8_undo 1 = .ok (.getfield 29, 3) := by decide +kernel
theorem dX8_undo_4 : decode cX8_undo 4 = .ok (.iconst 1, 1) := by decide +kernel
theorem dX8_undo_5 : decode cX8_undo 5 = .ok (.bipush 8, 2) := by decide +kernel
theorem dX8_undo_7 : decode cX8_undo 7 = .ok (.invokestatic 65, 3) := by decide +kernel
theorem dX8_undo_10 : decode cX8_undo 10 = .ok (.ifCond .eq 17, 3) := by decide +kernel
theorem dX8_undo_13 : decode cX8_undo 13 = .ok (.aload_n 0, 1) := by decide +kernel
theorem dX8_undo_14 : decode cX8_undo 14 = .ok (.getfield 25, 3) := by decide +kernel
theorem dX8_undo_17 : decode cX8_undo 17 = .ok (.aload_n 0, 1) := by decide +kernel
theorem dX8_undo_18 : decode cX8_undo 18 = .ok (.getfield 29, 3) := by decide +kernel
theorem dX8_undo_21 : decode cX8_undo 21 = .ok (.iconst 1, 1) := by decide +kernel
theorem dX8_undo_22 : decode cX8_undo 22 = .ok (.isub, 1) := by decide +kernel
theorem dX8_undo_23 : decode cX8_undo 23 = .ok (.aaload, 1) := by decide +kernel
theorem dX8_undo_24 : decode cX8_undo 24 = .ok (.ifnonnull 5, 3) := by decide +kernel
theorem dX8_undo_27 : decode cX8_undo 27 = .ok (.iconst (-1), 1) := by decide +kernel
theorem dX8_undo_28 : decode cX8_undo 28 = .ok (.ireturn, 1) := by decide +kernel
theorem dX8_undo_29 : decode cX8_undo 29 = .ok (.aload_n 0, 1) := by decide +kernel
theorem dX8_undo_30 : decode cX8_undo 30 = .ok (.dup, 1) := by decide +kernel
theorem dX8_undo_31 : decode cX8_undo 31 = .ok (.getfield 29, 3) := by decide +kernel
theorem dX8_undo_34 : decode cX8_undo 34 = .ok (.iconst 1, 1) := by decide +kernel
theorem dX8_undo_35 : decode cX8_undo 35 = .ok (.isub, 1) := by decide +kernel
theorem dX8_undo_36 : decode cX8_undo 36 = .ok (.putfield 29, 3) := by decide +kernel
theorem dX8_undo_39 : decode cX8_undo 39 = .ok (.aload_n 0, 1) := by decide +kernel
theorem dX8_undo_40 : decode cX8_undo 40 = .ok (.getfield 21, 3) := by decide +kernel
theorem dX8_undo_43 : decode cX8_undo 43 = .ok (.aload_n 0, 1) := by decide +kernel
theorem dX8_undo_44 : decode cX8_undo 44 = .ok (.getfield 25, 3) := by decide +kernel
theorem dX8_undo_47 : decode cX8_undo 47 = .ok (.aload_n 0, 1) := by decide +kernel
theorem dX8_undo_48 : decode cX8_undo 48 = .ok (.getfield 29, 3) := by decide +kernel
theorem dX8_undo_51 : decode cX8_undo 51 = .ok (.aaload, 1) := by decide +kernel
theorem dX8_undo_52 : decode cX8_undo 52 = .ok (.invokevirtual 350, 3) := by decide +kernel
theorem dX8_undo_55 : decode cX8_undo 55 = .ok (.aload_n 0, 1) := by decide +kernel
theorem dX8_undo_56 : decode cX8_undo 56 = .ok (.getfield 29, 3) := by decide +kernel
theorem dX8_undo_59 : decode cX8_undo 59 = .ok (.ireturn, 1) := by decide +kernel
theorem dX8_replaceTerm_0 : decode cX8_replaceTerm 0 = .ok (.iload_n 1, 1) := by decide +kernel
theorem dX8_replaceTerm_1 : decode cX8_replaceTerm 1 = .ok (.invokestatic 116, 3) := by decide +kernel
theorem dX8_replaceTerm_4 : decode cX8_replaceTerm 4 = .ok (.ifCond .ne 5, 3) := by decide +kernel
theorem dX8_replaceTerm_7 : decode cX8_replaceTerm 7 = .ok (.iconst (-1), 1) := by decide +kernel
theorem dX8_replaceTerm_8 : decode cX8_replaceTerm 8 = .ok (.ireturn, 1) := by decide +kernel
theorem dX8_replaceTerm_9 : decode cX8_replaceTerm 9 = .ok (.aload_n 0, 1) := by decide +kernel
theorem dX8_replaceTerm_10 : decode cX8_replaceTerm 10 = .ok (.getfield 21, 3) := by decide +kernel
theorem dX8_replaceTerm_13 : decode cX8_replaceTerm 13 = .ok (.getfield 120, 3) := by decide +kernel
theorem dX8_replaceTerm_16 : decode cX8_replaceTerm 16 = .ok (.iload_n 1, 1) := by decide +kernel
theorem dX8_replaceTerm_17 : decode cX8_replaceTerm 17 = .ok (.aaload, 1) := by decide +kernel
theorem dX8_replaceTerm_18 : decode cX8_replaceTerm 18 = .ok (.iload_n 2, 1) := by decide +kernel
theorem dX8_replaceTerm_19 : decode cX8_replaceTerm 19 = .ok (.invokevirtual 148, 3) := by decide +kernel
theorem dX8_replaceTerm_22 : decode cX8_replaceTerm 22 = .ok (.istore 4, 2) := by decide +kernel
theorem dX8_replaceTerm_24 : decode cX8_replaceTerm 24 = .ok (.aload_n 0, 1) := by decide +kernel
theorem dX8_replaceTerm_25 : decode cX8_replaceTerm 25 = .ok (.getfield 21, 3) := by decide +kernel
theorem dX8_replaceTerm_28 : decode cX8_replaceTerm 28 = .ok (.getfield 120, 3) := by decide +kernel
theorem dX8_replaceTerm_31 : decode cX8_replaceTerm 31 = .ok (.iload_n 1, 1) := by decide +kernel
theorem dX8_replaceTerm_32 : decode cX8_replaceTerm 32 = .ok (.aaload, 1) := by decide +kernel
theorem dX8_replaceTerm_33 : decode cX8_replaceTerm 33 = .ok (.iload_n 2, 1) := by decide +kernel
theorem dX8_replaceTerm_34 : decode cX8_replaceTerm 34 = .ok (.iload_n 3, 1) := by decide +kernel
theorem dX8_replaceTerm_35 : decode cX8_replaceTerm 35 = .ok (.invokevirtual 126, 3) := by decide +kernel
theorem dX8_replaceTerm_38 : decode cX8_replaceTerm 38 = .ok (.iload 4, 2) := by decide +kernel
theorem dX8_replaceTerm_40 : decode cX8_replaceTerm 40 = .ok (.ireturn, 1) := by decide +kernel
theorem dX8_replaceRight_0 : decode cX8_replaceRight 0 = .ok (.iload_n 1, 1) := by decide +kernel
theorem dX8_replaceRight_1 : decode cX8_replaceRight 1 = .ok (.invokestatic 116, 3) := by decide +kernel
theorem dX8_replaceRight_4 : decode cX8_replaceRight 4 = .ok (.ifCond .eq 26, 3) := by decide +kernel
theorem dX8_replaceRight_7 : decode cX8_replaceRight 7 = .ok (.iload_n 3, 1) := by decide +kernel
theorem dX8_replaceRight_8 : decode cX8_replaceRight 8 = .ok (.iconst 0, 1) := by decide +kernel
theorem dX8_replaceRight_9 : decode cX8_replaceRight 9 = .ok (.iconst 5, 1) := by decide +kernel
theorem dX8_replaceRight_10 : decode cX8_replaceRight 10 = .ok (.invokestatic 65, 3) := by decide +kernel
theorem dX8_replaceRight_13 : decode cX8_replaceRight 13 = .ok (.ifCond .eq 17, 3) := by decide +kernel
theorem dX8_replaceRight_16 : decode cX8_replaceRight 16 = .ok (.iload 4, 2) := by decide +kernel
theorem dX8_replaceRight_18 : decode cX8_replaceRight 18 = .ok (.iconst (-1), 1) := by decide +kernel
theorem dX8_replaceRight_19 : decode cX8_replaceRight 19 = .ok (.if_icmp .eq 13, 3) := by decide +kernel
theorem dX8_replaceRight_22 : decode cX8_replaceRight 22 = .ok (.iload 4, 2) := by decide +kernel
theorem dX8_replaceRight_24 : decode cX8_replaceRight 24 = .ok (.invokestatic 135, 3) := by decide +kernel
theorem dX8_replaceRight_27 : decode cX8_replaceRight 27 = .ok (.ifCond .ne 5, 3) := by decide +kernel
theorem dX8_replaceRight_30 : decode cX8_replaceRight 30 = .ok (.iconst (-1), 1) := by decide +kernel
theorem dX8_replaceRight_31 : decode cX8_replaceRight 31 = .ok (.ireturn, 1) := by decide +kernel
theorem dX8_replaceRight_32 : decode cX8_replaceRight 32 = .ok (.aload_n 0, 1) := by decide +kernel
theorem dX8_replaceRight_33 : decode cX8_replaceRight 33 = .ok (.iload_n 1, 1) := by decide +kernel
theorem dX8_replaceRight_34 : decode cX8_replaceRight 34 = .ok (.iload_n 2, 1) := by decide +kernel
theorem dX8_replaceRight_35 : decode cX8_replaceRight 35 = .ok (.iload_n 3, 1) := by decide +kernel
theorem dX8_replaceRight_36 : decode cX8_replaceRight 36 = .ok (.iadd, 1) := by decide +kernel
theorem dX8_replaceRight_37 : decode cX8_replaceRight 37 = .ok (.iload 4, 2) := by decide +kernel
theorem dX8_replaceRight_39 : decode cX8_replaceRight 39 = .ok (.iconst (-1), 1) := by decide +kernel
theorem dX8_replaceRight_40 : decode cX8_replaceRight 40 = .ok (.if_icmp .ne 8, 3) := by decide +kernel
theorem dX8_replaceRight_43 : decode cX8_replaceRight 43 = .ok (.bipush (-2), 2) := by decide +kernel
theorem dX8_replaceRight_45 : decode cX8_replaceRight 45 = .ok (.goto 5, 3) := by decide +kernel
theorem dX8_replaceRight_48 : decode cX8_replaceRight 48 = .ok (.iload 4, 2) := by decide +kernel
theorem dX8_replaceRight_50 : decode cX8_replaceRight 50 = .ok (.invokevirtual 127, 3) := by decide +kernel
theorem dX8_replaceRight_53 : decode cX8_replaceRight 53 = .ok (.ireturn, 1) := by decide +kernel
theorem dX8_workOut_0 : decode cX8_workOut 0 = .ok (.iload_n 1, 1) := by decide +kernel
theorem dX8_workOut_1 : decode cX8_workOut 1 = .ok (.invokestatic 116, 3) := by decide +kernel
theorem dX8_workOut_4 : decode cX8_workOut 4 = .ok (.ifCond .eq 33, 3) := by decide +kernel
theorem dX8_workOut_7 : decode cX8_workOut 7 = .ok (.aload_n 0, 1) := by decide +kernel
theorem dX8_workOut_8 : decode cX8_workOut 8 = .ok (.getfield 36, 3) := by decide +kernel
theorem dX8_workOut_11 : decode cX8_workOut 11 = .ok (.aload_n 0, 1) := by decide +kernel
theorem dX8_workOut_12 : decode cX8_workOut 12 = .ok (.getfield 21, 3) := by decide +kernel
theorem dX8_workOut_15 : decode cX8_workOut 15 = .ok (.getfield 73, 3) := by decide +kernel
theorem dX8_workOut_18 : decode cX8_workOut 18 = .ok (.aload_n 0, 1) := by decide +kernel
theorem dX8_workOut_19 : decode cX8_workOut 19 = .ok (.getfield 21, 3) := by decide +kernel
theorem dX8_workOut_22 : decode cX8_workOut 22 = .ok (.getfield 120, 3) := by decide +kernel
theorem dX8_workOut_25 : decode cX8_workOut 25 = .ok (.iload_n 1, 1) := by decide +kernel
theorem dX8_workOut_26 : decode cX8_workOut 26 = .ok (.aaload, 1) := by decide +kernel
theorem dX8_workOut_27 : decode cX8_workOut 27 = .ok (.invokevirtual 265, 3) := by decide +kernel
theorem dX8_workOut_30 : decode cX8_workOut 30 = .ok (.aload_n 0, 1) := by decide +kernel
theorem dX8_workOut_31 : decode cX8_workOut 31 = .ok (.getfield 36, 3) := by decide +kernel
theorem dX8_workOut_34 : decode cX8_workOut 34 = .ok (.invokevirtual 269, 3) := by decide +kernel
theorem dX8_workOut_37 : decode cX8_workOut 37 = .ok (.return_, 1) := by decide +kernel
theorem dX8_workOutHand_0 : decode cX8_workOutHand 0 = .ok (.aload_n 0, 1) := by decide +kernel
theorem dX8_workOutHand_1 : decode cX8_workOutHand 1 = .ok (.getfield 36, 3) := by decide +kernel
theorem dX8_workOutHand_4 : decode cX8_workOutHand 4 = .ok (.aload_n 0, 1) := by decide +kernel
theorem dX8_workOutHand_5 : decode cX8_workOutHand 5 = .ok (.getfield 21, 3) := by decide +kernel
theorem dX8_workOutHand_8 : decode cX8_workOutHand 8 = .ok (.getfield 272, 3) := by decide +kernel
theorem dX8_workOutHand_11 : decode cX8_workOutHand 11 = .ok (.getfield 353, 3) := by decide +kernel
theorem dX8_workOutHand_14 : decode cX8_workOutHand 14 = .ok (.aload_n 0, 1) := by decide +kernel
theorem dX8_workOutHand_15 : decode cX8_workOutHand 15 = .ok (.getfield 21, 3) := by decide +kernel
theorem dX8_workOutHand_18 : decode cX8_workOutHand 18 = .ok (.getfield 272, 3) := by decide +kernel
theorem dX8_workOutHand_21 : decode cX8_workOutHand 21 = .ok (.getfield 312, 3) := by decide +kernel
theorem dX8_workOutHand_24 : decode cX8_workOutHand 24 = .ok (.invokevirtual 265, 3) := by decide +kernel
theorem dX8_workOutHand_27 : decode cX8_workOutHand 27 = .ok (.aload_n 0, 1) := by decide +kernel
theorem dX8_workOutHand_28 : decode cX8_workOutHand 28 = .ok (.getfield 36, 3) := by decide +kernel
theorem dX8_workOutHand_31 : decode cX8_workOutHand 31 = .ok (.invokevirtual 269, 3) := by decide +kernel
theorem dX8_workOutHand_34 : decode cX8_workOutHand 34 = .ok (.return_, 1) := by decide +kernel
theorem dX8_valueWithout_0 : decode cX8_valueWithout 0 = .ok (.iload_n 1, 1) := by decide +kernel
theorem dX8_valueWithout_1 : decode cX8_valueWithout 1 = .ok (.invokestatic 116, 3) := by decide +kernel
theorem dX8_valueWithout_4 : decode cX8_valueWithout 4 = .ok (.ifCond .ne 5, 3) := by decide +kernel
theorem dX8_valueWithout_7 : decode cX8_valueWithout 7 = .ok (.lconst 0, 1) := by decide +kernel
theorem dX8_valueWithout_8 : decode cX8_valueWithout 8 = .ok (.lreturn, 1) := by decide +kernel
theorem dX8_valueWithout_9 : decode cX8_valueWithout 9 = .ok (.aload_n 0, 1) := by decide +kernel
theorem dX8_valueWithout_10 : decode cX8_valueWithout 10 = .ok (.getfield 36, 3) := by decide +kernel
theorem dX8_valueWithout_13 : decode cX8_valueWithout 13 = .ok (.aload_n 0, 1) := by decide +kernel
theorem dX8_valueWithout_14 : decode cX8_valueWithout 14 = .ok (.getfield 21, 3) := by decide +kernel
theorem dX8_valueWithout_17 : decode cX8_valueWithout 17 = .ok (.getfield 73, 3) := by decide +kernel
theorem dX8_valueWithout_20 : decode cX8_valueWithout 20 = .ok (.aload_n 0, 1) := by decide +kernel
theorem dX8_valueWithout_21 : decode cX8_valueWithout 21 = .ok (.getfield 21, 3) := by decide +kernel
theorem dX8_valueWithout_24 : decode cX8_valueWithout 24 = .ok (.getfield 120, 3) := by decide +kernel
theorem dX8_valueWithout_27 : decode cX8_valueWithout 27 = .ok (.iload_n 1, 1) := by decide +kernel
theorem dX8_valueWithout_28 : decode cX8_valueWithout 28 = .ok (.aaload, 1) := by decide +kernel
theorem dX8_valueWithout_29 : decode cX8_valueWithout 29 = .ok (.invokevirtual 265, 3) := by decide +kernel
theorem dX8_valueWithout_32 : decode cX8_valueWithout 32 = .ok (.aload_n 0, 1) := by decide +kernel
theorem dX8_valueWithout_33 : decode cX8_valueWithout 33 = .ok (.getfield 36, 3) := by decide +kernel
theorem dX8_valueWithout_36 : decode cX8_valueWithout 36 = .ok (.getfield 189, 3) := by decide +kernel
theorem dX8_valueWithout_39 : decode cX8_valueWithout 39 = .ok (.iload_n 2, 1) := by decide +kernel
theorem dX8_valueWithout_40 : decode cX8_valueWithout 40 = .ok (.invokevirtual 354, 3) := by decide +kernel
theorem dX8_valueWithout_43 : decode cX8_valueWithout 43 = .ok (.aload_n 0, 1) := by decide +kernel
theorem dX8_valueWithout_44 : decode cX8_valueWithout 44 = .ok (.getfield 36, 3) := by decide +kernel
theorem dX8_valueWithout_47 : decode cX8_valueWithout 47 = .ok (.invokevirtual 269, 3) := by decide +kernel
theorem dX8_valueWithout_50 : decode cX8_valueWithout 50 = .ok (.aload_n 0, 1) := by decide +kernel
theorem dX8_valueWithout_51 : decode cX8_valueWithout 51 = .ok (.getfield 36, 3) := by decide +kernel
theorem dX8_valueWithout_54 : decode cX8_valueWithout 54 = .ok (.iconst 1, 1) := by decide +kernel
theorem dX8_valueWithout_55 : decode cX8_valueWithout 55 = .ok (.invokevirtual 176, 3) := by decide +kernel
theorem dX8_valueWithout_58 : decode cX8_valueWithout 58 = .ok (.lreturn, 1) := by decide +kernel
theorem dX8_leastFair_0 : decode cX8_leastFair 0 = .ok (.iload_n 1, 1) := by decide +kernel
theorem dX8_leastFair_1 : decode cX8_leastFair 1 = .ok (.invokestatic 116, 3) := by decide +kernel
theorem dX8_leastFair_4 : decode cX8_leastFair 4 = .ok (.ifCond .ne 5, 3) := by decide +kernel
theorem dX8_leastFair_7 : decode cX8_leastFair 7 = .ok (.iconst (-1), 1) := by decide +kernel
theorem dX8_leastFair_8 : decode cX8_leastFair 8 = .ok (.ireturn, 1) := by decide +kernel
theorem dX8_leastFair_9 : decode cX8_leastFair 9 = .ok (.aload_n 0, 1) := by decide +kernel
theorem dX8_leastFair_10 : decode cX8_leastFair 10 = .ok (.getfield 36, 3) := by decide +kernel
theorem dX8_leastFair_13 : decode cX8_leastFair 13 = .ok (.aload_n 0, 1) := by decide +kernel
theorem dX8_leastFair_14 : decode cX8_leastFair 14 = .ok (.getfield 21, 3) := by decide +kernel
theorem dX8_leastFair_17 : decode cX8_leastFair 17 = .ok (.getfield 73, 3) := by decide +kernel
theorem dX8_leastFair_20 : decode cX8_leastFair 20 = .ok (.aload_n 0, 1) := by decide +kernel
theorem dX8_leastFair_21 : decode cX8_leastFair 21 = .ok (.getfield 21, 3) := by decide +kernel
theorem dX8_leastFair_24 : decode cX8_leastFair 24 = .ok (.getfield 120, 3) := by decide +kernel
theorem dX8_leastFair_27 : decode cX8_leastFair 27 = .ok (.iload_n 1, 1) := by decide +kernel
theorem dX8_leastFair_28 : decode cX8_leastFair 28 = .ok (.aaload, 1) := by decide +kernel
theorem dX8_leastFair_29 : decode cX8_leastFair 29 = .ok (.invokevirtual 265, 3) := by decide +kernel
theorem dX8_leastFair_32 : decode cX8_leastFair 32 = .ok (.iconst (-1), 1) := by decide +kernel
theorem dX8_leastFair_33 : decode cX8_leastFair 33 = .ok (.istore 5, 2) := by decide +kernel
theorem dX8_leastFair_35 : decode cX8_leastFair 35 = .ok (.sipush 512, 3) := by decide +kernel
theorem dX8_leastFair_38 : decode cX8_leastFair 38 = .ok (.istore 6, 2) := by decide +kernel
theorem dX8_leastFair_40 : decode cX8_leastFair 40 = .ok (.iload 6, 2) := by decide +kernel
theorem dX8_leastFair_42 : decode cX8_leastFair 42 = .ok (.iconst 1, 1) := by decide +kernel
theorem dX8_leastFair_43 : decode cX8_leastFair 43 = .ok (.if_icmp .lt 102, 3) := by decide +kernel
theorem dX8_leastFair_46 : decode cX8_leastFair 46 = .ok (.iload 5, 2) := by decide +kernel
theorem dX8_leastFair_48 : decode cX8_leastFair 48 = .ok (.iload 6, 2) := by decide +kernel
theorem dX8_leastFair_50 : decode cX8_leastFair 50 = .ok (.iadd, 1) := by decide +kernel
theorem dX8_leastFair_51 : decode cX8_leastFair 51 = .ok (.istore 7, 2) := by decide +kernel
theorem dX8_leastFair_53 : decode cX8_leastFair 53 = .ok (.iload 7, 2) := by decide +kernel
theorem dX8_leastFair_55 : decode cX8_leastFair 55 = .ok (.aload_n 2, 1) := by decide +kernel
theorem dX8_leastFair_56 : decode cX8_leastFair 56 = .ok (.getfield 357, 3) := by decide +kernel
theorem dX8_leastFair_59 : decode cX8_leastFair 59 = .ok (.if_icmp .gt 77, 3) := by decide +kernel
theorem dX8_leastFair_62 : decode cX8_leastFair 62 = .ok (.aload_n 0, 1) := by decide +kernel
theorem dX8_leastFair_63 : decode cX8_leastFair 63 = .ok (.aload_n 2, 1) := by decide +kernel
theorem dX8_leastFair_64 : decode cX8_leastFair 64 = .ok (.iload 7, 2) := by decide +kernel
theorem dX8_leastFair_66 : decode cX8_leastFair 66 = .ok (.invokevirtual 360, 3) := by decide +kernel
theorem dX8_leastFair_69 : decode cX8_leastFair 69 = .ok (.aload_n 0, 1) := by decide +kernel
theorem dX8_leastFair_70 : decode cX8_leastFair 70 = .ok (.getfield 36, 3) := by decide +kernel
theorem dX8_leastFair_73 : decode cX8_leastFair 73 = .ok (.invokevirtual 269, 3) := by decide +kernel
theorem dX8_leastFair_76 : decode cX8_leastFair 76 = .ok (.aload_n 0, 1) := by decide +kernel
theorem dX8_leastFair_77 : decode cX8_leastFair 77 = .ok (.getfield 36, 3) := by decide +kernel
theorem dX8_leastFair_80 : decode cX8_leastFair 80 = .ok (.iconst 1, 1) := by decide +kernel
theorem dX8_leastFair_81 : decode cX8_leastFair 81 = .ok (.invokevirtual 176, 3) := by decide +kernel
theorem dX8_leastFair_84 : decode cX8_leastFair 84 = .ok (.lstore 8, 2) := by decide +kernel
theorem dX8_leastFair_86 : decode cX8_leastFair 86 = .ok (.aload_n 2, 1) := by decide +kernel
theorem dX8_leastFair_87 : decode cX8_leastFair 87 = .ok (.getstatic 259, 3) := by decide +kernel
theorem dX8_leastFair_90 : decode cX8_leastFair 90 = .ok (.if_acmp .ne 18, 3) := by decide +kernel
theorem dX8_leastFair_93 : decode cX8_leastFair 93 = .ok (.lload 8, 2) := by decide +kernel
theorem dX8_leastFair_95 : decode cX8_leastFair 95 = .ok (.lload_n 3, 1) := by decide +kernel
theorem dX8_leastFair_96 : decode cX8_leastFair 96 = .ok (.lcmp, 1) := by decide +kernel
theorem dX8_leastFair_97 : decode cX8_leastFair 97 = .ok (.ifCond .gt 7, 3) := by decide +kernel
theorem dX8_leastFair_100 : decode cX8_leastFair 100 = .ok (.iconst 1, 1) := by decide +kernel
theorem dX8_leastFair_101 : decode cX8_leastFair 101 = .ok (.goto 19, 3) := by decide +kernel
theorem dX8_leastFair_104 : decode cX8_leastFair 104 = .ok (.iconst 0, 1) := by decide +kernel
theorem dX8_leastFair_105 : decode cX8_leastFair 105 = .ok (.goto 15, 3) := by decide +kernel
theorem dX8_leastFair_108 : decode cX8_leastFair 108 = .ok (.lload 8, 2) := by decide +kernel
theorem dX8_leastFair_110 : decode cX8_leastFair 110 = .ok (.lload_n 3, 1) := by decide +kernel
theorem dX8_leastFair_111 : decode cX8_leastFair 111 = .ok (.lcmp, 1) := by decide +kernel
theorem dX8_leastFair_112 : decode cX8_leastFair 112 = .ok (.ifCond .lt 7, 3) := by decide +kernel
theorem dX8_leastFair_115 : decode cX8_leastFair 115 = .ok (.iconst 1, 1) := by decide +kernel
theorem dX8_leastFair_116 : decode cX8_leastFair 116 = .ok (.goto 4, 3) := by decide +kernel
theorem dX8_leastFair_119 : decode cX8_leastFair 119 = .ok (.iconst 0, 1) := by decide +kernel
theorem dX8_leastFair_120 : decode cX8_leastFair 120 = .ok (.istore 10, 2) := by decide +kernel
theorem dX8_leastFair_122 : decode cX8_leastFair 122 = .ok (.iload 10, 2) := by decide +kernel
theorem dX8_leastFair_124 : decode cX8_leastFair 124 = .ok (.ifCond .eq 8, 3) := by decide +kernel
theorem dX8_leastFair_127 : decode cX8_leastFair 127 = .ok (.iload 5, 2) := by decide +kernel
theorem dX8_leastFair_129 : decode cX8_leastFair 129 = .ok (.goto 5, 3) := by decide +kernel
theorem dX8_leastFair_132 : decode cX8_leastFair 132 = .ok (.iload 7, 2) := by decide +kernel
theorem dX8_leastFair_134 : decode cX8_leastFair 134 = .ok (.istore 5, 2) := by decide +kernel
theorem dX8_leastFair_136 : decode cX8_leastFair 136 = .ok (.iload 6, 2) := by decide +kernel
theorem dX8_leastFair_138 : decode cX8_leastFair 138 = .ok (.iconst 2, 1) := by decide +kernel
theorem dX8_leastFair_139 : decode cX8_leastFair 139 = .ok (.idiv, 1) := by decide +kernel
theorem dX8_leastFair_140 : decode cX8_leastFair 140 = .ok (.istore 6, 2) := by decide +kernel
theorem dX8_leastFair_142 : decode cX8_leastFair 142 = .ok (.goto (-102), 3) := by decide +kernel
theorem dX8_leastFair_145 : decode cX8_leastFair 145 = .ok (.iload 5, 2) := by decide +kernel
theorem dX8_leastFair_147 : decode cX8_leastFair 147 = .ok (.aload_n 2, 1) := by decide +kernel
theorem dX8_leastFair_148 : decode cX8_leastFair 148 = .ok (.getfield 357, 3) := by decide +kernel
theorem dX8_leastFair_151 : decode cX8_leastFair 151 = .ok (.if_icmp .ge 10, 3) := by decide +kernel
theorem dX8_leastFair_154 : decode cX8_leastFair 154 = .ok (.iload 5, 2) := by decide +kernel
theorem dX8_leastFair_156 : decode cX8_leastFair 156 = .ok (.iconst 1, 1) := by decide +kernel
theorem dX8_leastFair_157 : decode cX8_leastFair 157 = .ok (.iadd, 1) := by decide +kernel
theorem dX8_leastFair_158 : decode cX8_leastFair 158 = .ok (.goto 5, 3) := by decide +kernel
theorem dX8_leastFair_161 : decode cX8_leastFair 161 = .ok (.bipush (-2), 2) := by decide +kernel
theorem dX8_leastFair_163 : decode cX8_leastFair 163 = .ok (.ireturn, 1) := by decide +kernel
theorem dX8_setTried_0 : decode cX8_setTried 0 = .ok (.aload_n 1, 1) := by decide +kernel
theorem dX8_setTried_1 : decode cX8_setTried 1 = .ok (.getstatic 242, 3) := by decide +kernel
theorem dX8_setTried_4 : decode cX8_setTried 4 = .ok (.if_acmp .ne 17, 3) := by decide +kernel
theorem dX8_setTried_7 : decode cX8_setTried 7 = .ok (.aload_n 0, 1) := by decide +kernel
theorem dX8_setTried_8 : decode cX8_setTried 8 = .ok (.getfield 36, 3) := by decide +kernel
theorem dX8_setTried_11 : decode cX8_setTried 11 = .ok (.getfield 189, 3) := by decide +kernel
theorem dX8_setTried_14 : decode cX8_setTried 14 = .ok (.iload_n 2, 1) := by decide +kernel
theorem dX8_setTried_15 : decode cX8_setTried 15 = .ok (.invokevirtual 364, 3) := by decide +kernel
theorem dX8_setTried_18 : decode cX8_setTried 18 = .ok (.goto 38, 3) := by decide +kernel
theorem dX8_setTried_21 : decode cX8_setTried 21 = .ok (.aload_n 1, 1) := by decide +kernel
theorem dX8_setTried_22 : decode cX8_setTried 22 = .ok (.getstatic 252, 3) := by decide +kernel
theorem dX8_setTried_25 : decode cX8_setTried 25 = .ok (.if_acmp .ne 18, 3) := by decide +kernel
theorem dX8_setTried_28 : decode cX8_setTried 28 = .ok (.aload_n 0, 1) := by decide +kernel
theorem dX8_setTried_29 : decode cX8_setTried 29 = .ok (.getfield 36, 3) := by decide +kernel
theorem dX8_setTried_32 : decode cX8_setTried 32 = .ok (.getfield 189, 3) := by decide +kernel
theorem dX8_setTried_35 : decode cX8_setTried 35 = .ok (.iconst 1, 1) := by decide +kernel
theorem dX8_setTried_36 : decode cX8_setTried 36 = .ok (.iload_n 2, 1) := by decide +kernel
theorem dX8_setTried_37 : decode cX8_setTried 37 = .ok (.invokevirtual 126, 3) := by decide +kernel
theorem dX8_setTried_40 : decode cX8_setTried 40 = .ok (.goto 16, 3) := by decide +kernel
theorem dX8_setTried_43 : decode cX8_setTried 43 = .ok (.aload_n 0, 1) := by decide +kernel
theorem dX8_setTried_44 : decode cX8_setTried 44 = .ok (.getfield 36, 3) := by decide +kernel
theorem dX8_setTried_47 : decode cX8_setTried 47 = .ok (.getfield 221, 3) := by decide +kernel
theorem dX8_setTried_50 : decode cX8_setTried 50 = .ok (.bipush 8, 2) := by decide +kernel
theorem dX8_setTried_52 : decode cX8_setTried 52 = .ok (.iload_n 2, 1) := by decide +kernel
theorem dX8_setTried_53 : decode cX8_setTried 53 = .ok (.invokevirtual 79, 3) := by decide +kernel
theorem dX8_setTried_56 : decode cX8_setTried 56 = .ok (.return_, 1) := by decide +kernel
theorem dX8_bestDay_0 : decode cX8_bestDay 0 = .ok (.iload_n 1, 1) := by decide +kernel
theorem dX8_bestDay_1 : decode cX8_bestDay 1 = .ok (.invokestatic 116, 3) := by decide +kernel
theorem dX8_bestDay_4 : decode cX8_bestDay 4 = .ok (.ifCond .ne 7, 3) := by decide +kernel
theorem dX8_bestDay_7 : decode cX8_bestDay 7 = .ok (.ldc2_w 97, 3) := by decide +kernel
theorem dX8_bestDay_10 : decode cX8_bestDay 10 = .ok (.lreturn, 1) := by decide +kernel
theorem dX8_bestDay_11 : decode cX8_bestDay 11 = .ok (.iconst 0, 1) := by decide +kernel
theorem dX8_bestDay_12 : decode cX8_bestDay 12 = .ok (.istore 5, 2) := by decide +kernel
theorem dX8_bestDay_14 : decode cX8_bestDay 14 = .ok (.lconst 0, 1) := by decide +kernel
theorem dX8_bestDay_15 : decode cX8_bestDay 15 = .ok (.lstore 6, 2) := by decide +kernel
theorem dX8_bestDay_17 : decode cX8_bestDay 17 = .ok (.iconst 0, 1) := by decide +kernel
theorem dX8_bestDay_18 : decode cX8_bestDay 18 = .ok (.istore 8, 2) := by decide +kernel
theorem dX8_bestDay_20 : decode cX8_bestDay 20 = .ok (.iload 8, 2) := by decide +kernel
theorem dX8_bestDay_22 : decode cX8_bestDay 22 = .ok (.aload_n 0, 1) := by decide +kernel
theorem dX8_bestDay_23 : decode cX8_bestDay 23 = .ok (.getfield 21, 3) := by decide +kernel
theorem dX8_bestDay_26 : decode cX8_bestDay 26 = .ok (.getfield 73, 3) := by decide +kernel
theorem dX8_bestDay_29 : decode cX8_bestDay 29 = .ok (.invokevirtual 318, 3) := by decide +kernel
theorem dX8_bestDay_32 : decode cX8_bestDay 32 = .ok (.if_icmp .ge 119, 3) := by decide +kernel
theorem dX8_bestDay_35 : decode cX8_bestDay 35 = .ok (.aload_n 0, 1) := by decide +kernel
theorem dX8_bestDay_36 : decode cX8_bestDay 36 = .ok (.getfield 36, 3) := by decide +kernel
theorem dX8_bestDay_39 : decode cX8_bestDay 39 = .ok (.aload_n 0, 1) := by decide +kernel
theorem dX8_bestDay_40 : decode cX8_bestDay 40 = .ok (.getfield 21, 3) := by decide +kernel
theorem dX8_bestDay_43 : decode cX8_bestDay 43 = .ok (.getfield 73, 3) := by decide +kernel
theorem dX8_bestDay_46 : decode cX8_bestDay 46 = .ok (.aload_n 0, 1) := by decide +kernel
theorem dX8_bestDay_47 : decode cX8_bestDay 47 = .ok (.getfield 21, 3) := by decide +kernel
theorem dX8_bestDay_50 : decode cX8_bestDay 50 = .ok (.getfield 120, 3) := by decide +kernel
theorem dX8_bestDay_53 : decode cX8_bestDay 53 = .ok (.iload_n 1, 1) := by decide +kernel
theorem dX8_bestDay_54 : decode cX8_bestDay 54 = .ok (.aaload, 1) := by decide +kernel
theorem dX8_bestDay_55 : decode cX8_bestDay 55 = .ok (.invokevirtual 265, 3) := by decide +kernel
theorem dX8_bestDay_58 : decode cX8_bestDay 58 = .ok (.aload_n 0, 1) := by decide +kernel
theorem dX8_bestDay_59 : decode cX8_bestDay 59 = .ok (.getfield 36, 3) := by decide +kernel
theorem dX8_bestDay_62 : decode cX8_bestDay 62 = .ok (.getfield 189, 3) := by decide +kernel
theorem dX8_bestDay_65 : decode cX8_bestDay 65 = .ok (.iload_n 2, 1) := by decide +kernel
theorem dX8_bestDay_66 : decode cX8_bestDay 66 = .ok (.iload 8, 2) := by decide +kernel
theorem dX8_bestDay_68 : decode cX8_bestDay 68 = .ok (.iadd, 1) := by decide +kernel
theorem dX8_bestDay_69 : decode cX8_bestDay 69 = .ok (.iload_n 3, 1) := by decide +kernel
theorem dX8_bestDay_70 : decode cX8_bestDay 70 = .ok (.invokevirtual 126, 3) := by decide +kernel
theorem dX8_bestDay_73 : decode cX8_bestDay 73 = .ok (.aload_n 0, 1) := by decide +kernel
theorem dX8_bestDay_74 : decode cX8_bestDay 74 = .ok (.getfield 36, 3) := by decide +kernel
theorem dX8_bestDay_77 : decode cX8_bestDay 77 = .ok (.invokevirtual 269, 3) := by decide +kernel
theorem dX8_bestDay_80 : decode cX8_bestDay 80 = .ok (.aload_n 0, 1) := by decide +kernel
theorem dX8_bestDay_81 : decode cX8_bestDay 81 = .ok (.getfield 36, 3) := by decide +kernel
theorem dX8_bestDay_84 : decode cX8_bestDay 84 = .ok (.iconst 1, 1) := by decide +kernel
theorem dX8_bestDay_85 : decode cX8_bestDay 85 = .ok (.invokevirtual 176, 3) := by decide +kernel
theorem dX8_bestDay_88 : decode cX8_bestDay 88 = .ok (.lstore 9, 2) := by decide +kernel
theorem dX8_bestDay_90 : decode cX8_bestDay 90 = .ok (.iload_n 2, 1) := by decide +kernel
theorem dX8_bestDay_91 : decode cX8_bestDay 91 = .ok (.bipush 20, 2) := by decide +kernel
theorem dX8_bestDay_93 : decode cX8_bestDay 93 = .ok (.if_icmp .ne 19, 3) := by decide +kernel
theorem dX8_bestDay_96 : decode cX8_bestDay 96 = .ok (.lload 9, 2) := by decide +kernel
theorem dX8_bestDay_98 : decode cX8_bestDay 98 = .ok (.lload 6, 2) := by decide +kernel
theorem dX8_bestDay_100 : decode cX8_bestDay 100 = .ok (.lcmp, 1) := by decide +kernel
theorem dX8_bestDay_101 : decode cX8_bestDay 101 = .ok (.ifCond .ge 7, 3) := by decide +kernel
theorem dX8_bestDay_104 : decode cX8_bestDay 104 = .ok (.iconst 1, 1) := by decide +kernel
theorem dX8_bestDay_105 : decode cX8_bestDay 105 = .ok (.goto 20, 3) := by decide +kernel
theorem dX8_bestDay_108 : decode cX8_bestDay 108 = .ok (.iconst 0, 1) := by decide +kernel
theorem dX8_bestDay_109 : decode cX8_bestDay 109 = .ok (.goto 16, 3) := by decide +kernel
theorem dX8_bestDay_112 : decode cX8_bestDay 112 = .ok (.lload 9, 2) := by decide +kernel
theorem dX8_bestDay_114 : decode cX8_bestDay 114 = .ok (.lload 6, 2) := by decide +kernel
theorem dX8_bestDay_116 : decode cX8_bestDay 116 = .ok (.lcmp, 1) := by decide +kernel
theorem dX8_bestDay_117 : decode cX8_bestDay 117 = .ok (.ifCond .le 7, 3) := by decide +kernel
theorem dX8_bestDay_120 : decode cX8_bestDay 120 = .ok (.iconst 1, 1) := by decide +kernel
theorem dX8_bestDay_121 : decode cX8_bestDay 121 = .ok (.goto 4, 3) := by decide +kernel
theorem dX8_bestDay_124 : decode cX8_bestDay 124 = .ok (.iconst 0, 1) := by decide +kernel
theorem dX8_bestDay_125 : decode cX8_bestDay 125 = .ok (.istore 11, 2) := by decide +kernel
theorem dX8_bestDay_127 : decode cX8_bestDay 127 = .ok (.iload 8, 2) := by decide +kernel
theorem dX8_bestDay_129 : decode cX8_bestDay 129 = .ok (.ifCond .eq 8, 3) := by decide +kernel
theorem dX8_bestDay_132 : decode cX8_bestDay 132 = .ok (.iload 11, 2) := by decide +kernel
theorem dX8_bestDay_134 : decode cX8_bestDay 134 = .ok (.ifCond .eq 11, 3) := by decide +kernel
theorem dX8_bestDay_137 : decode cX8_bestDay 137 = .ok (.iload 8, 2) := by decide +kernel
theorem dX8_bestDay_139 : decode cX8_bestDay 139 = .ok (.istore 5, 2) := by decide +kernel
theorem dX8_bestDay_141 : decode cX8_bestDay 141 = .ok (.lload 9, 2) := by decide +kernel
theorem dX8_bestDay_143 : decode cX8_bestDay 143 = .ok (.lstore 6, 2) := by decide +kernel
theorem dX8_bestDay_145 : decode cX8_bestDay 145 = .ok (.iinc 8 1, 3) := by decide +kernel
theorem dX8_bestDay_148 : decode cX8_bestDay 148 = .ok (.goto (-128), 3) := by decide +kernel
theorem dX8_bestDay_151 : decode cX8_bestDay 151 = .ok (.iload 4, 2) := by decide +kernel
theorem dX8_bestDay_153 : decode cX8_bestDay 153 = .ok (.ifCond .ne 9, 3) := by decide +kernel
theorem dX8_bestDay_156 : decode cX8_bestDay 156 = .ok (.iload 5, 2) := by decide +kernel
theorem dX8_bestDay_158 : decode cX8_bestDay 158 = .ok (.i2l, 1) := by decide +kernel
theorem dX8_bestDay_159 : decode cX8_bestDay 159 = .ok (.goto 5, 3) := by decide +kernel
theorem dX8_bestDay_162 : decode cX8_bestDay 162 = .ok (.lload 6, 2) := by decide +kernel
theorem dX8_bestDay_164 : decode cX8_bestDay 164 = .ok (.lreturn, 1) := by decide +kernel
theorem dX8_isDay_0 : decode cX8_isDay 0 = .ok (.iload_n 1, 1) := by decide +kernel
theorem dX8_isDay_1 : decode cX8_isDay 1 = .ok (.iconst 0, 1) := by decide +kernel
theorem dX8_isDay_2 : decode cX8_isDay 2 = .ok (.aload_n 0, 1) := by decide +kernel
theorem dX8_isDay_3 : decode cX8_isDay 3 = .ok (.getfield 21, 3) := by decide +kernel
theorem dX8_isDay_6 : decode cX8_isDay 6 = .ok (.getfield 73, 3) := by decide +kernel
theorem dX8_isDay_9 : decode cX8_isDay 9 = .ok (.invokevirtual 318, 3) := by decide +kernel
theorem dX8_isDay_12 : decode cX8_isDay 12 = .ok (.invokestatic 65, 3) := by decide +kernel
theorem dX8_isDay_15 : decode cX8_isDay 15 = .ok (.ireturn, 1) := by decide +kernel
theorem dX8_isBond_0 : decode cX8_isBond 0 = .ok (.iload_n 0, 1) := by decide +kernel
theorem dX8_isBond_1 : decode cX8_isBond 1 = .ok (.iconst 0, 1) := by decide +kernel
theorem dX8_isBond_2 : decode cX8_isBond 2 = .ok (.iconst 2, 1) := by decide +kernel
theorem dX8_isBond_3 : decode cX8_isBond 3 = .ok (.invokestatic 65, 3) := by decide +kernel
theorem dX8_isBond_6 : decode cX8_isBond 6 = .ok (.ireturn, 1) := by decide +kernel
theorem dX8_isPence_0 : decode cX8_isPence 0 = .ok (.iload_n 0, 1) := by decide +kernel
theorem dX8_isPence_1 : decode cX8_isPence 1 = .ok (.iconst 0, 1) := by decide +kernel
theorem dX8_isPence_2 : decode cX8_isPence 2 = .ok (.ldc 119, 2) := by decide +kernel
theorem dX8_isPence_4 : decode cX8_isPence 4 = .ok (.invokestatic 65, 3) := by decide +kernel
theorem dX8_isPence_7 : decode cX8_isPence 7 = .ok (.ireturn, 1) := by decide +kernel
theorem dX8_isStart_0 : decode cX8_isStart 0 = .ok (.iload_n 0, 1) := by decide +kernel
theorem dX8_isStart_1 : decode cX8_isStart 1 = .ok (.iconst 1, 1) := by decide +kernel
theorem dX8_isStart_2 : decode cX8_isStart 2 = .ok (.sipush 1000, 3) := by decide +kernel
theorem dX8_isStart_5 : decode cX8_isStart 5 = .ok (.invokestatic 65, 3) := by decide +kernel
theorem dX8_isStart_8 : decode cX8_isStart 8 = .ok (.ireturn, 1) := by decide +kernel
theorem dX8_isChance_0 : decode cX8_isChance 0 = .ok (.iload_n 1, 1) := by decide +kernel
theorem dX8_isChance_1 : decode cX8_isChance 1 = .ok (.iconst 2, 1) := by decide +kernel
theorem dX8_isChance_2 : decode cX8_isChance 2 = .ok (.bipush 20, 2) := by decide +kernel
theorem dX8_isChance_4 : decode cX8_isChance 4 = .ok (.invokestatic 65, 3) := by decide +kernel
theorem dX8_isChance_7 : decode cX8_isChance 7 = .ok (.ifCond .eq 18, 3) := by decide +kernel
theorem dX8_isChance_10 : decode cX8_isChance 10 = .ok (.iload_n 0, 1) := by decide +kernel
theorem dX8_isChance_11 : decode cX8_isChance 11 = .ok (.iconst 1, 1) := by decide +kernel
theorem dX8_isChance_12 : decode cX8_isChance 12 = .ok (.iload_n 1, 1) := by decide +kernel
theorem dX8_isChance_13 : decode cX8_isChance 13 = .ok (.iconst 1, 1) := by decide +kernel
theorem dX8_isChance_14 : decode cX8_isChance 14 = .ok (.isub, 1) := by decide +kernel
theorem dX8_isChance_15 : decode cX8_isChance 15 = .ok (.invokestatic 65, 3) := by decide +kernel
theorem dX8_isChance_18 : decode cX8_isChance 18 = .ok (.ifCond .eq 7, 3) := by decide +kernel
theorem dX8_isChance_21 : decode cX8_isChance 21 = .ok (.iconst 1, 1) := by decide +kernel
theorem dX8_isChance_22 : decode cX8_isChance 22 = .ok (.goto 4, 3) := by decide +kernel
theorem dX8_isChance_25 : decode cX8_isChance 25 = .ok (.iconst 0, 1) := by decide +kernel
theorem dX8_isChance_26 : decode cX8_isChance 26 = .ok (.ireturn, 1) := by decide +kernel
theorem dX8_within_0 : decode cX8_within 0 = .ok (.iload_n 1, 1) := by decide +kernel
theorem dX8_within_1 : decode cX8_within 1 = .ok (.iload_n 0, 1) := by decide +kernel
theorem dX8_within_2 : decode cX8_within 2 = .ok (.if_icmp .gt 12, 3) := by decide +kernel
theorem dX8_within_5 : decode cX8_within 5 = .ok (.iload_n 0, 1) := by decide +kernel
theorem dX8_within_6 : decode cX8_within 6 = .ok (.iload_n 2, 1) := by decide +kernel
theorem dX8_within_7 : decode cX8_within 7 = .ok (.if_icmp .gt 7, 3) := by decide +kernel
theorem dX8_within_10 : decode cX8_within 10 = .ok (.iconst 1, 1) := by decide +kernel
theorem dX8_within_11 : decode cX8_within 11 = .ok (.goto 4, 3) := by decide +kernel
theorem dX8_within_14 : decode cX8_within 14 = .ok (.iconst 0, 1) := by decide +kernel
theorem dX8_within_15 : decode cX8_within 15 = .ok (.ireturn, 1) := by decide +kernel
theorem dX8_through_0 : decode cX8_through 0 = .ok (.lload_n 2, 1) := by decide +kernel
theorem dX8_through_1 : decode cX8_through 1 = .ok (.lconst 0, 1) := by decide +kernel
theorem dX8_through_2 : decode cX8_through 2 = .ok (.lcmp, 1) := by decide +kernel
theorem dX8_through_3 : decode cX8_through 3 = .ok (.ifCond .ne 7, 3) := by decide +kernel
theorem dX8_through_6 : decode cX8_through 6 = .ok (.lconst 0, 1) := by decide +kernel
theorem dX8_through_7 : decode cX8_through 7 = .ok (.goto 6, 3) := by decide +kernel
theorem dX8_through_10 : decode cX8_through 10 = .ok (.lload_n 0, 1) := by decide +kernel
theorem dX8_through_11 : decode cX8_through 11 = .ok (.lload_n 2, 1) := by decide +kernel
theorem dX8_through_12 : decode cX8_through 12 = .ok (.ldiv, 1) := by decide +kernel
theorem dX8_through_13 : decode cX8_through 13 = .ok (.lreturn, 1) := by decide +kernel
theorem dX8_power_0 : decode cX8_power 0 = .ok (.lconst 1, 1) := by decide +kernel
theorem dX8_power_1 : decode cX8_power 1 = .ok (.lstore_n 3, 1) := by decide +kernel
theorem dX8_power_2 : decode cX8_power 2 = .ok (.iconst 0, 1) := by decide +kernel
theorem dX8_power_3 : decode cX8_power 3 = .ok (.istore 5, 2) := by decide +kernel
theorem dX8_power_5 : decode cX8_power 5 = .ok (.iload 5, 2) := by decide +kernel
theorem dX8_power_7 : decode cX8_power 7 = .ok (.iload_n 2, 1) := by decide +kernel
theorem dX8_power_8 : decode cX8_power 8 = .ok (.if_icmp .ge 13, 3) := by decide +kernel
theorem dX8_power_11 : decode cX8_power 11 = .ok (.lload_n 3, 1) := by decide +kernel
theorem dX8_power_12 : decode cX8_power 12 = .ok (.lload_n 0, 1) := by decide +kernel
theorem dX8_power_13 : decode cX8_power 13 = .ok (.lmul, 1) := by decide +kernel
theorem dX8_power_14 : decode cX8_power 14 = .ok (.lstore_n 3, 1) := by decide +kernel
theorem dX8_power_15 : decode cX8_power 15 = .ok (.iinc 5 1, 3) := by decide +kernel
theorem dX8_power_18 : decode cX8_power 18 = .ok (.goto (-13), 3) := by decide +kernel
theorem dX8_power_21 : decode cX8_power 21 = .ok (.lload_n 3, 1) := by decide +kernel
theorem dX8_power_22 : decode cX8_power 22 = .ok (.lreturn, 1) := by decide +kernel
theorem dX8_greatestDivisor_0 : decode cX8_greatestDivisor 0 = .ok (.lload_n 0, 1) := by decide +kernel
theorem dX8_greatestDivisor_1 : decode cX8_greatestDivisor 1 = .ok (.lstore 4, 2) := by decide +kernel
theorem dX8_greatestDivisor_3 : decode cX8_greatestDivisor 3 = .ok (.lload_n 2, 1) := by decide +kernel
theorem dX8_greatestDivisor_4 : decode cX8_greatestDivisor 4 = .ok (.lstore 6, 2) := by decide +kernel
theorem dX8_greatestDivisor_6 : decode cX8_greatestDivisor 6 = .ok (.iconst 0, 1) := by decide +kernel
theorem dX8_greatestDivisor_7 : decode cX8_greatestDivisor 7 = .ok (.istore 8, 2) := by decide +kernel
theorem dX8_greatestDivisor_9 : decode cX8_greatestDivisor 9 = .ok (.iload 8, 2) := by decide +kernel
theorem dX8_greatestDivisor_11 : decode cX8_greatestDivisor 11 = .ok (.bipush 100, 2) := by decide +kernel
theorem dX8_greatestDivisor_13 : decode cX8_greatestDivisor 13 = .ok (.if_icmp .ge 31, 3) := by decide +kernel
theorem dX8_greatestDivisor_16 : decode cX8_greatestDivisor 16 = .ok (.lload 6, 2) := by decide +kernel
theorem dX8_greatestDivisor_18 : decode cX8_greatestDivisor 18 = .ok (.lconst 0, 1) := by decide +kernel
theorem dX8_greatestDivisor_19 : decode cX8_greatestDivisor 19 = .ok (.lcmp, 1) := by decide +kernel
theorem dX8_greatestDivisor_20 : decode cX8_greatestDivisor 20 = .ok (.ifCond .eq 24, 3) := by decide +kernel
theorem dX8_greatestDivisor_23 : decode cX8_greatestDivisor 23 = .ok (.lload 4, 2) := by decide +kernel
theorem dX8_greatestDivisor_25 : decode cX8_greatestDivisor 25 = .ok (.lload 6, 2) := by decide +kernel
theorem dX8_greatestDivisor_27 : decode cX8_greatestDivisor 27 = .ok (.lrem, 1) := by decide +kernel
theorem dX8_greatestDivisor_28 : decode cX8_greatestDivisor 28 = .ok (.lstore 9, 2) := by decide +kernel
theorem dX8_greatestDivisor_30 : decode cX8_greatestDivisor 30 = .ok (.lload 6, 2) := by decide +kernel
theorem dX8_greatestDivisor_32 : decode cX8_greatestDivisor 32 = .ok (.lstore 4, 2) := by decide +kernel
theorem dX8_greatestDivisor_34 : decode cX8_greatestDivisor 34 = .ok (.lload 9, 2) := by decide +kernel
theorem dX8_greatestDivisor_36 : decode cX8_greatestDivisor 36 = .ok (.lstore 6, 2) := by decide +kernel
theorem dX8_greatestDivisor_38 : decode cX8_greatestDivisor 38 = .ok (.iinc 8 1, 3) := by decide +kernel
theorem dX8_greatestDivisor_41 : decode cX8_greatestDivisor 41 = .ok (.goto (-32), 3) := by decide +kernel
theorem dX8_greatestDivisor_44 : decode cX8_greatestDivisor 44 = .ok (.lload 4, 2) := by decide +kernel
theorem dX8_greatestDivisor_46 : decode cX8_greatestDivisor 46 = .ok (.lreturn, 1) := by decide +kernel
theorem dX8_inLowestTerms_0 : decode cX8_inLowestTerms 0 = .ok (.iload 4, 2) := by decide +kernel
theorem dX8_inLowestTerms_2 : decode cX8_inLowestTerms 2 = .ok (.ifCond .ne 7, 3) := by decide +kernel
theorem dX8_inLowestTerms_5 : decode cX8_inLowestTerms 5 = .ok (.lload_n 0, 1) := by decide +kernel
theorem dX8_inLowestTerms_6 : decode cX8_inLowestTerms 6 = .ok (.goto 4, 3) := by decide +kernel
theorem dX8_inLowestTerms_9 : decode cX8_inLowestTerms 9 = .ok (.lload_n 2, 1) := by decide +kernel
theorem dX8_inLowestTerms_10 : decode cX8_inLowestTerms 10 = .ok (.lload_n 0, 1) := by decide +kernel
theorem dX8_inLowestTerms_11 : decode cX8_inLowestTerms 11 = .ok (.lload_n 2, 1) := by decide +kernel
theorem dX8_inLowestTerms_12 : decode cX8_inLowestTerms 12 = .ok (.invokestatic 109, 3) := by decide +kernel
theorem dX8_inLowestTerms_15 : decode cX8_inLowestTerms 15 = .ok (.invokestatic 113, 3) := by decide +kernel
theorem dX8_inLowestTerms_18 : decode cX8_inLowestTerms 18 = .ok (.lreturn, 1) := by decide +kernel
theorem dX8_dayOf_0 : decode cX8_dayOf 0 = .ok (.bipush 6, 2) := by decide +kernel
theorem dX8_dayOf_2 : decode cX8_dayOf 2 = .ok (.istore_n 1, 1) := by decide +kernel
theorem dX8_dayOf_3 : decode cX8_dayOf 3 = .ok (.iload_n 1, 1) := by decide +kernel
theorem dX8_dayOf_4 : decode cX8_dayOf 4 = .ok (.ifCond .le 17, 3) := by decide +kernel
theorem dX8_dayOf_7 : decode cX8_dayOf 7 = .ok (.iload_n 0, 1) := by decide +kernel
theorem dX8_dayOf_8 : decode cX8_dayOf 8 = .ok (.iload_n 1, 1) := by decide +kernel
theorem dX8_dayOf_9 : decode cX8_dayOf 9 = .ok (.ishr, 1) := by decide +kernel
theorem dX8_dayOf_10 : decode cX8_dayOf 10 = .ok (.ifCond .le 5, 3) := by decide +kernel
theorem dX8_dayOf_13 : decode cX8_dayOf 13 = .ok (.iload_n 1, 1) := by decide +kernel
theorem dX8_dayOf_14 : decode cX8_dayOf 14 = .ok (.ireturn, 1) := by decide +kernel
theorem dX8_dayOf_15 : decode cX8_dayOf 15 = .ok (.iinc 1 (-1), 3) := by decide +kernel
theorem dX8_dayOf_18 : decode cX8_dayOf 18 = .ok (.goto (-15), 3) := by decide +kernel
theorem dX8_dayOf_21 : decode cX8_dayOf 21 = .ok (.iconst 0, 1) := by decide +kernel
theorem dX8_dayOf_22 : decode cX8_dayOf 22 = .ok (.ireturn, 1) := by decide +kernel
theorem dX8_upsOf_0 : decode cX8_upsOf 0 = .ok (.iload_n 0, 1) := by decide +kernel
theorem dX8_upsOf_1 : decode cX8_upsOf 1 = .ok (.iconst 1, 1) := by decide +kernel
theorem dX8_upsOf_2 : decode cX8_upsOf 2 = .ok (.if_icmp .ge 7, 3) := by decide +kernel
theorem dX8_upsOf_5 : decode cX8_upsOf 5 = .ok (.iconst 0, 1) := by decide +kernel
theorem dX8_upsOf_6 : decode cX8_upsOf 6 = .ok (.goto 9, 3) := by decide +kernel
theorem dX8_upsOf_9 : decode cX8_upsOf 9 = .ok (.iload_n 0, 1) := by decide +kernel
theorem dX8_upsOf_10 : decode cX8_upsOf 10 = .ok (.invokestatic 367, 3) := by decide +kernel
theorem dX8_upsOf_13 : decode cX8_upsOf 13 = .ok (.iconst 1, 1) := by decide +kernel
theorem dX8_upsOf_14 : decode cX8_upsOf 14 = .ok (.isub, 1) := by decide +kernel
theorem dX8_upsOf_15 : decode cX8_upsOf 15 = .ok (.ireturn, 1) := by decide +kernel
theorem dX8_cameUp_0 : decode cX8_cameUp 0 = .ok (.iload_n 0, 1) := by decide +kernel
theorem dX8_cameUp_1 : decode cX8_cameUp 1 = .ok (.iconst 1, 1) := by decide +kernel
theorem dX8_cameUp_2 : decode cX8_cameUp 2 = .ok (.if_icmp .le 14, 3) := by decide +kernel
theorem dX8_cameUp_5 : decode cX8_cameUp 5 = .ok (.iload_n 0, 1) := by decide +kernel
theorem dX8_cameUp_6 : decode cX8_cameUp 6 = .ok (.iconst 1, 1) := by decide +kernel
theorem dX8_cameUp_7 : decode cX8_cameUp 7 = .ok (.iand, 1) := by decide +kernel
theorem dX8_cameUp_8 : decode cX8_cameUp 8 = .ok (.iconst 1, 1) := by decide +kernel
theorem dX8_cameUp_9 : decode cX8_cameUp 9 = .ok (.if_icmp .ne 7, 3) := by decide +kernel
theorem dX8_cameUp_12 : decode cX8_cameUp 12 = .ok (.iconst 1, 1) := by decide +kernel
theorem dX8_cameUp_13 : decode cX8_cameUp 13 = .ok (.goto 4, 3) := by decide +kernel
theorem dX8_cameUp_16 : decode cX8_cameUp 16 = .ok (.iconst 0, 1) := by decide +kernel
theorem dX8_cameUp_17 : decode cX8_cameUp 17 = .ok (.ireturn, 1) := by decide +kernel
theorem dX8_longer_0 : decode cX8_longer 0 = .ok (.iload_n 0, 1) := by decide +kernel
theorem dX8_longer_1 : decode cX8_longer 1 = .ok (.iconst 2, 1) := by decide +kernel
theorem dX8_longer_2 : decode cX8_longer 2 = .ok (.imul, 1) := by decide +kernel
theorem dX8_longer_3 : decode cX8_longer 3 = .ok (.iload_n 1, 1) := by decide +kernel
theorem dX8_longer_4 : decode cX8_longer 4 = .ok (.ifCond .eq 7, 3) := by decide +kernel
theorem dX8_longer_7 : decode cX8_longer 7 = .ok (.iconst 1, 1) := by decide +kernel
theorem dX8_longer_8 : decode cX8_longer 8 = .ok (.goto 4, 3) := by decide +kernel
theorem dX8_longer_11 : decode cX8_longer 11 = .ok (.iconst 0, 1) := by decide +kernel
theorem dX8_longer_12 : decode cX8_longer 12 = .ok (.iadd, 1) := by decide +kernel
theorem dX8_longer_13 : decode cX8_longer 13 = .ok (.ireturn, 1) := by decide +kernel
theorem dX8_rowOnDay_0 : decode cX8_rowOnDay 0 = .ok (.iload_n 0, 1) := by decide +kernel
theorem dX8_rowOnDay_1 : decode cX8_rowOnDay 1 = .ok (.invokestatic 166, 3) := by decide +kernel
theorem dX8_rowOnDay_4 : decode cX8_rowOnDay 4 = .ok (.istore_n 2, 1) := by decide +kernel
theorem dX8_rowOnDay_5 : decode cX8_rowOnDay 5 = .ok (.iload_n 1, 1) := by decide +kernel
theorem dX8_rowOnDay_6 : decode cX8_rowOnDay 6 = .ok (.iconst 0, 1) := by decide +kernel
theorem dX8_rowOnDay_7 : decode cX8_rowOnDay 7 = .ok (.iload_n 2, 1) := by decide +kernel
theorem dX8_rowOnDay_8 : decode cX8_rowOnDay 8 = .ok (.invokestatic 65, 3) := by decide +kernel
theorem dX8_rowOnDay_11 : decode cX8_rowOnDay 11 = .ok (.ifCond .eq 11, 3) := by decide +kernel
theorem dX8_rowOnDay_14 : decode cX8_rowOnDay 14 = .ok (.iload_n 0, 1) := by decide +kernel
theorem dX8_rowOnDay_15 : decode cX8_rowOnDay 15 = .ok (.iload_n 2, 1) := by decide +kernel
theorem dX8_rowOnDay_16 : decode cX8_rowOnDay 16 = .ok (.iload_n 1, 1) := by decide +kernel
theorem dX8_rowOnDay_17 : decode cX8_rowOnDay 17 = .ok (.isub, 1) := by decide +kernel
theorem dX8_rowOnDay_18 : decode cX8_rowOnDay 18 = .ok (.ishr, 1) := by decide +kernel
theorem dX8_rowOnDay_19 : decode cX8_rowOnDay 19 = .ok (.goto 4, 3) := by decide +kernel
theorem dX8_rowOnDay_22 : decode cX8_rowOnDay 22 = .ok (.iload_n 0, 1) := by decide +kernel
theorem dX8_rowOnDay_23 : decode cX8_rowOnDay 23 = .ok (.ireturn, 1) := by decide +kernel
theorem dX8_rowOfBits_0 : decode cX8_rowOfBits 0 = .ok (.iconst 1, 1) := by decide +kernel
theorem dX8_rowOfBits_1 : decode cX8_rowOfBits 1 = .ok (.istore_n 2, 1) := by decide +kernel
theorem dX8_rowOfBits_2 : decode cX8_rowOfBits 2 = .ok (.iconst 0, 1) := by decide +kernel
theorem dX8_rowOfBits_3 : decode cX8_rowOfBits 3 = .ok (.istore_n 3, 1) := by decide +kernel
theorem dX8_rowOfBits_4 : decode cX8_rowOfBits 4 = .ok (.iload_n 3, 1) := by decide +kernel
theorem dX8_rowOfBits_5 : decode cX8_rowOfBits 5 = .ok (.iload_n 1, 1) := by decide +kernel
theorem dX8_rowOfBits_6 : decode cX8_rowOfBits 6 = .ok (.if_icmp .ge 34, 3) := by decide +kernel
theorem dX8_rowOfBits_9 : decode cX8_rowOfBits 9 = .ok (.iload_n 3, 1) := by decide +kernel
theorem dX8_rowOfBits_10 : decode cX8_rowOfBits 10 = .ok (.bipush 6, 2) := by decide +kernel
theorem dX8_rowOfBits_12 : decode cX8_rowOfBits 12 = .ok (.if_icmp .ge 28, 3) := by decide +kernel
theorem dX8_rowOfBits_15 : decode cX8_rowOfBits 15 = .ok (.iload_n 2, 1) := by decide +kernel
theorem dX8_rowOfBits_16 : decode cX8_rowOfBits 16 = .ok (.iload_n 0, 1) := by decide +kernel
theorem dX8_rowOfBits_17 : decode cX8_rowOfBits 17 = .ok (.iload_n 3, 1) := by decide +kernel
theorem dX8_rowOfBits_18 : decode cX8_rowOfBits 18 = .ok (.ishr, 1) := by decide +kernel
theorem dX8_rowOfBits_19 : decode cX8_rowOfBits 19 = .ok (.iconst 1, 1) := by decide +kernel
theorem dX8_rowOfBits_20 : decode cX8_rowOfBits 20 = .ok (.iand, 1) := by decide +kernel
theorem dX8_rowOfBits_21 : decode cX8_rowOfBits 21 = .ok (.iconst 1, 1) := by decide +kernel
theorem dX8_rowOfBits_22 : decode cX8_rowOfBits 22 = .ok (.if_icmp .ne 7, 3) := by decide +kernel
theorem dX8_rowOfBits_25 : decode cX8_rowOfBits 25 = .ok (.iconst 1, 1) := by decide +kernel
theorem dX8_rowOfBits_26 : decode cX8_rowOfBits 26 = .ok (.goto 4, 3) := by decide +kernel
theorem dX8_rowOfBits_29 : decode cX8_rowOfBits 29 = .ok (.iconst 0, 1) := by decide +kernel
theorem dX8_rowOfBits_30 : decode cX8_rowOfBits 30 = .ok (.invokestatic 305, 3) := by decide +kernel
theorem dX8_rowOfBits_33 : decode cX8_rowOfBits 33 = .ok (.istore_n 2, 1) := by decide +kernel
theorem dX8_rowOfBits_34 : decode cX8_rowOfBits 34 = .ok (.iinc 3 1, 3) := by decide +kernel
theorem dX8_rowOfBits_37 : decode cX8_rowOfBits 37 = .ok (.goto (-33), 3) := by decide +kernel
theorem dX8_rowOfBits_40 : decode cX8_rowOfBits 40 = .ok (.iload_n 2, 1) := by decide +kernel
theorem dX8_rowOfBits_41 : decode cX8_rowOfBits 41 = .ok (.ireturn, 1) := by decide +kernel
theorem dX8_isRow_0 : decode cX8_isRow 0 = .ok (.iconst 1, 1) := by decide +kernel
theorem dX8_isRow_1 : decode cX8_isRow 1 = .ok (.iload_n 0, 1) := by decide +kernel
theorem dX8_isRow_2 : decode cX8_isRow 2 = .ok (.if_icmp .gt 14, 3) := by decide +kernel
theorem dX8_isRow_5 : decode cX8_isRow 5 = .ok (.iload_n 0, 1) := by decide +kernel
theorem dX8_isRow_6 : decode cX8_isRow 6 = .ok (.sipush 128, 3) := by decide +kernel
theorem dX8_isRow_9 : decode cX8_isRow 9 = .ok (.if_icmp .ge 7, 3) := by decide +kernel
theorem dX8_isRow_12 : decode cX8_isRow 12 = .ok (.iconst 1, 1) := by decide +kernel
theorem dX8_isRow_13 : decode cX8_isRow 13 = .ok (.goto 4, 3) := by decide +kernel
theorem dX8_isRow_16 : decode cX8_isRow 16 = .ok (.iconst 0, 1) := by decide +kernel
theorem dX8_isRow_17 : decode cX8_isRow 17 = .ok (.ireturn, 1) := by decide +kernel
