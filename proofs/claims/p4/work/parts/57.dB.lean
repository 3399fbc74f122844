theorem dX5_init_0 : decode cX5_init 0 = .ok (.aload_n 0, 1) := by decide +kernel
theorem dX5_init_1 : decode cX5_init 1 = .ok (.invokespecial 3, 3) := by decide +kernel
theorem dX5_init_4 : decode cX5_init 4 = .ok (.aload_n 0, 1) := by decide +kernel
theorem dX5_init_5 : decode cX5_init 5 = .ok (.new 9, 3) := by decide +kernel
theorem dX5_init_8 : decode cX5_init 8 = .ok (.dup, 1) := by decide +kernel
theorem dX5_init_9 : decode cX5_init 9 = .ok (.invokespecial 11, 3) := by decide +kernel
theorem dX5_init_12 : decode cX5_init 12 = .ok (.putfield 12, 3) := by decide +kernel
theorem dX5_init_15 : decode cX5_init 15 = .ok (.aload_n 0, 1) := by decide +kernel
theorem dX5_init_16 : decode cX5_init 16 = .ok (.new 18, 3) := by decide +kernel
theorem dX5_init_19 : decode cX5_init 19 = .ok (.dup, 1) := by decide +kernel
theorem dX5_init_20 : decode cX5_init 20 = .ok (.invokespecial 20, 3) := by decide +kernel
theorem dX5_init_23 : decode cX5_init 23 = .ok (.putfield 21, 3) := by decide +kernel
theorem dX5_init_26 : decode cX5_init 26 = .ok (.aload_n 0, 1) := by decide +kernel
theorem dX5_init_27 : decode cX5_init 27 = .ok (.bipush 7, 2) := by decide +kernel
theorem dX5_init_29 : decode cX5_init 29 = .ok (.newarray .long, 2) := by decide +kernel
theorem dX5_init_31 : decode cX5_init 31 = .ok (.putfield 25, 3) := by decide +kernel
theorem dX5_init_34 : decode cX5_init 34 = .ok (.aload_n 0, 1) := by decide +kernel
theorem dX5_init_35 : decode cX5_init 35 = .ok (.sipush 128, 3) := by decide +kernel
theorem dX5_init_38 : decode cX5_init 38 = .ok (.newarray .long, 2) := by decide +kernel
theorem dX5_init_40 : decode cX5_init 40 = .ok (.putfield 29, 3) := by decide +kernel
theorem dX5_init_43 : decode cX5_init 43 = .ok (.aload_n 0, 1) := by decide +kernel
theorem dX5_init_44 : decode cX5_init 44 = .ok (.sipush 128, 3) := by decide +kernel
theorem dX5_init_47 : decode cX5_init 47 = .ok (.newarray .long, 2) := by decide +kernel
theorem dX5_init_49 : decode cX5_init 49 = .ok (.putfield 32, 3) := by decide +kernel
theorem dX5_init_52 : decode cX5_init 52 = .ok (.aload_n 0, 1) := by decide +kernel
theorem dX5_init_53 : decode cX5_init 53 = .ok (.sipush 128, 3) := by decide +kernel
theorem dX5_init_56 : decode cX5_init 56 = .ok (.newarray .long, 2) := by decide +kernel
theorem dX5_init_58 : decode cX5_init 58 = .ok (.putfield 35, 3) := by decide +kernel
theorem dX5_init_61 : decode cX5_init 61 = .ok (.aload_n 0, 1) := by decide +kernel
theorem dX5_init_62 : decode cX5_init 62 = .ok (.sipush 128, 3) := by decide +kernel
theorem dX5_init_65 : decode cX5_init 65 = .ok (.newarray .long, 2) := by decide +kernel
theorem dX5_init_67 : decode cX5_init 67 = .ok (.putfield 38, 3) := by decide +kernel
theorem dX5_init_70 : decode cX5_init 70 = .ok (.aload_n 0, 1) := by decide +kernel
theorem dX5_init_71 : decode cX5_init 71 = .ok (.sipush 128, 3) := by decide +kernel
theorem dX5_init_74 : decode cX5_init 74 = .ok (.newarray .long, 2) := by decide +kernel
theorem dX5_init_76 : decode cX5_init 76 = .ok (.putfield 41, 3) := by decide +kernel
theorem dX5_init_79 : decode cX5_init 79 = .ok (.aload_n 0, 1) := by decide +kernel
theorem dX5_init_80 : decode cX5_init 80 = .ok (.sipush 128, 3) := by decide +kernel
theorem dX5_init_83 : decode cX5_init 83 = .ok (.newarray .int, 2) := by decide +kernel
theorem dX5_init_85 : decode cX5_init 85 = .ok (.putfield 44, 3) := by decide +kernel
theorem dX5_init_88 : decode cX5_init 88 = .ok (.aload_n 0, 1) := by decide +kernel
theorem dX5_init_89 : decode cX5_init 89 = .ok (.sipush 128, 3) := by decide +kernel
theorem dX5_init_92 : decode cX5_init 92 = .ok (.newarray .int, 2) := by decide +kernel
theorem dX5_init_94 : decode cX5_init 94 = .ok (.putfield 48, 3) := by decide +kernel
theorem dX5_init_97 : decode cX5_init 97 = .ok (.aload_n 0, 1) := by decide +kernel
theorem dX5_init_98 : decode cX5_init 98 = .ok (.bipush 112, 2) := by decide +kernel
theorem dX5_init_100 : decode cX5_init 100 = .ok (.newarray .int, 2) := by decide +kernel
theorem dX5_init_102 : decode cX5_init 102 = .ok (.putfield 51, 3) := by decide +kernel
theorem dX5_init_105 : decode cX5_init 105 = .ok (.return_, 1) := by decide +kernel
theorem dX5_take_0 : decode cX5_take 0 = .ok (.aload_n 0, 1) := by decide +kernel
theorem dX5_take_1 : decode cX5_take 1 = .ok (.getfield 12, 3) := by decide +kernel
theorem dX5_take_4 : decode cX5_take 4 = .ok (.aload_n 1, 1) := by decide +kernel
theorem dX5_take_5 : decode cX5_take 5 = .ok (.invokevirtual 54, 3) := by decide +kernel
theorem dX5_take_8 : decode cX5_take 8 = .ok (.aload_n 0, 1) := by decide +kernel
theorem dX5_take_9 : decode cX5_take 9 = .ok (.getfield 21, 3) := by decide +kernel
theorem dX5_take_12 : decode cX5_take 12 = .ok (.aload_n 2, 1) := by decide +kernel
theorem dX5_take_13 : decode cX5_take 13 = .ok (.invokevirtual 58, 3) := by decide +kernel
theorem dX5_take_16 : decode cX5_take 16 = .ok (.return_, 1) := by decide +kernel
theorem dX5_lastRow_0 : decode cX5_lastRow 0 = .ok (.sipush 128, 3) := by decide +kernel
theorem dX5_lastRow_3 : decode cX5_lastRow 3 = .ok (.iconst 2, 1) := by decide +kernel
theorem dX5_lastRow_4 : decode cX5_lastRow 4 = .ok (.aload_n 0, 1) := by decide +kernel
theorem dX5_lastRow_5 : decode cX5_lastRow 5 = .ok (.getfield 12, 3) := by decide +kernel
theorem dX5_lastRow_8 : decode cX5_lastRow 8 = .ok (.invokevirtual 61, 3) := by decide +kernel
theorem dX5_lastRow_11 : decode cX5_lastRow 11 = .ok (.ishl, 1) := by decide +kernel
theorem dX5_lastRow_12 : decode cX5_lastRow 12 = .ok (.invokestatic 65, 3) := by decide +kernel
theorem dX5_lastRow_15 : decode cX5_lastRow 15 = .ok (.iconst 1, 1) := by decide +kernel
theorem dX5_lastRow_16 : decode cX5_lastRow 16 = .ok (.isub, 1) := by decide +kernel
theorem dX5_lastRow_17 : decode cX5_lastRow 17 = .ok (.ireturn, 1) := by decide +kernel
theorem dX5_valueAt_0 : decode cX5_valueAt 0 = .ok (.iload_n 1, 1) := by decide +kernel
theorem dX5_valueAt_1 : decode cX5_valueAt 1 = .ok (.invokestatic 71, 3) := by decide +kernel
theorem dX5_valueAt_4 : decode cX5_valueAt 4 = .ok (.ifCond .eq 12, 3) := by decide +kernel
theorem dX5_valueAt_7 : decode cX5_valueAt 7 = .ok (.aload_n 0, 1) := by decide +kernel
theorem dX5_valueAt_8 : decode cX5_valueAt 8 = .ok (.getfield 41, 3) := by decide +kernel
theorem dX5_valueAt_11 : decode cX5_valueAt 11 = .ok (.iload_n 1, 1) := by decide +kernel
theorem dX5_valueAt_12 : decode cX5_valueAt 12 = .ok (.laload, 1) := by decide +kernel
theorem dX5_valueAt_13 : decode cX5_valueAt 13 = .ok (.goto 4, 3) := by decide +kernel
theorem dX5_valueAt_16 : decode cX5_valueAt 16 = .ok (.lconst 0, 1) := by decide +kernel
theorem dX5_valueAt_17 : decode cX5_valueAt 17 = .ok (.lreturn, 1) := by decide +kernel
theorem dX5_holdAt_0 : decode cX5_holdAt 0 = .ok (.iload_n 1, 1) := by decide +kernel
theorem dX5_holdAt_1 : decode cX5_holdAt 1 = .ok (.invokestatic 71, 3) := by decide +kernel
theorem dX5_holdAt_4 : decode cX5_holdAt 4 = .ok (.ifCond .eq 12, 3) := by decide +kernel
theorem dX5_holdAt_7 : decode cX5_holdAt 7 = .ok (.aload_n 0, 1) := by decide +kernel
theorem dX5_holdAt_8 : decode cX5_holdAt 8 = .ok (.getfield 38, 3) := by decide +kernel
theorem dX5_holdAt_11 : decode cX5_holdAt 11 = .ok (.iload_n 1, 1) := by decide +kernel
theorem dX5_holdAt_12 : decode cX5_holdAt 12 = .ok (.laload, 1) := by decide +kernel
theorem dX5_holdAt_13 : decode cX5_holdAt 13 = .ok (.goto 6, 3) := by decide +kernel
theorem dX5_holdAt_16 : decode cX5_holdAt 16 = .ok (.ldc2_w 75, 3) := by decide +kernel
theorem dX5_holdAt_19 : decode cX5_holdAt 19 = .ok (.lreturn, 1) := by decide +kernel
theorem dX5_turnedAt_0 : decode cX5_turnedAt 0 = .ok (.iload_n 1, 1) := by decide +kernel
theorem dX5_turnedAt_1 : decode cX5_turnedAt 1 = .ok (.invokestatic 71, 3) := by decide +kernel
theorem dX5_turnedAt_4 : decode cX5_turnedAt 4 = .ok (.ifCond .eq 12, 3) := by decide +kernel
theorem dX5_turnedAt_7 : decode cX5_turnedAt 7 = .ok (.aload_n 0, 1) := by decide +kernel
theorem dX5_turnedAt_8 : decode cX5_turnedAt 8 = .ok (.getfield 32, 3) := by decide +kernel
theorem dX5_turnedAt_11 : decode cX5_turnedAt 11 = .ok (.iload_n 1, 1) := by decide +kernel
theorem dX5_turnedAt_12 : decode cX5_turnedAt 12 = .ok (.laload, 1) := by decide +kernel
theorem dX5_turnedAt_13 : decode cX5_turnedAt 13 = .ok (.goto 6, 3) := by decide +kernel
theorem dX5_turnedAt_16 : decode cX5_turnedAt 16 = .ok (.ldc2_w 75, 3) := by decide +kernel
theorem dX5_turnedAt_19 : decode cX5_turnedAt 19 = .ok (.lreturn, 1) := by decide +kernel
theorem dX5_calledAt_0 : decode cX5_calledAt 0 = .ok (.iload_n 1, 1) := by decide +kernel
theorem dX5_calledAt_1 : decode cX5_calledAt 1 = .ok (.invokestatic 71, 3) := by decide +kernel
theorem dX5_calledAt_4 : decode cX5_calledAt 4 = .ok (.ifCond .eq 12, 3) := by decide +kernel
theorem dX5_calledAt_7 : decode cX5_calledAt 7 = .ok (.aload_n 0, 1) := by decide +kernel
theorem dX5_calledAt_8 : decode cX5_calledAt 8 = .ok (.getfield 35, 3) := by decide +kernel
theorem dX5_calledAt_11 : decode cX5_calledAt 11 = .ok (.iload_n 1, 1) := by decide +kernel
theorem dX5_calledAt_12 : decode cX5_calledAt 12 = .ok (.laload, 1) := by decide +kernel
theorem dX5_calledAt_13 : decode cX5_calledAt 13 = .ok (.goto 6, 3) := by decide +kernel
theorem dX5_calledAt_16 : decode cX5_calledAt 16 = .ok (.ldc2_w 75, 3) := by decide +kernel
theorem dX5_calledAt_19 : decode cX5_calledAt 19 = .ok (.lreturn, 1) := by decide +kernel
theorem dX5_penceAt_0 : decode cX5_penceAt 0 = .ok (.iload_n 1, 1) := by decide +kernel
theorem dX5_penceAt_1 : decode cX5_penceAt 1 = .ok (.invokestatic 71, 3) := by decide +kernel
theorem dX5_penceAt_4 : decode cX5_penceAt 4 = .ok (.ifCond .eq 12, 3) := by decide +kernel
theorem dX5_penceAt_7 : decode cX5_penceAt 7 = .ok (.aload_n 0, 1) := by decide +kernel
theorem dX5_penceAt_8 : decode cX5_penceAt 8 = .ok (.getfield 29, 3) := by decide +kernel
theorem dX5_penceAt_11 : decode cX5_penceAt 11 = .ok (.iload_n 1, 1) := by decide +kernel
theorem dX5_penceAt_12 : decode cX5_penceAt 12 = .ok (.laload, 1) := by decide +kernel
theorem dX5_penceAt_13 : decode cX5_penceAt 13 = .ok (.goto 4, 3) := by decide +kernel
theorem dX5_penceAt_16 : decode cX5_penceAt 16 = .ok (.lconst 0, 1) := by decide +kernel
theorem dX5_penceAt_17 : decode cX5_penceAt 17 = .ok (.lreturn, 1) := by decide +kernel
theorem dX5_marksAt_0 : decode cX5_marksAt 0 = .ok (.iload_n 1, 1) := by decide +kernel
theorem dX5_marksAt_1 : decode cX5_marksAt 1 = .ok (.invokestatic 71, 3) := by decide +kernel
theorem dX5_marksAt_4 : decode cX5_marksAt 4 = .ok (.ifCond .eq 12, 3) := by decide +kernel
theorem dX5_marksAt_7 : decode cX5_marksAt 7 = .ok (.aload_n 0, 1) := by decide +kernel
theorem dX5_marksAt_8 : decode cX5_marksAt 8 = .ok (.getfield 44, 3) := by decide +kernel
theorem dX5_marksAt_11 : decode cX5_marksAt 11 = .ok (.iload_n 1, 1) := by decide +kernel
theorem dX5_marksAt_12 : decode cX5_marksAt 12 = .ok (.iaload, 1) := by decide +kernel
theorem dX5_marksAt_13 : decode cX5_marksAt 13 = .ok (.goto 4, 3) := by decide +kernel
theorem dX5_marksAt_16 : decode cX5_marksAt 16 = .ok (.iconst 0, 1) := by decide +kernel
theorem dX5_marksAt_17 : decode cX5_marksAt 17 = .ok (.ireturn, 1) := by decide +kernel
theorem dX5_actAt_0 : decode cX5_actAt 0 = .ok (.iload_n 1, 1) := by decide +kernel
theorem dX5_actAt_1 : decode cX5_actAt 1 = .ok (.invokestatic 71, 3) := by decide +kernel
theorem dX5_actAt_4 : decode cX5_actAt 4 = .ok (.ifCond .eq 12, 3) := by decide +kernel
theorem dX5_actAt_7 : decode cX5_actAt 7 = .ok (.aload_n 0, 1) := by decide +kernel
theorem dX5_actAt_8 : decode cX5_actAt 8 = .ok (.getfield 48, 3) := by decide +kernel
theorem dX5_actAt_11 : decode cX5_actAt 11 = .ok (.iload_n 1, 1) := by decide +kernel
theorem dX5_actAt_12 : decode cX5_actAt 12 = .ok (.iaload, 1) := by decide +kernel
theorem dX5_actAt_13 : decode cX5_actAt 13 = .ok (.goto 4, 3) := by decide +kernel
theorem dX5_actAt_16 : decode cX5_actAt 16 = .ok (.iconst 0, 1) := by decide +kernel
theorem dX5_actAt_17 : decode cX5_actAt 17 = .ok (.ireturn, 1) := by decide +kernel
theorem dX5_playBest_0 : decode cX5_playBest 0 = .ok (.aload_n 0, 1) := by decide +kernel
theorem dX5_playBest_1 : decode cX5_playBest 1 = .ok (.invokevirtual 77, 3) := by decide +kernel
theorem dX5_playBest_4 : decode cX5_playBest 4 = .ok (.aload_n 0, 1) := by decide +kernel
theorem dX5_playBest_5 : decode cX5_playBest 5 = .ok (.invokevirtual 80, 3) := by decide +kernel
theorem dX5_playBest_8 : decode cX5_playBest 8 = .ok (.istore_n 1, 1) := by decide +kernel
theorem dX5_playBest_9 : decode cX5_playBest 9 = .ok (.iload_n 1, 1) := by decide +kernel
theorem dX5_playBest_10 : decode cX5_playBest 10 = .ok (.iconst 1, 1) := by decide +kernel
theorem dX5_playBest_11 : decode cX5_playBest 11 = .ok (.if_icmp .lt 18, 3) := by decide +kernel
theorem dX5_playBest_14 : decode cX5_playBest 14 = .ok (.aload_n 0, 1) := by decide +kernel
theorem dX5_playBest_15 : decode cX5_playBest 15 = .ok (.iload_n 1, 1) := by decide +kernel
theorem dX5_playBest_16 : decode cX5_playBest 16 = .ok (.iload_n 1, 1) := by decide +kernel
theorem dX5_playBest_17 : decode cX5_playBest 17 = .ok (.invokestatic 83, 3) := by decide +kernel
theorem dX5_playBest_20 : decode cX5_playBest 20 = .ok (.invokevirtual 87, 3) := by decide +kernel
theorem dX5_playBest_23 : decode cX5_playBest 23 = .ok (.iinc 1 (-1), 3) := by decide +kernel
theorem dX5_playBest_26 : decode cX5_playBest 26 = .ok (.goto (-17), 3) := by decide +kernel
theorem dX5_playBest_29 : decode cX5_playBest 29 = .ok (.return_, 1) := by decide +kernel
theorem dX5_playByRule_0 : decode cX5_playByRule 0 = .ok (.aload_n 0, 1) := by decide +kernel
theorem dX5_playByRule_1 : decode cX5_playByRule 1 = .ok (.invokevirtual 77, 3) := by decide +kernel
theorem dX5_playByRule_4 : decode cX5_playByRule 4 = .ok (.aload_n 0, 1) := by decide +kernel
theorem dX5_playByRule_5 : decode cX5_playByRule 5 = .ok (.invokevirtual 80, 3) := by decide +kernel
theorem dX5_playByRule_8 : decode cX5_playByRule 8 = .ok (.istore_n 3, 1) := by decide +kernel
theorem dX5_playByRule_9 : decode cX5_playByRule 9 = .ok (.iload_n 3, 1) := by decide +kernel
theorem dX5_playByRule_10 : decode cX5_playByRule 10 = .ok (.iconst 1, 1) := by decide +kernel
theorem dX5_playByRule_11 : decode cX5_playByRule 11 = .ok (.if_icmp .lt 20, 3) := by decide +kernel
theorem dX5_playByRule_14 : decode cX5_playByRule 14 = .ok (.aload_n 0, 1) := by decide +kernel
theorem dX5_playByRule_15 : decode cX5_playByRule 15 = .ok (.iload_n 3, 1) := by decide +kernel
theorem dX5_playByRule_16 : decode cX5_playByRule 16 = .ok (.iload_n 3, 1) := by decide +kernel
theorem dX5_playByRule_17 : decode cX5_playByRule 17 = .ok (.invokestatic 83, 3) := by decide +kernel
theorem dX5_playByRule_20 : decode cX5_playByRule 20 = .ok (.iload_n 1, 1) := by decide +kernel
theorem dX5_playByRule_21 : decode cX5_playByRule 21 = .ok (.iload_n 2, 1) := by decide +kernel
theorem dX5_playByRule_22 : decode cX5_playByRule 22 = .ok (.invokevirtual 91, 3) := by decide +kernel
theorem dX5_playByRule_25 : decode cX5_playByRule 25 = .ok (.iinc 3 (-1), 3) := by decide +kernel
theorem dX5_playByRule_28 : decode cX5_playByRule 28 = .ok (.goto (-19), 3) := by decide +kernel
theorem dX5_playByRule_31 : decode cX5_playByRule 31 = .ok (.return_, 1) := by decide +kernel
theorem dX5_rowsAheadOfLastDay_0 : decode cX5_rowsAheadOfLastDay 0 = .ok (.iconst 1, 1) := by decide +kernel
theorem dX5_rowsAheadOfLastDay_1 : decode cX5_rowsAheadOfLastDay 1 = .ok (.aload_n 0, 1) := by decide +kernel
theorem dX5_rowsAheadOfLastDay_2 : decode cX5_rowsAheadOfLastDay 2 = .ok (.getfield 12, 3) := by decide +kernel
theorem dX5_rowsAheadOfLastDay_5 : decode cX5_rowsAheadOfLastDay 5 = .ok (.invokevirtual 61, 3) := by decide +kernel
theorem dX5_rowsAheadOfLastDay_8 : decode cX5_rowsAheadOfLastDay 8 = .ok (.ishl, 1) := by decide +kernel
theorem dX5_rowsAheadOfLastDay_9 : decode cX5_rowsAheadOfLastDay 9 = .ok (.iconst 1, 1) := by decide +kernel
theorem dX5_rowsAheadOfLastDay_10 : decode cX5_rowsAheadOfLastDay 10 = .ok (.isub, 1) := by decide +kernel
theorem dX5_rowsAheadOfLastDay_11 : decode cX5_rowsAheadOfLastDay 11 = .ok (.ireturn, 1) := by decide +kernel
theorem dX5_layOut_0 : decode cX5_layOut 0 = .ok (.iconst 0, 1) := by decide +kernel
theorem dX5_layOut_1 : decode cX5_layOut 1 = .ok (.istore_n 1, 1) := by decide +kernel
theorem dX5_layOut_2 : decode cX5_layOut 2 = .ok (.iload_n 1, 1) := by decide +kernel
theorem dX5_layOut_3 : decode cX5_layOut 3 = .ok (.aload_n 0, 1) := by decide +kernel
theorem dX5_layOut_4 : decode cX5_layOut 4 = .ok (.getfield 12, 3) := by decide +kernel
theorem dX5_layOut_7 : decode cX5_layOut 7 = .ok (.invokevirtual 61, 3) := by decide +kernel
theorem dX5_layOut_10 : decode cX5_layOut 10 = .ok (.if_icmp .gt 66, 3) := by decide +kernel
theorem dX5_layOut_13 : decode cX5_layOut 13 = .ok (.iconst 0, 1) := by decide +kernel
theorem dX5_layOut_14 : decode cX5_layOut 14 = .ok (.istore_n 2, 1) := by decide +kernel
theorem dX5_layOut_15 : decode cX5_layOut 15 = .ok (.iload_n 2, 1) := by decide +kernel
theorem dX5_layOut_16 : decode cX5_layOut 16 = .ok (.iload_n 1, 1) := by decide +kernel
theorem dX5_layOut_17 : decode cX5_layOut 17 = .ok (.if_icmp .gt 30, 3) := by decide +kernel
theorem dX5_layOut_20 : decode cX5_layOut 20 = .ok (.iload_n 2, 1) := by decide +kernel
theorem dX5_layOut_21 : decode cX5_layOut 21 = .ok (.bipush 6, 2) := by decide +kernel
theorem dX5_layOut_23 : decode cX5_layOut 23 = .ok (.if_icmp .gt 24, 3) := by decide +kernel
theorem dX5_layOut_26 : decode cX5_layOut 26 = .ok (.aload_n 0, 1) := by decide +kernel
theorem dX5_layOut_27 : decode cX5_layOut 27 = .ok (.getfield 25, 3) := by decide +kernel
theorem dX5_layOut_30 : decode cX5_layOut 30 = .ok (.iload_n 2, 1) := by decide +kernel
theorem dX5_layOut_31 : decode cX5_layOut 31 = .ok (.aload_n 0, 1) := by decide +kernel
theorem dX5_layOut_32 : decode cX5_layOut 32 = .ok (.getfield 12, 3) := by decide +kernel
theorem dX5_layOut_35 : decode cX5_layOut 35 = .ok (.iload_n 1, 1) := by decide +kernel
theorem dX5_layOut_36 : decode cX5_layOut 36 = .ok (.iload_n 2, 1) := by decide +kernel
theorem dX5_layOut_37 : decode cX5_layOut 37 = .ok (.invokevirtual 95, 3) := by decide +kernel
theorem dX5_layOut_40 : decode cX5_layOut 40 = .ok (.lastore, 1) := by decide +kernel
theorem dX5_layOut_41 : decode cX5_layOut 41 = .ok (.iinc 2 1, 3) := by decide +kernel
theorem dX5_layOut_44 : decode cX5_layOut 44 = .ok (.goto (-29), 3) := by decide +kernel
theorem dX5_layOut_47 : decode cX5_layOut 47 = .ok (.iconst 1, 1) := by decide +kernel
theorem dX5_layOut_48 : decode cX5_layOut 48 = .ok (.iload_n 1, 1) := by decide +kernel
theorem dX5_layOut_49 : decode cX5_layOut 49 = .ok (.ishl, 1) := by decide +kernel
theorem dX5_layOut_50 : decode cX5_layOut 50 = .ok (.istore_n 2, 1) := by decide +kernel
theorem dX5_layOut_51 : decode cX5_layOut 51 = .ok (.iload_n 2, 1) := by decide +kernel
theorem dX5_layOut_52 : decode cX5_layOut 52 = .ok (.iconst 2, 1) := by decide +kernel
theorem dX5_layOut_53 : decode cX5_layOut 53 = .ok (.iload_n 1, 1) := by decide +kernel
theorem dX5_layOut_54 : decode cX5_layOut 54 = .ok (.ishl, 1) := by decide +kernel
theorem dX5_layOut_55 : decode cX5_layOut 55 = .ok (.if_icmp .ge 15, 3) := by decide +kernel
theorem dX5_layOut_58 : decode cX5_layOut 58 = .ok (.aload_n 0, 1) := by decide +kernel
theorem dX5_layOut_59 : decode cX5_layOut 59 = .ok (.iload_n 2, 1) := by decide +kernel
theorem dX5_layOut_60 : decode cX5_layOut 60 = .ok (.iload_n 1, 1) := by decide +kernel
theorem dX5_layOut_61 : decode cX5_layOut 61 = .ok (.invokevirtual 98, 3) := by decide +kernel
theorem dX5_layOut_64 : decode cX5_layOut 64 = .ok (.iinc 2 1, 3) := by decide +kernel
theorem dX5_layOut_67 : decode cX5_layOut 67 = .ok (.goto (-16), 3) := by decide +kernel
theorem dX5_layOut_70 : decode cX5_layOut 70 = .ok (.iinc 1 1, 3) := by decide +kernel
theorem dX5_layOut_73 : decode cX5_layOut 73 = .ok (.goto (-71), 3) := by decide +kernel
theorem dX5_layOut_76 : decode cX5_layOut 76 = .ok (.aload_n 0, 1) := by decide +kernel
theorem dX5_layOut_77 : decode cX5_layOut 77 = .ok (.invokevirtual 80, 3) := by decide +kernel
theorem dX5_layOut_80 : decode cX5_layOut 80 = .ok (.iconst 1, 1) := by decide +kernel
theorem dX5_layOut_81 : decode cX5_layOut 81 = .ok (.iadd, 1) := by decide +kernel
theorem dX5_layOut_82 : decode cX5_layOut 82 = .ok (.istore_n 1, 1) := by decide +kernel
theorem dX5_layOut_83 : decode cX5_layOut 83 = .ok (.iload_n 1, 1) := by decide +kernel
theorem dX5_layOut_84 : decode cX5_layOut 84 = .ok (.aload_n 0, 1) := by decide +kernel
theorem dX5_layOut_85 : decode cX5_layOut 85 = .ok (.invokevirtual 101, 3) := by decide +kernel
theorem dX5_layOut_88 : decode cX5_layOut 88 = .ok (.if_icmp .gt 14, 3) := by decide +kernel
theorem dX5_layOut_91 : decode cX5_layOut 91 = .ok (.aload_n 0, 1) := by decide +kernel
theorem dX5_layOut_92 : decode cX5_layOut 92 = .ok (.iload_n 1, 1) := by decide +kernel
theorem dX5_layOut_93 : decode cX5_layOut 93 = .ok (.invokevirtual 104, 3) := by decide +kernel
theorem dX5_layOut_96 : decode cX5_layOut 96 = .ok (.iinc 1 1, 3) := by decide +kernel
theorem dX5_layOut_99 : decode cX5_layOut 99 = .ok (.goto (-16), 3) := by decide +kernel
theorem dX5_layOut_102 : decode cX5_layOut 102 = .ok (.return_, 1) := by decide +kernel
theorem dX5_layOutRow_0 : decode cX5_layOutRow 0 = .ok (.iload_n 1, 1) := by decide +kernel
theorem dX5_layOutRow_1 : decode cX5_layOutRow 1 = .ok (.invokestatic 108, 3) := by decide +kernel
theorem dX5_layOutRow_4 : decode cX5_layOutRow 4 = .ok (.istore_n 3, 1) := by decide +kernel
theorem dX5_layOutRow_5 : decode cX5_layOutRow 5 = .ok (.iload_n 1, 1) := by decide +kernel
theorem dX5_layOutRow_6 : decode cX5_layOutRow 6 = .ok (.invokestatic 71, 3) := by decide +kernel
theorem dX5_layOutRow_9 : decode cX5_layOutRow 9 = .ok (.ifCond .eq 13, 3) := by decide +kernel
theorem dX5_layOutRow_12 : decode cX5_layOutRow 12 = .ok (.iload_n 3, 1) := by decide +kernel
theorem dX5_layOutRow_13 : decode cX5_layOutRow 13 = .ok (.iconst 0, 1) := by decide +kernel
theorem dX5_layOutRow_14 : decode cX5_layOutRow 14 = .ok (.bipush 6, 2) := by decide +kernel
theorem dX5_layOutRow_16 : decode cX5_layOutRow 16 = .ok (.invokestatic 111, 3) := by decide +kernel
theorem dX5_layOutRow_19 : decode cX5_layOutRow 19 = .ok (.ifCond .ne 4, 3) := by decide +kernel
theorem dX5_layOutRow_22 : decode cX5_layOutRow 22 = .ok (.return_, 1) := by decide +kernel
theorem dX5_layOutRow_23 : decode cX5_layOutRow 23 = .ok (.aload_n 0, 1) := by decide +kernel
theorem dX5_layOutRow_24 : decode cX5_layOutRow 24 = .ok (.getfield 29, 3) := by decide +kernel
theorem dX5_layOutRow_27 : decode cX5_layOutRow 27 = .ok (.iload_n 1, 1) := by decide +kernel
theorem dX5_layOutRow_28 : decode cX5_layOutRow 28 = .ok (.aload_n 0, 1) := by decide +kernel
theorem dX5_layOutRow_29 : decode cX5_layOutRow 29 = .ok (.getfield 25, 3) := by decide +kernel
theorem dX5_layOutRow_32 : decode cX5_layOutRow 32 = .ok (.iload_n 3, 1) := by decide +kernel
theorem dX5_layOutRow_33 : decode cX5_layOutRow 33 = .ok (.laload, 1) := by decide +kernel
theorem dX5_layOutRow_34 : decode cX5_layOutRow 34 = .ok (.lastore, 1) := by decide +kernel
theorem dX5_layOutRow_35 : decode cX5_layOutRow 35 = .ok (.iload_n 1, 1) := by decide +kernel
theorem dX5_layOutRow_36 : decode cX5_layOutRow 36 = .ok (.iconst 1, 1) := by decide +kernel
theorem dX5_layOutRow_37 : decode cX5_layOutRow 37 = .ok (.if_icmp .le 14, 3) := by decide +kernel
theorem dX5_layOutRow_40 : decode cX5_layOutRow 40 = .ok (.aload_n 0, 1) := by decide +kernel
theorem dX5_layOutRow_41 : decode cX5_layOutRow 41 = .ok (.getfield 29, 3) := by decide +kernel
theorem dX5_layOutRow_44 : decode cX5_layOutRow 44 = .ok (.iload_n 1, 1) := by decide +kernel
theorem dX5_layOutRow_45 : decode cX5_layOutRow 45 = .ok (.iconst 2, 1) := by decide +kernel
theorem dX5_layOutRow_46 : decode cX5_layOutRow 46 = .ok (.idiv, 1) := by decide +kernel
theorem dX5_layOutRow_47 : decode cX5_layOutRow 47 = .ok (.laload, 1) := by decide +kernel
theorem dX5_layOutRow_48 : decode cX5_layOutRow 48 = .ok (.goto 9, 3) := by decide +kernel
theorem dX5_layOutRow_51 : decode cX5_layOutRow 51 = .ok (.aload_n 0, 1) := by decide +kernel
theorem dX5_layOutRow_52 : decode cX5_layOutRow 52 = .ok (.getfield 29, 3) := by decide +kernel
theorem dX5_layOutRow_55 : decode cX5_layOutRow 55 = .ok (.iload_n 1, 1) := by decide +kernel
theorem dX5_layOutRow_56 : decode cX5_layOutRow 56 = .ok (.laload, 1) := by decide +kernel
theorem dX5_layOutRow_57 : decode cX5_layOutRow 57 = .ok (.lstore 4, 2) := by decide +kernel
theorem dX5_layOutRow_59 : decode cX5_layOutRow 59 = .ok (.iload_n 1, 1) := by decide +kernel
theorem dX5_layOutRow_60 : decode cX5_layOutRow 60 = .ok (.iconst 1, 1) := by decide +kernel
theorem dX5_layOutRow_61 : decode cX5_layOutRow 61 = .ok (.if_icmp .le 14, 3) := by decide +kernel
theorem dX5_layOutRow_64 : decode cX5_layOutRow 64 = .ok (.aload_n 0, 1) := by decide +kernel
theorem dX5_layOutRow_65 : decode cX5_layOutRow 65 = .ok (.getfield 44, 3) := by decide +kernel
theorem dX5_layOutRow_68 : decode cX5_layOutRow 68 = .ok (.iload_n 1, 1) := by decide +kernel
theorem dX5_layOutRow_69 : decode cX5_layOutRow 69 = .ok (.iconst 2, 1) := by decide +kernel
theorem dX5_layOutRow_70 : decode cX5_layOutRow 70 = .ok (.idiv, 1) := by decide +kernel
theorem dX5_layOutRow_71 : decode cX5_layOutRow 71 = .ok (.iaload, 1) := by decide +kernel
theorem dX5_layOutRow_72 : decode cX5_layOutRow 72 = .ok (.goto 4, 3) := by decide +kernel
theorem dX5_layOutRow_75 : decode cX5_layOutRow 75 = .ok (.iconst 0, 1) := by decide +kernel
theorem dX5_layOutRow_76 : decode cX5_layOutRow 76 = .ok (.istore 6, 2) := by decide +kernel
theorem dX5_layOutRow_78 : decode cX5_layOutRow 78 = .ok (.aload_n 0, 1) := by decide +kernel
theorem dX5_layOutRow_79 : decode cX5_layOutRow 79 = .ok (.getfield 29, 3) := by decide +kernel
theorem dX5_layOutRow_82 : decode cX5_layOutRow 82 = .ok (.iload_n 1, 1) := by decide +kernel
theorem dX5_layOutRow_83 : decode cX5_layOutRow 83 = .ok (.laload, 1) := by decide +kernel
theorem dX5_layOutRow_84 : decode cX5_layOutRow 84 = .ok (.aload_n 0, 1) := by decide +kernel
theorem dX5_layOutRow_85 : decode cX5_layOutRow 85 = .ok (.getfield 21, 3) := by decide +kernel
theorem dX5_layOutRow_88 : decode cX5_layOutRow 88 = .ok (.invokevirtual 115, 3) := by decide +kernel
theorem dX5_layOutRow_91 : decode cX5_layOutRow 91 = .ok (.i2l, 1) := by decide +kernel
theorem dX5_layOutRow_92 : decode cX5_layOutRow 92 = .ok (.lcmp, 1) := by decide +kernel
theorem dX5_layOutRow_93 : decode cX5_layOutRow 93 = .ok (.ifCond .lt 7, 3) := by decide +kernel
theorem dX5_layOutRow_96 : decode cX5_layOutRow 96 = .ok (.iconst 1, 1) := by decide +kernel
theorem dX5_layOutRow_97 : decode cX5_layOutRow 97 = .ok (.goto 4, 3) := by decide +kernel
theorem dX5_layOutRow_100 : decode cX5_layOutRow 100 = .ok (.iconst 0, 1) := by decide +kernel
theorem dX5_layOutRow_101 : decode cX5_layOutRow 101 = .ok (.istore 7, 2) := by decide +kernel
theorem dX5_layOutRow_103 : decode cX5_layOutRow 103 = .ok (.aload_n 0, 1) := by decide +kernel
theorem dX5_layOutRow_104 : decode cX5_layOutRow 104 = .ok (.getfield 44, 3) := by decide +kernel
theorem dX5_layOutRow_107 : decode cX5_layOutRow 107 = .ok (.iload_n 1, 1) := by decide +kernel
theorem dX5_layOutRow_108 : decode cX5_layOutRow 108 = .ok (.iload 6, 2) := by decide +kernel
theorem dX5_layOutRow_110 : decode cX5_layOutRow 110 = .ok (.iconst 2, 1) := by decide +kernel
theorem dX5_layOutRow_111 : decode cX5_layOutRow 111 = .ok (.imul, 1) := by decide +kernel
theorem dX5_layOutRow_112 : decode cX5_layOutRow 112 = .ok (.iload 7, 2) := by decide +kernel
theorem dX5_layOutRow_114 : decode cX5_layOutRow 114 = .ok (.iadd, 1) := by decide +kernel
theorem dX5_layOutRow_115 : decode cX5_layOutRow 115 = .ok (.bipush 7, 2) := by decide +kernel
theorem dX5_layOutRow_117 : decode cX5_layOutRow 117 = .ok (.iand, 1) := by decide +kernel
theorem dX5_layOutRow_118 : decode cX5_layOutRow 118 = .ok (.iastore, 1) := by decide +kernel
theorem dX5_layOutRow_119 : decode cX5_layOutRow 119 = .ok (.aload_n 0, 1) := by decide +kernel
theorem dX5_layOutRow_120 : decode cX5_layOutRow 120 = .ok (.getfield 32, 3) := by decide +kernel
theorem dX5_layOutRow_123 : decode cX5_layOutRow 123 = .ok (.iload_n 1, 1) := by decide +kernel
theorem dX5_layOutRow_124 : decode cX5_layOutRow 124 = .ok (.aload_n 0, 1) := by decide +kernel
theorem dX5_layOutRow_125 : decode cX5_layOutRow 125 = .ok (.getfield 21, 3) := by decide +kernel
theorem dX5_layOutRow_128 : decode cX5_layOutRow 128 = .ok (.iload_n 2, 1) := by decide +kernel
theorem dX5_layOutRow_129 : decode cX5_layOutRow 129 = .ok (.invokevirtual 118, 3) := by decide +kernel
theorem dX5_layOutRow_132 : decode cX5_layOutRow 132 = .ok (.ifCond .eq 21, 3) := by decide +kernel
theorem dX5_layOutRow_135 : decode cX5_layOutRow 135 = .ok (.aload_n 0, 1) := by decide +kernel
theorem dX5_layOutRow_136 : decode cX5_layOutRow 136 = .ok (.getfield 21, 3) := by decide +kernel
theorem dX5_layOutRow_139 : decode cX5_layOutRow 139 = .ok (.aload_n 0, 1) := by decide +kernel
theorem dX5_layOutRow_140 : decode cX5_layOutRow 140 = .ok (.getfield 29, 3) := by decide +kernel
theorem dX5_layOutRow_143 : decode cX5_layOutRow 143 = .ok (.iload_n 1, 1) := by decide +kernel
theorem dX5_layOutRow_144 : decode cX5_layOutRow 144 = .ok (.laload, 1) := by decide +kernel
theorem dX5_layOutRow_145 : decode cX5_layOutRow 145 = .ok (.lload 4, 2) := by decide +kernel
theorem dX5_layOutRow_147 : decode cX5_layOutRow 147 = .ok (.invokevirtual 121, 3) := by decide +kernel
theorem dX5_layOutRow_150 : decode cX5_layOutRow 150 = .ok (.goto 6, 3) := by decide +kernel
theorem dX5_layOutRow_153 : decode cX5_layOutRow 153 = .ok (.ldc2_w 75, 3) := by decide +kernel
theorem dX5_layOutRow_156 : decode cX5_layOutRow 156 = .ok (.lastore, 1) := by decide +kernel
theorem dX5_layOutRow_157 : decode cX5_layOutRow 157 = .ok (.aload_n 0, 1) := by decide +kernel
theorem dX5_layOutRow_158 : decode cX5_layOutRow 158 = .ok (.getfield 21, 3) := by decide +kernel
theorem dX5_layOutRow_161 : decode cX5_layOutRow 161 = .ok (.iload_n 2, 1) := by decide +kernel
theorem dX5_layOutRow_162 : decode cX5_layOutRow 162 = .ok (.invokevirtual 125, 3) := by decide +kernel
theorem dX5_layOutRow_165 : decode cX5_layOutRow 165 = .ok (.ifCond .lt 30, 3) := by decide +kernel
theorem dX5_layOutRow_168 : decode cX5_layOutRow 168 = .ok (.aload_n 0, 1) := by decide +kernel
theorem dX5_layOutRow_169 : decode cX5_layOutRow 169 = .ok (.getfield 21, 3) := by decide +kernel
theorem dX5_layOutRow_172 : decode cX5_layOutRow 172 = .ok (.aload_n 0, 1) := by decide +kernel
theorem dX5_layOutRow_173 : decode cX5_layOutRow 173 = .ok (.getfield 44, 3) := by decide +kernel
theorem dX5_layOutRow_176 : decode cX5_layOutRow 176 = .ok (.iload_n 1, 1) := by decide +kernel
theorem dX5_layOutRow_177 : decode cX5_layOutRow 177 = .ok (.iaload, 1) := by decide +kernel
theorem dX5_layOutRow_178 : decode cX5_layOutRow 178 = .ok (.invokevirtual 128, 3) := by decide +kernel
theorem dX5_layOutRow_181 : decode cX5_layOutRow 181 = .ok (.aload_n 0, 1) := by decide +kernel
theorem dX5_layOutRow_182 : decode cX5_layOutRow 182 = .ok (.getfield 21, 3) := by decide +kernel
theorem dX5_layOutRow_185 : decode cX5_layOutRow 185 = .ok (.invokevirtual 131, 3) := by decide +kernel
theorem dX5_layOutRow_188 : decode cX5_layOutRow 188 = .ok (.if_icmp .lt 7, 3) := by decide +kernel
theorem dX5_layOutRow_191 : decode cX5_layOutRow 191 = .ok (.iconst 1, 1) := by decide +kernel
theorem dX5_layOutRow_192 : decode cX5_layOutRow 192 = .ok (.goto 4, 3) := by decide +kernel
theorem dX5_layOutRow_195 : decode cX5_layOutRow 195 = .ok (.iconst 0, 1) := by decide +kernel
theorem dX5_layOutRow_196 : decode cX5_layOutRow 196 = .ok (.istore 8, 2) := by decide +kernel
theorem dX5_layOutRow_198 : decode cX5_layOutRow 198 = .ok (.aload_n 0, 1) := by decide +kernel
theorem dX5_layOutRow_199 : decode cX5_layOutRow 199 = .ok (.getfield 35, 3) := by decide +kernel
theorem dX5_layOutRow_202 : decode cX5_layOutRow 202 = .ok (.iload_n 1, 1) := by decide +kernel
theorem dX5_layOutRow_203 : decode cX5_layOutRow 203 = .ok (.iload 8, 2) := by decide +kernel
theorem dX5_layOutRow_205 : decode cX5_layOutRow 205 = .ok (.ifCond .eq 24, 3) := by decide +kernel
theorem dX5_layOutRow_208 : decode cX5_layOutRow 208 = .ok (.aload_n 0, 1) := by decide +kernel
theorem dX5_layOutRow_209 : decode cX5_layOutRow 209 = .ok (.getfield 21, 3) := by decide +kernel
theorem dX5_layOutRow_212 : decode cX5_layOutRow 212 = .ok (.iload_n 2, 1) := by decide +kernel
theorem dX5_layOutRow_213 : decode cX5_layOutRow 213 = .ok (.invokevirtual 125, 3) := by decide +kernel
theorem dX5_layOutRow_216 : decode cX5_layOutRow 216 = .ok (.i2l, 1) := by decide +kernel
theorem dX5_layOutRow_217 : decode cX5_layOutRow 217 = .ok (.aload_n 0, 1) := by decide +kernel
theorem dX5_layOutRow_218 : decode cX5_layOutRow 218 = .ok (.getfield 32, 3) := by decide +kernel
theorem dX5_layOutRow_221 : decode cX5_layOutRow 221 = .ok (.iload_n 1, 1) := by decide +kernel
theorem dX5_layOutRow_222 : decode cX5_layOutRow 222 = .ok (.laload, 1) := by decide +kernel
theorem dX5_layOutRow_223 : decode cX5_layOutRow 223 = .ok (.invokestatic 134, 3) := by decide +kernel
theorem dX5_layOutRow_226 : decode cX5_layOutRow 226 = .ok (.goto 6, 3) := by decide +kernel
theorem dX5_layOutRow_229 : decode cX5_layOutRow 229 = .ok (.ldc2_w 75, 3) := by decide +kernel
theorem dX5_layOutRow_232 : decode cX5_layOutRow 232 = .ok (.lastore, 1) := by decide +kernel
theorem dX5_layOutRow_233 : decode cX5_layOutRow 233 = .ok (.return_, 1) := by decide +kernel
theorem dX5_endOnLastDay_0 : decode cX5_endOnLastDay 0 = .ok (.aload_n 0, 1) := by decide +kernel
theorem dX5_endOnLastDay_1 : decode cX5_endOnLastDay 1 = .ok (.getfield 21, 3) := by decide +kernel
theorem dX5_endOnLastDay_4 : decode cX5_endOnLastDay 4 = .ok (.aload_n 0, 1) := by decide +kernel
theorem dX5_endOnLastDay_5 : decode cX5_endOnLastDay 5 = .ok (.getfield 12, 3) := by decide +kernel
theorem dX5_endOnLastDay_8 : decode cX5_endOnLastDay 8 = .ok (.invokevirtual 61, 3) := by decide +kernel
theorem dX5_endOnLastDay_11 : decode cX5_endOnLastDay 11 = .ok (.invokevirtual 137, 3) := by decide +kernel
theorem dX5_endOnLastDay_14 : decode cX5_endOnLastDay 14 = .ok (.istore_n 2, 1) := by decide +kernel
theorem dX5_endOnLastDay_15 : decode cX5_endOnLastDay 15 = .ok (.aload_n 0, 1) := by decide +kernel
theorem dX5_endOnLastDay_16 : decode cX5_endOnLastDay 16 = .ok (.iload_n 1, 1) := by decide +kernel
theorem dX5_endOnLastDay_17 : decode cX5_endOnLastDay 17 = .ok (.invokevirtual 140, 3) := by decide +kernel
theorem dX5_endOnLastDay_20 : decode cX5_endOnLastDay 20 = .ok (.lstore_n 3, 1) := by decide +kernel
theorem dX5_endOnLastDay_21 : decode cX5_endOnLastDay 21 = .ok (.lload_n 3, 1) := by decide +kernel
theorem dX5_endOnLastDay_22 : decode cX5_endOnLastDay 22 = .ok (.aload_n 0, 1) := by decide +kernel
theorem dX5_endOnLastDay_23 : decode cX5_endOnLastDay 23 = .ok (.getfield 21, 3) := by decide +kernel
theorem dX5_endOnLastDay_26 : decode cX5_endOnLastDay 26 = .ok (.invokevirtual 144, 3) := by decide +kernel
theorem dX5_endOnLastDay_29 : decode cX5_endOnLastDay 29 = .ok (.i2l, 1) := by decide +kernel
theorem dX5_endOnLastDay_30 : decode cX5_endOnLastDay 30 = .ok (.lcmp, 1) := by decide +kernel
theorem dX5_endOnLastDay_31 : decode cX5_endOnLastDay 31 = .ok (.ifCond .le 20, 3) := by decide +kernel
theorem dX5_endOnLastDay_34 : decode cX5_endOnLastDay 34 = .ok (.aload_n 0, 1) := by decide +kernel
theorem dX5_endOnLastDay_35 : decode cX5_endOnLastDay 35 = .ok (.iload_n 1, 1) := by decide +kernel
theorem dX5_endOnLastDay_36 : decode cX5_endOnLastDay 36 = .ok (.ldc2_w 75, 3) := by decide +kernel
theorem dX5_endOnLastDay_39 : decode cX5_endOnLastDay 39 = .ok (.bipush 6, 2) := by decide +kernel
theorem dX5_endOnLastDay_41 : decode cX5_endOnLastDay 41 = .ok (.iload_n 2, 1) := by decide +kernel
theorem dX5_endOnLastDay_42 : decode cX5_endOnLastDay 42 = .ok (.i2l, 1) := by decide +kernel
theorem dX5_endOnLastDay_43 : decode cX5_endOnLastDay 43 = .ok (.lload_n 3, 1) := by decide +kernel
theorem dX5_endOnLastDay_44 : decode cX5_endOnLastDay 44 = .ok (.ladd, 1) := by decide +kernel
theorem dX5_endOnLastDay_45 : decode cX5_endOnLastDay 45 = .ok (.invokevirtual 147, 3) := by decide +kernel
theorem dX5_endOnLastDay_48 : decode cX5_endOnLastDay 48 = .ok (.goto 22, 3) := by decide +kernel
theorem dX5_endOnLastDay_51 : decode cX5_endOnLastDay 51 = .ok (.aload_n 0, 1) := by decide +kernel
theorem dX5_endOnLastDay_52 : decode cX5_endOnLastDay 52 = .ok (.iload_n 1, 1) := by decide +kernel
theorem dX5_endOnLastDay_53 : decode cX5_endOnLastDay 53 = .ok (.ldc2_w 75, 3) := by decide +kernel
theorem dX5_endOnLastDay_56 : decode cX5_endOnLastDay 56 = .ok (.iconst 5, 1) := by decide +kernel
theorem dX5_endOnLastDay_57 : decode cX5_endOnLastDay 57 = .ok (.iload_n 2, 1) := by decide +kernel
theorem dX5_endOnLastDay_58 : decode cX5_endOnLastDay 58 = .ok (.aload_n 0, 1) := by decide +kernel
theorem dX5_endOnLastDay_59 : decode cX5_endOnLastDay 59 = .ok (.getfield 21, 3) := by decide +kernel
theorem dX5_endOnLastDay_62 : decode cX5_endOnLastDay 62 = .ok (.invokevirtual 144, 3) := by decide +kernel
theorem dX5_endOnLastDay_65 : decode cX5_endOnLastDay 65 = .ok (.iadd, 1) := by decide +kernel
theorem dX5_endOnLastDay_66 : decode cX5_endOnLastDay 66 = .ok (.i2l, 1) := by decide +kernel
theorem dX5_endOnLastDay_67 : decode cX5_endOnLastDay 67 = .ok (.invokevirtual 147, 3) := by decide +kernel
theorem dX5_endOnLastDay_70 : decode cX5_endOnLastDay 70 = .ok (.return_, 1) := by decide +kernel
theorem dX5_chooseBest_0 : decode cX5_chooseBest 0 = .ok (.aload_n 0, 1) := by decide +kernel
theorem dX5_chooseBest_1 : decode cX5_chooseBest 1 = .ok (.iload_n 1, 1) := by decide +kernel
theorem dX5_chooseBest_2 : decode cX5_chooseBest 2 = .ok (.invokevirtual 151, 3) := by decide +kernel
theorem dX5_chooseBest_5 : decode cX5_chooseBest 5 = .ok (.lstore_n 3, 1) := by decide +kernel
theorem dX5_chooseBest_6 : decode cX5_chooseBest 6 = .ok (.aload_n 0, 1) := by decide +kernel
theorem dX5_chooseBest_7 : decode cX5_chooseBest 7 = .ok (.getfield 21, 3) := by decide +kernel
theorem dX5_chooseBest_10 : decode cX5_chooseBest 10 = .ok (.iload_n 2, 1) := by decide +kernel
theorem dX5_chooseBest_11 : decode cX5_chooseBest 11 = .ok (.invokevirtual 154, 3) := by decide +kernel
theorem dX5_chooseBest_14 : decode cX5_chooseBest 14 = .ok (.i2l, 1) := by decide +kernel
theorem dX5_chooseBest_15 : decode cX5_chooseBest 15 = .ok (.lstore 5, 2) := by decide +kernel
theorem dX5_chooseBest_17 : decode cX5_chooseBest 17 = .ok (.aload_n 0, 1) := by decide +kernel
theorem dX5_chooseBest_18 : decode cX5_chooseBest 18 = .ok (.iload_n 1, 1) := by decide +kernel
theorem dX5_chooseBest_19 : decode cX5_chooseBest 19 = .ok (.invokevirtual 140, 3) := by decide +kernel
theorem dX5_chooseBest_22 : decode cX5_chooseBest 22 = .ok (.lstore 7, 2) := by decide +kernel
theorem dX5_chooseBest_24 : decode cX5_chooseBest 24 = .ok (.aload_n 0, 1) := by decide +kernel
theorem dX5_chooseBest_25 : decode cX5_chooseBest 25 = .ok (.iload_n 1, 1) := by decide +kernel
theorem dX5_chooseBest_26 : decode cX5_chooseBest 26 = .ok (.invokevirtual 157, 3) := by decide +kernel
theorem dX5_chooseBest_29 : decode cX5_chooseBest 29 = .ok (.lstore 9, 2) := by decide +kernel
theorem dX5_chooseBest_31 : decode cX5_chooseBest 31 = .ok (.lload 9, 2) := by decide +kernel
theorem dX5_chooseBest_33 : decode cX5_chooseBest 33 = .ok (.lconst 0, 1) := by decide +kernel
theorem dX5_chooseBest_34 : decode cX5_chooseBest 34 = .ok (.lcmp, 1) := by decide +kernel
theorem dX5_chooseBest_35 : decode cX5_chooseBest 35 = .ok (.ifCond .lt 14, 3) := by decide +kernel
theorem dX5_chooseBest_38 : decode cX5_chooseBest 38 = .ok (.lload 9, 2) := by decide +kernel
theorem dX5_chooseBest_40 : decode cX5_chooseBest 40 = .ok (.lload_n 3, 1) := by decide +kernel
theorem dX5_chooseBest_41 : decode cX5_chooseBest 41 = .ok (.lcmp, 1) := by decide +kernel
theorem dX5_chooseBest_42 : decode cX5_chooseBest 42 = .ok (.ifCond .ge 7, 3) := by decide +kernel
theorem dX5_chooseBest_45 : decode cX5_chooseBest 45 = .ok (.iconst 1, 1) := by decide +kernel
theorem dX5_chooseBest_46 : decode cX5_chooseBest 46 = .ok (.goto 4, 3) := by decide +kernel
theorem dX5_chooseBest_49 : decode cX5_chooseBest 49 = .ok (.iconst 0, 1) := by decide +kernel
theorem dX5_chooseBest_50 : decode cX5_chooseBest 50 = .ok (.istore 11, 2) := by decide +kernel
theorem dX5_chooseBest_52 : decode cX5_chooseBest 52 = .ok (.iload 11, 2) := by decide +kernel
theorem dX5_chooseBest_54 : decode cX5_chooseBest 54 = .ok (.ifCond .eq 8, 3) := by decide +kernel
theorem dX5_chooseBest_57 : decode cX5_chooseBest 57 = .ok (.lload 9, 2) := by decide +kernel
theorem dX5_chooseBest_59 : decode cX5_chooseBest 59 = .ok (.goto 4, 3) := by decide +kernel
theorem dX5_chooseBest_62 : decode cX5_chooseBest 62 = .ok (.lload_n 3, 1) := by decide +kernel
theorem dX5_chooseBest_63 : decode cX5_chooseBest 63 = .ok (.lload 5, 2) := by decide +kernel
theorem dX5_chooseBest_65 : decode cX5_chooseBest 65 = .ok (.lload 7, 2) := by decide +kernel
theorem dX5_chooseBest_67 : decode cX5_chooseBest 67 = .ok (.invokestatic 134, 3) := by decide +kernel
theorem dX5_chooseBest_70 : decode cX5_chooseBest 70 = .ok (.invokestatic 134, 3) := by decide +kernel
theorem dX5_chooseBest_73 : decode cX5_chooseBest 73 = .ok (.lstore 12, 2) := by decide +kernel
theorem dX5_chooseBest_75 : decode cX5_chooseBest 75 = .ok (.lload_n 3, 1) := by decide +kernel
theorem dX5_chooseBest_76 : decode cX5_chooseBest 76 = .ok (.lload 5, 2) := by decide +kernel
theorem dX5_chooseBest_78 : decode cX5_chooseBest 78 = .ok (.lload 7, 2) := by decide +kernel
theorem dX5_chooseBest_80 : decode cX5_chooseBest 80 = .ok (.invokestatic 160, 3) := by decide +kernel
theorem dX5_chooseBest_83 : decode cX5_chooseBest 83 = .ok (.istore 14, 2) := by decide +kernel
theorem dX5_chooseBest_85 : decode cX5_chooseBest 85 = .ok (.iload 11, 2) := by decide +kernel
theorem dX5_chooseBest_87 : decode cX5_chooseBest 87 = .ok (.ifCond .eq 23, 3) := by decide +kernel
theorem dX5_chooseBest_90 : decode cX5_chooseBest 90 = .ok (.lload 5, 2) := by decide +kernel
theorem dX5_chooseBest_92 : decode cX5_chooseBest 92 = .ok (.lload 9, 2) := by decide +kernel
theorem dX5_chooseBest_94 : decode cX5_chooseBest 94 = .ok (.lcmp, 1) := by decide +kernel
theorem dX5_chooseBest_95 : decode cX5_chooseBest 95 = .ok (.ifCond .le 7, 3) := by decide +kernel
theorem dX5_chooseBest_98 : decode cX5_chooseBest 98 = .ok (.iconst 1, 1) := by decide +kernel
theorem dX5_chooseBest_99 : decode cX5_chooseBest 99 = .ok (.goto 9, 3) := by decide +kernel
theorem dX5_chooseBest_102 : decode cX5_chooseBest 102 = .ok (.aload_n 0, 1) := by decide +kernel
theorem dX5_chooseBest_103 : decode cX5_chooseBest 103 = .ok (.iload_n 1, 1) := by decide +kernel
theorem dX5_chooseBest_104 : decode cX5_chooseBest 104 = .ok (.iload_n 2, 1) := by decide +kernel
theorem dX5_chooseBest_105 : decode cX5_chooseBest 105 = .ok (.invokevirtual 164, 3) := by decide +kernel
theorem dX5_chooseBest_108 : decode cX5_chooseBest 108 = .ok (.istore 14, 2) := by decide +kernel
theorem dX5_chooseBest_110 : decode cX5_chooseBest 110 = .ok (.aload_n 0, 1) := by decide +kernel
theorem dX5_chooseBest_111 : decode cX5_chooseBest 111 = .ok (.iload_n 1, 1) := by decide +kernel
theorem dX5_chooseBest_112 : decode cX5_chooseBest 112 = .ok (.lload_n 3, 1) := by decide +kernel
theorem dX5_chooseBest_113 : decode cX5_chooseBest 113 = .ok (.iload 14, 2) := by decide +kernel
theorem dX5_chooseBest_115 : decode cX5_chooseBest 115 = .ok (.aload_n 0, 1) := by decide +kernel
theorem dX5_chooseBest_116 : decode cX5_chooseBest 116 = .ok (.getfield 21, 3) := by decide +kernel
theorem dX5_chooseBest_119 : decode cX5_chooseBest 119 = .ok (.iload_n 2, 1) := by decide +kernel
theorem dX5_chooseBest_120 : decode cX5_chooseBest 120 = .ok (.invokevirtual 137, 3) := by decide +kernel
theorem dX5_chooseBest_123 : decode cX5_chooseBest 123 = .ok (.i2l, 1) := by decide +kernel
theorem dX5_chooseBest_124 : decode cX5_chooseBest 124 = .ok (.lload 12, 2) := by decide +kernel
theorem dX5_chooseBest_126 : decode cX5_chooseBest 126 = .ok (.ladd, 1) := by decide +kernel
theorem dX5_chooseBest_127 : decode cX5_chooseBest 127 = .ok (.invokevirtual 147, 3) := by decide +kernel
theorem dX5_chooseBest_130 : decode cX5_chooseBest 130 = .ok (.return_, 1) := by decide +kernel
theorem dX5_chooseByRule_0 : decode cX5_chooseByRule 0 = .ok (.aload_n 0, 1) := by decide +kernel
theorem dX5_chooseByRule_1 : decode cX5_chooseByRule 1 = .ok (.iload_n 1, 1) := by decide +kernel
theorem dX5_chooseByRule_2 : decode cX5_chooseByRule 2 = .ok (.invokevirtual 151, 3) := by decide +kernel
theorem dX5_chooseByRule_5 : decode cX5_chooseByRule 5 = .ok (.lstore 5, 2) := by decide +kernel
theorem dX5_chooseByRule_7 : decode cX5_chooseByRule 7 = .ok (.aload_n 0, 1) := by decide +kernel
theorem dX5_chooseByRule_8 : decode cX5_chooseByRule 8 = .ok (.getfield 21, 3) := by decide +kernel
theorem dX5_chooseByRule_11 : decode cX5_chooseByRule 11 = .ok (.iload_n 2, 1) := by decide +kernel
theorem dX5_chooseByRule_12 : decode cX5_chooseByRule 12 = .ok (.invokevirtual 137, 3) := by decide +kernel
theorem dX5_chooseByRule_15 : decode cX5_chooseByRule 15 = .ok (.istore 7, 2) := by decide +kernel
theorem dX5_chooseByRule_17 : decode cX5_chooseByRule 17 = .ok (.aload_n 0, 1) := by decide +kernel
theorem dX5_chooseByRule_18 : decode cX5_chooseByRule 18 = .ok (.iload_n 1, 1) := by decide +kernel
theorem dX5_chooseByRule_19 : decode cX5_chooseByRule 19 = .ok (.invokevirtual 140, 3) := by decide +kernel
theorem dX5_chooseByRule_22 : decode cX5_chooseByRule 22 = .ok (.lconst 0, 1) := by decide +kernel
theorem dX5_chooseByRule_23 : decode cX5_chooseByRule 23 = .ok (.lcmp, 1) := by decide +kernel
theorem dX5_chooseByRule_24 : decode cX5_chooseByRule 24 = .ok (.ifCond .lt 34, 3) := by decide +kernel
theorem dX5_chooseByRule_27 : decode cX5_chooseByRule 27 = .ok (.aload_n 0, 1) := by decide +kernel
theorem dX5_chooseByRule_28 : decode cX5_chooseByRule 28 = .ok (.iload_n 1, 1) := by decide +kernel
theorem dX5_chooseByRule_29 : decode cX5_chooseByRule 29 = .ok (.invokevirtual 167, 3) := by decide +kernel
theorem dX5_chooseByRule_32 : decode cX5_chooseByRule 32 = .ok (.iload_n 3, 1) := by decide +kernel
theorem dX5_chooseByRule_33 : decode cX5_chooseByRule 33 = .ok (.i2l, 1) := by decide +kernel
theorem dX5_chooseByRule_34 : decode cX5_chooseByRule 34 = .ok (.lcmp, 1) := by decide +kernel
theorem dX5_chooseByRule_35 : decode cX5_chooseByRule 35 = .ok (.ifCond .lt 23, 3) := by decide +kernel
theorem dX5_chooseByRule_38 : decode cX5_chooseByRule 38 = .ok (.aload_n 0, 1) := by decide +kernel
theorem dX5_chooseByRule_39 : decode cX5_chooseByRule 39 = .ok (.iload_n 1, 1) := by decide +kernel
theorem dX5_chooseByRule_40 : decode cX5_chooseByRule 40 = .ok (.lload 5, 2) := by decide +kernel
theorem dX5_chooseByRule_42 : decode cX5_chooseByRule 42 = .ok (.iconst 2, 1) := by decide +kernel
theorem dX5_chooseByRule_43 : decode cX5_chooseByRule 43 = .ok (.iload 7, 2) := by decide +kernel
theorem dX5_chooseByRule_45 : decode cX5_chooseByRule 45 = .ok (.i2l, 1) := by decide +kernel
theorem dX5_chooseByRule_46 : decode cX5_chooseByRule 46 = .ok (.aload_n 0, 1) := by decide +kernel
theorem dX5_chooseByRule_47 : decode cX5_chooseByRule 47 = .ok (.iload_n 1, 1) := by decide +kernel
theorem dX5_chooseByRule_48 : decode cX5_chooseByRule 48 = .ok (.invokevirtual 140, 3) := by decide +kernel
theorem dX5_chooseByRule_51 : decode cX5_chooseByRule 51 = .ok (.ladd, 1) := by decide +kernel
theorem dX5_chooseByRule_52 : decode cX5_chooseByRule 52 = .ok (.invokevirtual 147, 3) := by decide +kernel
theorem dX5_chooseByRule_55 : decode cX5_chooseByRule 55 = .ok (.goto 64, 3) := by decide +kernel
theorem dX5_chooseByRule_58 : decode cX5_chooseByRule 58 = .ok (.aload_n 0, 1) := by decide +kernel
theorem dX5_chooseByRule_59 : decode cX5_chooseByRule 59 = .ok (.iload_n 1, 1) := by decide +kernel
theorem dX5_chooseByRule_60 : decode cX5_chooseByRule 60 = .ok (.invokevirtual 157, 3) := by decide +kernel
theorem dX5_chooseByRule_63 : decode cX5_chooseByRule 63 = .ok (.lconst 0, 1) := by decide +kernel
theorem dX5_chooseByRule_64 : decode cX5_chooseByRule 64 = .ok (.lcmp, 1) := by decide +kernel
theorem dX5_chooseByRule_65 : decode cX5_chooseByRule 65 = .ok (.ifCond .lt 40, 3) := by decide +kernel
theorem dX5_chooseByRule_68 : decode cX5_chooseByRule 68 = .ok (.aload_n 0, 1) := by decide +kernel
theorem dX5_chooseByRule_69 : decode cX5_chooseByRule 69 = .ok (.iload_n 1, 1) := by decide +kernel
theorem dX5_chooseByRule_70 : decode cX5_chooseByRule 70 = .ok (.invokevirtual 167, 3) := by decide +kernel
theorem dX5_chooseByRule_73 : decode cX5_chooseByRule 73 = .ok (.iload 4, 2) := by decide +kernel
theorem dX5_chooseByRule_75 : decode cX5_chooseByRule 75 = .ok (.i2l, 1) := by decide +kernel
theorem dX5_chooseByRule_76 : decode cX5_chooseByRule 76 = .ok (.lcmp, 1) := by decide +kernel
theorem dX5_chooseByRule_77 : decode cX5_chooseByRule 77 = .ok (.ifCond .lt 28, 3) := by decide +kernel
theorem dX5_chooseByRule_80 : decode cX5_chooseByRule 80 = .ok (.aload_n 0, 1) := by decide +kernel
theorem dX5_chooseByRule_81 : decode cX5_chooseByRule 81 = .ok (.iload_n 1, 1) := by decide +kernel
theorem dX5_chooseByRule_82 : decode cX5_chooseByRule 82 = .ok (.lload 5, 2) := by decide +kernel
theorem dX5_chooseByRule_84 : decode cX5_chooseByRule 84 = .ok (.aload_n 0, 1) := by decide +kernel
theorem dX5_chooseByRule_85 : decode cX5_chooseByRule 85 = .ok (.iload_n 1, 1) := by decide +kernel
theorem dX5_chooseByRule_86 : decode cX5_chooseByRule 86 = .ok (.iload_n 2, 1) := by decide +kernel
theorem dX5_chooseByRule_87 : decode cX5_chooseByRule 87 = .ok (.invokevirtual 164, 3) := by decide +kernel
theorem dX5_chooseByRule_90 : decode cX5_chooseByRule 90 = .ok (.iload 7, 2) := by decide +kernel
theorem dX5_chooseByRule_92 : decode cX5_chooseByRule 92 = .ok (.i2l, 1) := by decide +kernel
theorem dX5_chooseByRule_93 : decode cX5_chooseByRule 93 = .ok (.aload_n 0, 1) := by decide +kernel
theorem dX5_chooseByRule_94 : decode cX5_chooseByRule 94 = .ok (.iload_n 1, 1) := by decide +kernel
theorem dX5_chooseByRule_95 : decode cX5_chooseByRule 95 = .ok (.invokevirtual 157, 3) := by decide +kernel
theorem dX5_chooseByRule_98 : decode cX5_chooseByRule 98 = .ok (.ladd, 1) := by decide +kernel
theorem dX5_chooseByRule_99 : decode cX5_chooseByRule 99 = .ok (.invokevirtual 147, 3) := by decide +kernel
theorem dX5_chooseByRule_102 : decode cX5_chooseByRule 102 = .ok (.goto 17, 3) := by decide +kernel
theorem dX5_chooseByRule_105 : decode cX5_chooseByRule 105 = .ok (.aload_n 0, 1) := by decide +kernel
theorem dX5_chooseByRule_106 : decode cX5_chooseByRule 106 = .ok (.iload_n 1, 1) := by decide +kernel
theorem dX5_chooseByRule_107 : decode cX5_chooseByRule 107 = .ok (.lload 5, 2) := by decide +kernel
theorem dX5_chooseByRule_109 : decode cX5_chooseByRule 109 = .ok (.iconst 0, 1) := by decide +kernel
theorem dX5_chooseByRule_110 : decode cX5_chooseByRule 110 = .ok (.iload 7, 2) := by decide +kernel
theorem dX5_chooseByRule_112 : decode cX5_chooseByRule 112 = .ok (.i2l, 1) := by decide +kernel
theorem dX5_chooseByRule_113 : decode cX5_chooseByRule 113 = .ok (.lload 5, 2) := by decide +kernel
theorem dX5_chooseByRule_115 : decode cX5_chooseByRule 115 = .ok (.ladd, 1) := by decide +kernel
theorem dX5_chooseByRule_116 : decode cX5_chooseByRule 116 = .ok (.invokevirtual 147, 3) := by decide +kernel
theorem dX5_chooseByRule_119 : decode cX5_chooseByRule 119 = .ok (.return_, 1) := by decide +kernel
theorem dX5_lookBack_0 : decode cX5_lookBack 0 = .ok (.aload_n 0, 1) := by decide +kernel
theorem dX5_lookBack_1 : decode cX5_lookBack 1 = .ok (.getfield 12, 3) := by decide +kernel
theorem dX5_lookBack_4 : decode cX5_lookBack 4 = .ok (.aload_n 0, 1) := by decide +kernel
theorem dX5_lookBack_5 : decode cX5_lookBack 5 = .ok (.iload_n 1, 1) := by decide +kernel
theorem dX5_lookBack_6 : decode cX5_lookBack 6 = .ok (.iconst 1, 1) := by decide +kernel
theorem dX5_lookBack_7 : decode cX5_lookBack 7 = .ok (.invokestatic 170, 3) := by decide +kernel
theorem dX5_lookBack_10 : decode cX5_lookBack 10 = .ok (.invokevirtual 174, 3) := by decide +kernel
theorem dX5_lookBack_13 : decode cX5_lookBack 13 = .ok (.aload_n 0, 1) := by decide +kernel
theorem dX5_lookBack_14 : decode cX5_lookBack 14 = .ok (.iload_n 1, 1) := by decide +kernel
theorem dX5_lookBack_15 : decode cX5_lookBack 15 = .ok (.iconst 0, 1) := by decide +kernel
theorem dX5_lookBack_16 : decode cX5_lookBack 16 = .ok (.invokestatic 170, 3) := by decide +kernel
theorem dX5_lookBack_19 : decode cX5_lookBack 19 = .ok (.invokevirtual 174, 3) := by decide +kernel
theorem dX5_lookBack_22 : decode cX5_lookBack 22 = .ok (.invokevirtual 177, 3) := by decide +kernel
theorem dX5_lookBack_25 : decode cX5_lookBack 25 = .ok (.lreturn, 1) := by decide +kernel
theorem dX5_setRow_0 : decode cX5_setRow 0 = .ok (.iload_n 1, 1) := by decide +kernel
theorem dX5_setRow_1 : decode cX5_setRow 1 = .ok (.invokestatic 71, 3) := by decide +kernel
theorem dX5_setRow_4 : decode cX5_setRow 4 = .ok (.ifCond .eq 26, 3) := by decide +kernel
theorem dX5_setRow_7 : decode cX5_setRow 7 = .ok (.aload_n 0, 1) := by decide +kernel
theorem dX5_setRow_8 : decode cX5_setRow 8 = .ok (.getfield 38, 3) := by decide +kernel
theorem dX5_setRow_11 : decode cX5_setRow 11 = .ok (.iload_n 1, 1) := by decide +kernel
theorem dX5_setRow_12 : decode cX5_setRow 12 = .ok (.lload_n 2, 1) := by decide +kernel
theorem dX5_setRow_13 : decode cX5_setRow 13 = .ok (.lastore, 1) := by decide +kernel
theorem dX5_setRow_14 : decode cX5_setRow 14 = .ok (.aload_n 0, 1) := by decide +kernel
theorem dX5_setRow_15 : decode cX5_setRow 15 = .ok (.getfield 48, 3) := by decide +kernel
theorem dX5_setRow_18 : decode cX5_setRow 18 = .ok (.iload_n 1, 1) := by decide +kernel
theorem dX5_setRow_19 : decode cX5_setRow 19 = .ok (.iload 4, 2) := by decide +kernel
theorem dX5_setRow_21 : decode cX5_setRow 21 = .ok (.iastore, 1) := by decide +kernel
theorem dX5_setRow_22 : decode cX5_setRow 22 = .ok (.aload_n 0, 1) := by decide +kernel
theorem dX5_setRow_23 : decode cX5_setRow 23 = .ok (.getfield 41, 3) := by decide +kernel
theorem dX5_setRow_26 : decode cX5_setRow 26 = .ok (.iload_n 1, 1) := by decide +kernel
theorem dX5_setRow_27 : decode cX5_setRow 27 = .ok (.lload 5, 2) := by decide +kernel
theorem dX5_setRow_29 : decode cX5_setRow 29 = .ok (.lastore, 1) := by decide +kernel
theorem dX5_setRow_30 : decode cX5_setRow 30 = .ok (.return_, 1) := by decide +kernel
theorem dX5_actOfCall_0 : decode cX5_actOfCall 0 = .ok (.aload_n 0, 1) := by decide +kernel
theorem dX5_actOfCall_1 : decode cX5_actOfCall 1 = .ok (.iload_n 1, 1) := by decide +kernel
theorem dX5_actOfCall_2 : decode cX5_actOfCall 2 = .ok (.invokevirtual 140, 3) := by decide +kernel
theorem dX5_actOfCall_5 : decode cX5_actOfCall 5 = .ok (.aload_n 0, 1) := by decide +kernel
theorem dX5_actOfCall_6 : decode cX5_actOfCall 6 = .ok (.getfield 21, 3) := by decide +kernel
theorem dX5_actOfCall_9 : decode cX5_actOfCall 9 = .ok (.iload_n 2, 1) := by decide +kernel
theorem dX5_actOfCall_10 : decode cX5_actOfCall 10 = .ok (.invokevirtual 125, 3) := by decide +kernel
theorem dX5_actOfCall_13 : decode cX5_actOfCall 13 = .ok (.i2l, 1) := by decide +kernel
theorem dX5_actOfCall_14 : decode cX5_actOfCall 14 = .ok (.lcmp, 1) := by decide +kernel
theorem dX5_actOfCall_15 : decode cX5_actOfCall 15 = .ok (.ifCond .le 7, 3) := by decide +kernel
theorem dX5_actOfCall_18 : decode cX5_actOfCall 18 = .ok (.iconst 4, 1) := by decide +kernel
theorem dX5_actOfCall_19 : decode cX5_actOfCall 19 = .ok (.goto 4, 3) := by decide +kernel
theorem dX5_actOfCall_22 : decode cX5_actOfCall 22 = .ok (.iconst 3, 1) := by decide +kernel
theorem dX5_actOfCall_23 : decode cX5_actOfCall 23 = .ok (.ireturn, 1) := by decide +kernel
theorem dX5_actWhenNotCalled_0 : decode cX5_actWhenNotCalled 0 = .ok (.lload_n 2, 1) := by decide +kernel
theorem dX5_actWhenNotCalled_1 : decode cX5_actWhenNotCalled 1 = .ok (.lload_n 0, 1) := by decide +kernel
theorem dX5_actWhenNotCalled_2 : decode cX5_actWhenNotCalled 2 = .ok (.lcmp, 1) := by decide +kernel
theorem dX5_actWhenNotCalled_3 : decode cX5_actWhenNotCalled 3 = .ok (.ifCond .gt 12, 3) := by decide +kernel
theorem dX5_actWhenNotCalled_6 : decode cX5_actWhenNotCalled 6 = .ok (.lload 4, 2) := by decide +kernel
theorem dX5_actWhenNotCalled_8 : decode cX5_actWhenNotCalled 8 = .ok (.lload_n 0, 1) := by decide +kernel
theorem dX5_actWhenNotCalled_9 : decode cX5_actWhenNotCalled 9 = .ok (.lcmp, 1) := by decide +kernel
theorem dX5_actWhenNotCalled_10 : decode cX5_actWhenNotCalled 10 = .ok (.ifCond .gt 5, 3) := by decide +kernel
theorem dX5_actWhenNotCalled_13 : decode cX5_actWhenNotCalled 13 = .ok (.iconst 0, 1) := by decide +kernel
theorem dX5_actWhenNotCalled_14 : decode cX5_actWhenNotCalled 14 = .ok (.ireturn, 1) := by decide +kernel
theorem dX5_actWhenNotCalled_15 : decode cX5_actWhenNotCalled 15 = .ok (.lload_n 2, 1) := by decide +kernel
theorem dX5_actWhenNotCalled_16 : decode cX5_actWhenNotCalled 16 = .ok (.lconst 0, 1) := by decide +kernel
theorem dX5_actWhenNotCalled_17 : decode cX5_actWhenNotCalled 17 = .ok (.lcmp, 1) := by decide +kernel
theorem dX5_actWhenNotCalled_18 : decode cX5_actWhenNotCalled 18 = .ok (.ifCond .lt 14, 3) := by decide +kernel
theorem dX5_actWhenNotCalled_21 : decode cX5_actWhenNotCalled 21 = .ok (.lload_n 2, 1) := by decide +kernel
theorem dX5_actWhenNotCalled_22 : decode cX5_actWhenNotCalled 22 = .ok (.lload 4, 2) := by decide +kernel
theorem dX5_actWhenNotCalled_24 : decode cX5_actWhenNotCalled 24 = .ok (.lcmp, 1) := by decide +kernel
theorem dX5_actWhenNotCalled_25 : decode cX5_actWhenNotCalled 25 = .ok (.ifCond .lt 7, 3) := by decide +kernel
theorem dX5_actWhenNotCalled_28 : decode cX5_actWhenNotCalled 28 = .ok (.iconst 1, 1) := by decide +kernel
theorem dX5_actWhenNotCalled_29 : decode cX5_actWhenNotCalled 29 = .ok (.goto 4, 3) := by decide +kernel
theorem dX5_actWhenNotCalled_32 : decode cX5_actWhenNotCalled 32 = .ok (.iconst 2, 1) := by decide +kernel
theorem dX5_actWhenNotCalled_33 : decode cX5_actWhenNotCalled 33 = .ok (.ireturn, 1) := by decide +kernel
theorem dX5_givesInstead_0 : decode cX5_givesInstead 0 = .ok (.iload_n 1, 1) := by decide +kernel
theorem dX5_givesInstead_1 : decode cX5_givesInstead 1 = .ok (.invokestatic 83, 3) := by decide +kernel
theorem dX5_givesInstead_4 : decode cX5_givesInstead 4 = .ok (.istore_n 3, 1) := by decide +kernel
theorem dX5_givesInstead_5 : decode cX5_givesInstead 5 = .ok (.iload_n 3, 1) := by decide +kernel
theorem dX5_givesInstead_6 : decode cX5_givesInstead 6 = .ok (.aload_n 0, 1) := by decide +kernel
theorem dX5_givesInstead_7 : decode cX5_givesInstead 7 = .ok (.getfield 12, 3) := by decide +kernel
theorem dX5_givesInstead_10 : decode cX5_givesInstead 10 = .ok (.invokevirtual 61, 3) := by decide +kernel
theorem dX5_givesInstead_13 : decode cX5_givesInstead 13 = .ok (.if_icmp .lt 7, 3) := by decide +kernel
theorem dX5_givesInstead_16 : decode cX5_givesInstead 16 = .ok (.iconst 1, 1) := by decide +kernel
theorem dX5_givesInstead_17 : decode cX5_givesInstead 17 = .ok (.goto 4, 3) := by decide +kernel
theorem dX5_givesInstead_20 : decode cX5_givesInstead 20 = .ok (.iconst 0, 1) := by decide +kernel
theorem dX5_givesInstead_21 : decode cX5_givesInstead 21 = .ok (.istore 4, 2) := by decide +kernel
theorem dX5_givesInstead_23 : decode cX5_givesInstead 23 = .ok (.ldc2_w 75, 3) := by decide +kernel
theorem dX5_givesInstead_26 : decode cX5_givesInstead 26 = .ok (.lstore 5, 2) := by decide +kernel
theorem dX5_givesInstead_28 : decode cX5_givesInstead 28 = .ok (.iload_n 2, 1) := by decide +kernel
theorem dX5_givesInstead_29 : decode cX5_givesInstead 29 = .ok (.tableswitch 88 0 2 #[27, 53, 78], 27) := by decide +kernel
theorem dX5_givesInstead_56 : decode cX5_givesInstead 56 = .ok (.iload 4, 2) := by decide +kernel
theorem dX5_givesInstead_58 : decode cX5_givesInstead 58 = .ok (.ifCond .eq 14, 3) := by decide +kernel
theorem dX5_givesInstead_61 : decode cX5_givesInstead 61 = .ok (.aload_n 0, 1) := by decide +kernel
theorem dX5_givesInstead_62 : decode cX5_givesInstead 62 = .ok (.getfield 21, 3) := by decide +kernel
theorem dX5_givesInstead_65 : decode cX5_givesInstead 65 = .ok (.invokevirtual 144, 3) := by decide +kernel
theorem dX5_givesInstead_68 : decode cX5_givesInstead 68 = .ok (.i2l, 1) := by decide +kernel
theorem dX5_givesInstead_69 : decode cX5_givesInstead 69 = .ok (.goto 8, 3) := by decide +kernel
theorem dX5_givesInstead_72 : decode cX5_givesInstead 72 = .ok (.aload_n 0, 1) := by decide +kernel
theorem dX5_givesInstead_73 : decode cX5_givesInstead 73 = .ok (.iload_n 1, 1) := by decide +kernel
theorem dX5_givesInstead_74 : decode cX5_givesInstead 74 = .ok (.invokevirtual 180, 3) := by decide +kernel
theorem dX5_givesInstead_77 : decode cX5_givesInstead 77 = .ok (.lstore 5, 2) := by decide +kernel
theorem dX5_givesInstead_79 : decode cX5_givesInstead 79 = .ok (.goto 56, 3) := by decide +kernel
theorem dX5_givesInstead_82 : decode cX5_givesInstead 82 = .ok (.iload 4, 2) := by decide +kernel
theorem dX5_givesInstead_84 : decode cX5_givesInstead 84 = .ok (.ifCond .eq 9, 3) := by decide +kernel
theorem dX5_givesInstead_87 : decode cX5_givesInstead 87 = .ok (.ldc2_w 75, 3) := by decide +kernel
theorem dX5_givesInstead_90 : decode cX5_givesInstead 90 = .ok (.goto 12, 3) := by decide +kernel
theorem dX5_givesInstead_93 : decode cX5_givesInstead 93 = .ok (.aload_n 0, 1) := by decide +kernel
theorem dX5_givesInstead_94 : decode cX5_givesInstead 94 = .ok (.getfield 21, 3) := by decide +kernel
theorem dX5_givesInstead_97 : decode cX5_givesInstead 97 = .ok (.iload_n 3, 1) := by decide +kernel
theorem dX5_givesInstead_98 : decode cX5_givesInstead 98 = .ok (.invokevirtual 154, 3) := by decide +kernel
theorem dX5_givesInstead_101 : decode cX5_givesInstead 101 = .ok (.i2l, 1) := by decide +kernel
theorem dX5_givesInstead_102 : decode cX5_givesInstead 102 = .ok (.lstore 5, 2) := by decide +kernel
theorem dX5_givesInstead_104 : decode cX5_givesInstead 104 = .ok (.goto 31, 3) := by decide +kernel
theorem dX5_givesInstead_107 : decode cX5_givesInstead 107 = .ok (.aload_n 0, 1) := by decide +kernel
theorem dX5_givesInstead_108 : decode cX5_givesInstead 108 = .ok (.iload_n 1, 1) := by decide +kernel
theorem dX5_givesInstead_109 : decode cX5_givesInstead 109 = .ok (.invokevirtual 140, 3) := by decide +kernel
theorem dX5_givesInstead_112 : decode cX5_givesInstead 112 = .ok (.lstore 5, 2) := by decide +kernel
theorem dX5_givesInstead_114 : decode cX5_givesInstead 114 = .ok (.goto 21, 3) := by decide +kernel
theorem dX5_givesInstead_117 : decode cX5_givesInstead 117 = .ok (.iload 4, 2) := by decide +kernel
theorem dX5_givesInstead_119 : decode cX5_givesInstead 119 = .ok (.ifCond .eq 9, 3) := by decide +kernel
theorem dX5_givesInstead_122 : decode cX5_givesInstead 122 = .ok (.ldc2_w 75, 3) := by decide +kernel
theorem dX5_givesInstead_125 : decode cX5_givesInstead 125 = .ok (.goto 8, 3) := by decide +kernel
theorem dX5_givesInstead_128 : decode cX5_givesInstead 128 = .ok (.aload_n 0, 1) := by decide +kernel
theorem dX5_givesInstead_129 : decode cX5_givesInstead 129 = .ok (.iload_n 1, 1) := by decide +kernel
theorem dX5_givesInstead_130 : decode cX5_givesInstead 130 = .ok (.invokevirtual 157, 3) := by decide +kernel
theorem dX5_givesInstead_133 : decode cX5_givesInstead 133 = .ok (.lstore 5, 2) := by decide +kernel
theorem dX5_givesInstead_135 : decode cX5_givesInstead 135 = .ok (.lload 5, 2) := by decide +kernel
theorem dX5_givesInstead_137 : decode cX5_givesInstead 137 = .ok (.lconst 0, 1) := by decide +kernel
theorem dX5_givesInstead_138 : decode cX5_givesInstead 138 = .ok (.lcmp, 1) := by decide +kernel
theorem dX5_givesInstead_139 : decode cX5_givesInstead 139 = .ok (.ifCond .ge 9, 3) := by decide +kernel
theorem dX5_givesInstead_142 : decode cX5_givesInstead 142 = .ok (.ldc2_w 75, 3) := by decide +kernel
theorem dX5_givesInstead_145 : decode cX5_givesInstead 145 = .ok (.goto 15, 3) := by decide +kernel
theorem dX5_givesInstead_148 : decode cX5_givesInstead 148 = .ok (.aload_n 0, 1) := by decide +kernel
theorem dX5_givesInstead_149 : decode cX5_givesInstead 149 = .ok (.getfield 21, 3) := by decide +kernel
theorem dX5_givesInstead_152 : decode cX5_givesInstead 152 = .ok (.iload_n 3, 1) := by decide +kernel
theorem dX5_givesInstead_153 : decode cX5_givesInstead 153 = .ok (.invokevirtual 137, 3) := by decide +kernel
theorem dX5_givesInstead_156 : decode cX5_givesInstead 156 = .ok (.i2l, 1) := by decide +kernel
theorem dX5_givesInstead_157 : decode cX5_givesInstead 157 = .ok (.lload 5, 2) := by decide +kernel
theorem dX5_givesInstead_159 : decode cX5_givesInstead 159 = .ok (.ladd, 1) := by decide +kernel
theorem dX5_givesInstead_160 : decode cX5_givesInstead 160 = .ok (.lreturn, 1) := by decide +kernel
theorem dX5_paidByAct_0 : decode cX5_paidByAct 0 = .ok (.aload_n 0, 1) := by decide +kernel
theorem dX5_paidByAct_1 : decode cX5_paidByAct 1 = .ok (.iload_n 1, 1) := by decide +kernel
theorem dX5_paidByAct_2 : decode cX5_paidByAct 2 = .ok (.invokevirtual 183, 3) := by decide +kernel
theorem dX5_paidByAct_5 : decode cX5_paidByAct 5 = .ok (.tableswitch 76 0 5 #[39, 41, 76, 54, 76, 67], 39) := by decide +kernel
theorem dX5_paidByAct_44 : decode cX5_paidByAct 44 = .ok (.lconst 0, 1) := by decide +kernel
theorem dX5_paidByAct_45 : decode cX5_paidByAct 45 = .ok (.lreturn, 1) := by decide +kernel
theorem dX5_paidByAct_46 : decode cX5_paidByAct 46 = .ok (.aload_n 0, 1) := by decide +kernel
theorem dX5_paidByAct_47 : decode cX5_paidByAct 47 = .ok (.getfield 21, 3) := by decide +kernel
theorem dX5_paidByAct_50 : decode cX5_paidByAct 50 = .ok (.iload_n 1, 1) := by decide +kernel
theorem dX5_paidByAct_51 : decode cX5_paidByAct 51 = .ok (.invokestatic 83, 3) := by decide +kernel
theorem dX5_paidByAct_54 : decode cX5_paidByAct 54 = .ok (.invokevirtual 154, 3) := by decide +kernel
theorem dX5_paidByAct_57 : decode cX5_paidByAct 57 = .ok (.i2l, 1) := by decide +kernel
theorem dX5_paidByAct_58 : decode cX5_paidByAct 58 = .ok (.lreturn, 1) := by decide +kernel
theorem dX5_paidByAct_59 : decode cX5_paidByAct 59 = .ok (.aload_n 0, 1) := by decide +kernel
theorem dX5_paidByAct_60 : decode cX5_paidByAct 60 = .ok (.getfield 21, 3) := by decide +kernel
theorem dX5_paidByAct_63 : decode cX5_paidByAct 63 = .ok (.iload_n 1, 1) := by decide +kernel
theorem dX5_paidByAct_64 : decode cX5_paidByAct 64 = .ok (.invokestatic 83, 3) := by decide +kernel
theorem dX5_paidByAct_67 : decode cX5_paidByAct 67 = .ok (.invokevirtual 125, 3) := by decide +kernel
theorem dX5_paidByAct_70 : decode cX5_paidByAct 70 = .ok (.i2l, 1) := by decide +kernel
theorem dX5_paidByAct_71 : decode cX5_paidByAct 71 = .ok (.lreturn, 1) := by decide +kernel
theorem dX5_paidByAct_72 : decode cX5_paidByAct 72 = .ok (.aload_n 0, 1) := by decide +kernel
theorem dX5_paidByAct_73 : decode cX5_paidByAct 73 = .ok (.getfield 21, 3) := by decide +kernel
theorem dX5_paidByAct_76 : decode cX5_paidByAct 76 = .ok (.invokevirtual 144, 3) := by decide +kernel
theorem dX5_paidByAct_79 : decode cX5_paidByAct 79 = .ok (.i2l, 1) := by decide +kernel
theorem dX5_paidByAct_80 : decode cX5_paidByAct 80 = .ok (.lreturn, 1) := by decide +kernel
theorem dX5_paidByAct_81 : decode cX5_paidByAct 81 = .ok (.aload_n 0, 1) := by decide +kernel
theorem dX5_paidByAct_82 : decode cX5_paidByAct 82 = .ok (.iload_n 1, 1) := by decide +kernel
theorem dX5_paidByAct_83 : decode cX5_paidByAct 83 = .ok (.invokevirtual 140, 3) := by decide +kernel
theorem dX5_paidByAct_86 : decode cX5_paidByAct 86 = .ok (.lreturn, 1) := by decide +kernel
theorem dX5_sharesHeld_0 : decode cX5_sharesHeld 0 = .ok (.iload_n 1, 1) := by decide +kernel
theorem dX5_sharesHeld_1 : decode cX5_sharesHeld 1 = .ok (.invokestatic 83, 3) := by decide +kernel
theorem dX5_sharesHeld_4 : decode cX5_sharesHeld 4 = .ok (.aload_n 0, 1) := by decide +kernel
theorem dX5_sharesHeld_5 : decode cX5_sharesHeld 5 = .ok (.getfield 12, 3) := by decide +kernel
theorem dX5_sharesHeld_8 : decode cX5_sharesHeld 8 = .ok (.invokevirtual 61, 3) := by decide +kernel
theorem dX5_sharesHeld_11 : decode cX5_sharesHeld 11 = .ok (.if_icmp .lt 7, 3) := by decide +kernel
theorem dX5_sharesHeld_14 : decode cX5_sharesHeld 14 = .ok (.ldc2_w 75, 3) := by decide +kernel
theorem dX5_sharesHeld_17 : decode cX5_sharesHeld 17 = .ok (.lreturn, 1) := by decide +kernel
theorem dX5_sharesHeld_18 : decode cX5_sharesHeld 18 = .ok (.iload_n 1, 1) := by decide +kernel
theorem dX5_sharesHeld_19 : decode cX5_sharesHeld 19 = .ok (.iconst 1, 1) := by decide +kernel
theorem dX5_sharesHeld_20 : decode cX5_sharesHeld 20 = .ok (.invokestatic 170, 3) := by decide +kernel
theorem dX5_sharesHeld_23 : decode cX5_sharesHeld 23 = .ok (.istore_n 2, 1) := by decide +kernel
theorem dX5_sharesHeld_24 : decode cX5_sharesHeld 24 = .ok (.iload_n 1, 1) := by decide +kernel
theorem dX5_sharesHeld_25 : decode cX5_sharesHeld 25 = .ok (.iconst 0, 1) := by decide +kernel
theorem dX5_sharesHeld_26 : decode cX5_sharesHeld 26 = .ok (.invokestatic 170, 3) := by decide +kernel
theorem dX5_sharesHeld_29 : decode cX5_sharesHeld 29 = .ok (.istore_n 3, 1) := by decide +kernel
theorem dX5_sharesHeld_30 : decode cX5_sharesHeld 30 = .ok (.aload_n 0, 1) := by decide +kernel
theorem dX5_sharesHeld_31 : decode cX5_sharesHeld 31 = .ok (.iload_n 2, 1) := by decide +kernel
theorem dX5_sharesHeld_32 : decode cX5_sharesHeld 32 = .ok (.invokevirtual 167, 3) := by decide +kernel
theorem dX5_sharesHeld_35 : decode cX5_sharesHeld 35 = .ok (.aload_n 0, 1) := by decide +kernel
theorem dX5_sharesHeld_36 : decode cX5_sharesHeld 36 = .ok (.iload_n 3, 1) := by decide +kernel
theorem dX5_sharesHeld_37 : decode cX5_sharesHeld 37 = .ok (.invokevirtual 167, 3) := by decide +kernel
theorem dX5_sharesHeld_40 : decode cX5_sharesHeld 40 = .ok (.lsub, 1) := by decide +kernel
theorem dX5_sharesHeld_41 : decode cX5_sharesHeld 41 = .ok (.lstore 4, 2) := by decide +kernel
theorem dX5_sharesHeld_43 : decode cX5_sharesHeld 43 = .ok (.lload 4, 2) := by decide +kernel
theorem dX5_sharesHeld_45 : decode cX5_sharesHeld 45 = .ok (.lconst 0, 1) := by decide +kernel
theorem dX5_sharesHeld_46 : decode cX5_sharesHeld 46 = .ok (.lcmp, 1) := by decide +kernel
theorem dX5_sharesHeld_47 : decode cX5_sharesHeld 47 = .ok (.ifCond .ne 9, 3) := by decide +kernel
theorem dX5_sharesHeld_50 : decode cX5_sharesHeld 50 = .ok (.ldc2_w 186, 3) := by decide +kernel
theorem dX5_sharesHeld_53 : decode cX5_sharesHeld 53 = .ok (.goto 23, 3) := by decide +kernel
theorem dX5_sharesHeld_56 : decode cX5_sharesHeld 56 = .ok (.ldc2_w 188, 3) := by decide +kernel
theorem dX5_sharesHeld_59 : decode cX5_sharesHeld 59 = .ok (.aload_n 0, 1) := by decide +kernel
theorem dX5_sharesHeld_60 : decode cX5_sharesHeld 60 = .ok (.iload_n 2, 1) := by decide +kernel
theorem dX5_sharesHeld_61 : decode cX5_sharesHeld 61 = .ok (.invokevirtual 174, 3) := by decide +kernel
theorem dX5_sharesHeld_64 : decode cX5_sharesHeld 64 = .ok (.aload_n 0, 1) := by decide +kernel
theorem dX5_sharesHeld_65 : decode cX5_sharesHeld 65 = .ok (.iload_n 3, 1) := by decide +kernel
theorem dX5_sharesHeld_66 : decode cX5_sharesHeld 66 = .ok (.invokevirtual 174, 3) := by decide +kernel
theorem dX5_sharesHeld_69 : decode cX5_sharesHeld 69 = .ok (.lsub, 1) := by decide +kernel
theorem dX5_sharesHeld_70 : decode cX5_sharesHeld 70 = .ok (.lmul, 1) := by decide +kernel
theorem dX5_sharesHeld_71 : decode cX5_sharesHeld 71 = .ok (.lload 4, 2) := by decide +kernel
theorem dX5_sharesHeld_73 : decode cX5_sharesHeld 73 = .ok (.invokestatic 190, 3) := by decide +kernel
theorem dX5_sharesHeld_76 : decode cX5_sharesHeld 76 = .ok (.lreturn, 1) := by decide +kernel
theorem dX5_endAlong_0 : decode cX5_endAlong 0 = .ok (.iconst 0, 1) := by decide +kernel
theorem dX5_endAlong_1 : decode cX5_endAlong 1 = .ok (.istore_n 2, 1) := by decide +kernel
theorem dX5_endAlong_2 : decode cX5_endAlong 2 = .ok (.iload_n 2, 1) := by decide +kernel
theorem dX5_endAlong_3 : decode cX5_endAlong 3 = .ok (.iload_n 1, 1) := by decide +kernel
theorem dX5_endAlong_4 : decode cX5_endAlong 4 = .ok (.invokestatic 83, 3) := by decide +kernel
theorem dX5_endAlong_7 : decode cX5_endAlong 7 = .ok (.if_icmp .gt 25, 3) := by decide +kernel
theorem dX5_endAlong_10 : decode cX5_endAlong 10 = .ok (.iload_n 1, 1) := by decide +kernel
theorem dX5_endAlong_11 : decode cX5_endAlong 11 = .ok (.iload_n 2, 1) := by decide +kernel
theorem dX5_endAlong_12 : decode cX5_endAlong 12 = .ok (.invokestatic 193, 3) := by decide +kernel
theorem dX5_endAlong_15 : decode cX5_endAlong 15 = .ok (.istore_n 3, 1) := by decide +kernel
theorem dX5_endAlong_16 : decode cX5_endAlong 16 = .ok (.aload_n 0, 1) := by decide +kernel
theorem dX5_endAlong_17 : decode cX5_endAlong 17 = .ok (.iload_n 3, 1) := by decide +kernel
theorem dX5_endAlong_18 : decode cX5_endAlong 18 = .ok (.invokevirtual 183, 3) := by decide +kernel
theorem dX5_endAlong_21 : decode cX5_endAlong 21 = .ok (.ifCond .eq 5, 3) := by decide +kernel
theorem dX5_endAlong_24 : decode cX5_endAlong 24 = .ok (.iload_n 3, 1) := by decide +kernel
theorem dX5_endAlong_25 : decode cX5_endAlong 25 = .ok (.ireturn, 1) := by decide +kernel
theorem dX5_endAlong_26 : decode cX5_endAlong 26 = .ok (.iinc 2 1, 3) := by decide +kernel
theorem dX5_endAlong_29 : decode cX5_endAlong 29 = .ok (.goto (-27), 3) := by decide +kernel
theorem dX5_endAlong_32 : decode cX5_endAlong 32 = .ok (.iconst 0, 1) := by decide +kernel
theorem dX5_endAlong_33 : decode cX5_endAlong 33 = .ok (.ireturn, 1) := by decide +kernel
theorem dX5_paidUpTo_0 : decode cX5_paidUpTo 0 = .ok (.aload_n 0, 1) := by decide +kernel
theorem dX5_paidUpTo_1 : decode cX5_paidUpTo 1 = .ok (.iload_n 1, 1) := by decide +kernel
theorem dX5_paidUpTo_2 : decode cX5_paidUpTo 2 = .ok (.invokevirtual 196, 3) := by decide +kernel
theorem dX5_paidUpTo_5 : decode cX5_paidUpTo 5 = .ok (.lstore_n 2, 1) := by decide +kernel
theorem dX5_paidUpTo_6 : decode cX5_paidUpTo 6 = .ok (.iconst 1, 1) := by decide +kernel
theorem dX5_paidUpTo_7 : decode cX5_paidUpTo 7 = .ok (.istore 4, 2) := by decide +kernel
theorem dX5_paidUpTo_9 : decode cX5_paidUpTo 9 = .ok (.iload 4, 2) := by decide +kernel
theorem dX5_paidUpTo_11 : decode cX5_paidUpTo 11 = .ok (.iload_n 1, 1) := by decide +kernel
theorem dX5_paidUpTo_12 : decode cX5_paidUpTo 12 = .ok (.invokestatic 83, 3) := by decide +kernel
theorem dX5_paidUpTo_15 : decode cX5_paidUpTo 15 = .ok (.if_icmp .gt 22, 3) := by decide +kernel
theorem dX5_paidUpTo_18 : decode cX5_paidUpTo 18 = .ok (.lload_n 2, 1) := by decide +kernel
theorem dX5_paidUpTo_19 : decode cX5_paidUpTo 19 = .ok (.aload_n 0, 1) := by decide +kernel
theorem dX5_paidUpTo_20 : decode cX5_paidUpTo 20 = .ok (.getfield 21, 3) := by decide +kernel
theorem dX5_paidUpTo_23 : decode cX5_paidUpTo 23 = .ok (.iload 4, 2) := by decide +kernel
theorem dX5_paidUpTo_25 : decode cX5_paidUpTo 25 = .ok (.invokevirtual 137, 3) := by decide +kernel
theorem dX5_paidUpTo_28 : decode cX5_paidUpTo 28 = .ok (.i2l, 1) := by decide +kernel
theorem dX5_paidUpTo_29 : decode cX5_paidUpTo 29 = .ok (.ladd, 1) := by decide +kernel
theorem dX5_paidUpTo_30 : decode cX5_paidUpTo 30 = .ok (.lstore_n 2, 1) := by decide +kernel
theorem dX5_paidUpTo_31 : decode cX5_paidUpTo 31 = .ok (.iinc 4 1, 3) := by decide +kernel
theorem dX5_paidUpTo_34 : decode cX5_paidUpTo 34 = .ok (.goto (-25), 3) := by decide +kernel
theorem dX5_paidUpTo_37 : decode cX5_paidUpTo 37 = .ok (.lload_n 2, 1) := by decide +kernel
theorem dX5_paidUpTo_38 : decode cX5_paidUpTo 38 = .ok (.lreturn, 1) := by decide +kernel
theorem dX5_hedgedAlong_0 : decode cX5_hedgedAlong 0 = .ok (.aload_n 0, 1) := by decide +kernel
theorem dX5_hedgedAlong_1 : decode cX5_hedgedAlong 1 = .ok (.iconst 1, 1) := by decide +kernel
theorem dX5_hedgedAlong_2 : decode cX5_hedgedAlong 2 = .ok (.invokevirtual 174, 3) := by decide +kernel
theorem dX5_hedgedAlong_5 : decode cX5_hedgedAlong 5 = .ok (.lstore_n 2, 1) := by decide +kernel
theorem dX5_hedgedAlong_6 : decode cX5_hedgedAlong 6 = .ok (.lconst 0, 1) := by decide +kernel
theorem dX5_hedgedAlong_7 : decode cX5_hedgedAlong 7 = .ok (.lstore 4, 2) := by decide +kernel
theorem dX5_hedgedAlong_9 : decode cX5_hedgedAlong 9 = .ok (.iconst 0, 1) := by decide +kernel
theorem dX5_hedgedAlong_10 : decode cX5_hedgedAlong 10 = .ok (.istore 6, 2) := by decide +kernel
theorem dX5_hedgedAlong_12 : decode cX5_hedgedAlong 12 = .ok (.iload 6, 2) := by decide +kernel
theorem dX5_hedgedAlong_14 : decode cX5_hedgedAlong 14 = .ok (.iload_n 1, 1) := by decide +kernel
theorem dX5_hedgedAlong_15 : decode cX5_hedgedAlong 15 = .ok (.invokestatic 83, 3) := by decide +kernel
theorem dX5_hedgedAlong_18 : decode cX5_hedgedAlong 18 = .ok (.if_icmp .gt 114, 3) := by decide +kernel
theorem dX5_hedgedAlong_21 : decode cX5_hedgedAlong 21 = .ok (.iload_n 1, 1) := by decide +kernel
theorem dX5_hedgedAlong_22 : decode cX5_hedgedAlong 22 = .ok (.iload 6, 2) := by decide +kernel
theorem dX5_hedgedAlong_24 : decode cX5_hedgedAlong 24 = .ok (.invokestatic 193, 3) := by decide +kernel
theorem dX5_hedgedAlong_27 : decode cX5_hedgedAlong 27 = .ok (.istore 7, 2) := by decide +kernel
theorem dX5_hedgedAlong_29 : decode cX5_hedgedAlong 29 = .ok (.lload_n 2, 1) := by decide +kernel
theorem dX5_hedgedAlong_30 : decode cX5_hedgedAlong 30 = .ok (.aload_n 0, 1) := by decide +kernel
theorem dX5_hedgedAlong_31 : decode cX5_hedgedAlong 31 = .ok (.getfield 21, 3) := by decide +kernel
theorem dX5_hedgedAlong_34 : decode cX5_hedgedAlong 34 = .ok (.iload 6, 2) := by decide +kernel
theorem dX5_hedgedAlong_36 : decode cX5_hedgedAlong 36 = .ok (.invokevirtual 137, 3) := by decide +kernel
theorem dX5_hedgedAlong_39 : decode cX5_hedgedAlong 39 = .ok (.i2l, 1) := by decide +kernel
theorem dX5_hedgedAlong_40 : decode cX5_hedgedAlong 40 = .ok (.lsub, 1) := by decide +kernel
theorem dX5_hedgedAlong_41 : decode cX5_hedgedAlong 41 = .ok (.lstore_n 2, 1) := by decide +kernel
theorem dX5_hedgedAlong_42 : decode cX5_hedgedAlong 42 = .ok (.aload_n 0, 1) := by decide +kernel
theorem dX5_hedgedAlong_43 : decode cX5_hedgedAlong 43 = .ok (.iload 7, 2) := by decide +kernel
theorem dX5_hedgedAlong_45 : decode cX5_hedgedAlong 45 = .ok (.invokevirtual 183, 3) := by decide +kernel
theorem dX5_hedgedAlong_48 : decode cX5_hedgedAlong 48 = .ok (.ifCond .eq 26, 3) := by decide +kernel
theorem dX5_hedgedAlong_51 : decode cX5_hedgedAlong 51 = .ok (.lload_n 2, 1) := by decide +kernel
theorem dX5_hedgedAlong_52 : decode cX5_hedgedAlong 52 = .ok (.lload 4, 2) := by decide +kernel
theorem dX5_hedgedAlong_54 : decode cX5_hedgedAlong 54 = .ok (.aload_n 0, 1) := by decide +kernel
theorem dX5_hedgedAlong_55 : decode cX5_hedgedAlong 55 = .ok (.iload 7, 2) := by decide +kernel
theorem dX5_hedgedAlong_57 : decode cX5_hedgedAlong 57 = .ok (.invokevirtual 167, 3) := by decide +kernel
theorem dX5_hedgedAlong_60 : decode cX5_hedgedAlong 60 = .ok (.lmul, 1) := by decide +kernel
theorem dX5_hedgedAlong_61 : decode cX5_hedgedAlong 61 = .ok (.ldc2_w 188, 3) := by decide +kernel
theorem dX5_hedgedAlong_64 : decode cX5_hedgedAlong 64 = .ok (.ldiv, 1) := by decide +kernel
theorem dX5_hedgedAlong_65 : decode cX5_hedgedAlong 65 = .ok (.ladd, 1) := by decide +kernel
theorem dX5_hedgedAlong_66 : decode cX5_hedgedAlong 66 = .ok (.aload_n 0, 1) := by decide +kernel
theorem dX5_hedgedAlong_67 : decode cX5_hedgedAlong 67 = .ok (.iload 7, 2) := by decide +kernel
theorem dX5_hedgedAlong_69 : decode cX5_hedgedAlong 69 = .ok (.invokevirtual 196, 3) := by decide +kernel
theorem dX5_hedgedAlong_72 : decode cX5_hedgedAlong 72 = .ok (.lsub, 1) := by decide +kernel
theorem dX5_hedgedAlong_73 : decode cX5_hedgedAlong 73 = .ok (.lreturn, 1) := by decide +kernel
theorem dX5_hedgedAlong_74 : decode cX5_hedgedAlong 74 = .ok (.aload_n 0, 1) := by decide +kernel
theorem dX5_hedgedAlong_75 : decode cX5_hedgedAlong 75 = .ok (.iload 7, 2) := by decide +kernel
theorem dX5_hedgedAlong_77 : decode cX5_hedgedAlong 77 = .ok (.invokevirtual 199, 3) := by decide +kernel
theorem dX5_hedgedAlong_80 : decode cX5_hedgedAlong 80 = .ok (.lstore 8, 2) := by decide +kernel
theorem dX5_hedgedAlong_82 : decode cX5_hedgedAlong 82 = .ok (.lload_n 2, 1) := by decide +kernel
theorem dX5_hedgedAlong_83 : decode cX5_hedgedAlong 83 = .ok (.lload 8, 2) := by decide +kernel
theorem dX5_hedgedAlong_85 : decode cX5_hedgedAlong 85 = .ok (.lload 4, 2) := by decide +kernel
theorem dX5_hedgedAlong_87 : decode cX5_hedgedAlong 87 = .ok (.lsub, 1) := by decide +kernel
theorem dX5_hedgedAlong_88 : decode cX5_hedgedAlong 88 = .ok (.aload_n 0, 1) := by decide +kernel
theorem dX5_hedgedAlong_89 : decode cX5_hedgedAlong 89 = .ok (.iload 7, 2) := by decide +kernel
theorem dX5_hedgedAlong_91 : decode cX5_hedgedAlong 91 = .ok (.invokevirtual 167, 3) := by decide +kernel
theorem dX5_hedgedAlong_94 : decode cX5_hedgedAlong 94 = .ok (.lmul, 1) := by decide +kernel
theorem dX5_hedgedAlong_95 : decode cX5_hedgedAlong 95 = .ok (.ldc2_w 188, 3) := by decide +kernel
theorem dX5_hedgedAlong_98 : decode cX5_hedgedAlong 98 = .ok (.ldiv, 1) := by decide +kernel
theorem dX5_hedgedAlong_99 : decode cX5_hedgedAlong 99 = .ok (.lsub, 1) := by decide +kernel
theorem dX5_hedgedAlong_100 : decode cX5_hedgedAlong 100 = .ok (.lstore_n 2, 1) := by decide +kernel
theorem dX5_hedgedAlong_101 : decode cX5_hedgedAlong 101 = .ok (.lload 8, 2) := by decide +kernel
theorem dX5_hedgedAlong_103 : decode cX5_hedgedAlong 103 = .ok (.lstore 4, 2) := by decide +kernel
theorem dX5_hedgedAlong_105 : decode cX5_hedgedAlong 105 = .ok (.lload_n 2, 1) := by decide +kernel
theorem dX5_hedgedAlong_106 : decode cX5_hedgedAlong 106 = .ok (.sipush 1000, 3) := by decide +kernel
theorem dX5_hedgedAlong_109 : decode cX5_hedgedAlong 109 = .ok (.aload_n 0, 1) := by decide +kernel
theorem dX5_hedgedAlong_110 : decode cX5_hedgedAlong 110 = .ok (.getfield 12, 3) := by decide +kernel
theorem dX5_hedgedAlong_113 : decode cX5_hedgedAlong 113 = .ok (.bipush 8, 2) := by decide +kernel
theorem dX5_hedgedAlong_115 : decode cX5_hedgedAlong 115 = .ok (.invokevirtual 202, 3) := by decide +kernel
theorem dX5_hedgedAlong_118 : decode cX5_hedgedAlong 118 = .ok (.iadd, 1) := by decide +kernel
theorem dX5_hedgedAlong_119 : decode cX5_hedgedAlong 119 = .ok (.i2l, 1) := by decide +kernel
theorem dX5_hedgedAlong_120 : decode cX5_hedgedAlong 120 = .ok (.lmul, 1) := by decide +kernel
theorem dX5_hedgedAlong_121 : decode cX5_hedgedAlong 121 = .ok (.ldc2_w 188, 3) := by decide +kernel
theorem dX5_hedgedAlong_124 : decode cX5_hedgedAlong 124 = .ok (.ldiv, 1) := by decide +kernel
theorem dX5_hedgedAlong_125 : decode cX5_hedgedAlong 125 = .ok (.lstore_n 2, 1) := by decide +kernel
theorem dX5_hedgedAlong_126 : decode cX5_hedgedAlong 126 = .ok (.iinc 6 1, 3) := by decide +kernel
theorem dX5_hedgedAlong_129 : decode cX5_hedgedAlong 129 = .ok (.goto (-117), 3) := by decide +kernel
theorem dX5_hedgedAlong_132 : decode cX5_hedgedAlong 132 = .ok (.ldc2_w 75, 3) := by decide +kernel
theorem dX5_hedgedAlong_135 : decode cX5_hedgedAlong 135 = .ok (.lreturn, 1) := by decide +kernel
theorem dX5_sharesWanted_0 : decode cX5_sharesWanted 0 = .ok (.aload_n 0, 1) := by decide +kernel
theorem dX5_sharesWanted_1 : decode cX5_sharesWanted 1 = .ok (.iload_n 1, 1) := by decide +kernel
theorem dX5_sharesWanted_2 : decode cX5_sharesWanted 2 = .ok (.iconst 1, 1) := by decide +kernel
theorem dX5_sharesWanted_3 : decode cX5_sharesWanted 3 = .ok (.invokestatic 170, 3) := by decide +kernel
theorem dX5_sharesWanted_6 : decode cX5_sharesWanted 6 = .ok (.invokevirtual 167, 3) := by decide +kernel
theorem dX5_sharesWanted_9 : decode cX5_sharesWanted 9 = .ok (.aload_n 0, 1) := by decide +kernel
theorem dX5_sharesWanted_10 : decode cX5_sharesWanted 10 = .ok (.iload_n 1, 1) := by decide +kernel
theorem dX5_sharesWanted_11 : decode cX5_sharesWanted 11 = .ok (.iconst 0, 1) := by decide +kernel
theorem dX5_sharesWanted_12 : decode cX5_sharesWanted 12 = .ok (.invokestatic 170, 3) := by decide +kernel
theorem dX5_sharesWanted_15 : decode cX5_sharesWanted 15 = .ok (.invokevirtual 167, 3) := by decide +kernel
theorem dX5_sharesWanted_18 : decode cX5_sharesWanted 18 = .ok (.lcmp, 1) := by decide +kernel
theorem dX5_sharesWanted_19 : decode cX5_sharesWanted 19 = .ok (.ifCond .ne 7, 3) := by decide +kernel
theorem dX5_sharesWanted_22 : decode cX5_sharesWanted 22 = .ok (.iconst 1, 1) := by decide +kernel
theorem dX5_sharesWanted_23 : decode cX5_sharesWanted 23 = .ok (.goto 4, 3) := by decide +kernel
theorem dX5_sharesWanted_26 : decode cX5_sharesWanted 26 = .ok (.iconst 0, 1) := by decide +kernel
theorem dX5_sharesWanted_27 : decode cX5_sharesWanted 27 = .ok (.istore_n 2, 1) := by decide +kernel
theorem dX5_sharesWanted_28 : decode cX5_sharesWanted 28 = .ok (.iload_n 2, 1) := by decide +kernel
theorem dX5_sharesWanted_29 : decode cX5_sharesWanted 29 = .ok (.ifCond .eq 7, 3) := by decide +kernel
theorem dX5_sharesWanted_32 : decode cX5_sharesWanted 32 = .ok (.lconst 0, 1) := by decide +kernel
theorem dX5_sharesWanted_33 : decode cX5_sharesWanted 33 = .ok (.goto 20, 3) := by decide +kernel
theorem dX5_sharesWanted_36 : decode cX5_sharesWanted 36 = .ok (.ldc2_w 205, 3) := by decide +kernel
theorem dX5_sharesWanted_39 : decode cX5_sharesWanted 39 = .ok (.ldc2_w 207, 3) := by decide +kernel
theorem dX5_sharesWanted_42 : decode cX5_sharesWanted 42 = .ok (.aload_n 0, 1) := by decide +kernel
theorem dX5_sharesWanted_43 : decode cX5_sharesWanted 43 = .ok (.iload_n 1, 1) := by decide +kernel
theorem dX5_sharesWanted_44 : decode cX5_sharesWanted 44 = .ok (.invokevirtual 209, 3) := by decide +kernel
theorem dX5_sharesWanted_47 : decode cX5_sharesWanted 47 = .ok (.invokestatic 212, 3) := by decide +kernel
theorem dX5_sharesWanted_50 : decode cX5_sharesWanted 50 = .ok (.invokestatic 134, 3) := by decide +kernel
theorem dX5_sharesWanted_53 : decode cX5_sharesWanted 53 = .ok (.lreturn, 1) := by decide +kernel
theorem dX5_isComeTo_0 : decode cX5_isComeTo 0 = .ok (.iconst 0, 1) := by decide +kernel
theorem dX5_isComeTo_1 : decode cX5_isComeTo 1 = .ok (.istore_n 2, 1) := by decide +kernel
theorem dX5_isComeTo_2 : decode cX5_isComeTo 2 = .ok (.iload_n 2, 1) := by decide +kernel
theorem dX5_isComeTo_3 : decode cX5_isComeTo 3 = .ok (.iload_n 1, 1) := by decide +kernel
theorem dX5_isComeTo_4 : decode cX5_isComeTo 4 = .ok (.invokestatic 83, 3) := by decide +kernel
theorem dX5_isComeTo_7 : decode cX5_isComeTo 7 = .ok (.if_icmp .ge 23, 3) := by decide +kernel
theorem dX5_isComeTo_10 : decode cX5_isComeTo 10 = .ok (.aload_n 0, 1) := by decide +kernel
theorem dX5_isComeTo_11 : decode cX5_isComeTo 11 = .ok (.iload_n 1, 1) := by decide +kernel
theorem dX5_isComeTo_12 : decode cX5_isComeTo 12 = .ok (.iload_n 2, 1) := by decide +kernel
theorem dX5_isComeTo_13 : decode cX5_isComeTo 13 = .ok (.invokestatic 193, 3) := by decide +kernel
theorem dX5_isComeTo_16 : decode cX5_isComeTo 16 = .ok (.invokevirtual 183, 3) := by decide +kernel
theorem dX5_isComeTo_19 : decode cX5_isComeTo 19 = .ok (.ifCond .eq 5, 3) := by decide +kernel
theorem dX5_isComeTo_22 : decode cX5_isComeTo 22 = .ok (.iconst 0, 1) := by decide +kernel
theorem dX5_isComeTo_23 : decode cX5_isComeTo 23 = .ok (.ireturn, 1) := by decide +kernel
theorem dX5_isComeTo_24 : decode cX5_isComeTo 24 = .ok (.iinc 2 1, 3) := by decide +kernel
theorem dX5_isComeTo_27 : decode cX5_isComeTo 27 = .ok (.goto (-25), 3) := by decide +kernel
theorem dX5_isComeTo_30 : decode cX5_isComeTo 30 = .ok (.iconst 1, 1) := by decide +kernel
theorem dX5_isComeTo_31 : decode cX5_isComeTo 31 = .ok (.ireturn, 1) := by decide +kernel
theorem dX5_chanceOfEnd_0 : decode cX5_chanceOfEnd 0 = .ok (.lconst 0, 1) := by decide +kernel
theorem dX5_chanceOfEnd_1 : decode cX5_chanceOfEnd 1 = .ok (.lstore_n 2, 1) := by decide +kernel
theorem dX5_chanceOfEnd_2 : decode cX5_chanceOfEnd 2 = .ok (.iconst 1, 1) := by decide +kernel
theorem dX5_chanceOfEnd_3 : decode cX5_chanceOfEnd 3 = .ok (.istore 4, 2) := by decide +kernel
theorem dX5_chanceOfEnd_5 : decode cX5_chanceOfEnd 5 = .ok (.iload 4, 2) := by decide +kernel
theorem dX5_chanceOfEnd_7 : decode cX5_chanceOfEnd 7 = .ok (.aload_n 0, 1) := by decide +kernel
theorem dX5_chanceOfEnd_8 : decode cX5_chanceOfEnd 8 = .ok (.invokevirtual 101, 3) := by decide +kernel
theorem dX5_chanceOfEnd_11 : decode cX5_chanceOfEnd 11 = .ok (.if_icmp .gt 48, 3) := by decide +kernel
theorem dX5_chanceOfEnd_14 : decode cX5_chanceOfEnd 14 = .ok (.aload_n 0, 1) := by decide +kernel
theorem dX5_chanceOfEnd_15 : decode cX5_chanceOfEnd 15 = .ok (.iload 4, 2) := by decide +kernel
theorem dX5_chanceOfEnd_17 : decode cX5_chanceOfEnd 17 = .ok (.invokevirtual 183, 3) := by decide +kernel
theorem dX5_chanceOfEnd_20 : decode cX5_chanceOfEnd 20 = .ok (.iload_n 1, 1) := by decide +kernel
theorem dX5_chanceOfEnd_21 : decode cX5_chanceOfEnd 21 = .ok (.if_icmp .ne 32, 3) := by decide +kernel
theorem dX5_chanceOfEnd_24 : decode cX5_chanceOfEnd 24 = .ok (.aload_n 0, 1) := by decide +kernel
theorem dX5_chanceOfEnd_25 : decode cX5_chanceOfEnd 25 = .ok (.iload 4, 2) := by decide +kernel
theorem dX5_chanceOfEnd_27 : decode cX5_chanceOfEnd 27 = .ok (.invokevirtual 214, 3) := by decide +kernel
theorem dX5_chanceOfEnd_30 : decode cX5_chanceOfEnd 30 = .ok (.ifCond .eq 23, 3) := by decide +kernel
theorem dX5_chanceOfEnd_33 : decode cX5_chanceOfEnd 33 = .ok (.lload_n 2, 1) := by decide +kernel
theorem dX5_chanceOfEnd_34 : decode cX5_chanceOfEnd 34 = .ok (.aload_n 0, 1) := by decide +kernel
theorem dX5_chanceOfEnd_35 : decode cX5_chanceOfEnd 35 = .ok (.getfield 12, 3) := by decide +kernel
theorem dX5_chanceOfEnd_38 : decode cX5_chanceOfEnd 38 = .ok (.iload 4, 2) := by decide +kernel
theorem dX5_chanceOfEnd_40 : decode cX5_chanceOfEnd 40 = .ok (.invokestatic 83, 3) := by decide +kernel
theorem dX5_chanceOfEnd_43 : decode cX5_chanceOfEnd 43 = .ok (.iload 4, 2) := by decide +kernel
theorem dX5_chanceOfEnd_45 : decode cX5_chanceOfEnd 45 = .ok (.invokestatic 108, 3) := by decide +kernel
theorem dX5_chanceOfEnd_48 : decode cX5_chanceOfEnd 48 = .ok (.invokevirtual 217, 3) := by decide +kernel
theorem dX5_chanceOfEnd_51 : decode cX5_chanceOfEnd 51 = .ok (.ladd, 1) := by decide +kernel
theorem dX5_chanceOfEnd_52 : decode cX5_chanceOfEnd 52 = .ok (.lstore_n 2, 1) := by decide +kernel
theorem dX5_chanceOfEnd_53 : decode cX5_chanceOfEnd 53 = .ok (.iinc 4 1, 3) := by decide +kernel
theorem dX5_chanceOfEnd_56 : decode cX5_chanceOfEnd 56 = .ok (.goto (-51), 3) := by decide +kernel
theorem dX5_chanceOfEnd_59 : decode cX5_chanceOfEnd 59 = .ok (.lload_n 2, 1) := by decide +kernel
theorem dX5_chanceOfEnd_60 : decode cX5_chanceOfEnd 60 = .ok (.lreturn, 1) := by decide +kernel
theorem dX5_chancesTimesDays_0 : decode cX5_chancesTimesDays 0 = .ok (.lconst 0, 1) := by decide +kernel
theorem dX5_chancesTimesDays_1 : decode cX5_chancesTimesDays 1 = .ok (.lstore_n 1, 1) := by decide +kernel
theorem dX5_chancesTimesDays_2 : decode cX5_chancesTimesDays 2 = .ok (.iconst 1, 1) := by decide +kernel
theorem dX5_chancesTimesDays_3 : decode cX5_chancesTimesDays 3 = .ok (.istore_n 3, 1) := by decide +kernel
theorem dX5_chancesTimesDays_4 : decode cX5_chancesTimesDays 4 = .ok (.iload_n 3, 1) := by decide +kernel
theorem dX5_chancesTimesDays_5 : decode cX5_chancesTimesDays 5 = .ok (.aload_n 0, 1) := by decide +kernel
theorem dX5_chancesTimesDays_6 : decode cX5_chancesTimesDays 6 = .ok (.invokevirtual 101, 3) := by decide +kernel
theorem dX5_chancesTimesDays_9 : decode cX5_chancesTimesDays 9 = .ok (.if_icmp .gt 49, 3) := by decide +kernel
theorem dX5_chancesTimesDays_12 : decode cX5_chancesTimesDays 12 = .ok (.aload_n 0, 1) := by decide +kernel
theorem dX5_chancesTimesDays_13 : decode cX5_chancesTimesDays 13 = .ok (.iload_n 3, 1) := by decide +kernel
theorem dX5_chancesTimesDays_14 : decode cX5_chancesTimesDays 14 = .ok (.invokevirtual 183, 3) := by decide +kernel
theorem dX5_chancesTimesDays_17 : decode cX5_chancesTimesDays 17 = .ok (.ifCond .eq 35, 3) := by decide +kernel
theorem dX5_chancesTimesDays_20 : decode cX5_chancesTimesDays 20 = .ok (.aload_n 0, 1) := by decide +kernel
theorem dX5_chancesTimesDays_21 : decode cX5_chancesTimesDays 21 = .ok (.iload_n 3, 1) := by decide +kernel
theorem dX5_chancesTimesDays_22 : decode cX5_chancesTimesDays 22 = .ok (.invokevirtual 214, 3) := by decide +kernel
theorem dX5_chancesTimesDays_25 : decode cX5_chancesTimesDays 25 = .ok (.ifCond .eq 27, 3) := by decide +kernel
theorem dX5_chancesTimesDays_28 : decode cX5_chancesTimesDays 28 = .ok (.lload_n 1, 1) := by decide +kernel
theorem dX5_chancesTimesDays_29 : decode cX5_chancesTimesDays 29 = .ok (.iload_n 3, 1) := by decide +kernel
theorem dX5_chancesTimesDays_30 : decode cX5_chancesTimesDays 30 = .ok (.invokestatic 83, 3) := by decide +kernel
theorem dX5_chancesTimesDays_33 : decode cX5_chancesTimesDays 33 = .ok (.i2l, 1) := by decide +kernel
theorem dX5_chancesTimesDays_34 : decode cX5_chancesTimesDays 34 = .ok (.aload_n 0, 1) := by decide +kernel
theorem dX5_chancesTimesDays_35 : decode cX5_chancesTimesDays 35 = .ok (.getfield 12, 3) := by decide +kernel
theorem dX5_chancesTimesDays_38 : decode cX5_chancesTimesDays 38 = .ok (.iload_n 3, 1) := by decide +kernel
theorem dX5_chancesTimesDays_39 : decode cX5_chancesTimesDays 39 = .ok (.invokestatic 83, 3) := by decide +kernel
theorem dX5_chancesTimesDays_42 : decode cX5_chancesTimesDays 42 = .ok (.iload_n 3, 1) := by decide +kernel
theorem dX5_chancesTimesDays_43 : decode cX5_chancesTimesDays 43 = .ok (.invokestatic 108, 3) := by decide +kernel
theorem dX5_chancesTimesDays_46 : decode cX5_chancesTimesDays 46 = .ok (.invokevirtual 217, 3) := by decide +kernel
theorem dX5_chancesTimesDays_49 : decode cX5_chancesTimesDays 49 = .ok (.lmul, 1) := by decide +kernel
theorem dX5_chancesTimesDays_50 : decode cX5_chancesTimesDays 50 = .ok (.ladd, 1) := by decide +kernel
theorem dX5_chancesTimesDays_51 : decode cX5_chancesTimesDays 51 = .ok (.lstore_n 1, 1) := by decide +kernel
theorem dX5_chancesTimesDays_52 : decode cX5_chancesTimesDays 52 = .ok (.iinc 3 1, 3) := by decide +kernel
theorem dX5_chancesTimesDays_55 : decode cX5_chancesTimesDays 55 = .ok (.goto (-51), 3) := by decide +kernel
theorem dX5_chancesTimesDays_58 : decode cX5_chancesTimesDays 58 = .ok (.lload_n 1, 1) := by decide +kernel
theorem dX5_chancesTimesDays_59 : decode cX5_chancesTimesDays 59 = .ok (.lreturn, 1) := by decide +kernel
theorem dX5_gatherStates_0 : decode cX5_gatherStates 0 = .ok (.iconst 0, 1) := by decide +kernel
theorem dX5_gatherStates_1 : decode cX5_gatherStates 1 = .ok (.istore_n 2, 1) := by decide +kernel
theorem dX5_gatherStates_2 : decode cX5_gatherStates 2 = .ok (.iload_n 2, 1) := by decide +kernel
theorem dX5_gatherStates_3 : decode cX5_gatherStates 3 = .ok (.bipush 112, 2) := by decide +kernel
theorem dX5_gatherStates_5 : decode cX5_gatherStates 5 = .ok (.if_icmp .ge 16, 3) := by decide +kernel
theorem dX5_gatherStates_8 : decode cX5_gatherStates 8 = .ok (.aload_n 0, 1) := by decide +kernel
theorem dX5_gatherStates_9 : decode cX5_gatherStates 9 = .ok (.getfield 51, 3) := by decide +kernel
theorem dX5_gatherStates_12 : decode cX5_gatherStates 12 = .ok (.iload_n 2, 1) := by decide +kernel
theorem dX5_gatherStates_13 : decode cX5_gatherStates 13 = .ok (.iconst 0, 1) := by decide +kernel
theorem dX5_gatherStates_14 : decode cX5_gatherStates 14 = .ok (.iastore, 1) := by decide +kernel
theorem dX5_gatherStates_15 : decode cX5_gatherStates 15 = .ok (.iinc 2 1, 3) := by decide +kernel
theorem dX5_gatherStates_18 : decode cX5_gatherStates 18 = .ok (.goto (-16), 3) := by decide +kernel
theorem dX5_gatherStates_21 : decode cX5_gatherStates 21 = .ok (.iconst 0, 1) := by decide +kernel
theorem dX5_gatherStates_22 : decode cX5_gatherStates 22 = .ok (.istore_n 2, 1) := by decide +kernel
theorem dX5_gatherStates_23 : decode cX5_gatherStates 23 = .ok (.iconst 1, 1) := by decide +kernel
theorem dX5_gatherStates_24 : decode cX5_gatherStates 24 = .ok (.iload_n 1, 1) := by decide +kernel
theorem dX5_gatherStates_25 : decode cX5_gatherStates 25 = .ok (.ishl, 1) := by decide +kernel
theorem dX5_gatherStates_26 : decode cX5_gatherStates 26 = .ok (.istore_n 3, 1) := by decide +kernel
theorem dX5_gatherStates_27 : decode cX5_gatherStates 27 = .ok (.iload_n 3, 1) := by decide +kernel
theorem dX5_gatherStates_28 : decode cX5_gatherStates 28 = .ok (.iconst 2, 1) := by decide +kernel
theorem dX5_gatherStates_29 : decode cX5_gatherStates 29 = .ok (.iload_n 1, 1) := by decide +kernel
theorem dX5_gatherStates_30 : decode cX5_gatherStates 30 = .ok (.ishl, 1) := by decide +kernel
theorem dX5_gatherStates_31 : decode cX5_gatherStates 31 = .ok (.if_icmp .ge 86, 3) := by decide +kernel
theorem dX5_gatherStates_34 : decode cX5_gatherStates 34 = .ok (.iload_n 3, 1) := by decide +kernel
theorem dX5_gatherStates_35 : decode cX5_gatherStates 35 = .ok (.sipush 128, 3) := by decide +kernel
theorem dX5_gatherStates_38 : decode cX5_gatherStates 38 = .ok (.if_icmp .ge 79, 3) := by decide +kernel
theorem dX5_gatherStates_41 : decode cX5_gatherStates 41 = .ok (.iload_n 3, 1) := by decide +kernel
theorem dX5_gatherStates_42 : decode cX5_gatherStates 42 = .ok (.invokestatic 108, 3) := by decide +kernel
theorem dX5_gatherStates_45 : decode cX5_gatherStates 45 = .ok (.bipush 16, 2) := by decide +kernel
theorem dX5_gatherStates_47 : decode cX5_gatherStates 47 = .ok (.imul, 1) := by decide +kernel
theorem dX5_gatherStates_48 : decode cX5_gatherStates 48 = .ok (.aload_n 0, 1) := by decide +kernel
theorem dX5_gatherStates_49 : decode cX5_gatherStates 49 = .ok (.iload_n 3, 1) := by decide +kernel
theorem dX5_gatherStates_50 : decode cX5_gatherStates 50 = .ok (.invokevirtual 220, 3) := by decide +kernel
theorem dX5_gatherStates_53 : decode cX5_gatherStates 53 = .ok (.iconst 2, 1) := by decide +kernel
theorem dX5_gatherStates_54 : decode cX5_gatherStates 54 = .ok (.imul, 1) := by decide +kernel
theorem dX5_gatherStates_55 : decode cX5_gatherStates 55 = .ok (.iadd, 1) := by decide +kernel
theorem dX5_gatherStates_56 : decode cX5_gatherStates 56 = .ok (.iload_n 3, 1) := by decide +kernel
theorem dX5_gatherStates_57 : decode cX5_gatherStates 57 = .ok (.invokestatic 223, 3) := by decide +kernel
theorem dX5_gatherStates_60 : decode cX5_gatherStates 60 = .ok (.ifCond .eq 7, 3) := by decide +kernel
theorem dX5_gatherStates_63 : decode cX5_gatherStates 63 = .ok (.iconst 1, 1) := by decide +kernel
theorem dX5_gatherStates_64 : decode cX5_gatherStates 64 = .ok (.goto 4, 3) := by decide +kernel
theorem dX5_gatherStates_67 : decode cX5_gatherStates 67 = .ok (.iconst 0, 1) := by decide +kernel
theorem dX5_gatherStates_68 : decode cX5_gatherStates 68 = .ok (.iadd, 1) := by decide +kernel
theorem dX5_gatherStates_69 : decode cX5_gatherStates 69 = .ok (.istore 4, 2) := by decide +kernel
theorem dX5_gatherStates_71 : decode cX5_gatherStates 71 = .ok (.iload 4, 2) := by decide +kernel
theorem dX5_gatherStates_73 : decode cX5_gatherStates 73 = .ok (.iconst 0, 1) := by decide +kernel
theorem dX5_gatherStates_74 : decode cX5_gatherStates 74 = .ok (.bipush 111, 2) := by decide +kernel
theorem dX5_gatherStates_76 : decode cX5_gatherStates 76 = .ok (.invokestatic 111, 3) := by decide +kernel
theorem dX5_gatherStates_79 : decode cX5_gatherStates 79 = .ok (.ifCond .eq 32, 3) := by decide +kernel
theorem dX5_gatherStates_82 : decode cX5_gatherStates 82 = .ok (.aload_n 0, 1) := by decide +kernel
theorem dX5_gatherStates_83 : decode cX5_gatherStates 83 = .ok (.getfield 51, 3) := by decide +kernel
theorem dX5_gatherStates_86 : decode cX5_gatherStates 86 = .ok (.iload 4, 2) := by decide +kernel
theorem dX5_gatherStates_88 : decode cX5_gatherStates 88 = .ok (.iaload, 1) := by decide +kernel
theorem dX5_gatherStates_89 : decode cX5_gatherStates 89 = .ok (.ifCond .ne 22, 3) := by decide +kernel
theorem dX5_gatherStates_92 : decode cX5_gatherStates 92 = .ok (.aload_n 0, 1) := by decide +kernel
theorem dX5_gatherStates_93 : decode cX5_gatherStates 93 = .ok (.iload_n 3, 1) := by decide +kernel
theorem dX5_gatherStates_94 : decode cX5_gatherStates 94 = .ok (.invokevirtual 214, 3) := by decide +kernel
theorem dX5_gatherStates_97 : decode cX5_gatherStates 97 = .ok (.ifCond .eq 14, 3) := by decide +kernel
theorem dX5_gatherStates_100 : decode cX5_gatherStates 100 = .ok (.aload_n 0, 1) := by decide +kernel
theorem dX5_gatherStates_101 : decode cX5_gatherStates 101 = .ok (.getfield 51, 3) := by decide +kernel
theorem dX5_gatherStates_104 : decode cX5_gatherStates 104 = .ok (.iload 4, 2) := by decide +kernel
theorem dX5_gatherStates_106 : decode cX5_gatherStates 106 = .ok (.iload_n 3, 1) := by decide +kernel
theorem dX5_gatherStates_107 : decode cX5_gatherStates 107 = .ok (.iastore, 1) := by decide +kernel
theorem dX5_gatherStates_108 : decode cX5_gatherStates 108 = .ok (.iinc 2 1, 3) := by decide +kernel
theorem dX5_gatherStates_111 : decode cX5_gatherStates 111 = .ok (.iinc 3 1, 3) := by decide +kernel
theorem dX5_gatherStates_114 : decode cX5_gatherStates 114 = .ok (.goto (-87), 3) := by decide +kernel
theorem dX5_gatherStates_117 : decode cX5_gatherStates 117 = .ok (.iload_n 2, 1) := by decide +kernel
theorem dX5_gatherStates_118 : decode cX5_gatherStates 118 = .ok (.ireturn, 1) := by decide +kernel
theorem dX5_stateRow_0 : decode cX5_stateRow 0 = .ok (.iload_n 1, 1) := by decide +kernel
theorem dX5_stateRow_1 : decode cX5_stateRow 1 = .ok (.istore_n 2, 1) := by decide +kernel
theorem dX5_stateRow_2 : decode cX5_stateRow 2 = .ok (.iconst 0, 1) := by decide +kernel
theorem dX5_stateRow_3 : decode cX5_stateRow 3 = .ok (.istore_n 3, 1) := by decide +kernel
theorem dX5_stateRow_4 : decode cX5_stateRow 4 = .ok (.iload_n 3, 1) := by decide +kernel
theorem dX5_stateRow_5 : decode cX5_stateRow 5 = .ok (.bipush 112, 2) := by decide +kernel
theorem dX5_stateRow_7 : decode cX5_stateRow 7 = .ok (.if_icmp .ge 32, 3) := by decide +kernel
theorem dX5_stateRow_10 : decode cX5_stateRow 10 = .ok (.aload_n 0, 1) := by decide +kernel
theorem dX5_stateRow_11 : decode cX5_stateRow 11 = .ok (.getfield 51, 3) := by decide +kernel
theorem dX5_stateRow_14 : decode cX5_stateRow 14 = .ok (.iload_n 3, 1) := by decide +kernel
theorem dX5_stateRow_15 : decode cX5_stateRow 15 = .ok (.iaload, 1) := by decide +kernel
theorem dX5_stateRow_16 : decode cX5_stateRow 16 = .ok (.ifCond .eq 17, 3) := by decide +kernel
theorem dX5_stateRow_19 : decode cX5_stateRow 19 = .ok (.iload_n 2, 1) := by decide +kernel
theorem dX5_stateRow_20 : decode cX5_stateRow 20 = .ok (.ifCond .ne 10, 3) := by decide +kernel
theorem dX5_stateRow_23 : decode cX5_stateRow 23 = .ok (.aload_n 0, 1) := by decide +kernel
theorem dX5_stateRow_24 : decode cX5_stateRow 24 = .ok (.getfield 51, 3) := by decide +kernel
theorem dX5_stateRow_27 : decode cX5_stateRow 27 = .ok (.iload_n 3, 1) := by decide +kernel
theorem dX5_stateRow_28 : decode cX5_stateRow 28 = .ok (.iaload, 1) := by decide +kernel
theorem dX5_stateRow_29 : decode cX5_stateRow 29 = .ok (.ireturn, 1) := by decide +kernel
theorem dX5_stateRow_30 : decode cX5_stateRow 30 = .ok (.iinc 2 (-1), 3) := by decide +kernel
theorem dX5_stateRow_33 : decode cX5_stateRow 33 = .ok (.iinc 3 1, 3) := by decide +kernel
theorem dX5_stateRow_36 : decode cX5_stateRow 36 = .ok (.goto (-32), 3) := by decide +kernel
theorem dX5_stateRow_39 : decode cX5_stateRow 39 = .ok (.iconst 0, 1) := by decide +kernel
theorem dX5_stateRow_40 : decode cX5_stateRow 40 = .ok (.ireturn, 1) := by decide +kernel
theorem dJ6_getChars_ba4f3_0 : decode cJ6_getChars_ba4f3 0 = .ok (.iload_n 1, 1) := by decide +kernel
theorem dJ6_getChars_ba4f3_1 : decode cJ6_getChars_ba4f3 1 = .ok (.istore 5, 2) := by decide +kernel
theorem dJ6_getChars_ba4f3_3 : decode cJ6_getChars_ba4f3 3 = .ok (.iload_n 0, 1) := by decide +kernel
theorem dJ6_getChars_ba4f3_4 : decode cJ6_getChars_ba4f3 4 = .ok (.ifCond .ge 7, 3) := by decide +kernel
theorem dJ6_getChars_ba4f3_7 : decode cJ6_getChars_ba4f3 7 = .ok (.iconst 1, 1) := by decide +kernel
theorem dJ6_getChars_ba4f3_8 : decode cJ6_getChars_ba4f3 8 = .ok (.goto 4, 3) := by decide +kernel
theorem dJ6_getChars_ba4f3_11 : decode cJ6_getChars_ba4f3 11 = .ok (.iconst 0, 1) := by decide +kernel
theorem dJ6_getChars_ba4f3_12 : decode cJ6_getChars_ba4f3 12 = .ok (.istore 6, 2) := by decide +kernel
theorem dJ6_getChars_ba4f3_14 : decode cJ6_getChars_ba4f3 14 = .ok (.iload 6, 2) := by decide +kernel
theorem dJ6_getChars_ba4f3_16 : decode cJ6_getChars_ba4f3 16 = .ok (.ifCond .ne 6, 3) := by decide +kernel
theorem dJ6_getChars_ba4f3_19 : decode cJ6_getChars_ba4f3 19 = .ok (.iload_n 0, 1) := by decide +kernel
theorem dJ6_getChars_ba4f3_20 : decode cJ6_getChars_ba4f3 20 = .ok (.ineg, 1) := by decide +kernel
theorem dJ6_getChars_ba4f3_21 : decode cJ6_getChars_ba4f3 21 = .ok (.istore_n 0, 1) := by decide +kernel
theorem dJ6_getChars_ba4f3_22 : decode cJ6_getChars_ba4f3 22 = .ok (.iload_n 0, 1) := by decide +kernel
theorem dJ6_getChars_ba4f3_23 : decode cJ6_getChars_ba4f3 23 = .ok (.bipush (-100), 2) := by decide +kernel
theorem dJ6_getChars_ba4f3_25 : decode cJ6_getChars_ba4f3 25 = .ok (.if_icmp .gt 47, 3) := by decide +kernel
theorem dJ6_getChars_ba4f3_28 : decode cJ6_getChars_ba4f3 28 = .ok (.iload_n 0, 1) := by decide +kernel
theorem dJ6_getChars_ba4f3_29 : decode cJ6_getChars_ba4f3 29 = .ok (.bipush 100, 2) := by decide +kernel
theorem dJ6_getChars_ba4f3_31 : decode cJ6_getChars_ba4f3 31 = .ok (.idiv, 1) := by decide +kernel
theorem dJ6_getChars_ba4f3_32 : decode cJ6_getChars_ba4f3 32 = .ok (.istore_n 3, 1) := by decide +kernel
theorem dJ6_getChars_ba4f3_33 : decode cJ6_getChars_ba4f3 33 = .ok (.iload_n 3, 1) := by decide +kernel
theorem dJ6_getChars_ba4f3_34 : decode cJ6_getChars_ba4f3 34 = .ok (.bipush 100, 2) := by decide +kernel
theorem dJ6_getChars_ba4f3_36 : decode cJ6_getChars_ba4f3 36 = .ok (.imul, 1) := by decide +kernel
theorem dJ6_getChars_ba4f3_37 : decode cJ6_getChars_ba4f3 37 = .ok (.iload_n 0, 1) := by decide +kernel
theorem dJ6_getChars_ba4f3_38 : decode cJ6_getChars_ba4f3 38 = .ok (.isub, 1) := by decide +kernel
theorem dJ6_getChars_ba4f3_39 : decode cJ6_getChars_ba4f3 39 = .ok (.istore 4, 2) := by decide +kernel
theorem dJ6_getChars_ba4f3_41 : decode cJ6_getChars_ba4f3 41 = .ok (.iload_n 3, 1) := by decide +kernel
theorem dJ6_getChars_ba4f3_42 : decode cJ6_getChars_ba4f3 42 = .ok (.istore_n 0, 1) := by decide +kernel
theorem dJ6_getChars_ba4f3_43 : decode cJ6_getChars_ba4f3 43 = .ok (.aload_n 2, 1) := by decide +kernel
theorem dJ6_getChars_ba4f3_44 : decode cJ6_getChars_ba4f3 44 = .ok (.iinc 5 (-1), 3) := by decide +kernel
theorem dJ6_getChars_ba4f3_47 : decode cJ6_getChars_ba4f3 47 = .ok (.iload 5, 2) := by decide +kernel
theorem dJ6_getChars_ba4f3_49 : decode cJ6_getChars_ba4f3 49 = .ok (.getstatic 83, 3) := by decide +kernel
theorem dJ6_getChars_ba4f3_52 : decode cJ6_getChars_ba4f3 52 = .ok (.iload 4, 2) := by decide +kernel
theorem dJ6_getChars_ba4f3_54 : decode cJ6_getChars_ba4f3 54 = .ok (.baload, 1) := by decide +kernel
theorem dJ6_getChars_ba4f3_55 : decode cJ6_getChars_ba4f3 55 = .ok (.bastore, 1) := by decide +kernel
theorem dJ6_getChars_ba4f3_56 : decode cJ6_getChars_ba4f3 56 = .ok (.aload_n 2, 1) := by decide +kernel
theorem dJ6_getChars_ba4f3_57 : decode cJ6_getChars_ba4f3 57 = .ok (.iinc 5 (-1), 3) := by decide +kernel
theorem dJ6_getChars_ba4f3_60 : decode cJ6_getChars_ba4f3 60 = .ok (.iload 5, 2) := by decide +kernel
theorem dJ6_getChars_ba4f3_62 : decode cJ6_getChars_ba4f3 62 = .ok (.getstatic 87, 3) := by decide +kernel
theorem dJ6_getChars_ba4f3_65 : decode cJ6_getChars_ba4f3 65 = .ok (.iload 4, 2) := by decide +kernel
theorem dJ6_getChars_ba4f3_67 : decode cJ6_getChars_ba4f3 67 = .ok (.baload, 1) := by decide +kernel
theorem dJ6_getChars_ba4f3_68 : decode cJ6_getChars_ba4f3 68 = .ok (.bastore, 1) := by decide +kernel
theorem dJ6_getChars_ba4f3_69 : decode cJ6_getChars_ba4f3 69 = .ok (.goto (-47), 3) := by decide +kernel
theorem dJ6_getChars_ba4f3_72 : decode cJ6_getChars_ba4f3 72 = .ok (.aload_n 2, 1) := by decide +kernel
theorem dJ6_getChars_ba4f3_73 : decode cJ6_getChars_ba4f3 73 = .ok (.iinc 5 (-1), 3) := by decide +kernel
theorem dJ6_getChars_ba4f3_76 : decode cJ6_getChars_ba4f3 76 = .ok (.iload 5, 2) := by decide +kernel
theorem dJ6_getChars_ba4f3_78 : decode cJ6_getChars_ba4f3 78 = .ok (.getstatic 83, 3) := by decide +kernel
theorem dJ6_getChars_ba4f3_81 : decode cJ6_getChars_ba4f3 81 = .ok (.iload_n 0, 1) := by decide +kernel
theorem dJ6_getChars_ba4f3_82 : decode cJ6_getChars_ba4f3 82 = .ok (.ineg, 1) := by decide +kernel
theorem dJ6_getChars_ba4f3_83 : decode cJ6_getChars_ba4f3 83 = .ok (.baload, 1) := by decide +kernel
theorem dJ6_getChars_ba4f3_84 : decode cJ6_getChars_ba4f3 84 = .ok (.bastore, 1) := by decide +kernel
theorem dJ6_getChars_ba4f3_85 : decode cJ6_getChars_ba4f3 85 = .ok (.iload_n 0, 1) := by decide +kernel
theorem dJ6_getChars_ba4f3_86 : decode cJ6_getChars_ba4f3 86 = .ok (.bipush (-9), 2) := by decide +kernel
theorem dJ6_getChars_ba4f3_88 : decode cJ6_getChars_ba4f3 88 = .ok (.if_icmp .ge 16, 3) := by decide +kernel
theorem dJ6_getChars_ba4f3_91 : decode cJ6_getChars_ba4f3 91 = .ok (.aload_n 2, 1) := by decide +kernel
theorem dJ6_getChars_ba4f3_92 : decode cJ6_getChars_ba4f3 92 = .ok (.iinc 5 (-1), 3) := by decide +kernel
theorem dJ6_getChars_ba4f3_95 : decode cJ6_getChars_ba4f3 95 = .ok (.iload 5, 2) := by decide +kernel
theorem dJ6_getChars_ba4f3_97 : decode cJ6_getChars_ba4f3 97 = .ok (.getstatic 87, 3) := by decide +kernel
theorem dJ6_getChars_ba4f3_100 : decode cJ6_getChars_ba4f3 100 = .ok (.iload_n 0, 1) := by decide +kernel
theorem dJ6_getChars_ba4f3_101 : decode cJ6_getChars_ba4f3 101 = .ok (.ineg, 1) := by decide +kernel
theorem dJ6_getChars_ba4f3_102 : decode cJ6_getChars_ba4f3 102 = .ok (.baload, 1) := by decide +kernel
theorem dJ6_getChars_ba4f3_103 : decode cJ6_getChars_ba4f3 103 = .ok (.bastore, 1) := by decide +kernel
theorem dJ6_getChars_ba4f3_104 : decode cJ6_getChars_ba4f3 104 = .ok (.iload 6, 2) := by decide +kernel
theorem dJ6_getChars_ba4f3_106 : decode cJ6_getChars_ba4f3 106 = .ok (.ifCond .eq 12, 3) := by decide +kernel
theorem dJ6_getChars_ba4f3_109 : decode cJ6_getChars_ba4f3 109 = .ok (.aload_n 2, 1) := by decide +kernel
theorem dJ6_getChars_ba4f3_110 : decode cJ6_getChars_ba4f3 110 = .ok (.iinc 5 (-1), 3) := by decide +kernel
theorem dJ6_getChars_ba4f3_113 : decode cJ6_getChars_ba4f3 113 = .ok (.iload 5, 2) := by decide +kernel
theorem dJ6_getChars_ba4f3_115 : decode cJ6_getChars_ba4f3 115 = .ok (.bipush 45, 2) := by decide +kernel
theorem dJ6_getChars_ba4f3_117 : decode cJ6_getChars_ba4f3 117 = .ok (.bastore, 1) := by decide +kernel
theorem dJ6_getChars_ba4f3_118 : decode cJ6_getChars_ba4f3 118 = .ok (.iload 5, 2) := by decide +kernel
theorem dJ6_getChars_ba4f3_120 : decode cJ6_getChars_ba4f3 120 = .ok (.ireturn, 1) := by decide +kernel
theorem dJ6_stringSize_0f7a4_0 : decode cJ6_stringSize_0f7a4 0 = .ok (.iconst 1, 1) := by decide +kernel
theorem dJ6_stringSize_0f7a4_1 : decode cJ6_stringSize_0f7a4 1 = .ok (.istore_n 1, 1) := by decide +kernel
theorem dJ6_stringSize_0f7a4_2 : decode cJ6_stringSize_0f7a4 2 = .ok (.iload_n 0, 1) := by decide +kernel
theorem dJ6_stringSize_0f7a4_3 : decode cJ6_stringSize_0f7a4 3 = .ok (.ifCond .lt 8, 3) := by decide +kernel
theorem dJ6_stringSize_0f7a4_6 : decode cJ6_stringSize_0f7a4 6 = .ok (.iconst 0, 1) := by decide +kernel
theorem dJ6_stringSize_0f7a4_7 : decode cJ6_stringSize_0f7a4 7 = .ok (.istore_n 1, 1) := by decide +kernel
theorem dJ6_stringSize_0f7a4_8 : decode cJ6_stringSize_0f7a4 8 = .ok (.iload_n 0, 1) := by decide +kernel
theorem dJ6_stringSize_0f7a4_9 : decode cJ6_stringSize_0f7a4 9 = .ok (.ineg, 1) := by decide +kernel
theorem dJ6_stringSize_0f7a4_10 : decode cJ6_stringSize_0f7a4 10 = .ok (.istore_n 0, 1) := by decide +kernel
theorem dJ6_stringSize_0f7a4_11 : decode cJ6_stringSize_0f7a4 11 = .ok (.bipush (-10), 2) := by decide +kernel
theorem dJ6_stringSize_0f7a4_13 : decode cJ6_stringSize_0f7a4 13 = .ok (.istore_n 2, 1) := by decide +kernel
theorem dJ6_stringSize_0f7a4_14 : decode cJ6_stringSize_0f7a4 14 = .ok (.iconst 1, 1) := by decide +kernel
theorem dJ6_stringSize_0f7a4_15 : decode cJ6_stringSize_0f7a4 15 = .ok (.istore_n 3, 1) := by decide +kernel
theorem dJ6_stringSize_0f7a4_16 : decode cJ6_stringSize_0f7a4 16 = .ok (.iload_n 3, 1) := by decide +kernel
theorem dJ6_stringSize_0f7a4_17 : decode cJ6_stringSize_0f7a4 17 = .ok (.bipush 10, 2) := by decide +kernel
theorem dJ6_stringSize_0f7a4_19 : decode cJ6_stringSize_0f7a4 19 = .ok (.if_icmp .ge 23, 3) := by decide +kernel
theorem dJ6_stringSize_0f7a4_22 : decode cJ6_stringSize_0f7a4 22 = .ok (.iload_n 0, 1) := by decide +kernel
theorem dJ6_stringSize_0f7a4_23 : decode cJ6_stringSize_0f7a4 23 = .ok (.iload_n 2, 1) := by decide +kernel
theorem dJ6_stringSize_0f7a4_24 : decode cJ6_stringSize_0f7a4 24 = .ok (.if_icmp .le 7, 3) := by decide +kernel
theorem dJ6_stringSize_0f7a4_27 : decode cJ6_stringSize_0f7a4 27 = .ok (.iload_n 3, 1) := by decide +kernel
theorem dJ6_stringSize_0f7a4_28 : decode cJ6_stringSize_0f7a4 28 = .ok (.iload_n 1, 1) := by decide +kernel
theorem dJ6_stringSize_0f7a4_29 : decode cJ6_stringSize_0f7a4 29 = .ok (.iadd, 1) := by decide +kernel
theorem dJ6_stringSize_0f7a4_30 : decode cJ6_stringSize_0f7a4 30 = .ok (.ireturn, 1) := by decide +kernel
theorem dJ6_stringSize_0f7a4_31 : decode cJ6_stringSize_0f7a4 31 = .ok (.bipush 10, 2) := by decide +kernel
theorem dJ6_stringSize_0f7a4_33 : decode cJ6_stringSize_0f7a4 33 = .ok (.iload_n 2, 1) := by decide +kernel
theorem dJ6_stringSize_0f7a4_34 : decode cJ6_stringSize_0f7a4 34 = .ok (.imul, 1) := by decide +kernel
theorem dJ6_stringSize_0f7a4_35 : decode cJ6_stringSize_0f7a4 35 = .ok (.istore_n 2, 1) := by decide +kernel
theorem dJ6_stringSize_0f7a4_36 : decode cJ6_stringSize_0f7a4 36 = .ok (.iinc 3 1, 3) := by decide +kernel
theorem dJ6_stringSize_0f7a4_39 : decode cJ6_stringSize_0f7a4 39 = .ok (.goto (-23), 3) := by decide +kernel
theorem dJ6_stringSize_0f7a4_42 : decode cJ6_stringSize_0f7a4 42 = .ok (.bipush 10, 2) := by decide +kernel
theorem dJ6_stringSize_0f7a4_44 : decode cJ6_stringSize_0f7a4 44 = .ok (.iload_n 1, 1) := by decide +kernel
theorem dJ6_stringSize_0f7a4_45 : decode cJ6_stringSize_0f7a4 45 = .ok (.iadd, 1) := by decide +kernel
theorem dJ6_stringSize_0f7a4_46 : decode cJ6_stringSize_0f7a4 46 = .ok (.ireturn, 1) := by decide +kernel
theorem dJ6_bitCount_0f7a4_0 : decode cJ6_bitCount_0f7a4 0 = .ok (.iload_n 0, 1) := by decide +kernel
theorem dJ6_bitCount_0f7a4_1 : decode cJ6_bitCount_0f7a4 1 = .ok (.iload_n 0, 1) := by decide +kernel
theorem dJ6_bitCount_0f7a4_2 : decode cJ6_bitCount_0f7a4 2 = .ok (.iconst 1, 1) := by decide +kernel
theorem dJ6_bitCount_0f7a4_3 : decode cJ6_bitCount_0f7a4 3 = .ok (.iushr, 1) := by decide +kernel
theorem dJ6_bitCount_0f7a4_4 : decode cJ6_bitCount_0f7a4 4 = .ok (.ldc_w 265, 3) := by decide +kernel
theorem dJ6_bitCount_0f7a4_7 : decode cJ6_bitCount_0f7a4 7 = .ok (.iand, 1) := by decide +kernel
theorem dJ6_bitCount_0f7a4_8 : decode cJ6_bitCount_0f7a4 8 = .ok (.isub, 1) := by decide +kernel
theorem dJ6_bitCount_0f7a4_9 : decode cJ6_bitCount_0f7a4 9 = .ok (.istore_n 0, 1) := by decide +kernel
theorem dJ6_bitCount_0f7a4_10 : decode cJ6_bitCount_0f7a4 10 = .ok (.iload_n 0, 1) := by decide +kernel
theorem dJ6_bitCount_0f7a4_11 : decode cJ6_bitCount_0f7a4 11 = .ok (.ldc_w 266, 3) := by decide +kernel
theorem dJ6_bitCount_0f7a4_14 : decode cJ6_bitCount_0f7a4 14 = .ok (.iand, 1) := by decide +kernel
theorem dJ6_bitCount_0f7a4_15 : decode cJ6_bitCount_0f7a4 15 = .ok (.iload_n 0, 1) := by decide +kernel
theorem dJ6_bitCount_0f7a4_16 : decode cJ6_bitCount_0f7a4 16 = .ok (.iconst 2, 1) := by decide +kernel
theorem dJ6_bitCount_0f7a4_17 : decode cJ6_bitCount_0f7a4 17 = .ok (.iushr, 1) := by decide +kernel
theorem dJ6_bitCount_0f7a4_18 : decode cJ6_bitCount_0f7a4 18 = .ok (.ldc_w 266, 3) := by decide +kernel
theorem dJ6_bitCount_0f7a4_21 : decode cJ6_bitCount_0f7a4 21 = .ok (.iand, 1) := by decide +kernel
theorem dJ6_bitCount_0f7a4_22 : decode cJ6_bitCount_0f7a4 22 = .ok (.iadd, 1) := by decide +kernel
theorem dJ6_bitCount_0f7a4_23 : decode cJ6_bitCount_0f7a4 23 = .ok (.istore_n 0, 1) := by decide +kernel
theorem dJ6_bitCount_0f7a4_24 : decode cJ6_bitCount_0f7a4 24 = .ok (.iload_n 0, 1) := by decide +kernel
theorem dJ6_bitCount_0f7a4_25 : decode cJ6_bitCount_0f7a4 25 = .ok (.iload_n 0, 1) := by decide +kernel
theorem dJ6_bitCount_0f7a4_26 : decode cJ6_bitCount_0f7a4 26 = .ok (.iconst 4, 1) := by decide +kernel
theorem dJ6_bitCount_0f7a4_27 : decode cJ6_bitCount_0f7a4 27 = .ok (.iushr, 1) := by decide +kernel
theorem dJ6_bitCount_0f7a4_28 : decode cJ6_bitCount_0f7a4 28 = .ok (.iadd, 1) := by decide +kernel
theorem dJ6_bitCount_0f7a4_29 : decode cJ6_bitCount_0f7a4 29 = .ok (.ldc_w 267, 3) := by decide +kernel
theorem dJ6_bitCount_0f7a4_32 : decode cJ6_bitCount_0f7a4 32 = .ok (.iand, 1) := by decide +kernel
theorem dJ6_bitCount_0f7a4_33 : decode cJ6_bitCount_0f7a4 33 = .ok (.istore_n 0, 1) := by decide +kernel
theorem dJ6_bitCount_0f7a4_34 : decode cJ6_bitCount_0f7a4 34 = .ok (.iload_n 0, 1) := by decide +kernel
theorem dJ6_bitCount_0f7a4_35 : decode cJ6_bitCount_0f7a4 35 = .ok (.iload_n 0, 1) := by decide +kernel
theorem dJ6_bitCount_0f7a4_36 : decode cJ6_bitCount_0f7a4 36 = .ok (.bipush 8, 2) := by decide +kernel
theorem dJ6_bitCount_0f7a4_38 : decode cJ6_bitCount_0f7a4 38 = .ok (.iushr, 1) := by decide +kernel
theorem dJ6_bitCount_0f7a4_39 : decode cJ6_bitCount_0f7a4 39 = .ok (.iadd, 1) := by decide +kernel
theorem dJ6_bitCount_0f7a4_40 : decode cJ6_bitCount_0f7a4 40 = .ok (.istore_n 0, 1) := by decide +kernel
theorem dJ6_bitCount_0f7a4_41 : decode cJ6_bitCount_0f7a4 41 = .ok (.iload_n 0, 1) := by decide +kernel
theorem dJ6_bitCount_0f7a4_42 : decode cJ6_bitCount_0f7a4 42 = .ok (.iload_n 0, 1) := by decide +kernel
theorem dJ6_bitCount_0f7a4_43 : decode cJ6_bitCount_0f7a4 43 = .ok (.bipush 16, 2) := by decide +kernel
theorem dJ6_bitCount_0f7a4_45 : decode cJ6_bitCount_0f7a4 45 = .ok (.iushr, 1) := by decide +kernel
theorem dJ6_bitCount_0f7a4_46 : decode cJ6_bitCount_0f7a4 46 = .ok (.iadd, 1) := by decide +kernel
theorem dJ6_bitCount_0f7a4_47 : decode cJ6_bitCount_0f7a4 47 = .ok (.istore_n 0, 1) := by decide +kernel
theorem dJ6_bitCount_0f7a4_48 : decode cJ6_bitCount_0f7a4 48 = .ok (.iload_n 0, 1) := by decide +kernel
theorem dJ6_bitCount_0f7a4_49 : decode cJ6_bitCount_0f7a4 49 = .ok (.bipush 63, 2) := by decide +kernel
theorem dJ6_bitCount_0f7a4_51 : decode cJ6_bitCount_0f7a4 51 = .ok (.iand, 1) := by decide +kernel
theorem dJ6_bitCount_0f7a4_52 : decode cJ6_bitCount_0f7a4 52 = .ok (.ireturn, 1) := by decide +kernel
