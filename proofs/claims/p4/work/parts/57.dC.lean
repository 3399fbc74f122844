theorem dX8_init_0 : decode cX8_init 0 = .ok (.aload_n 0, 1) := by decide +kernel
theorem dX8_init_1 : decode cX8_init 1 = .ok (.invokespecial 3, 3) := by decide +kernel
theorem dX8_init_4 : decode cX8_init 4 = .ok (.aload_n 0, 1) := by decide +kernel
theorem dX8_init_5 : decode cX8_init 5 = .ok (.new 9, 3) := by decide +kernel
theorem dX8_init_8 : decode cX8_init 8 = .ok (.dup, 1) := by decide +kernel
theorem dX8_init_9 : decode cX8_init 9 = .ok (.invokespecial 11, 3) := by decide +kernel
theorem dX8_init_12 : decode cX8_init 12 = .ok (.putfield 12, 3) := by decide +kernel
theorem dX8_init_15 : decode cX8_init 15 = .ok (.aload_n 0, 1) := by decide +kernel
theorem dX8_init_16 : decode cX8_init 16 = .ok (.new 18, 3) := by decide +kernel
theorem dX8_init_19 : decode cX8_init 19 = .ok (.dup, 1) := by decide +kernel
theorem dX8_init_20 : decode cX8_init 20 = .ok (.invokespecial 20, 3) := by decide +kernel
theorem dX8_init_23 : decode cX8_init 23 = .ok (.putfield 21, 3) := by decide +kernel
theorem dX8_init_26 : decode cX8_init 26 = .ok (.aload_n 0, 1) := by decide +kernel
theorem dX8_init_27 : decode cX8_init 27 = .ok (.bipush 8, 2) := by decide +kernel
theorem dX8_init_29 : decode cX8_init 29 = .ok (.anewarray 18, 3) := by decide +kernel
theorem dX8_init_32 : decode cX8_init 32 = .ok (.putfield 25, 3) := by decide +kernel
theorem dX8_init_35 : decode cX8_init 35 = .ok (.aload_n 0, 1) := by decide +kernel
theorem dX8_init_36 : decode cX8_init 36 = .ok (.iconst 0, 1) := by decide +kernel
theorem dX8_init_37 : decode cX8_init 37 = .ok (.putfield 29, 3) := by decide +kernel
theorem dX8_init_40 : decode cX8_init 40 = .ok (.aload_n 0, 1) := by decide +kernel
theorem dX8_init_41 : decode cX8_init 41 = .ok (.new 33, 3) := by decide +kernel
theorem dX8_init_44 : decode cX8_init 44 = .ok (.dup, 1) := by decide +kernel
theorem dX8_init_45 : decode cX8_init 45 = .ok (.invokespecial 35, 3) := by decide +kernel
theorem dX8_init_48 : decode cX8_init 48 = .ok (.putfield 36, 3) := by decide +kernel
theorem dX8_init_51 : decode cX8_init 51 = .ok (.aload_n 0, 1) := by decide +kernel
theorem dX8_init_52 : decode cX8_init 52 = .ok (.new 33, 3) := by decide +kernel
theorem dX8_init_55 : decode cX8_init 55 = .ok (.dup, 1) := by decide +kernel
theorem dX8_init_56 : decode cX8_init 56 = .ok (.invokespecial 35, 3) := by decide +kernel
theorem dX8_init_59 : decode cX8_init 59 = .ok (.putfield 40, 3) := by decide +kernel
theorem dX8_init_62 : decode cX8_init 62 = .ok (.aload_n 0, 1) := by decide +kernel
theorem dX8_init_63 : decode cX8_init 63 = .ok (.new 43, 3) := by decide +kernel
theorem dX8_init_66 : decode cX8_init 66 = .ok (.dup, 1) := by decide +kernel
theorem dX8_init_67 : decode cX8_init 67 = .ok (.invokespecial 45, 3) := by decide +kernel
theorem dX8_init_70 : decode cX8_init 70 = .ok (.putfield 46, 3) := by decide +kernel
theorem dX8_init_73 : decode cX8_init 73 = .ok (.aload_n 0, 1) := by decide +kernel
theorem dX8_init_74 : decode cX8_init 74 = .ok (.new 50, 3) := by decide +kernel
theorem dX8_init_77 : decode cX8_init 77 = .ok (.dup, 1) := by decide +kernel
theorem dX8_init_78 : decode cX8_init 78 = .ok (.invokespecial 52, 3) := by decide +kernel
theorem dX8_init_81 : decode cX8_init 81 = .ok (.putfield 53, 3) := by decide +kernel
theorem dX8_init_84 : decode cX8_init 84 = .ok (.return_, 1) := by decide +kernel
theorem dX8_feed_0 : decode cX8_feed 0 = .ok (.aload_n 0, 1) := by decide +kernel
theorem dX8_feed_1 : decode cX8_feed 1 = .ok (.getfield 12, 3) := by decide +kernel
theorem dX8_feed_4 : decode cX8_feed 4 = .ok (.invokevirtual 57, 3) := by decide +kernel
theorem dX8_feed_7 : decode cX8_feed 7 = .ok (.bipush 20, 2) := by decide +kernel
theorem dX8_feed_9 : decode cX8_feed 9 = .ok (.iadd, 1) := by decide +kernel
theorem dX8_feed_10 : decode cX8_feed 10 = .ok (.sipush 200, 3) := by decide +kernel
theorem dX8_feed_13 : decode cX8_feed 13 = .ok (.if_icmp .le 5, 3) := by decide +kernel
theorem dX8_feed_16 : decode cX8_feed 16 = .ok (.iconst (-1), 1) := by decide +kernel
theorem dX8_feed_17 : decode cX8_feed 17 = .ok (.ireturn, 1) := by decide +kernel
theorem dX8_feed_18 : decode cX8_feed 18 = .ok (.aload_n 0, 1) := by decide +kernel
theorem dX8_feed_19 : decode cX8_feed 19 = .ok (.getfield 12, 3) := by decide +kernel
theorem dX8_feed_22 : decode cX8_feed 22 = .ok (.iload_n 1, 1) := by decide +kernel
theorem dX8_feed_23 : decode cX8_feed 23 = .ok (.invokevirtual 61, 3) := by decide +kernel
theorem dX8_feed_26 : decode cX8_feed 26 = .ok (.aload_n 0, 1) := by decide +kernel
theorem dX8_feed_27 : decode cX8_feed 27 = .ok (.getfield 12, 3) := by decide +kernel
theorem dX8_feed_30 : decode cX8_feed 30 = .ok (.iload_n 2, 1) := by decide +kernel
theorem dX8_feed_31 : decode cX8_feed 31 = .ok (.invokevirtual 61, 3) := by decide +kernel
theorem dX8_feed_34 : decode cX8_feed 34 = .ok (.aload_n 0, 1) := by decide +kernel
theorem dX8_feed_35 : decode cX8_feed 35 = .ok (.getfield 12, 3) := by decide +kernel
theorem dX8_feed_38 : decode cX8_feed 38 = .ok (.iload_n 3, 1) := by decide +kernel
theorem dX8_feed_39 : decode cX8_feed 39 = .ok (.invokevirtual 61, 3) := by decide +kernel
theorem dX8_feed_42 : decode cX8_feed 42 = .ok (.aload_n 0, 1) := by decide +kernel
theorem dX8_feed_43 : decode cX8_feed 43 = .ok (.getfield 12, 3) := by decide +kernel
theorem dX8_feed_46 : decode cX8_feed 46 = .ok (.iload 4, 2) := by decide +kernel
theorem dX8_feed_48 : decode cX8_feed 48 = .ok (.invokevirtual 61, 3) := by decide +kernel
theorem dX8_feed_51 : decode cX8_feed 51 = .ok (.aload_n 0, 1) := by decide +kernel
theorem dX8_feed_52 : decode cX8_feed 52 = .ok (.getfield 12, 3) := by decide +kernel
theorem dX8_feed_55 : decode cX8_feed 55 = .ok (.iload 5, 2) := by decide +kernel
theorem dX8_feed_57 : decode cX8_feed 57 = .ok (.invokevirtual 61, 3) := by decide +kernel
theorem dX8_feed_60 : decode cX8_feed 60 = .ok (.aload_n 0, 1) := by decide +kernel
theorem dX8_feed_61 : decode cX8_feed 61 = .ok (.getfield 12, 3) := by decide +kernel
theorem dX8_feed_64 : decode cX8_feed 64 = .ok (.invokevirtual 57, 3) := by decide +kernel
theorem dX8_feed_67 : decode cX8_feed 67 = .ok (.ireturn, 1) := by decide +kernel
theorem dX8_tree_0 : decode cX8_tree 0 = .ok (.iload_n 1, 1) := by decide +kernel
theorem dX8_tree_1 : decode cX8_tree 1 = .ok (.iconst 1, 1) := by decide +kernel
theorem dX8_tree_2 : decode cX8_tree 2 = .ok (.bipush 6, 2) := by decide +kernel
theorem dX8_tree_4 : decode cX8_tree 4 = .ok (.invokestatic 65, 3) := by decide +kernel
theorem dX8_tree_7 : decode cX8_tree 7 = .ok (.ifCond .eq 10, 3) := by decide +kernel
theorem dX8_tree_10 : decode cX8_tree 10 = .ok (.iload_n 2, 1) := by decide +kernel
theorem dX8_tree_11 : decode cX8_tree 11 = .ok (.invokestatic 69, 3) := by decide +kernel
theorem dX8_tree_14 : decode cX8_tree 14 = .ok (.ifCond .ne 5, 3) := by decide +kernel
theorem dX8_tree_17 : decode cX8_tree 17 = .ok (.iconst 0, 1) := by decide +kernel
theorem dX8_tree_18 : decode cX8_tree 18 = .ok (.ireturn, 1) := by decide +kernel
theorem dX8_tree_19 : decode cX8_tree 19 = .ok (.aload_n 0, 1) := by decide +kernel
theorem dX8_tree_20 : decode cX8_tree 20 = .ok (.getfield 21, 3) := by decide +kernel
theorem dX8_tree_23 : decode cX8_tree 23 = .ok (.getfield 73, 3) := by decide +kernel
theorem dX8_tree_26 : decode cX8_tree 26 = .ok (.iconst 0, 1) := by decide +kernel
theorem dX8_tree_27 : decode cX8_tree 27 = .ok (.iload_n 1, 1) := by decide +kernel
theorem dX8_tree_28 : decode cX8_tree 28 = .ok (.invokevirtual 79, 3) := by decide +kernel
theorem dX8_tree_31 : decode cX8_tree 31 = .ok (.aload_n 0, 1) := by decide +kernel
theorem dX8_tree_32 : decode cX8_tree 32 = .ok (.getfield 21, 3) := by decide +kernel
theorem dX8_tree_35 : decode cX8_tree 35 = .ok (.getfield 73, 3) := by decide +kernel
theorem dX8_tree_38 : decode cX8_tree 38 = .ok (.iconst 1, 1) := by decide +kernel
theorem dX8_tree_39 : decode cX8_tree 39 = .ok (.iload_n 2, 1) := by decide +kernel
theorem dX8_tree_40 : decode cX8_tree 40 = .ok (.invokevirtual 79, 3) := by decide +kernel
theorem dX8_tree_43 : decode cX8_tree 43 = .ok (.aload_n 0, 1) := by decide +kernel
theorem dX8_tree_44 : decode cX8_tree 44 = .ok (.getfield 21, 3) := by decide +kernel
theorem dX8_tree_47 : decode cX8_tree 47 = .ok (.iconst 1, 1) := by decide +kernel
theorem dX8_tree_48 : decode cX8_tree 48 = .ok (.putfield 83, 3) := by decide +kernel
theorem dX8_tree_51 : decode cX8_tree 51 = .ok (.iconst 1, 1) := by decide +kernel
theorem dX8_tree_52 : decode cX8_tree 52 = .ok (.ireturn, 1) := by decide +kernel
theorem dX8_move_0 : decode cX8_move 0 = .ok (.iload_n 2, 1) := by decide +kernel
theorem dX8_move_1 : decode cX8_move 1 = .ok (.iconst 1, 1) := by decide +kernel
theorem dX8_move_2 : decode cX8_move 2 = .ok (.bipush 20, 2) := by decide +kernel
theorem dX8_move_4 : decode cX8_move 4 = .ok (.invokestatic 65, 3) := by decide +kernel
theorem dX8_move_7 : decode cX8_move 7 = .ok (.ifCond .eq 13, 3) := by decide +kernel
theorem dX8_move_10 : decode cX8_move 10 = .ok (.iload_n 3, 1) := by decide +kernel
theorem dX8_move_11 : decode cX8_move 11 = .ok (.iconst 1, 1) := by decide +kernel
theorem dX8_move_12 : decode cX8_move 12 = .ok (.bipush 20, 2) := by decide +kernel
theorem dX8_move_14 : decode cX8_move 14 = .ok (.invokestatic 65, 3) := by decide +kernel
theorem dX8_move_17 : decode cX8_move 17 = .ok (.ifCond .ne 5, 3) := by decide +kernel
theorem dX8_move_20 : decode cX8_move 20 = .ok (.iconst 0, 1) := by decide +kernel
theorem dX8_move_21 : decode cX8_move 21 = .ok (.ireturn, 1) := by decide +kernel
theorem dX8_move_22 : decode cX8_move 22 = .ok (.aload_n 0, 1) := by decide +kernel
theorem dX8_move_23 : decode cX8_move 23 = .ok (.getfield 21, 3) := by decide +kernel
theorem dX8_move_26 : decode cX8_move 26 = .ok (.getfield 73, 3) := by decide +kernel
theorem dX8_move_29 : decode cX8_move 29 = .ok (.iload_n 1, 1) := by decide +kernel
theorem dX8_move_30 : decode cX8_move 30 = .ok (.ifCond .eq 7, 3) := by decide +kernel
theorem dX8_move_33 : decode cX8_move 33 = .ok (.iconst 2, 1) := by decide +kernel
theorem dX8_move_34 : decode cX8_move 34 = .ok (.goto 4, 3) := by decide +kernel
theorem dX8_move_37 : decode cX8_move 37 = .ok (.iconst 4, 1) := by decide +kernel
theorem dX8_move_38 : decode cX8_move 38 = .ok (.iload_n 2, 1) := by decide +kernel
theorem dX8_move_39 : decode cX8_move 39 = .ok (.invokevirtual 79, 3) := by decide +kernel
theorem dX8_move_42 : decode cX8_move 42 = .ok (.aload_n 0, 1) := by decide +kernel
theorem dX8_move_43 : decode cX8_move 43 = .ok (.getfield 21, 3) := by decide +kernel
theorem dX8_move_46 : decode cX8_move 46 = .ok (.getfield 73, 3) := by decide +kernel
theorem dX8_move_49 : decode cX8_move 49 = .ok (.iload_n 1, 1) := by decide +kernel
theorem dX8_move_50 : decode cX8_move 50 = .ok (.ifCond .eq 7, 3) := by decide +kernel
theorem dX8_move_53 : decode cX8_move 53 = .ok (.iconst 3, 1) := by decide +kernel
theorem dX8_move_54 : decode cX8_move 54 = .ok (.goto 4, 3) := by decide +kernel
theorem dX8_move_57 : decode cX8_move 57 = .ok (.iconst 5, 1) := by decide +kernel
theorem dX8_move_58 : decode cX8_move 58 = .ok (.iload_n 3, 1) := by decide +kernel
theorem dX8_move_59 : decode cX8_move 59 = .ok (.invokevirtual 79, 3) := by decide +kernel
theorem dX8_move_62 : decode cX8_move 62 = .ok (.iconst 1, 1) := by decide +kernel
theorem dX8_move_63 : decode cX8_move 63 = .ok (.ireturn, 1) := by decide +kernel
theorem dX8_chance_0 : decode cX8_chance 0 = .ok (.iload_n 1, 1) := by decide +kernel
theorem dX8_chance_1 : decode cX8_chance 1 = .ok (.iload_n 2, 1) := by decide +kernel
theorem dX8_chance_2 : decode cX8_chance 2 = .ok (.invokestatic 86, 3) := by decide +kernel
theorem dX8_chance_5 : decode cX8_chance 5 = .ok (.ifCond .ne 5, 3) := by decide +kernel
theorem dX8_chance_8 : decode cX8_chance 8 = .ok (.iconst 0, 1) := by decide +kernel
theorem dX8_chance_9 : decode cX8_chance 9 = .ok (.ireturn, 1) := by decide +kernel
theorem dX8_chance_10 : decode cX8_chance 10 = .ok (.aload_n 0, 1) := by decide +kernel
theorem dX8_chance_11 : decode cX8_chance 11 = .ok (.getfield 21, 3) := by decide +kernel
theorem dX8_chance_14 : decode cX8_chance 14 = .ok (.getfield 73, 3) := by decide +kernel
theorem dX8_chance_17 : decode cX8_chance 17 = .ok (.bipush 6, 2) := by decide +kernel
theorem dX8_chance_19 : decode cX8_chance 19 = .ok (.iload_n 1, 1) := by decide +kernel
theorem dX8_chance_20 : decode cX8_chance 20 = .ok (.invokevirtual 79, 3) := by decide +kernel
theorem dX8_chance_23 : decode cX8_chance 23 = .ok (.aload_n 0, 1) := by decide +kernel
theorem dX8_chance_24 : decode cX8_chance 24 = .ok (.getfield 21, 3) := by decide +kernel
theorem dX8_chance_27 : decode cX8_chance 27 = .ok (.getfield 73, 3) := by decide +kernel
theorem dX8_chance_30 : decode cX8_chance 30 = .ok (.bipush 7, 2) := by decide +kernel
theorem dX8_chance_32 : decode cX8_chance 32 = .ok (.iload_n 2, 1) := by decide +kernel
theorem dX8_chance_33 : decode cX8_chance 33 = .ok (.invokevirtual 79, 3) := by decide +kernel
theorem dX8_chance_36 : decode cX8_chance 36 = .ok (.iconst 1, 1) := by decide +kernel
theorem dX8_chance_37 : decode cX8_chance 37 = .ok (.ireturn, 1) := by decide +kernel
theorem dX8_rate_0 : decode cX8_rate 0 = .ok (.iload_n 1, 1) := by decide +kernel
theorem dX8_rate_1 : decode cX8_rate 1 = .ok (.iconst 0, 1) := by decide +kernel
theorem dX8_rate_2 : decode cX8_rate 2 = .ok (.sipush 200, 3) := by decide +kernel
theorem dX8_rate_5 : decode cX8_rate 5 = .ok (.invokestatic 65, 3) := by decide +kernel
theorem dX8_rate_8 : decode cX8_rate 8 = .ok (.ifCond .ne 5, 3) := by decide +kernel
theorem dX8_rate_11 : decode cX8_rate 11 = .ok (.iconst (-1), 1) := by decide +kernel
theorem dX8_rate_12 : decode cX8_rate 12 = .ok (.ireturn, 1) := by decide +kernel
theorem dX8_rate_13 : decode cX8_rate 13 = .ok (.aload_n 0, 1) := by decide +kernel
theorem dX8_rate_14 : decode cX8_rate 14 = .ok (.getfield 21, 3) := by decide +kernel
theorem dX8_rate_17 : decode cX8_rate 17 = .ok (.getfield 73, 3) := by decide +kernel
theorem dX8_rate_20 : decode cX8_rate 20 = .ok (.bipush 8, 2) := by decide +kernel
theorem dX8_rate_22 : decode cX8_rate 22 = .ok (.invokevirtual 90, 3) := by decide +kernel
theorem dX8_rate_25 : decode cX8_rate 25 = .ok (.istore_n 2, 1) := by decide +kernel
theorem dX8_rate_26 : decode cX8_rate 26 = .ok (.aload_n 0, 1) := by decide +kernel
theorem dX8_rate_27 : decode cX8_rate 27 = .ok (.getfield 21, 3) := by decide +kernel
theorem dX8_rate_30 : decode cX8_rate 30 = .ok (.getfield 73, 3) := by decide +kernel
theorem dX8_rate_33 : decode cX8_rate 33 = .ok (.bipush 8, 2) := by decide +kernel
theorem dX8_rate_35 : decode cX8_rate 35 = .ok (.iload_n 1, 1) := by decide +kernel
theorem dX8_rate_36 : decode cX8_rate 36 = .ok (.invokevirtual 79, 3) := by decide +kernel
theorem dX8_rate_39 : decode cX8_rate 39 = .ok (.iload_n 2, 1) := by decide +kernel
theorem dX8_rate_40 : decode cX8_rate 40 = .ok (.ireturn, 1) := by decide +kernel
theorem dX8_price_0 : decode cX8_price 0 = .ok (.aload_n 0, 1) := by decide +kernel
theorem dX8_price_1 : decode cX8_price 1 = .ok (.iload_n 1, 1) := by decide +kernel
theorem dX8_price_2 : decode cX8_price 2 = .ok (.invokevirtual 94, 3) := by decide +kernel
theorem dX8_price_5 : decode cX8_price 5 = .ok (.ifCond .eq 21, 3) := by decide +kernel
theorem dX8_price_8 : decode cX8_price 8 = .ok (.iload_n 2, 1) := by decide +kernel
theorem dX8_price_9 : decode cX8_price 9 = .ok (.iconst 0, 1) := by decide +kernel
theorem dX8_price_10 : decode cX8_price 10 = .ok (.iload_n 1, 1) := by decide +kernel
theorem dX8_price_11 : decode cX8_price 11 = .ok (.invokestatic 65, 3) := by decide +kernel
theorem dX8_price_14 : decode cX8_price 14 = .ok (.ifCond .eq 12, 3) := by decide +kernel
theorem dX8_price_17 : decode cX8_price 17 = .ok (.iload_n 3, 1) := by decide +kernel
theorem dX8_price_18 : decode cX8_price 18 = .ok (.iconst 0, 1) := by decide +kernel
theorem dX8_price_19 : decode cX8_price 19 = .ok (.iconst 2, 1) := by decide +kernel
theorem dX8_price_20 : decode cX8_price 20 = .ok (.invokestatic 65, 3) := by decide +kernel
theorem dX8_price_23 : decode cX8_price 23 = .ok (.ifCond .ne 7, 3) := by decide +kernel
theorem dX8_price_26 : decode cX8_price 26 = .ok (.ldc2_w 97, 3) := by decide +kernel
theorem dX8_price_29 : decode cX8_price 29 = .ok (.lreturn, 1) := by decide +kernel
theorem dX8_price_30 : decode cX8_price 30 = .ok (.iload_n 3, 1) := by decide +kernel
theorem dX8_price_31 : decode cX8_price 31 = .ok (.ifCond .ne 16, 3) := by decide +kernel
theorem dX8_price_34 : decode cX8_price 34 = .ok (.aload_n 0, 1) := by decide +kernel
theorem dX8_price_35 : decode cX8_price 35 = .ok (.getfield 21, 3) := by decide +kernel
theorem dX8_price_38 : decode cX8_price 38 = .ok (.getfield 73, 3) := by decide +kernel
theorem dX8_price_41 : decode cX8_price 41 = .ok (.iload_n 1, 1) := by decide +kernel
theorem dX8_price_42 : decode cX8_price 42 = .ok (.iload_n 2, 1) := by decide +kernel
theorem dX8_price_43 : decode cX8_price 43 = .ok (.invokevirtual 99, 3) := by decide +kernel
theorem dX8_price_46 : decode cX8_price 46 = .ok (.lreturn, 1) := by decide +kernel
theorem dX8_price_47 : decode cX8_price 47 = .ok (.aload_n 0, 1) := by decide +kernel
theorem dX8_price_48 : decode cX8_price 48 = .ok (.getfield 21, 3) := by decide +kernel
theorem dX8_price_51 : decode cX8_price 51 = .ok (.getfield 73, 3) := by decide +kernel
theorem dX8_price_54 : decode cX8_price 54 = .ok (.iload_n 1, 1) := by decide +kernel
theorem dX8_price_55 : decode cX8_price 55 = .ok (.iload_n 2, 1) := by decide +kernel
theorem dX8_price_56 : decode cX8_price 56 = .ok (.invokevirtual 103, 3) := by decide +kernel
theorem dX8_price_59 : decode cX8_price 59 = .ok (.lstore 4, 2) := by decide +kernel
theorem dX8_price_61 : decode cX8_price 61 = .ok (.aload_n 0, 1) := by decide +kernel
theorem dX8_price_62 : decode cX8_price 62 = .ok (.getfield 21, 3) := by decide +kernel
theorem dX8_price_65 : decode cX8_price 65 = .ok (.getfield 73, 3) := by decide +kernel
theorem dX8_price_68 : decode cX8_price 68 = .ok (.iload_n 1, 1) := by decide +kernel
theorem dX8_price_69 : decode cX8_price 69 = .ok (.iload_n 2, 1) := by decide +kernel
theorem dX8_price_70 : decode cX8_price 70 = .ok (.invokevirtual 106, 3) := by decide +kernel
theorem dX8_price_73 : decode cX8_price 73 = .ok (.lstore 6, 2) := by decide +kernel
theorem dX8_price_75 : decode cX8_price 75 = .ok (.iload_n 3, 1) := by decide +kernel
theorem dX8_price_76 : decode cX8_price 76 = .ok (.iconst 1, 1) := by decide +kernel
theorem dX8_price_77 : decode cX8_price 77 = .ok (.if_icmp .ne 8, 3) := by decide +kernel
theorem dX8_price_80 : decode cX8_price 80 = .ok (.lload 4, 2) := by decide +kernel
theorem dX8_price_82 : decode cX8_price 82 = .ok (.goto 5, 3) := by decide +kernel
theorem dX8_price_85 : decode cX8_price 85 = .ok (.lload 6, 2) := by decide +kernel
theorem dX8_price_87 : decode cX8_price 87 = .ok (.lload 4, 2) := by decide +kernel
theorem dX8_price_89 : decode cX8_price 89 = .ok (.lload 6, 2) := by decide +kernel
theorem dX8_price_91 : decode cX8_price 91 = .ok (.invokestatic 109, 3) := by decide +kernel
theorem dX8_price_94 : decode cX8_price 94 = .ok (.invokestatic 113, 3) := by decide +kernel
theorem dX8_price_97 : decode cX8_price 97 = .ok (.lreturn, 1) := by decide +kernel
theorem dX8_bond_0 : decode cX8_bond 0 = .ok (.iload_n 1, 1) := by decide +kernel
theorem dX8_bond_1 : decode cX8_bond 1 = .ok (.invokestatic 116, 3) := by decide +kernel
theorem dX8_bond_4 : decode cX8_bond 4 = .ok (.ifCond .eq 24, 3) := by decide +kernel
theorem dX8_bond_7 : decode cX8_bond 7 = .ok (.iload_n 2, 1) := by decide +kernel
theorem dX8_bond_8 : decode cX8_bond 8 = .ok (.iconst 1, 1) := by decide +kernel
theorem dX8_bond_9 : decode cX8_bond 9 = .ok (.ldc 119, 2) := by decide +kernel
theorem dX8_bond_11 : decode cX8_bond 11 = .ok (.invokestatic 65, 3) := by decide +kernel
theorem dX8_bond_14 : decode cX8_bond 14 = .ok (.ifCond .eq 14, 3) := by decide +kernel
theorem dX8_bond_17 : decode cX8_bond 17 = .ok (.iload_n 3, 1) := by decide +kernel
theorem dX8_bond_18 : decode cX8_bond 18 = .ok (.iconst 0, 1) := by decide +kernel
theorem dX8_bond_19 : decode cX8_bond 19 = .ok (.sipush 1000, 3) := by decide +kernel
theorem dX8_bond_22 : decode cX8_bond 22 = .ok (.invokestatic 65, 3) := by decide +kernel
theorem dX8_bond_25 : decode cX8_bond 25 = .ok (.ifCond .ne 5, 3) := by decide +kernel
theorem dX8_bond_28 : decode cX8_bond 28 = .ok (.iconst 0, 1) := by decide +kernel
theorem dX8_bond_29 : decode cX8_bond 29 = .ok (.ireturn, 1) := by decide +kernel
theorem dX8_bond_30 : decode cX8_bond 30 = .ok (.aload_n 0, 1) := by decide +kernel
theorem dX8_bond_31 : decode cX8_bond 31 = .ok (.getfield 21, 3) := by decide +kernel
theorem dX8_bond_34 : decode cX8_bond 34 = .ok (.getfield 120, 3) := by decide +kernel
theorem dX8_bond_37 : decode cX8_bond 37 = .ok (.iload_n 1, 1) := by decide +kernel
theorem dX8_bond_38 : decode cX8_bond 38 = .ok (.aaload, 1) := by decide +kernel
theorem dX8_bond_39 : decode cX8_bond 39 = .ok (.iconst 0, 1) := by decide +kernel
theorem dX8_bond_40 : decode cX8_bond 40 = .ok (.iload_n 2, 1) := by decide +kernel
theorem dX8_bond_41 : decode cX8_bond 41 = .ok (.invokevirtual 126, 3) := by decide +kernel
theorem dX8_bond_44 : decode cX8_bond 44 = .ok (.aload_n 0, 1) := by decide +kernel
theorem dX8_bond_45 : decode cX8_bond 45 = .ok (.getfield 21, 3) := by decide +kernel
theorem dX8_bond_48 : decode cX8_bond 48 = .ok (.getfield 120, 3) := by decide +kernel
theorem dX8_bond_51 : decode cX8_bond 51 = .ok (.iload_n 1, 1) := by decide +kernel
theorem dX8_bond_52 : decode cX8_bond 52 = .ok (.aaload, 1) := by decide +kernel
theorem dX8_bond_53 : decode cX8_bond 53 = .ok (.iconst 1, 1) := by decide +kernel
theorem dX8_bond_54 : decode cX8_bond 54 = .ok (.iload_n 3, 1) := by decide +kernel
theorem dX8_bond_55 : decode cX8_bond 55 = .ok (.invokevirtual 126, 3) := by decide +kernel
theorem dX8_bond_58 : decode cX8_bond 58 = .ok (.iconst 1, 1) := by decide +kernel
theorem dX8_bond_59 : decode cX8_bond 59 = .ok (.ireturn, 1) := by decide +kernel
theorem dX8_coupon_0 : decode cX8_coupon 0 = .ok (.iload_n 1, 1) := by decide +kernel
theorem dX8_coupon_1 : decode cX8_coupon 1 = .ok (.invokestatic 116, 3) := by decide +kernel
theorem dX8_coupon_4 : decode cX8_coupon 4 = .ok (.ifCond .eq 24, 3) := by decide +kernel
theorem dX8_coupon_7 : decode cX8_coupon 7 = .ok (.iload_n 2, 1) := by decide +kernel
theorem dX8_coupon_8 : decode cX8_coupon 8 = .ok (.iconst 1, 1) := by decide +kernel
theorem dX8_coupon_9 : decode cX8_coupon 9 = .ok (.bipush 6, 2) := by decide +kernel
theorem dX8_coupon_11 : decode cX8_coupon 11 = .ok (.invokestatic 65, 3) := by decide +kernel
theorem dX8_coupon_14 : decode cX8_coupon 14 = .ok (.ifCond .eq 14, 3) := by decide +kernel
theorem dX8_coupon_17 : decode cX8_coupon 17 = .ok (.iload_n 3, 1) := by decide +kernel
theorem dX8_coupon_18 : decode cX8_coupon 18 = .ok (.iconst 0, 1) := by decide +kernel
theorem dX8_coupon_19 : decode cX8_coupon 19 = .ok (.sipush 1000, 3) := by decide +kernel
theorem dX8_coupon_22 : decode cX8_coupon 22 = .ok (.invokestatic 65, 3) := by decide +kernel
theorem dX8_coupon_25 : decode cX8_coupon 25 = .ok (.ifCond .ne 5, 3) := by decide +kernel
theorem dX8_coupon_28 : decode cX8_coupon 28 = .ok (.iconst (-1), 1) := by decide +kernel
theorem dX8_coupon_29 : decode cX8_coupon 29 = .ok (.ireturn, 1) := by decide +kernel
theorem dX8_coupon_30 : decode cX8_coupon 30 = .ok (.aload_n 0, 1) := by decide +kernel
theorem dX8_coupon_31 : decode cX8_coupon 31 = .ok (.iload_n 1, 1) := by decide +kernel
theorem dX8_coupon_32 : decode cX8_coupon 32 = .ok (.bipush 10, 2) := by decide +kernel
theorem dX8_coupon_34 : decode cX8_coupon 34 = .ok (.iload_n 2, 1) := by decide +kernel
theorem dX8_coupon_35 : decode cX8_coupon 35 = .ok (.iadd, 1) := by decide +kernel
theorem dX8_coupon_36 : decode cX8_coupon 36 = .ok (.iload_n 3, 1) := by decide +kernel
theorem dX8_coupon_37 : decode cX8_coupon 37 = .ok (.invokevirtual 127, 3) := by decide +kernel
theorem dX8_coupon_40 : decode cX8_coupon 40 = .ok (.ireturn, 1) := by decide +kernel
theorem dX8_call_0 : decode cX8_call 0 = .ok (.aload_n 0, 1) := by decide +kernel
theorem dX8_call_1 : decode cX8_call 1 = .ok (.iload_n 1, 1) := by decide +kernel
theorem dX8_call_2 : decode cX8_call 2 = .ok (.bipush 20, 2) := by decide +kernel
theorem dX8_call_4 : decode cX8_call 4 = .ok (.iload_n 2, 1) := by decide +kernel
theorem dX8_call_5 : decode cX8_call 5 = .ok (.iload_n 3, 1) := by decide +kernel
theorem dX8_call_6 : decode cX8_call 6 = .ok (.invokevirtual 131, 3) := by decide +kernel
theorem dX8_call_9 : decode cX8_call 9 = .ok (.ireturn, 1) := by decide +kernel
theorem dX8_put_0 : decode cX8_put 0 = .ok (.aload_n 0, 1) := by decide +kernel
theorem dX8_put_1 : decode cX8_put 1 = .ok (.iload_n 1, 1) := by decide +kernel
theorem dX8_put_2 : decode cX8_put 2 = .ok (.bipush 30, 2) := by decide +kernel
theorem dX8_put_4 : decode cX8_put 4 = .ok (.iload_n 2, 1) := by decide +kernel
theorem dX8_put_5 : decode cX8_put 5 = .ok (.iload_n 3, 1) := by decide +kernel
theorem dX8_put_6 : decode cX8_put 6 = .ok (.invokevirtual 131, 3) := by decide +kernel
theorem dX8_put_9 : decode cX8_put 9 = .ok (.ireturn, 1) := by decide +kernel
theorem dX8_window_0 : decode cX8_window 0 = .ok (.iload_n 1, 1) := by decide +kernel
theorem dX8_window_1 : decode cX8_window 1 = .ok (.invokestatic 116, 3) := by decide +kernel
theorem dX8_window_4 : decode cX8_window 4 = .ok (.ifCond .eq 22, 3) := by decide +kernel
theorem dX8_window_7 : decode cX8_window 7 = .ok (.iload_n 3, 1) := by decide +kernel
theorem dX8_window_8 : decode cX8_window 8 = .ok (.iconst 0, 1) := by decide +kernel
theorem dX8_window_9 : decode cX8_window 9 = .ok (.bipush 6, 2) := by decide +kernel
theorem dX8_window_11 : decode cX8_window 11 = .ok (.invokestatic 65, 3) := by decide +kernel
theorem dX8_window_14 : decode cX8_window 14 = .ok (.ifCond .eq 12, 3) := by decide +kernel
theorem dX8_window_17 : decode cX8_window 17 = .ok (.iload_n 2, 1) := by decide +kernel
theorem dX8_window_18 : decode cX8_window 18 = .ok (.iconst 0, 1) := by decide +kernel
theorem dX8_window_19 : decode cX8_window 19 = .ok (.iload_n 3, 1) := by decide +kernel
theorem dX8_window_20 : decode cX8_window 20 = .ok (.invokestatic 65, 3) := by decide +kernel
theorem dX8_window_23 : decode cX8_window 23 = .ok (.ifCond .ne 5, 3) := by decide +kernel
theorem dX8_window_26 : decode cX8_window 26 = .ok (.iconst 0, 1) := by decide +kernel
theorem dX8_window_27 : decode cX8_window 27 = .ok (.ireturn, 1) := by decide +kernel
theorem dX8_window_28 : decode cX8_window 28 = .ok (.aload_n 0, 1) := by decide +kernel
theorem dX8_window_29 : decode cX8_window 29 = .ok (.getfield 21, 3) := by decide +kernel
theorem dX8_window_32 : decode cX8_window 32 = .ok (.getfield 120, 3) := by decide +kernel
theorem dX8_window_35 : decode cX8_window 35 = .ok (.iload_n 1, 1) := by decide +kernel
theorem dX8_window_36 : decode cX8_window 36 = .ok (.aaload, 1) := by decide +kernel
theorem dX8_window_37 : decode cX8_window 37 = .ok (.iconst 2, 1) := by decide +kernel
theorem dX8_window_38 : decode cX8_window 38 = .ok (.iload_n 2, 1) := by decide +kernel
theorem dX8_window_39 : decode cX8_window 39 = .ok (.invokevirtual 126, 3) := by decide +kernel
theorem dX8_window_42 : decode cX8_window 42 = .ok (.aload_n 0, 1) := by decide +kernel
theorem dX8_window_43 : decode cX8_window 43 = .ok (.getfield 21, 3) := by decide +kernel
theorem dX8_window_46 : decode cX8_window 46 = .ok (.getfield 120, 3) := by decide +kernel
theorem dX8_window_49 : decode cX8_window 49 = .ok (.iload_n 1, 1) := by decide +kernel
theorem dX8_window_50 : decode cX8_window 50 = .ok (.aaload, 1) := by decide +kernel
theorem dX8_window_51 : decode cX8_window 51 = .ok (.iconst 3, 1) := by decide +kernel
theorem dX8_window_52 : decode cX8_window 52 = .ok (.iload_n 3, 1) := by decide +kernel
theorem dX8_window_53 : decode cX8_window 53 = .ok (.invokevirtual 126, 3) := by decide +kernel
theorem dX8_window_56 : decode cX8_window 56 = .ok (.iconst 1, 1) := by decide +kernel
theorem dX8_window_57 : decode cX8_window 57 = .ok (.ireturn, 1) := by decide +kernel
theorem dX8_soft_0 : decode cX8_soft 0 = .ok (.iload_n 1, 1) := by decide +kernel
theorem dX8_soft_1 : decode cX8_soft 1 = .ok (.invokestatic 116, 3) := by decide +kernel
theorem dX8_soft_4 : decode cX8_soft 4 = .ok (.ifCond .eq 29, 3) := by decide +kernel
theorem dX8_soft_7 : decode cX8_soft 7 = .ok (.iload_n 3, 1) := by decide +kernel
theorem dX8_soft_8 : decode cX8_soft 8 = .ok (.iconst 1, 1) := by decide +kernel
theorem dX8_soft_9 : decode cX8_soft 9 = .ok (.iconst 3, 1) := by decide +kernel
theorem dX8_soft_10 : decode cX8_soft 10 = .ok (.invokestatic 65, 3) := by decide +kernel
theorem dX8_soft_13 : decode cX8_soft 13 = .ok (.ifCond .eq 20, 3) := by decide +kernel
theorem dX8_soft_16 : decode cX8_soft 16 = .ok (.iload_n 2, 1) := by decide +kernel
theorem dX8_soft_17 : decode cX8_soft 17 = .ok (.iconst 0, 1) := by decide +kernel
theorem dX8_soft_18 : decode cX8_soft 18 = .ok (.iload_n 3, 1) := by decide +kernel
theorem dX8_soft_19 : decode cX8_soft 19 = .ok (.invokestatic 65, 3) := by decide +kernel
theorem dX8_soft_22 : decode cX8_soft 22 = .ok (.ifCond .eq 11, 3) := by decide +kernel
theorem dX8_soft_25 : decode cX8_soft 25 = .ok (.iload 4, 2) := by decide +kernel
theorem dX8_soft_27 : decode cX8_soft 27 = .ok (.invokestatic 135, 3) := by decide +kernel
theorem dX8_soft_30 : decode cX8_soft 30 = .ok (.ifCond .ne 5, 3) := by decide +kernel
theorem dX8_soft_33 : decode cX8_soft 33 = .ok (.iconst 0, 1) := by decide +kernel
theorem dX8_soft_34 : decode cX8_soft 34 = .ok (.ireturn, 1) := by decide +kernel
theorem dX8_soft_35 : decode cX8_soft 35 = .ok (.aload_n 0, 1) := by decide +kernel
theorem dX8_soft_36 : decode cX8_soft 36 = .ok (.getfield 21, 3) := by decide +kernel
theorem dX8_soft_39 : decode cX8_soft 39 = .ok (.getfield 120, 3) := by decide +kernel
theorem dX8_soft_42 : decode cX8_soft 42 = .ok (.iload_n 1, 1) := by decide +kernel
theorem dX8_soft_43 : decode cX8_soft 43 = .ok (.aaload, 1) := by decide +kernel
theorem dX8_soft_44 : decode cX8_soft 44 = .ok (.iconst 4, 1) := by decide +kernel
theorem dX8_soft_45 : decode cX8_soft 45 = .ok (.iload_n 2, 1) := by decide +kernel
theorem dX8_soft_46 : decode cX8_soft 46 = .ok (.invokevirtual 126, 3) := by decide +kernel
theorem dX8_soft_49 : decode cX8_soft 49 = .ok (.aload_n 0, 1) := by decide +kernel
theorem dX8_soft_50 : decode cX8_soft 50 = .ok (.getfield 21, 3) := by decide +kernel
theorem dX8_soft_53 : decode cX8_soft 53 = .ok (.getfield 120, 3) := by decide +kernel
theorem dX8_soft_56 : decode cX8_soft 56 = .ok (.iload_n 1, 1) := by decide +kernel
theorem dX8_soft_57 : decode cX8_soft 57 = .ok (.aaload, 1) := by decide +kernel
theorem dX8_soft_58 : decode cX8_soft 58 = .ok (.iconst 5, 1) := by decide +kernel
theorem dX8_soft_59 : decode cX8_soft 59 = .ok (.iload_n 3, 1) := by decide +kernel
theorem dX8_soft_60 : decode cX8_soft 60 = .ok (.invokevirtual 126, 3) := by decide +kernel
theorem dX8_soft_63 : decode cX8_soft 63 = .ok (.aload_n 0, 1) := by decide +kernel
theorem dX8_soft_64 : decode cX8_soft 64 = .ok (.getfield 21, 3) := by decide +kernel
theorem dX8_soft_67 : decode cX8_soft 67 = .ok (.getfield 120, 3) := by decide +kernel
theorem dX8_soft_70 : decode cX8_soft 70 = .ok (.iload_n 1, 1) := by decide +kernel
theorem dX8_soft_71 : decode cX8_soft 71 = .ok (.aaload, 1) := by decide +kernel
theorem dX8_soft_72 : decode cX8_soft 72 = .ok (.bipush 6, 2) := by decide +kernel
theorem dX8_soft_74 : decode cX8_soft 74 = .ok (.iload 4, 2) := by decide +kernel
theorem dX8_soft_76 : decode cX8_soft 76 = .ok (.invokevirtual 126, 3) := by decide +kernel
theorem dX8_soft_79 : decode cX8_soft 79 = .ok (.iconst 1, 1) := by decide +kernel
theorem dX8_soft_80 : decode cX8_soft 80 = .ok (.ireturn, 1) := by decide +kernel
theorem dX8_settle_0 : decode cX8_settle 0 = .ok (.iload_n 1, 1) := by decide +kernel
theorem dX8_settle_1 : decode cX8_settle 1 = .ok (.invokestatic 116, 3) := by decide +kernel
theorem dX8_settle_4 : decode cX8_settle 4 = .ok (.ifCond .eq 12, 3) := by decide +kernel
theorem dX8_settle_7 : decode cX8_settle 7 = .ok (.iload_n 2, 1) := by decide +kernel
theorem dX8_settle_8 : decode cX8_settle 8 = .ok (.iconst 0, 1) := by decide +kernel
theorem dX8_settle_9 : decode cX8_settle 9 = .ok (.iconst 3, 1) := by decide +kernel
theorem dX8_settle_10 : decode cX8_settle 10 = .ok (.invokestatic 65, 3) := by decide +kernel
theorem dX8_settle_13 : decode cX8_settle 13 = .ok (.ifCond .ne 5, 3) := by decide +kernel
theorem dX8_settle_16 : decode cX8_settle 16 = .ok (.iconst (-1), 1) := by decide +kernel
theorem dX8_settle_17 : decode cX8_settle 17 = .ok (.ireturn, 1) := by decide +kernel
theorem dX8_settle_18 : decode cX8_settle 18 = .ok (.aload_n 0, 1) := by decide +kernel
theorem dX8_settle_19 : decode cX8_settle 19 = .ok (.iload_n 1, 1) := by decide +kernel
theorem dX8_settle_20 : decode cX8_settle 20 = .ok (.bipush 7, 2) := by decide +kernel
theorem dX8_settle_22 : decode cX8_settle 22 = .ok (.iload_n 2, 1) := by decide +kernel
theorem dX8_settle_23 : decode cX8_settle 23 = .ok (.invokevirtual 127, 3) := by decide +kernel
theorem dX8_settle_26 : decode cX8_settle 26 = .ok (.ireturn, 1) := by decide +kernel
theorem dX8_terms_0 : decode cX8_terms 0 = .ok (.iload_n 1, 1) := by decide +kernel
theorem dX8_terms_1 : decode cX8_terms 1 = .ok (.invokestatic 116, 3) := by decide +kernel
theorem dX8_terms_4 : decode cX8_terms 4 = .ok (.ifCond .eq 24, 3) := by decide +kernel
theorem dX8_terms_7 : decode cX8_terms 7 = .ok (.iload_n 2, 1) := by decide +kernel
theorem dX8_terms_8 : decode cX8_terms 8 = .ok (.iconst 1, 1) := by decide +kernel
theorem dX8_terms_9 : decode cX8_terms 9 = .ok (.bipush 100, 2) := by decide +kernel
theorem dX8_terms_11 : decode cX8_terms 11 = .ok (.invokestatic 65, 3) := by decide +kernel
theorem dX8_terms_14 : decode cX8_terms 14 = .ok (.ifCond .eq 14, 3) := by decide +kernel
theorem dX8_terms_17 : decode cX8_terms 17 = .ok (.iload_n 2, 1) := by decide +kernel
theorem dX8_terms_18 : decode cX8_terms 18 = .ok (.aload_n 0, 1) := by decide +kernel
theorem dX8_terms_19 : decode cX8_terms 19 = .ok (.getfield 12, 3) := by decide +kernel
theorem dX8_terms_22 : decode cX8_terms 22 = .ok (.invokevirtual 57, 3) := by decide +kernel
theorem dX8_terms_25 : decode cX8_terms 25 = .ok (.if_icmp .le 5, 3) := by decide +kernel
theorem dX8_terms_28 : decode cX8_terms 28 = .ok (.iconst (-1), 1) := by decide +kernel
theorem dX8_terms_29 : decode cX8_terms 29 = .ok (.ireturn, 1) := by decide +kernel
theorem dX8_terms_30 : decode cX8_terms 30 = .ok (.aload_n 0, 1) := by decide +kernel
theorem dX8_terms_31 : decode cX8_terms 31 = .ok (.getfield 12, 3) := by decide +kernel
theorem dX8_terms_34 : decode cX8_terms 34 = .ok (.iload_n 2, 1) := by decide +kernel
theorem dX8_terms_35 : decode cX8_terms 35 = .ok (.aload_n 0, 1) := by decide +kernel
theorem dX8_terms_36 : decode cX8_terms 36 = .ok (.getfield 21, 3) := by decide +kernel
theorem dX8_terms_39 : decode cX8_terms 39 = .ok (.getfield 120, 3) := by decide +kernel
theorem dX8_terms_42 : decode cX8_terms 42 = .ok (.iload_n 1, 1) := by decide +kernel
theorem dX8_terms_43 : decode cX8_terms 43 = .ok (.aaload, 1) := by decide +kernel
theorem dX8_terms_44 : decode cX8_terms 44 = .ok (.invokevirtual 138, 3) := by decide +kernel
theorem dX8_terms_47 : decode cX8_terms 47 = .ok (.istore_n 3, 1) := by decide +kernel
theorem dX8_terms_48 : decode cX8_terms 48 = .ok (.aload_n 0, 1) := by decide +kernel
theorem dX8_terms_49 : decode cX8_terms 49 = .ok (.getfield 12, 3) := by decide +kernel
theorem dX8_terms_52 : decode cX8_terms 52 = .ok (.invokevirtual 142, 3) := by decide +kernel
theorem dX8_terms_55 : decode cX8_terms 55 = .ok (.iload_n 3, 1) := by decide +kernel
theorem dX8_terms_56 : decode cX8_terms 56 = .ok (.ireturn, 1) := by decide +kernel
theorem dX8_told_0 : decode cX8_told 0 = .ok (.iload_n 1, 1) := by decide +kernel
theorem dX8_told_1 : decode cX8_told 1 = .ok (.invokestatic 116, 3) := by decide +kernel
theorem dX8_told_4 : decode cX8_told 4 = .ok (.ifCond .eq 10, 3) := by decide +kernel
theorem dX8_told_7 : decode cX8_told 7 = .ok (.iload_n 2, 1) := by decide +kernel
theorem dX8_told_8 : decode cX8_told 8 = .ok (.invokestatic 145, 3) := by decide +kernel
theorem dX8_told_11 : decode cX8_told 11 = .ok (.ifCond .ne 5, 3) := by decide +kernel
theorem dX8_told_14 : decode cX8_told 14 = .ok (.iconst (-1), 1) := by decide +kernel
theorem dX8_told_15 : decode cX8_told 15 = .ok (.ireturn, 1) := by decide +kernel
theorem dX8_told_16 : decode cX8_told 16 = .ok (.aload_n 0, 1) := by decide +kernel
theorem dX8_told_17 : decode cX8_told 17 = .ok (.getfield 21, 3) := by decide +kernel
theorem dX8_told_20 : decode cX8_told 20 = .ok (.getfield 120, 3) := by decide +kernel
theorem dX8_told_23 : decode cX8_told 23 = .ok (.iload_n 1, 1) := by decide +kernel
theorem dX8_told_24 : decode cX8_told 24 = .ok (.aaload, 1) := by decide +kernel
theorem dX8_told_25 : decode cX8_told 25 = .ok (.iload_n 2, 1) := by decide +kernel
theorem dX8_told_26 : decode cX8_told 26 = .ok (.invokevirtual 148, 3) := by decide +kernel
theorem dX8_told_29 : decode cX8_told 29 = .ok (.ireturn, 1) := by decide +kernel
theorem dX8_copy_0 : decode cX8_copy 0 = .ok (.iload_n 1, 1) := by decide +kernel
theorem dX8_copy_1 : decode cX8_copy 1 = .ok (.invokestatic 116, 3) := by decide +kernel
theorem dX8_copy_4 : decode cX8_copy 4 = .ok (.ifCond .eq 15, 3) := by decide +kernel
theorem dX8_copy_7 : decode cX8_copy 7 = .ok (.iload_n 2, 1) := by decide +kernel
theorem dX8_copy_8 : decode cX8_copy 8 = .ok (.invokestatic 116, 3) := by decide +kernel
theorem dX8_copy_11 : decode cX8_copy 11 = .ok (.ifCond .eq 8, 3) := by decide +kernel
theorem dX8_copy_14 : decode cX8_copy 14 = .ok (.iload_n 1, 1) := by decide +kernel
theorem dX8_copy_15 : decode cX8_copy 15 = .ok (.iload_n 2, 1) := by decide +kernel
theorem dX8_copy_16 : decode cX8_copy 16 = .ok (.if_icmp .ne 5, 3) := by decide +kernel
theorem dX8_copy_19 : decode cX8_copy 19 = .ok (.iconst 0, 1) := by decide +kernel
theorem dX8_copy_20 : decode cX8_copy 20 = .ok (.ireturn, 1) := by decide +kernel
theorem dX8_copy_21 : decode cX8_copy 21 = .ok (.aload_n 0, 1) := by decide +kernel
theorem dX8_copy_22 : decode cX8_copy 22 = .ok (.getfield 21, 3) := by decide +kernel
theorem dX8_copy_25 : decode cX8_copy 25 = .ok (.getfield 120, 3) := by decide +kernel
theorem dX8_copy_28 : decode cX8_copy 28 = .ok (.iload_n 2, 1) := by decide +kernel
theorem dX8_copy_29 : decode cX8_copy 29 = .ok (.aaload, 1) := by decide +kernel
theorem dX8_copy_30 : decode cX8_copy 30 = .ok (.aload_n 0, 1) := by decide +kernel
theorem dX8_copy_31 : decode cX8_copy 31 = .ok (.getfield 21, 3) := by decide +kernel
theorem dX8_copy_34 : decode cX8_copy 34 = .ok (.getfield 120, 3) := by decide +kernel
theorem dX8_copy_37 : decode cX8_copy 37 = .ok (.iload_n 1, 1) := by decide +kernel
theorem dX8_copy_38 : decode cX8_copy 38 = .ok (.aaload, 1) := by decide +kernel
theorem dX8_copy_39 : decode cX8_copy 39 = .ok (.invokevirtual 149, 3) := by decide +kernel
theorem dX8_copy_42 : decode cX8_copy 42 = .ok (.iconst 1, 1) := by decide +kernel
theorem dX8_copy_43 : decode cX8_copy 43 = .ok (.ireturn, 1) := by decide +kernel
theorem dX8_path_0 : decode cX8_path 0 = .ok (.aload_n 0, 1) := by decide +kernel
theorem dX8_path_1 : decode cX8_path 1 = .ok (.iload_n 1, 1) := by decide +kernel
theorem dX8_path_2 : decode cX8_path 2 = .ok (.invokevirtual 94, 3) := by decide +kernel
theorem dX8_path_5 : decode cX8_path 5 = .ok (.ifCond .eq 14, 3) := by decide +kernel
theorem dX8_path_8 : decode cX8_path 8 = .ok (.iload_n 1, 1) := by decide +kernel
theorem dX8_path_9 : decode cX8_path 9 = .ok (.aload_n 0, 1) := by decide +kernel
theorem dX8_path_10 : decode cX8_path 10 = .ok (.getfield 12, 3) := by decide +kernel
theorem dX8_path_13 : decode cX8_path 13 = .ok (.invokevirtual 57, 3) := by decide +kernel
theorem dX8_path_16 : decode cX8_path 16 = .ok (.if_icmp .le 5, 3) := by decide +kernel
theorem dX8_path_19 : decode cX8_path 19 = .ok (.iconst (-1), 1) := by decide +kernel
theorem dX8_path_20 : decode cX8_path 20 = .ok (.ireturn, 1) := by decide +kernel
theorem dX8_path_21 : decode cX8_path 21 = .ok (.aload_n 0, 1) := by decide +kernel
theorem dX8_path_22 : decode cX8_path 22 = .ok (.getfield 12, 3) := by decide +kernel
theorem dX8_path_25 : decode cX8_path 25 = .ok (.iload_n 1, 1) := by decide +kernel
theorem dX8_path_26 : decode cX8_path 26 = .ok (.invokevirtual 153, 3) := by decide +kernel
theorem dX8_path_29 : decode cX8_path 29 = .ok (.istore_n 2, 1) := by decide +kernel
theorem dX8_path_30 : decode cX8_path 30 = .ok (.aload_n 0, 1) := by decide +kernel
theorem dX8_path_31 : decode cX8_path 31 = .ok (.getfield 12, 3) := by decide +kernel
theorem dX8_path_34 : decode cX8_path 34 = .ok (.invokevirtual 142, 3) := by decide +kernel
theorem dX8_path_37 : decode cX8_path 37 = .ok (.iload_n 2, 1) := by decide +kernel
theorem dX8_path_38 : decode cX8_path 38 = .ok (.iconst 1, 1) := by decide +kernel
theorem dX8_path_39 : decode cX8_path 39 = .ok (.if_icmp .ge 6, 3) := by decide +kernel
theorem dX8_path_42 : decode cX8_path 42 = .ok (.bipush (-2), 2) := by decide +kernel
theorem dX8_path_44 : decode cX8_path 44 = .ok (.ireturn, 1) := by decide +kernel
theorem dX8_path_45 : decode cX8_path 45 = .ok (.aload_n 0, 1) := by decide +kernel
theorem dX8_path_46 : decode cX8_path 46 = .ok (.getfield 21, 3) := by decide +kernel
theorem dX8_path_49 : decode cX8_path 49 = .ok (.iload_n 2, 1) := by decide +kernel
theorem dX8_path_50 : decode cX8_path 50 = .ok (.putfield 83, 3) := by decide +kernel
theorem dX8_path_53 : decode cX8_path 53 = .ok (.iload_n 2, 1) := by decide +kernel
theorem dX8_path_54 : decode cX8_path 54 = .ok (.invokestatic 156, 3) := by decide +kernel
theorem dX8_path_57 : decode cX8_path 57 = .ok (.ireturn, 1) := by decide +kernel
theorem dX8_drawn_0 : decode cX8_drawn 0 = .ok (.aload_n 0, 1) := by decide +kernel
theorem dX8_drawn_1 : decode cX8_drawn 1 = .ok (.iload_n 2, 1) := by decide +kernel
theorem dX8_drawn_2 : decode cX8_drawn 2 = .ok (.invokevirtual 94, 3) := by decide +kernel
theorem dX8_drawn_5 : decode cX8_drawn 5 = .ok (.ifCond .ne 5, 3) := by decide +kernel
theorem dX8_drawn_8 : decode cX8_drawn 8 = .ok (.iconst (-1), 1) := by decide +kernel
theorem dX8_drawn_9 : decode cX8_drawn 9 = .ok (.ireturn, 1) := by decide +kernel
theorem dX8_drawn_10 : decode cX8_drawn 10 = .ok (.aload_n 0, 1) := by decide +kernel
theorem dX8_drawn_11 : decode cX8_drawn 11 = .ok (.getfield 46, 3) := by decide +kernel
theorem dX8_drawn_14 : decode cX8_drawn 14 = .ok (.iload_n 1, 1) := by decide +kernel
theorem dX8_drawn_15 : decode cX8_drawn 15 = .ok (.invokevirtual 159, 3) := by decide +kernel
theorem dX8_drawn_18 : decode cX8_drawn 18 = .ok (.aload_n 0, 1) := by decide +kernel
theorem dX8_drawn_19 : decode cX8_drawn 19 = .ok (.getfield 21, 3) := by decide +kernel
theorem dX8_drawn_22 : decode cX8_drawn 22 = .ok (.aload_n 0, 1) := by decide +kernel
theorem dX8_drawn_23 : decode cX8_drawn 23 = .ok (.getfield 46, 3) := by decide +kernel
theorem dX8_drawn_26 : decode cX8_drawn 26 = .ok (.iload_n 2, 1) := by decide +kernel
theorem dX8_drawn_27 : decode cX8_drawn 27 = .ok (.aload_n 0, 1) := by decide +kernel
theorem dX8_drawn_28 : decode cX8_drawn 28 = .ok (.getfield 21, 3) := by decide +kernel
theorem dX8_drawn_31 : decode cX8_drawn 31 = .ok (.getfield 73, 3) := by decide +kernel
theorem dX8_drawn_34 : decode cX8_drawn 34 = .ok (.invokevirtual 162, 3) := by decide +kernel
theorem dX8_drawn_37 : decode cX8_drawn 37 = .ok (.putfield 83, 3) := by decide +kernel
theorem dX8_drawn_40 : decode cX8_drawn 40 = .ok (.aload_n 0, 1) := by decide +kernel
theorem dX8_drawn_41 : decode cX8_drawn 41 = .ok (.getfield 21, 3) := by decide +kernel
theorem dX8_drawn_44 : decode cX8_drawn 44 = .ok (.getfield 83, 3) := by decide +kernel
theorem dX8_drawn_47 : decode cX8_drawn 47 = .ok (.invokestatic 156, 3) := by decide +kernel
theorem dX8_drawn_50 : decode cX8_drawn 50 = .ok (.ireturn, 1) := by decide +kernel
theorem dX8_went_0 : decode cX8_went 0 = .ok (.aload_n 0, 1) := by decide +kernel
theorem dX8_went_1 : decode cX8_went 1 = .ok (.getfield 21, 3) := by decide +kernel
theorem dX8_went_4 : decode cX8_went 4 = .ok (.getfield 83, 3) := by decide +kernel
theorem dX8_went_7 : decode cX8_went 7 = .ok (.invokestatic 166, 3) := by decide +kernel
theorem dX8_went_10 : decode cX8_went 10 = .ok (.istore_n 2, 1) := by decide +kernel
theorem dX8_went_11 : decode cX8_went 11 = .ok (.iload_n 1, 1) := by decide +kernel
theorem dX8_went_12 : decode cX8_went 12 = .ok (.ifCond .ne 5, 3) := by decide +kernel
theorem dX8_went_15 : decode cX8_went 15 = .ok (.iload_n 2, 1) := by decide +kernel
theorem dX8_went_16 : decode cX8_went 16 = .ok (.ireturn, 1) := by decide +kernel
theorem dX8_went_17 : decode cX8_went 17 = .ok (.iload_n 1, 1) := by decide +kernel
theorem dX8_went_18 : decode cX8_went 18 = .ok (.iconst 1, 1) := by decide +kernel
theorem dX8_went_19 : decode cX8_went 19 = .ok (.if_icmp .ne 14, 3) := by decide +kernel
theorem dX8_went_22 : decode cX8_went 22 = .ok (.aload_n 0, 1) := by decide +kernel
theorem dX8_went_23 : decode cX8_went 23 = .ok (.getfield 21, 3) := by decide +kernel
theorem dX8_went_26 : decode cX8_went 26 = .ok (.getfield 83, 3) := by decide +kernel
theorem dX8_went_29 : decode cX8_went 29 = .ok (.invokestatic 156, 3) := by decide +kernel
theorem dX8_went_32 : decode cX8_went 32 = .ok (.ireturn, 1) := by decide +kernel
theorem dX8_went_33 : decode cX8_went 33 = .ok (.iload_n 1, 1) := by decide +kernel
theorem dX8_went_34 : decode cX8_went 34 = .ok (.bipush 10, 2) := by decide +kernel
theorem dX8_went_36 : decode cX8_went 36 = .ok (.bipush 9, 2) := by decide +kernel
theorem dX8_went_38 : decode cX8_went 38 = .ok (.iload_n 2, 1) := by decide +kernel
theorem dX8_went_39 : decode cX8_went 39 = .ok (.iadd, 1) := by decide +kernel
theorem dX8_went_40 : decode cX8_went 40 = .ok (.invokestatic 65, 3) := by decide +kernel
theorem dX8_went_43 : decode cX8_went 43 = .ok (.ifCond .ne 5, 3) := by decide +kernel
theorem dX8_went_46 : decode cX8_went 46 = .ok (.iconst (-1), 1) := by decide +kernel
theorem dX8_went_47 : decode cX8_went 47 = .ok (.ireturn, 1) := by decide +kernel
theorem dX8_went_48 : decode cX8_went 48 = .ok (.aload_n 0, 1) := by decide +kernel
theorem dX8_went_49 : decode cX8_went 49 = .ok (.getfield 21, 3) := by decide +kernel
theorem dX8_went_52 : decode cX8_went 52 = .ok (.getfield 83, 3) := by decide +kernel
theorem dX8_went_55 : decode cX8_went 55 = .ok (.iload_n 1, 1) := by decide +kernel
theorem dX8_went_56 : decode cX8_went 56 = .ok (.bipush 9, 2) := by decide +kernel
theorem dX8_went_58 : decode cX8_went 58 = .ok (.isub, 1) := by decide +kernel
theorem dX8_went_59 : decode cX8_went 59 = .ok (.invokestatic 169, 3) := by decide +kernel
theorem dX8_went_62 : decode cX8_went 62 = .ok (.iconst 1, 1) := by decide +kernel
theorem dX8_went_63 : decode cX8_went 63 = .ok (.iand, 1) := by decide +kernel
theorem dX8_went_64 : decode cX8_went 64 = .ok (.ireturn, 1) := by decide +kernel
theorem dX8_value_0 : decode cX8_value 0 = .ok (.iload_n 1, 1) := by decide +kernel
theorem dX8_value_1 : decode cX8_value 1 = .ok (.invokestatic 116, 3) := by decide +kernel
theorem dX8_value_4 : decode cX8_value 4 = .ok (.ifCond .ne 7, 3) := by decide +kernel
theorem dX8_value_7 : decode cX8_value 7 = .ok (.ldc2_w 97, 3) := by decide +kernel
theorem dX8_value_10 : decode cX8_value 10 = .ok (.lreturn, 1) := by decide +kernel
theorem dX8_value_11 : decode cX8_value 11 = .ok (.aload_n 0, 1) := by decide +kernel
theorem dX8_value_12 : decode cX8_value 12 = .ok (.iload_n 1, 1) := by decide +kernel
theorem dX8_value_13 : decode cX8_value 13 = .ok (.invokevirtual 173, 3) := by decide +kernel
theorem dX8_value_16 : decode cX8_value 16 = .ok (.aload_n 0, 1) := by decide +kernel
theorem dX8_value_17 : decode cX8_value 17 = .ok (.getfield 36, 3) := by decide +kernel
theorem dX8_value_20 : decode cX8_value 20 = .ok (.aload_n 0, 1) := by decide +kernel
theorem dX8_value_21 : decode cX8_value 21 = .ok (.getfield 21, 3) := by decide +kernel
theorem dX8_value_24 : decode cX8_value 24 = .ok (.getfield 83, 3) := by decide +kernel
theorem dX8_value_27 : decode cX8_value 27 = .ok (.invokevirtual 176, 3) := by decide +kernel
theorem dX8_value_30 : decode cX8_value 30 = .ok (.lreturn, 1) := by decide +kernel
theorem dX8_here_0 : decode cX8_here 0 = .ok (.iload_n 1, 1) := by decide +kernel
theorem dX8_here_1 : decode cX8_here 1 = .ok (.invokestatic 116, 3) := by decide +kernel
theorem dX8_here_4 : decode cX8_here 4 = .ok (.ifCond .eq 12, 3) := by decide +kernel
theorem dX8_here_7 : decode cX8_here 7 = .ok (.iload_n 2, 1) := by decide +kernel
theorem dX8_here_8 : decode cX8_here 8 = .ok (.iconst 0, 1) := by decide +kernel
theorem dX8_here_9 : decode cX8_here 9 = .ok (.iconst 4, 1) := by decide +kernel
theorem dX8_here_10 : decode cX8_here 10 = .ok (.invokestatic 65, 3) := by decide +kernel
theorem dX8_here_13 : decode cX8_here 13 = .ok (.ifCond .ne 7, 3) := by decide +kernel
theorem dX8_here_16 : decode cX8_here 16 = .ok (.ldc2_w 97, 3) := by decide +kernel
theorem dX8_here_19 : decode cX8_here 19 = .ok (.lreturn, 1) := by decide +kernel
theorem dX8_here_20 : decode cX8_here 20 = .ok (.aload_n 0, 1) := by decide +kernel
theorem dX8_here_21 : decode cX8_here 21 = .ok (.iload_n 1, 1) := by decide +kernel
theorem dX8_here_22 : decode cX8_here 22 = .ok (.invokevirtual 173, 3) := by decide +kernel
theorem dX8_here_25 : decode cX8_here 25 = .ok (.iload_n 2, 1) := by decide +kernel
theorem dX8_here_26 : decode cX8_here 26 = .ok (.tableswitch 111 0 3 #[30, 45, 60, 85], 30) := by decide +kernel
theorem dX8_here_56 : decode cX8_here 56 = .ok (.aload_n 0, 1) := by decide +kernel
theorem dX8_here_57 : decode cX8_here 57 = .ok (.getfield 36, 3) := by decide +kernel
theorem dX8_here_60 : decode cX8_here 60 = .ok (.aload_n 0, 1) := by decide +kernel
theorem dX8_here_61 : decode cX8_here 61 = .ok (.getfield 21, 3) := by decide +kernel
theorem dX8_here_64 : decode cX8_here 64 = .ok (.getfield 83, 3) := by decide +kernel
theorem dX8_here_67 : decode cX8_here 67 = .ok (.invokevirtual 180, 3) := by decide +kernel
theorem dX8_here_70 : decode cX8_here 70 = .ok (.lreturn, 1) := by decide +kernel
theorem dX8_here_71 : decode cX8_here 71 = .ok (.aload_n 0, 1) := by decide +kernel
theorem dX8_here_72 : decode cX8_here 72 = .ok (.getfield 36, 3) := by decide +kernel
theorem dX8_here_75 : decode cX8_here 75 = .ok (.aload_n 0, 1) := by decide +kernel
theorem dX8_here_76 : decode cX8_here 76 = .ok (.getfield 21, 3) := by decide +kernel
theorem dX8_here_79 : decode cX8_here 79 = .ok (.getfield 83, 3) := by decide +kernel
theorem dX8_here_82 : decode cX8_here 82 = .ok (.invokevirtual 183, 3) := by decide +kernel
theorem dX8_here_85 : decode cX8_here 85 = .ok (.lreturn, 1) := by decide +kernel
theorem dX8_here_86 : decode cX8_here 86 = .ok (.aload_n 0, 1) := by decide +kernel
theorem dX8_here_87 : decode cX8_here 87 = .ok (.getfield 36, 3) := by decide +kernel
theorem dX8_here_90 : decode cX8_here 90 = .ok (.aload_n 0, 1) := by decide +kernel
theorem dX8_here_91 : decode cX8_here 91 = .ok (.getfield 21, 3) := by decide +kernel
theorem dX8_here_94 : decode cX8_here 94 = .ok (.getfield 83, 3) := by decide +kernel
theorem dX8_here_97 : decode cX8_here 97 = .ok (.invokevirtual 186, 3) := by decide +kernel
theorem dX8_here_100 : decode cX8_here 100 = .ok (.lconst 0, 1) := by decide +kernel
theorem dX8_here_101 : decode cX8_here 101 = .ok (.lcmp, 1) := by decide +kernel
theorem dX8_here_102 : decode cX8_here 102 = .ok (.ifCond .lt 7, 3) := by decide +kernel
theorem dX8_here_105 : decode cX8_here 105 = .ok (.lconst 1, 1) := by decide +kernel
theorem dX8_here_106 : decode cX8_here 106 = .ok (.goto 4, 3) := by decide +kernel
theorem dX8_here_109 : decode cX8_here 109 = .ok (.lconst 0, 1) := by decide +kernel
theorem dX8_here_110 : decode cX8_here 110 = .ok (.lreturn, 1) := by decide +kernel
theorem dX8_here_111 : decode cX8_here 111 = .ok (.aload_n 0, 1) := by decide +kernel
theorem dX8_here_112 : decode cX8_here 112 = .ok (.getfield 36, 3) := by decide +kernel
theorem dX8_here_115 : decode cX8_here 115 = .ok (.getfield 189, 3) := by decide +kernel
theorem dX8_here_118 : decode cX8_here 118 = .ok (.aload_n 0, 1) := by decide +kernel
theorem dX8_here_119 : decode cX8_here 119 = .ok (.getfield 36, 3) := by decide +kernel
theorem dX8_here_122 : decode cX8_here 122 = .ok (.aload_n 0, 1) := by decide +kernel
theorem dX8_here_123 : decode cX8_here 123 = .ok (.getfield 21, 3) := by decide +kernel
theorem dX8_here_126 : decode cX8_here 126 = .ok (.getfield 83, 3) := by decide +kernel
theorem dX8_here_129 : decode cX8_here 129 = .ok (.invokevirtual 193, 3) := by decide +kernel
theorem dX8_here_132 : decode cX8_here 132 = .ok (.invokevirtual 196, 3) := by decide +kernel
theorem dX8_here_135 : decode cX8_here 135 = .ok (.i2l, 1) := by decide +kernel
theorem dX8_here_136 : decode cX8_here 136 = .ok (.lreturn, 1) := by decide +kernel
theorem dX8_here_137 : decode cX8_here 137 = .ok (.aload_n 0, 1) := by decide +kernel
theorem dX8_here_138 : decode cX8_here 138 = .ok (.getfield 36, 3) := by decide +kernel
theorem dX8_here_141 : decode cX8_here 141 = .ok (.getfield 189, 3) := by decide +kernel
theorem dX8_here_144 : decode cX8_here 144 = .ok (.aload_n 0, 1) := by decide +kernel
theorem dX8_here_145 : decode cX8_here 145 = .ok (.getfield 21, 3) := by decide +kernel
theorem dX8_here_148 : decode cX8_here 148 = .ok (.getfield 83, 3) := by decide +kernel
theorem dX8_here_151 : decode cX8_here 151 = .ok (.invokestatic 166, 3) := by decide +kernel
theorem dX8_here_154 : decode cX8_here 154 = .ok (.invokevirtual 199, 3) := by decide +kernel
theorem dX8_here_157 : decode cX8_here 157 = .ok (.i2l, 1) := by decide +kernel
theorem dX8_here_158 : decode cX8_here 158 = .ok (.lreturn, 1) := by decide +kernel
theorem dX8_act_0 : decode cX8_act 0 = .ok (.iload_n 1, 1) := by decide +kernel
theorem dX8_act_1 : decode cX8_act 1 = .ok (.invokestatic 116, 3) := by decide +kernel
theorem dX8_act_4 : decode cX8_act 4 = .ok (.ifCond .ne 5, 3) := by decide +kernel
theorem dX8_act_7 : decode cX8_act 7 = .ok (.iconst (-1), 1) := by decide +kernel
theorem dX8_act_8 : decode cX8_act 8 = .ok (.ireturn, 1) := by decide +kernel
theorem dX8_act_9 : decode cX8_act 9 = .ok (.aload_n 0, 1) := by decide +kernel
theorem dX8_act_10 : decode cX8_act 10 = .ok (.iload_n 1, 1) := by decide +kernel
theorem dX8_act_11 : decode cX8_act 11 = .ok (.invokevirtual 173, 3) := by decide +kernel
theorem dX8_act_14 : decode cX8_act 14 = .ok (.aload_n 0, 1) := by decide +kernel
theorem dX8_act_15 : decode cX8_act 15 = .ok (.getfield 36, 3) := by decide +kernel
theorem dX8_act_18 : decode cX8_act 18 = .ok (.aload_n 0, 1) := by decide +kernel
theorem dX8_act_19 : decode cX8_act 19 = .ok (.getfield 21, 3) := by decide +kernel
theorem dX8_act_22 : decode cX8_act 22 = .ok (.getfield 83, 3) := by decide +kernel
theorem dX8_act_25 : decode cX8_act 25 = .ok (.invokevirtual 202, 3) := by decide +kernel
theorem dX8_act_28 : decode cX8_act 28 = .ok (.ireturn, 1) := by decide +kernel
theorem dX8_along_0 : decode cX8_along 0 = .ok (.iload_n 1, 1) := by decide +kernel
theorem dX8_along_1 : decode cX8_along 1 = .ok (.invokestatic 116, 3) := by decide +kernel
theorem dX8_along_4 : decode cX8_along 4 = .ok (.ifCond .eq 12, 3) := by decide +kernel
theorem dX8_along_7 : decode cX8_along 7 = .ok (.iload_n 2, 1) := by decide +kernel
theorem dX8_along_8 : decode cX8_along 8 = .ok (.iconst 0, 1) := by decide +kernel
theorem dX8_along_9 : decode cX8_along 9 = .ok (.iconst 2, 1) := by decide +kernel
theorem dX8_along_10 : decode cX8_along 10 = .ok (.invokestatic 65, 3) := by decide +kernel
theorem dX8_along_13 : decode cX8_along 13 = .ok (.ifCond .ne 7, 3) := by decide +kernel
theorem dX8_along_16 : decode cX8_along 16 = .ok (.ldc2_w 97, 3) := by decide +kernel
theorem dX8_along_19 : decode cX8_along 19 = .ok (.lreturn, 1) := by decide +kernel
theorem dX8_along_20 : decode cX8_along 20 = .ok (.aload_n 0, 1) := by decide +kernel
theorem dX8_along_21 : decode cX8_along 21 = .ok (.iload_n 1, 1) := by decide +kernel
theorem dX8_along_22 : decode cX8_along 22 = .ok (.invokevirtual 173, 3) := by decide +kernel
theorem dX8_along_25 : decode cX8_along 25 = .ok (.aload_n 0, 1) := by decide +kernel
theorem dX8_along_26 : decode cX8_along 26 = .ok (.getfield 36, 3) := by decide +kernel
theorem dX8_along_29 : decode cX8_along 29 = .ok (.aload_n 0, 1) := by decide +kernel
theorem dX8_along_30 : decode cX8_along 30 = .ok (.getfield 21, 3) := by decide +kernel
theorem dX8_along_33 : decode cX8_along 33 = .ok (.getfield 83, 3) := by decide +kernel
theorem dX8_along_36 : decode cX8_along 36 = .ok (.invokevirtual 205, 3) := by decide +kernel
theorem dX8_along_39 : decode cX8_along 39 = .ok (.istore_n 3, 1) := by decide +kernel
theorem dX8_along_40 : decode cX8_along 40 = .ok (.iload_n 3, 1) := by decide +kernel
theorem dX8_along_41 : decode cX8_along 41 = .ok (.iconst 1, 1) := by decide +kernel
theorem dX8_along_42 : decode cX8_along 42 = .ok (.if_icmp .ge 7, 3) := by decide +kernel
theorem dX8_along_45 : decode cX8_along 45 = .ok (.ldc2_w 208, 3) := by decide +kernel
theorem dX8_along_48 : decode cX8_along 48 = .ok (.lreturn, 1) := by decide +kernel
theorem dX8_along_49 : decode cX8_along 49 = .ok (.iload_n 2, 1) := by decide +kernel
theorem dX8_along_50 : decode cX8_along 50 = .ok (.ifCond .ne 9, 3) := by decide +kernel
theorem dX8_along_53 : decode cX8_along 53 = .ok (.iload_n 3, 1) := by decide +kernel
theorem dX8_along_54 : decode cX8_along 54 = .ok (.invokestatic 166, 3) := by decide +kernel
theorem dX8_along_57 : decode cX8_along 57 = .ok (.i2l, 1) := by decide +kernel
theorem dX8_along_58 : decode cX8_along 58 = .ok (.lreturn, 1) := by decide +kernel
theorem dX8_along_59 : decode cX8_along 59 = .ok (.iload_n 2, 1) := by decide +kernel
theorem dX8_along_60 : decode cX8_along 60 = .ok (.iconst 1, 1) := by decide +kernel
theorem dX8_along_61 : decode cX8_along 61 = .ok (.if_icmp .ne 15, 3) := by decide +kernel
theorem dX8_along_64 : decode cX8_along 64 = .ok (.aload_n 0, 1) := by decide +kernel
theorem dX8_along_65 : decode cX8_along 65 = .ok (.getfield 36, 3) := by decide +kernel
theorem dX8_along_68 : decode cX8_along 68 = .ok (.iload_n 3, 1) := by decide +kernel
theorem dX8_along_69 : decode cX8_along 69 = .ok (.invokevirtual 202, 3) := by decide +kernel
theorem dX8_along_72 : decode cX8_along 72 = .ok (.i2l, 1) := by decide +kernel
theorem dX8_along_73 : decode cX8_along 73 = .ok (.goto 11, 3) := by decide +kernel
theorem dX8_along_76 : decode cX8_along 76 = .ok (.aload_n 0, 1) := by decide +kernel
theorem dX8_along_77 : decode cX8_along 77 = .ok (.getfield 36, 3) := by decide +kernel
theorem dX8_along_80 : decode cX8_along 80 = .ok (.iload_n 3, 1) := by decide +kernel
theorem dX8_along_81 : decode cX8_along 81 = .ok (.invokevirtual 210, 3) := by decide +kernel
theorem dX8_along_84 : decode cX8_along 84 = .ok (.lreturn, 1) := by decide +kernel
theorem dX8_without_0 : decode cX8_without 0 = .ok (.iload_n 1, 1) := by decide +kernel
theorem dX8_without_1 : decode cX8_without 1 = .ok (.invokestatic 116, 3) := by decide +kernel
theorem dX8_without_4 : decode cX8_without 4 = .ok (.ifCond .eq 13, 3) := by decide +kernel
theorem dX8_without_7 : decode cX8_without 7 = .ok (.iload_n 2, 1) := by decide +kernel
theorem dX8_without_8 : decode cX8_without 8 = .ok (.iconst 0, 1) := by decide +kernel
theorem dX8_without_9 : decode cX8_without 9 = .ok (.bipush 15, 2) := by decide +kernel
theorem dX8_without_11 : decode cX8_without 11 = .ok (.invokestatic 65, 3) := by decide +kernel
theorem dX8_without_14 : decode cX8_without 14 = .ok (.ifCond .ne 7, 3) := by decide +kernel
theorem dX8_without_17 : decode cX8_without 17 = .ok (.ldc2_w 97, 3) := by decide +kernel
theorem dX8_without_20 : decode cX8_without 20 = .ok (.lreturn, 1) := by decide +kernel
theorem dX8_without_21 : decode cX8_without 21 = .ok (.aload_n 0, 1) := by decide +kernel
theorem dX8_without_22 : decode cX8_without 22 = .ok (.iload_n 1, 1) := by decide +kernel
theorem dX8_without_23 : decode cX8_without 23 = .ok (.iload_n 2, 1) := by decide +kernel
theorem dX8_without_24 : decode cX8_without 24 = .ok (.invokevirtual 213, 3) := by decide +kernel
theorem dX8_without_27 : decode cX8_without 27 = .ok (.lreturn, 1) := by decide +kernel
theorem dX8_right_0 : decode cX8_right 0 = .ok (.iload_n 1, 1) := by decide +kernel
theorem dX8_right_1 : decode cX8_right 1 = .ok (.invokestatic 116, 3) := by decide +kernel
theorem dX8_right_4 : decode cX8_right 4 = .ok (.ifCond .eq 12, 3) := by decide +kernel
theorem dX8_right_7 : decode cX8_right 7 = .ok (.iload_n 2, 1) := by decide +kernel
theorem dX8_right_8 : decode cX8_right 8 = .ok (.iconst 0, 1) := by decide +kernel
theorem dX8_right_9 : decode cX8_right 9 = .ok (.iconst 3, 1) := by decide +kernel
theorem dX8_right_10 : decode cX8_right 10 = .ok (.invokestatic 65, 3) := by decide +kernel
theorem dX8_right_13 : decode cX8_right 13 = .ok (.ifCond .ne 7, 3) := by decide +kernel
theorem dX8_right_16 : decode cX8_right 16 = .ok (.ldc2_w 216, 3) := by decide +kernel
theorem dX8_right_19 : decode cX8_right 19 = .ok (.lreturn, 1) := by decide +kernel
theorem dX8_right_20 : decode cX8_right 20 = .ok (.aload_n 0, 1) := by decide +kernel
theorem dX8_right_21 : decode cX8_right 21 = .ok (.iload_n 1, 1) := by decide +kernel
theorem dX8_right_22 : decode cX8_right 22 = .ok (.iconst 1, 1) := by decide +kernel
theorem dX8_right_23 : decode cX8_right 23 = .ok (.iload_n 2, 1) := by decide +kernel
theorem dX8_right_24 : decode cX8_right 24 = .ok (.ishl, 1) := by decide +kernel
theorem dX8_right_25 : decode cX8_right 25 = .ok (.invokevirtual 213, 3) := by decide +kernel
theorem dX8_right_28 : decode cX8_right 28 = .ok (.aload_n 0, 1) := by decide +kernel
theorem dX8_right_29 : decode cX8_right 29 = .ok (.iload_n 1, 1) := by decide +kernel
theorem dX8_right_30 : decode cX8_right 30 = .ok (.iconst 0, 1) := by decide +kernel
theorem dX8_right_31 : decode cX8_right 31 = .ok (.invokevirtual 213, 3) := by decide +kernel
theorem dX8_right_34 : decode cX8_right 34 = .ok (.lsub, 1) := by decide +kernel
theorem dX8_right_35 : decode cX8_right 35 = .ok (.lreturn, 1) := by decide +kernel
theorem dX8_ends_0 : decode cX8_ends 0 = .ok (.iload_n 1, 1) := by decide +kernel
theorem dX8_ends_1 : decode cX8_ends 1 = .ok (.invokestatic 116, 3) := by decide +kernel
theorem dX8_ends_4 : decode cX8_ends 4 = .ok (.ifCond .eq 22, 3) := by decide +kernel
theorem dX8_ends_7 : decode cX8_ends 7 = .ok (.iload_n 2, 1) := by decide +kernel
theorem dX8_ends_8 : decode cX8_ends 8 = .ok (.iconst 1, 1) := by decide +kernel
theorem dX8_ends_9 : decode cX8_ends 9 = .ok (.bipush 6, 2) := by decide +kernel
theorem dX8_ends_11 : decode cX8_ends 11 = .ok (.invokestatic 65, 3) := by decide +kernel
theorem dX8_ends_14 : decode cX8_ends 14 = .ok (.ifCond .eq 12, 3) := by decide +kernel
theorem dX8_ends_17 : decode cX8_ends 17 = .ok (.iload_n 3, 1) := by decide +kernel
theorem dX8_ends_18 : decode cX8_ends 18 = .ok (.iconst 0, 1) := by decide +kernel
theorem dX8_ends_19 : decode cX8_ends 19 = .ok (.iconst 1, 1) := by decide +kernel
theorem dX8_ends_20 : decode cX8_ends 20 = .ok (.invokestatic 65, 3) := by decide +kernel
theorem dX8_ends_23 : decode cX8_ends 23 = .ok (.ifCond .ne 7, 3) := by decide +kernel
theorem dX8_ends_26 : decode cX8_ends 26 = .ok (.ldc2_w 97, 3) := by decide +kernel
theorem dX8_ends_29 : decode cX8_ends 29 = .ok (.lreturn, 1) := by decide +kernel
theorem dX8_ends_30 : decode cX8_ends 30 = .ok (.aload_n 0, 1) := by decide +kernel
theorem dX8_ends_31 : decode cX8_ends 31 = .ok (.iload_n 1, 1) := by decide +kernel
theorem dX8_ends_32 : decode cX8_ends 32 = .ok (.invokevirtual 173, 3) := by decide +kernel
theorem dX8_ends_35 : decode cX8_ends 35 = .ok (.aload_n 0, 1) := by decide +kernel
theorem dX8_ends_36 : decode cX8_ends 36 = .ok (.getfield 36, 3) := by decide +kernel
theorem dX8_ends_39 : decode cX8_ends 39 = .ok (.iload_n 2, 1) := by decide +kernel
theorem dX8_ends_40 : decode cX8_ends 40 = .ok (.invokevirtual 218, 3) := by decide +kernel
theorem dX8_ends_43 : decode cX8_ends 43 = .ok (.aload_n 0, 1) := by decide +kernel
theorem dX8_ends_44 : decode cX8_ends 44 = .ok (.getfield 36, 3) := by decide +kernel
theorem dX8_ends_47 : decode cX8_ends 47 = .ok (.getfield 221, 3) := by decide +kernel
theorem dX8_ends_50 : decode cX8_ends 50 = .ok (.invokevirtual 222, 3) := by decide +kernel
theorem dX8_ends_53 : decode cX8_ends 53 = .ok (.iload_n 3, 1) := by decide +kernel
theorem dX8_ends_54 : decode cX8_ends 54 = .ok (.invokestatic 226, 3) := by decide +kernel
theorem dX8_ends_57 : decode cX8_ends 57 = .ok (.lreturn, 1) := by decide +kernel
theorem dX8_life_0 : decode cX8_life 0 = .ok (.iload_n 1, 1) := by decide +kernel
theorem dX8_life_1 : decode cX8_life 1 = .ok (.invokestatic 116, 3) := by decide +kernel
theorem dX8_life_4 : decode cX8_life 4 = .ok (.ifCond .eq 12, 3) := by decide +kernel
theorem dX8_life_7 : decode cX8_life 7 = .ok (.iload_n 2, 1) := by decide +kernel
theorem dX8_life_8 : decode cX8_life 8 = .ok (.iconst 0, 1) := by decide +kernel
theorem dX8_life_9 : decode cX8_life 9 = .ok (.iconst 1, 1) := by decide +kernel
theorem dX8_life_10 : decode cX8_life 10 = .ok (.invokestatic 65, 3) := by decide +kernel
theorem dX8_life_13 : decode cX8_life 13 = .ok (.ifCond .ne 7, 3) := by decide +kernel
theorem dX8_life_16 : decode cX8_life 16 = .ok (.ldc2_w 97, 3) := by decide +kernel
theorem dX8_life_19 : decode cX8_life 19 = .ok (.lreturn, 1) := by decide +kernel
theorem dX8_life_20 : decode cX8_life 20 = .ok (.aload_n 0, 1) := by decide +kernel
theorem dX8_life_21 : decode cX8_life 21 = .ok (.iload_n 1, 1) := by decide +kernel
theorem dX8_life_22 : decode cX8_life 22 = .ok (.invokevirtual 173, 3) := by decide +kernel
theorem dX8_life_25 : decode cX8_life 25 = .ok (.aload_n 0, 1) := by decide +kernel
theorem dX8_life_26 : decode cX8_life 26 = .ok (.getfield 36, 3) := by decide +kernel
theorem dX8_life_29 : decode cX8_life 29 = .ok (.invokevirtual 230, 3) := by decide +kernel
theorem dX8_life_32 : decode cX8_life 32 = .ok (.aload_n 0, 1) := by decide +kernel
theorem dX8_life_33 : decode cX8_life 33 = .ok (.getfield 36, 3) := by decide +kernel
theorem dX8_life_36 : decode cX8_life 36 = .ok (.getfield 221, 3) := by decide +kernel
theorem dX8_life_39 : decode cX8_life 39 = .ok (.invokevirtual 222, 3) := by decide +kernel
theorem dX8_life_42 : decode cX8_life 42 = .ok (.iload_n 2, 1) := by decide +kernel
theorem dX8_life_43 : decode cX8_life 43 = .ok (.invokestatic 226, 3) := by decide +kernel
theorem dX8_life_46 : decode cX8_life 46 = .ok (.lreturn, 1) := by decide +kernel
theorem dX8_states_0 : decode cX8_states 0 = .ok (.iload_n 1, 1) := by decide +kernel
theorem dX8_states_1 : decode cX8_states 1 = .ok (.invokestatic 116, 3) := by decide +kernel
theorem dX8_states_4 : decode cX8_states 4 = .ok (.ifCond .eq 11, 3) := by decide +kernel
theorem dX8_states_7 : decode cX8_states 7 = .ok (.aload_n 0, 1) := by decide +kernel
theorem dX8_states_8 : decode cX8_states 8 = .ok (.iload_n 2, 1) := by decide +kernel
theorem dX8_states_9 : decode cX8_states 9 = .ok (.invokevirtual 94, 3) := by decide +kernel
theorem dX8_states_12 : decode cX8_states 12 = .ok (.ifCond .ne 5, 3) := by decide +kernel
theorem dX8_states_15 : decode cX8_states 15 = .ok (.iconst (-1), 1) := by decide +kernel
theorem dX8_states_16 : decode cX8_states 16 = .ok (.ireturn, 1) := by decide +kernel
theorem dX8_states_17 : decode cX8_states 17 = .ok (.aload_n 0, 1) := by decide +kernel
theorem dX8_states_18 : decode cX8_states 18 = .ok (.iload_n 1, 1) := by decide +kernel
theorem dX8_states_19 : decode cX8_states 19 = .ok (.invokevirtual 173, 3) := by decide +kernel
theorem dX8_states_22 : decode cX8_states 22 = .ok (.aload_n 0, 1) := by decide +kernel
theorem dX8_states_23 : decode cX8_states 23 = .ok (.getfield 36, 3) := by decide +kernel
theorem dX8_states_26 : decode cX8_states 26 = .ok (.iload_n 2, 1) := by decide +kernel
theorem dX8_states_27 : decode cX8_states 27 = .ok (.invokevirtual 233, 3) := by decide +kernel
theorem dX8_states_30 : decode cX8_states 30 = .ok (.ireturn, 1) := by decide +kernel
theorem dX8_first_0 : decode cX8_first 0 = .ok (.iload_n 1, 1) := by decide +kernel
theorem dX8_first_1 : decode cX8_first 1 = .ok (.invokestatic 116, 3) := by decide +kernel
theorem dX8_first_4 : decode cX8_first 4 = .ok (.ifCond .eq 11, 3) := by decide +kernel
theorem dX8_first_7 : decode cX8_first 7 = .ok (.aload_n 0, 1) := by decide +kernel
theorem dX8_first_8 : decode cX8_first 8 = .ok (.iload_n 2, 1) := by decide +kernel
theorem dX8_first_9 : decode cX8_first 9 = .ok (.invokevirtual 94, 3) := by decide +kernel
theorem dX8_first_12 : decode cX8_first 12 = .ok (.ifCond .ne 5, 3) := by decide +kernel
theorem dX8_first_15 : decode cX8_first 15 = .ok (.iconst (-1), 1) := by decide +kernel
theorem dX8_first_16 : decode cX8_first 16 = .ok (.ireturn, 1) := by decide +kernel
theorem dX8_first_17 : decode cX8_first 17 = .ok (.aload_n 0, 1) := by decide +kernel
theorem dX8_first_18 : decode cX8_first 18 = .ok (.iload_n 1, 1) := by decide +kernel
theorem dX8_first_19 : decode cX8_first 19 = .ok (.invokevirtual 173, 3) := by decide +kernel
theorem dX8_first_22 : decode cX8_first 22 = .ok (.aload_n 0, 1) := by decide +kernel
theorem dX8_first_23 : decode cX8_first 23 = .ok (.getfield 36, 3) := by decide +kernel
theorem dX8_first_26 : decode cX8_first 26 = .ok (.iload_n 2, 1) := by decide +kernel
theorem dX8_first_27 : decode cX8_first 27 = .ok (.invokevirtual 233, 3) := by decide +kernel
theorem dX8_first_30 : decode cX8_first 30 = .ok (.istore 4, 2) := by decide +kernel
theorem dX8_first_32 : decode cX8_first 32 = .ok (.iconst 0, 1) := by decide +kernel
theorem dX8_first_33 : decode cX8_first 33 = .ok (.istore 5, 2) := by decide +kernel
theorem dX8_first_35 : decode cX8_first 35 = .ok (.iload 5, 2) := by decide +kernel
theorem dX8_first_37 : decode cX8_first 37 = .ok (.iload 4, 2) := by decide +kernel
theorem dX8_first_39 : decode cX8_first 39 = .ok (.if_icmp .ge 93, 3) := by decide +kernel
theorem dX8_first_42 : decode cX8_first 42 = .ok (.aload_n 0, 1) := by decide +kernel
theorem dX8_first_43 : decode cX8_first 43 = .ok (.getfield 36, 3) := by decide +kernel
theorem dX8_first_46 : decode cX8_first 46 = .ok (.iload 5, 2) := by decide +kernel
theorem dX8_first_48 : decode cX8_first 48 = .ok (.invokevirtual 236, 3) := by decide +kernel
theorem dX8_first_51 : decode cX8_first 51 = .ok (.istore 6, 2) := by decide +kernel
theorem dX8_first_53 : decode cX8_first 53 = .ok (.aload_n 0, 1) := by decide +kernel
theorem dX8_first_54 : decode cX8_first 54 = .ok (.getfield 36, 3) := by decide +kernel
theorem dX8_first_57 : decode cX8_first 57 = .ok (.iload 6, 2) := by decide +kernel
theorem dX8_first_59 : decode cX8_first 59 = .ok (.invokevirtual 202, 3) := by decide +kernel
theorem dX8_first_62 : decode cX8_first 62 = .ok (.istore 7, 2) := by decide +kernel
theorem dX8_first_64 : decode cX8_first 64 = .ok (.iload 7, 2) := by decide +kernel
theorem dX8_first_66 : decode cX8_first 66 = .ok (.iconst 3, 1) := by decide +kernel
theorem dX8_first_67 : decode cX8_first 67 = .ok (.if_icmp .eq 9, 3) := by decide +kernel
theorem dX8_first_70 : decode cX8_first 70 = .ok (.iload 7, 2) := by decide +kernel
theorem dX8_first_72 : decode cX8_first 72 = .ok (.iconst 4, 1) := by decide +kernel
theorem dX8_first_73 : decode cX8_first 73 = .ok (.if_icmp .ne 7, 3) := by decide +kernel
theorem dX8_first_76 : decode cX8_first 76 = .ok (.iconst 1, 1) := by decide +kernel
theorem dX8_first_77 : decode cX8_first 77 = .ok (.goto 4, 3) := by decide +kernel
theorem dX8_first_80 : decode cX8_first 80 = .ok (.iconst 0, 1) := by decide +kernel
theorem dX8_first_81 : decode cX8_first 81 = .ok (.istore 8, 2) := by decide +kernel
theorem dX8_first_83 : decode cX8_first 83 = .ok (.iload 7, 2) := by decide +kernel
theorem dX8_first_85 : decode cX8_first 85 = .ok (.iconst 2, 1) := by decide +kernel
theorem dX8_first_86 : decode cX8_first 86 = .ok (.if_icmp .eq 10, 3) := by decide +kernel
theorem dX8_first_89 : decode cX8_first 89 = .ok (.iload 7, 2) := by decide +kernel
theorem dX8_first_91 : decode cX8_first 91 = .ok (.bipush 6, 2) := by decide +kernel
theorem dX8_first_93 : decode cX8_first 93 = .ok (.if_icmp .ne 7, 3) := by decide +kernel
theorem dX8_first_96 : decode cX8_first 96 = .ok (.iconst 1, 1) := by decide +kernel
theorem dX8_first_97 : decode cX8_first 97 = .ok (.goto 4, 3) := by decide +kernel
theorem dX8_first_100 : decode cX8_first 100 = .ok (.iconst 0, 1) := by decide +kernel
theorem dX8_first_101 : decode cX8_first 101 = .ok (.istore 9, 2) := by decide +kernel
theorem dX8_first_103 : decode cX8_first 103 = .ok (.iload_n 3, 1) := by decide +kernel
theorem dX8_first_104 : decode cX8_first 104 = .ok (.ifCond .eq 11, 3) := by decide +kernel
theorem dX8_first_107 : decode cX8_first 107 = .ok (.iload 8, 2) := by decide +kernel
theorem dX8_first_109 : decode cX8_first 109 = .ok (.ifCond .eq 17, 3) := by decide +kernel
theorem dX8_first_112 : decode cX8_first 112 = .ok (.goto 8, 3) := by decide +kernel
theorem dX8_first_115 : decode cX8_first 115 = .ok (.iload 9, 2) := by decide +kernel
theorem dX8_first_117 : decode cX8_first 117 = .ok (.ifCond .eq 9, 3) := by decide +kernel
theorem dX8_first_120 : decode cX8_first 120 = .ok (.iload 6, 2) := by decide +kernel
theorem dX8_first_122 : decode cX8_first 122 = .ok (.invokestatic 156, 3) := by decide +kernel
theorem dX8_first_125 : decode cX8_first 125 = .ok (.ireturn, 1) := by decide +kernel
theorem dX8_first_126 : decode cX8_first 126 = .ok (.iinc 5 1, 3) := by decide +kernel
theorem dX8_first_129 : decode cX8_first 129 = .ok (.goto (-94), 3) := by decide +kernel
theorem dX8_first_132 : decode cX8_first 132 = .ok (.bipush (-2), 2) := by decide +kernel
theorem dX8_first_134 : decode cX8_first 134 = .ok (.ireturn, 1) := by decide +kernel
theorem dX8_held_0 : decode cX8_held 0 = .ok (.iload_n 1, 1) := by decide +kernel
theorem dX8_held_1 : decode cX8_held 1 = .ok (.invokestatic 116, 3) := by decide +kernel
theorem dX8_held_4 : decode cX8_held 4 = .ok (.ifCond .ne 7, 3) := by decide +kernel
theorem dX8_held_7 : decode cX8_held 7 = .ok (.ldc2_w 216, 3) := by decide +kernel
theorem dX8_held_10 : decode cX8_held 10 = .ok (.lreturn, 1) := by decide +kernel
theorem dX8_held_11 : decode cX8_held 11 = .ok (.aload_n 0, 1) := by decide +kernel
theorem dX8_held_12 : decode cX8_held 12 = .ok (.iload_n 1, 1) := by decide +kernel
theorem dX8_held_13 : decode cX8_held 13 = .ok (.invokevirtual 173, 3) := by decide +kernel
theorem dX8_held_16 : decode cX8_held 16 = .ok (.aload_n 0, 1) := by decide +kernel
theorem dX8_held_17 : decode cX8_held 17 = .ok (.getfield 36, 3) := by decide +kernel
theorem dX8_held_20 : decode cX8_held 20 = .ok (.aload_n 0, 1) := by decide +kernel
theorem dX8_held_21 : decode cX8_held 21 = .ok (.getfield 21, 3) := by decide +kernel
theorem dX8_held_24 : decode cX8_held 24 = .ok (.getfield 83, 3) := by decide +kernel
theorem dX8_held_27 : decode cX8_held 27 = .ok (.invokevirtual 239, 3) := by decide +kernel
theorem dX8_held_30 : decode cX8_held 30 = .ok (.lreturn, 1) := by decide +kernel
theorem dX8_fairCoupon_0 : decode cX8_fairCoupon 0 = .ok (.iload_n 1, 1) := by decide +kernel
theorem dX8_fairCoupon_1 : decode cX8_fairCoupon 1 = .ok (.invokestatic 116, 3) := by decide +kernel
theorem dX8_fairCoupon_4 : decode cX8_fairCoupon 4 = .ok (.ifCond .eq 15, 3) := by decide +kernel
theorem dX8_fairCoupon_7 : decode cX8_fairCoupon 7 = .ok (.aload_n 0, 1) := by decide +kernel
theorem dX8_fairCoupon_8 : decode cX8_fairCoupon 8 = .ok (.iload_n 1, 1) := by decide +kernel
theorem dX8_fairCoupon_9 : decode cX8_fairCoupon 9 = .ok (.getstatic 242, 3) := by decide +kernel
theorem dX8_fairCoupon_12 : decode cX8_fairCoupon 12 = .ok (.lload_n 2, 1) := by decide +kernel
theorem dX8_fairCoupon_13 : decode cX8_fairCoupon 13 = .ok (.invokevirtual 248, 3) := by decide +kernel
theorem dX8_fairCoupon_16 : decode cX8_fairCoupon 16 = .ok (.goto 4, 3) := by decide +kernel
theorem dX8_fairCoupon_19 : decode cX8_fairCoupon 19 = .ok (.iconst (-1), 1) := by decide +kernel
theorem dX8_fairCoupon_20 : decode cX8_fairCoupon 20 = .ok (.ireturn, 1) := by decide +kernel
theorem dX8_fairRatio_0 : decode cX8_fairRatio 0 = .ok (.iload_n 1, 1) := by decide +kernel
theorem dX8_fairRatio_1 : decode cX8_fairRatio 1 = .ok (.invokestatic 116, 3) := by decide +kernel
theorem dX8_fairRatio_4 : decode cX8_fairRatio 4 = .ok (.ifCond .eq 15, 3) := by decide +kernel
theorem dX8_fairRatio_7 : decode cX8_fairRatio 7 = .ok (.aload_n 0, 1) := by decide +kernel
theorem dX8_fairRatio_8 : decode cX8_fairRatio 8 = .ok (.iload_n 1, 1) := by decide +kernel
theorem dX8_fairRatio_9 : decode cX8_fairRatio 9 = .ok (.getstatic 252, 3) := by decide +kernel
theorem dX8_fairRatio_12 : decode cX8_fairRatio 12 = .ok (.lload_n 2, 1) := by decide +kernel
theorem dX8_fairRatio_13 : decode cX8_fairRatio 13 = .ok (.invokevirtual 248, 3) := by decide +kernel
theorem dX8_fairRatio_16 : decode cX8_fairRatio 16 = .ok (.goto 4, 3) := by decide +kernel
theorem dX8_fairRatio_19 : decode cX8_fairRatio 19 = .ok (.iconst (-1), 1) := by decide +kernel
theorem dX8_fairRatio_20 : decode cX8_fairRatio 20 = .ok (.ireturn, 1) := by decide +kernel
theorem dX8_bestCall_0 : decode cX8_bestCall 0 = .ok (.iload_n 1, 1) := by decide +kernel
theorem dX8_bestCall_1 : decode cX8_bestCall 1 = .ok (.invokestatic 116, 3) := by decide +kernel
theorem dX8_bestCall_4 : decode cX8_bestCall 4 = .ok (.ifCond .eq 19, 3) := by decide +kernel
theorem dX8_bestCall_7 : decode cX8_bestCall 7 = .ok (.iload_n 2, 1) := by decide +kernel
theorem dX8_bestCall_8 : decode cX8_bestCall 8 = .ok (.invokestatic 135, 3) := by decide +kernel
theorem dX8_bestCall_11 : decode cX8_bestCall 11 = .ok (.ifCond .eq 12, 3) := by decide +kernel
theorem dX8_bestCall_14 : decode cX8_bestCall 14 = .ok (.iload_n 3, 1) := by decide +kernel
theorem dX8_bestCall_15 : decode cX8_bestCall 15 = .ok (.iconst 0, 1) := by decide +kernel
theorem dX8_bestCall_16 : decode cX8_bestCall 16 = .ok (.iconst 1, 1) := by decide +kernel
theorem dX8_bestCall_17 : decode cX8_bestCall 17 = .ok (.invokestatic 65, 3) := by decide +kernel
theorem dX8_bestCall_20 : decode cX8_bestCall 20 = .ok (.ifCond .ne 7, 3) := by decide +kernel
theorem dX8_bestCall_23 : decode cX8_bestCall 23 = .ok (.ldc2_w 97, 3) := by decide +kernel
theorem dX8_bestCall_26 : decode cX8_bestCall 26 = .ok (.lreturn, 1) := by decide +kernel
theorem dX8_bestCall_27 : decode cX8_bestCall 27 = .ok (.aload_n 0, 1) := by decide +kernel
theorem dX8_bestCall_28 : decode cX8_bestCall 28 = .ok (.iload_n 1, 1) := by decide +kernel
theorem dX8_bestCall_29 : decode cX8_bestCall 29 = .ok (.bipush 20, 2) := by decide +kernel
theorem dX8_bestCall_31 : decode cX8_bestCall 31 = .ok (.iload_n 2, 1) := by decide +kernel
theorem dX8_bestCall_32 : decode cX8_bestCall 32 = .ok (.iload_n 3, 1) := by decide +kernel
theorem dX8_bestCall_33 : decode cX8_bestCall 33 = .ok (.invokevirtual 255, 3) := by decide +kernel
theorem dX8_bestCall_36 : decode cX8_bestCall 36 = .ok (.lreturn, 1) := by decide +kernel
theorem dX8_bestPut_0 : decode cX8_bestPut 0 = .ok (.iload_n 1, 1) := by decide +kernel
theorem dX8_bestPut_1 : decode cX8_bestPut 1 = .ok (.invokestatic 116, 3) := by decide +kernel
theorem dX8_bestPut_4 : decode cX8_bestPut 4 = .ok (.ifCond .eq 19, 3) := by decide +kernel
theorem dX8_bestPut_7 : decode cX8_bestPut 7 = .ok (.iload_n 2, 1) := by decide +kernel
theorem dX8_bestPut_8 : decode cX8_bestPut 8 = .ok (.invokestatic 135, 3) := by decide +kernel
theorem dX8_bestPut_11 : decode cX8_bestPut 11 = .ok (.ifCond .eq 12, 3) := by decide +kernel
theorem dX8_bestPut_14 : decode cX8_bestPut 14 = .ok (.iload_n 3, 1) := by decide +kernel
theorem dX8_bestPut_15 : decode cX8_bestPut 15 = .ok (.iconst 0, 1) := by decide +kernel
theorem dX8_bestPut_16 : decode cX8_bestPut 16 = .ok (.iconst 1, 1) := by decide +kernel
theorem dX8_bestPut_17 : decode cX8_bestPut 17 = .ok (.invokestatic 65, 3) := by decide +kernel
theorem dX8_bestPut_20 : decode cX8_bestPut 20 = .ok (.ifCond .ne 7, 3) := by decide +kernel
theorem dX8_bestPut_23 : decode cX8_bestPut 23 = .ok (.ldc2_w 97, 3) := by decide +kernel
theorem dX8_bestPut_26 : decode cX8_bestPut 26 = .ok (.lreturn, 1) := by decide +kernel
theorem dX8_bestPut_27 : decode cX8_bestPut 27 = .ok (.aload_n 0, 1) := by decide +kernel
theorem dX8_bestPut_28 : decode cX8_bestPut 28 = .ok (.iload_n 1, 1) := by decide +kernel
theorem dX8_bestPut_29 : decode cX8_bestPut 29 = .ok (.bipush 30, 2) := by decide +kernel
theorem dX8_bestPut_31 : decode cX8_bestPut 31 = .ok (.iload_n 2, 1) := by decide +kernel
theorem dX8_bestPut_32 : decode cX8_bestPut 32 = .ok (.iload_n 3, 1) := by decide +kernel
theorem dX8_bestPut_33 : decode cX8_bestPut 33 = .ok (.invokevirtual 255, 3) := by decide +kernel
theorem dX8_bestPut_36 : decode cX8_bestPut 36 = .ok (.lreturn, 1) := by decide +kernel
theorem dX8_fairRate_0 : decode cX8_fairRate 0 = .ok (.iload_n 1, 1) := by decide +kernel
theorem dX8_fairRate_1 : decode cX8_fairRate 1 = .ok (.invokestatic 116, 3) := by decide +kernel
theorem dX8_fairRate_4 : decode cX8_fairRate 4 = .ok (.ifCond .eq 15, 3) := by decide +kernel
theorem dX8_fairRate_7 : decode cX8_fairRate 7 = .ok (.aload_n 0, 1) := by decide +kernel
theorem dX8_fairRate_8 : decode cX8_fairRate 8 = .ok (.iload_n 1, 1) := by decide +kernel
theorem dX8_fairRate_9 : decode cX8_fairRate 9 = .ok (.getstatic 259, 3) := by decide +kernel
theorem dX8_fairRate_12 : decode cX8_fairRate 12 = .ok (.lload_n 2, 1) := by decide +kernel
theorem dX8_fairRate_13 : decode cX8_fairRate 13 = .ok (.invokevirtual 248, 3) := by decide +kernel
theorem dX8_fairRate_16 : decode cX8_fairRate 16 = .ok (.goto 4, 3) := by decide +kernel
theorem dX8_fairRate_19 : decode cX8_fairRate 19 = .ok (.iconst (-1), 1) := by decide +kernel
theorem dX8_fairRate_20 : decode cX8_fairRate 20 = .ok (.ireturn, 1) := by decide +kernel
theorem dX8_instead_0 : decode cX8_instead 0 = .ok (.iload_n 1, 1) := by decide +kernel
theorem dX8_instead_1 : decode cX8_instead 1 = .ok (.invokestatic 116, 3) := by decide +kernel
theorem dX8_instead_4 : decode cX8_instead 4 = .ok (.ifCond .eq 12, 3) := by decide +kernel
theorem dX8_instead_7 : decode cX8_instead 7 = .ok (.iload_n 2, 1) := by decide +kernel
theorem dX8_instead_8 : decode cX8_instead 8 = .ok (.iconst 0, 1) := by decide +kernel
theorem dX8_instead_9 : decode cX8_instead 9 = .ok (.iconst 3, 1) := by decide +kernel
theorem dX8_instead_10 : decode cX8_instead 10 = .ok (.invokestatic 65, 3) := by decide +kernel
theorem dX8_instead_13 : decode cX8_instead 13 = .ok (.ifCond .ne 7, 3) := by decide +kernel
theorem dX8_instead_16 : decode cX8_instead 16 = .ok (.ldc2_w 97, 3) := by decide +kernel
theorem dX8_instead_19 : decode cX8_instead 19 = .ok (.lreturn, 1) := by decide +kernel
theorem dX8_instead_20 : decode cX8_instead 20 = .ok (.aload_n 0, 1) := by decide +kernel
theorem dX8_instead_21 : decode cX8_instead 21 = .ok (.iload_n 1, 1) := by decide +kernel
theorem dX8_instead_22 : decode cX8_instead 22 = .ok (.invokevirtual 173, 3) := by decide +kernel
theorem dX8_instead_25 : decode cX8_instead 25 = .ok (.aload_n 0, 1) := by decide +kernel
theorem dX8_instead_26 : decode cX8_instead 26 = .ok (.getfield 36, 3) := by decide +kernel
theorem dX8_instead_29 : decode cX8_instead 29 = .ok (.aload_n 0, 1) := by decide +kernel
theorem dX8_instead_30 : decode cX8_instead 30 = .ok (.getfield 21, 3) := by decide +kernel
theorem dX8_instead_33 : decode cX8_instead 33 = .ok (.getfield 83, 3) := by decide +kernel
theorem dX8_instead_36 : decode cX8_instead 36 = .ok (.iload_n 2, 1) := by decide +kernel
theorem dX8_instead_37 : decode cX8_instead 37 = .ok (.invokevirtual 262, 3) := by decide +kernel
theorem dX8_instead_40 : decode cX8_instead 40 = .ok (.lreturn, 1) := by decide +kernel
theorem dX8_shifted_0 : decode cX8_shifted 0 = .ok (.iload_n 1, 1) := by decide +kernel
theorem dX8_shifted_1 : decode cX8_shifted 1 = .ok (.invokestatic 116, 3) := by decide +kernel
theorem dX8_shifted_4 : decode cX8_shifted 4 = .ok (.ifCond .eq 19, 3) := by decide +kernel
theorem dX8_shifted_7 : decode cX8_shifted 7 = .ok (.iload_n 2, 1) := by decide +kernel
theorem dX8_shifted_8 : decode cX8_shifted 8 = .ok (.invokestatic 69, 3) := by decide +kernel
theorem dX8_shifted_11 : decode cX8_shifted 11 = .ok (.ifCond .eq 12, 3) := by decide +kernel
theorem dX8_shifted_14 : decode cX8_shifted 14 = .ok (.iload_n 3, 1) := by decide +kernel
theorem dX8_shifted_15 : decode cX8_shifted 15 = .ok (.iload 4, 2) := by decide +kernel
theorem dX8_shifted_17 : decode cX8_shifted 17 = .ok (.invokestatic 86, 3) := by decide +kernel
theorem dX8_shifted_20 : decode cX8_shifted 20 = .ok (.ifCond .ne 7, 3) := by decide +kernel
theorem dX8_shifted_23 : decode cX8_shifted 23 = .ok (.ldc2_w 97, 3) := by decide +kernel
theorem dX8_shifted_26 : decode cX8_shifted 26 = .ok (.lreturn, 1) := by decide +kernel
theorem dX8_shifted_27 : decode cX8_shifted 27 = .ok (.aload_n 0, 1) := by decide +kernel
theorem dX8_shifted_28 : decode cX8_shifted 28 = .ok (.getfield 36, 3) := by decide +kernel
theorem dX8_shifted_31 : decode cX8_shifted 31 = .ok (.aload_n 0, 1) := by decide +kernel
theorem dX8_shifted_32 : decode cX8_shifted 32 = .ok (.getfield 21, 3) := by decide +kernel
theorem dX8_shifted_35 : decode cX8_shifted 35 = .ok (.getfield 73, 3) := by decide +kernel
theorem dX8_shifted_38 : decode cX8_shifted 38 = .ok (.aload_n 0, 1) := by decide +kernel
theorem dX8_shifted_39 : decode cX8_shifted 39 = .ok (.getfield 21, 3) := by decide +kernel
theorem dX8_shifted_42 : decode cX8_shifted 42 = .ok (.getfield 120, 3) := by decide +kernel
theorem dX8_shifted_45 : decode cX8_shifted 45 = .ok (.iload_n 1, 1) := by decide +kernel
theorem dX8_shifted_46 : decode cX8_shifted 46 = .ok (.aaload, 1) := by decide +kernel
theorem dX8_shifted_47 : decode cX8_shifted 47 = .ok (.invokevirtual 265, 3) := by decide +kernel
theorem dX8_shifted_50 : decode cX8_shifted 50 = .ok (.aload_n 0, 1) := by decide +kernel
theorem dX8_shifted_51 : decode cX8_shifted 51 = .ok (.getfield 36, 3) := by decide +kernel
theorem dX8_shifted_54 : decode cX8_shifted 54 = .ok (.getfield 221, 3) := by decide +kernel
theorem dX8_shifted_57 : decode cX8_shifted 57 = .ok (.iconst 1, 1) := by decide +kernel
theorem dX8_shifted_58 : decode cX8_shifted 58 = .ok (.iload_n 2, 1) := by decide +kernel
theorem dX8_shifted_59 : decode cX8_shifted 59 = .ok (.invokevirtual 79, 3) := by decide +kernel
theorem dX8_shifted_62 : decode cX8_shifted 62 = .ok (.aload_n 0, 1) := by decide +kernel
theorem dX8_shifted_63 : decode cX8_shifted 63 = .ok (.getfield 36, 3) := by decide +kernel
theorem dX8_shifted_66 : decode cX8_shifted 66 = .ok (.getfield 221, 3) := by decide +kernel
theorem dX8_shifted_69 : decode cX8_shifted 69 = .ok (.bipush 6, 2) := by decide +kernel
theorem dX8_shifted_71 : decode cX8_shifted 71 = .ok (.iload_n 3, 1) := by decide +kernel
theorem dX8_shifted_72 : decode cX8_shifted 72 = .ok (.invokevirtual 79, 3) := by decide +kernel
theorem dX8_shifted_75 : decode cX8_shifted 75 = .ok (.aload_n 0, 1) := by decide +kernel
theorem dX8_shifted_76 : decode cX8_shifted 76 = .ok (.getfield 36, 3) := by decide +kernel
theorem dX8_shifted_79 : decode cX8_shifted 79 = .ok (.getfield 221, 3) := by decide +kernel
theorem dX8_shifted_82 : decode cX8_shifted 82 = .ok (.bipush 7, 2) := by decide +kernel
theorem dX8_shifted_84 : decode cX8_shifted 84 = .ok (.iload 4, 2) := by decide +kernel
theorem dX8_shifted_86 : decode cX8_shifted 86 = .ok (.invokevirtual 79, 3) := by decide +kernel
theorem dX8_shifted_89 : decode cX8_shifted 89 = .ok (.aload_n 0, 1) := by decide +kernel
theorem dX8_shifted_90 : decode cX8_shifted 90 = .ok (.getfield 36, 3) := by decide +kernel
theorem dX8_shifted_93 : decode cX8_shifted 93 = .ok (.invokevirtual 269, 3) := by decide +kernel
theorem dX8_shifted_96 : decode cX8_shifted 96 = .ok (.aload_n 0, 1) := by decide +kernel
theorem dX8_shifted_97 : decode cX8_shifted 97 = .ok (.getfield 36, 3) := by decide +kernel
theorem dX8_shifted_100 : decode cX8_shifted 100 = .ok (.iconst 1, 1) := by decide +kernel
theorem dX8_shifted_101 : decode cX8_shifted 101 = .ok (.invokevirtual 176, 3) := by decide +kernel
theorem dX8_shifted_104 : decode cX8_shifted 104 = .ok (.lreturn, 1) := by decide +kernel
theorem dX8_open_0 : decode cX8_open 0 = .ok (.iload_n 1, 1) := by decide +kernel
theorem dX8_open_1 : decode cX8_open 1 = .ok (.invokestatic 116, 3) := by decide +kernel
theorem dX8_open_4 : decode cX8_open 4 = .ok (.ifCond .ne 7, 3) := by decide +kernel
theorem dX8_open_7 : decode cX8_open 7 = .ok (.ldc2_w 97, 3) := by decide +kernel
theorem dX8_open_10 : decode cX8_open 10 = .ok (.lreturn, 1) := by decide +kernel
theorem dX8_open_11 : decode cX8_open 11 = .ok (.aload_n 0, 1) := by decide +kernel
theorem dX8_open_12 : decode cX8_open 12 = .ok (.getfield 21, 3) := by decide +kernel
theorem dX8_open_15 : decode cX8_open 15 = .ok (.getfield 272, 3) := by decide +kernel
theorem dX8_open_18 : decode cX8_open 18 = .ok (.aload_n 0, 1) := by decide +kernel
theorem dX8_open_19 : decode cX8_open 19 = .ok (.getfield 21, 3) := by decide +kernel
theorem dX8_open_22 : decode cX8_open 22 = .ok (.getfield 73, 3) := by decide +kernel
theorem dX8_open_25 : decode cX8_open 25 = .ok (.aload_n 0, 1) := by decide +kernel
theorem dX8_open_26 : decode cX8_open 26 = .ok (.getfield 21, 3) := by decide +kernel
theorem dX8_open_29 : decode cX8_open 29 = .ok (.getfield 120, 3) := by decide +kernel
theorem dX8_open_32 : decode cX8_open 32 = .ok (.iload_n 1, 1) := by decide +kernel
theorem dX8_open_33 : decode cX8_open 33 = .ok (.aaload, 1) := by decide +kernel
theorem dX8_open_34 : decode cX8_open 34 = .ok (.invokevirtual 276, 3) := by decide +kernel
theorem dX8_open_37 : decode cX8_open 37 = .ok (.aload_n 0, 1) := by decide +kernel
theorem dX8_open_38 : decode cX8_open 38 = .ok (.iload_n 1, 1) := by decide +kernel
theorem dX8_open_39 : decode cX8_open 39 = .ok (.invokevirtual 173, 3) := by decide +kernel
theorem dX8_open_42 : decode cX8_open 42 = .ok (.aload_n 0, 1) := by decide +kernel
theorem dX8_open_43 : decode cX8_open 43 = .ok (.getfield 36, 3) := by decide +kernel
theorem dX8_open_46 : decode cX8_open 46 = .ok (.iconst 1, 1) := by decide +kernel
theorem dX8_open_47 : decode cX8_open 47 = .ok (.invokevirtual 176, 3) := by decide +kernel
theorem dX8_open_50 : decode cX8_open 50 = .ok (.lreturn, 1) := by decide +kernel
theorem dX8_go_0 : decode cX8_go 0 = .ok (.aload_n 0, 1) := by decide +kernel
theorem dX8_go_1 : decode cX8_go 1 = .ok (.getfield 21, 3) := by decide +kernel
theorem dX8_go_4 : decode cX8_go 4 = .ok (.getfield 272, 3) := by decide +kernel
theorem dX8_go_7 : decode cX8_go 7 = .ok (.astore_n 2, 1) := by decide +kernel
theorem dX8_go_8 : decode cX8_go 8 = .ok (.aload_n 2, 1) := by decide +kernel
theorem dX8_go_9 : decode cX8_go 9 = .ok (.getfield 280, 3) := by decide +kernel
theorem dX8_go_12 : decode cX8_go 12 = .ok (.ifCond .ne 5, 3) := by decide +kernel
theorem dX8_go_15 : decode cX8_go 15 = .ok (.iconst (-1), 1) := by decide +kernel
theorem dX8_go_16 : decode cX8_go 16 = .ok (.ireturn, 1) := by decide +kernel
theorem dX8_go_17 : decode cX8_go 17 = .ok (.aload_n 2, 1) := by decide +kernel
theorem dX8_go_18 : decode cX8_go 18 = .ok (.getfield 284, 3) := by decide +kernel
theorem dX8_go_21 : decode cX8_go 21 = .ok (.ifCond .ne 10, 3) := by decide +kernel
theorem dX8_go_24 : decode cX8_go 24 = .ok (.aload_n 2, 1) := by decide +kernel
theorem dX8_go_25 : decode cX8_go 25 = .ok (.invokevirtual 287, 3) := by decide +kernel
theorem dX8_go_28 : decode cX8_go 28 = .ok (.ifCond .eq 6, 3) := by decide +kernel
theorem dX8_go_31 : decode cX8_go 31 = .ok (.bipush (-2), 2) := by decide +kernel
theorem dX8_go_33 : decode cX8_go 33 = .ok (.ireturn, 1) := by decide +kernel
theorem dX8_go_34 : decode cX8_go 34 = .ok (.aload_n 0, 1) := by decide +kernel
theorem dX8_go_35 : decode cX8_go 35 = .ok (.invokevirtual 291, 3) := by decide +kernel
theorem dX8_go_38 : decode cX8_go 38 = .ok (.aload_n 2, 1) := by decide +kernel
theorem dX8_go_39 : decode cX8_go 39 = .ok (.dup, 1) := by decide +kernel
theorem dX8_go_40 : decode cX8_go 40 = .ok (.getfield 294, 3) := by decide +kernel
theorem dX8_go_43 : decode cX8_go 43 = .ok (.aload_n 0, 1) := by decide +kernel
theorem dX8_go_44 : decode cX8_go 44 = .ok (.getfield 36, 3) := by decide +kernel
theorem dX8_go_47 : decode cX8_go 47 = .ok (.aload_n 2, 1) := by decide +kernel
theorem dX8_go_48 : decode cX8_go 48 = .ok (.getfield 298, 3) := by decide +kernel
theorem dX8_go_51 : decode cX8_go 51 = .ok (.invokevirtual 176, 3) := by decide +kernel
theorem dX8_go_54 : decode cX8_go 54 = .ok (.aload_n 0, 1) := by decide +kernel
theorem dX8_go_55 : decode cX8_go 55 = .ok (.getfield 36, 3) := by decide +kernel
theorem dX8_go_58 : decode cX8_go 58 = .ok (.aload_n 2, 1) := by decide +kernel
theorem dX8_go_59 : decode cX8_go 59 = .ok (.getfield 298, 3) := by decide +kernel
theorem dX8_go_62 : decode cX8_go 62 = .ok (.iconst 0, 1) := by decide +kernel
theorem dX8_go_63 : decode cX8_go 63 = .ok (.invokevirtual 262, 3) := by decide +kernel
theorem dX8_go_66 : decode cX8_go 66 = .ok (.lsub, 1) := by decide +kernel
theorem dX8_go_67 : decode cX8_go 67 = .ok (.invokestatic 299, 3) := by decide +kernel
theorem dX8_go_70 : decode cX8_go 70 = .ok (.ladd, 1) := by decide +kernel
theorem dX8_go_71 : decode cX8_go 71 = .ok (.putfield 294, 3) := by decide +kernel
theorem dX8_go_74 : decode cX8_go 74 = .ok (.aload_n 2, 1) := by decide +kernel
theorem dX8_go_75 : decode cX8_go 75 = .ok (.aload_n 2, 1) := by decide +kernel
theorem dX8_go_76 : decode cX8_go 76 = .ok (.getfield 298, 3) := by decide +kernel
theorem dX8_go_79 : decode cX8_go 79 = .ok (.iload_n 1, 1) := by decide +kernel
theorem dX8_go_80 : decode cX8_go 80 = .ok (.invokestatic 305, 3) := by decide +kernel
theorem dX8_go_83 : decode cX8_go 83 = .ok (.putfield 298, 3) := by decide +kernel
theorem dX8_go_86 : decode cX8_go 86 = .ok (.aload_n 2, 1) := by decide +kernel
theorem dX8_go_87 : decode cX8_go 87 = .ok (.getfield 298, 3) := by decide +kernel
theorem dX8_go_90 : decode cX8_go 90 = .ok (.invokestatic 166, 3) := by decide +kernel
theorem dX8_go_93 : decode cX8_go 93 = .ok (.istore_n 3, 1) := by decide +kernel
theorem dX8_go_94 : decode cX8_go 94 = .ok (.aload_n 2, 1) := by decide +kernel
theorem dX8_go_95 : decode cX8_go 95 = .ok (.dup, 1) := by decide +kernel
theorem dX8_go_96 : decode cX8_go 96 = .ok (.getfield 309, 3) := by decide +kernel
theorem dX8_go_99 : decode cX8_go 99 = .ok (.aload_n 2, 1) := by decide +kernel
theorem dX8_go_100 : decode cX8_go 100 = .ok (.getfield 312, 3) := by decide +kernel
theorem dX8_go_103 : decode cX8_go 103 = .ok (.iload_n 3, 1) := by decide +kernel
theorem dX8_go_104 : decode cX8_go 104 = .ok (.invokevirtual 199, 3) := by decide +kernel
theorem dX8_go_107 : decode cX8_go 107 = .ok (.i2l, 1) := by decide +kernel
theorem dX8_go_108 : decode cX8_go 108 = .ok (.ladd, 1) := by decide +kernel
theorem dX8_go_109 : decode cX8_go 109 = .ok (.putfield 309, 3) := by decide +kernel
theorem dX8_go_112 : decode cX8_go 112 = .ok (.iload_n 3, 1) := by decide +kernel
theorem dX8_go_113 : decode cX8_go 113 = .ok (.ireturn, 1) := by decide +kernel
theorem dX8_does_0 : decode cX8_does 0 = .ok (.aload_n 0, 1) := by decide +kernel
theorem dX8_does_1 : decode cX8_does 1 = .ok (.getfield 21, 3) := by decide +kernel
theorem dX8_does_4 : decode cX8_does 4 = .ok (.getfield 272, 3) := by decide +kernel
theorem dX8_does_7 : decode cX8_does 7 = .ok (.astore_n 2, 1) := by decide +kernel
theorem dX8_does_8 : decode cX8_does 8 = .ok (.aload_n 2, 1) := by decide +kernel
theorem dX8_does_9 : decode cX8_does 9 = .ok (.getfield 280, 3) := by decide +kernel
theorem dX8_does_12 : decode cX8_does 12 = .ok (.ifCond .eq 12, 3) := by decide +kernel
theorem dX8_does_15 : decode cX8_does 15 = .ok (.iload_n 1, 1) := by decide +kernel
theorem dX8_does_16 : decode cX8_does 16 = .ok (.iconst 0, 1) := by decide +kernel
theorem dX8_does_17 : decode cX8_does 17 = .ok (.iconst 3, 1) := by decide +kernel
theorem dX8_does_18 : decode cX8_does 18 = .ok (.invokestatic 65, 3) := by decide +kernel
theorem dX8_does_21 : decode cX8_does 21 = .ok (.ifCond .ne 7, 3) := by decide +kernel
theorem dX8_does_24 : decode cX8_does 24 = .ok (.ldc2_w 97, 3) := by decide +kernel
theorem dX8_does_27 : decode cX8_does 27 = .ok (.lreturn, 1) := by decide +kernel
theorem dX8_does_28 : decode cX8_does 28 = .ok (.aload_n 2, 1) := by decide +kernel
theorem dX8_does_29 : decode cX8_does 29 = .ok (.getfield 284, 3) := by decide +kernel
theorem dX8_does_32 : decode cX8_does 32 = .ok (.ifCond .ne 14, 3) := by decide +kernel
theorem dX8_does_35 : decode cX8_does 35 = .ok (.iload_n 1, 1) := by decide +kernel
theorem dX8_does_36 : decode cX8_does 36 = .ok (.ifCond .ne 14, 3) := by decide +kernel
theorem dX8_does_39 : decode cX8_does 39 = .ok (.aload_n 2, 1) := by decide +kernel
theorem dX8_does_40 : decode cX8_does 40 = .ok (.invokevirtual 287, 3) := by decide +kernel
theorem dX8_does_43 : decode cX8_does 43 = .ok (.ifCond .ne 7, 3) := by decide +kernel
theorem dX8_does_46 : decode cX8_does 46 = .ok (.ldc2_w 208, 3) := by decide +kernel
theorem dX8_does_49 : decode cX8_does 49 = .ok (.lreturn, 1) := by decide +kernel
theorem dX8_does_50 : decode cX8_does 50 = .ok (.aload_n 0, 1) := by decide +kernel
theorem dX8_does_51 : decode cX8_does 51 = .ok (.invokevirtual 291, 3) := by decide +kernel
theorem dX8_does_54 : decode cX8_does 54 = .ok (.aload_n 0, 1) := by decide +kernel
theorem dX8_does_55 : decode cX8_does 55 = .ok (.getfield 36, 3) := by decide +kernel
theorem dX8_does_58 : decode cX8_does 58 = .ok (.aload_n 2, 1) := by decide +kernel
theorem dX8_does_59 : decode cX8_does 59 = .ok (.getfield 298, 3) := by decide +kernel
theorem dX8_does_62 : decode cX8_does 62 = .ok (.iload_n 1, 1) := by decide +kernel
theorem dX8_does_63 : decode cX8_does 63 = .ok (.invokevirtual 262, 3) := by decide +kernel
theorem dX8_does_66 : decode cX8_does 66 = .ok (.lstore_n 3, 1) := by decide +kernel
theorem dX8_does_67 : decode cX8_does 67 = .ok (.lload_n 3, 1) := by decide +kernel
theorem dX8_does_68 : decode cX8_does 68 = .ok (.lconst 0, 1) := by decide +kernel
theorem dX8_does_69 : decode cX8_does 69 = .ok (.lcmp, 1) := by decide +kernel
theorem dX8_does_70 : decode cX8_does 70 = .ok (.ifCond .ge 7, 3) := by decide +kernel
theorem dX8_does_73 : decode cX8_does 73 = .ok (.ldc2_w 313, 3) := by decide +kernel
theorem dX8_does_76 : decode cX8_does 76 = .ok (.lreturn, 1) := by decide +kernel
theorem dX8_does_77 : decode cX8_does 77 = .ok (.aload_n 2, 1) := by decide +kernel
theorem dX8_does_78 : decode cX8_does 78 = .ok (.dup, 1) := by decide +kernel
theorem dX8_does_79 : decode cX8_does 79 = .ok (.getfield 294, 3) := by decide +kernel
theorem dX8_does_82 : decode cX8_does 82 = .ok (.aload_n 0, 1) := by decide +kernel
theorem dX8_does_83 : decode cX8_does 83 = .ok (.getfield 36, 3) := by decide +kernel
theorem dX8_does_86 : decode cX8_does 86 = .ok (.aload_n 2, 1) := by decide +kernel
theorem dX8_does_87 : decode cX8_does 87 = .ok (.getfield 298, 3) := by decide +kernel
theorem dX8_does_90 : decode cX8_does 90 = .ok (.invokevirtual 176, 3) := by decide +kernel
theorem dX8_does_93 : decode cX8_does 93 = .ok (.lload_n 3, 1) := by decide +kernel
theorem dX8_does_94 : decode cX8_does 94 = .ok (.lsub, 1) := by decide +kernel
theorem dX8_does_95 : decode cX8_does 95 = .ok (.invokestatic 299, 3) := by decide +kernel
theorem dX8_does_98 : decode cX8_does 98 = .ok (.ladd, 1) := by decide +kernel
theorem dX8_does_99 : decode cX8_does 99 = .ok (.putfield 294, 3) := by decide +kernel
theorem dX8_does_102 : decode cX8_does 102 = .ok (.aload_n 2, 1) := by decide +kernel
theorem dX8_does_103 : decode cX8_does 103 = .ok (.dup, 1) := by decide +kernel
theorem dX8_does_104 : decode cX8_does 104 = .ok (.getfield 309, 3) := by decide +kernel
theorem dX8_does_107 : decode cX8_does 107 = .ok (.lload_n 3, 1) := by decide +kernel
theorem dX8_does_108 : decode cX8_does 108 = .ok (.aload_n 2, 1) := by decide +kernel
theorem dX8_does_109 : decode cX8_does 109 = .ok (.getfield 312, 3) := by decide +kernel
theorem dX8_does_112 : decode cX8_does 112 = .ok (.aload_n 2, 1) := by decide +kernel
theorem dX8_does_113 : decode cX8_does 113 = .ok (.getfield 298, 3) := by decide +kernel
theorem dX8_does_116 : decode cX8_does 116 = .ok (.invokestatic 166, 3) := by decide +kernel
theorem dX8_does_119 : decode cX8_does 119 = .ok (.invokevirtual 199, 3) := by decide +kernel
theorem dX8_does_122 : decode cX8_does 122 = .ok (.i2l, 1) := by decide +kernel
theorem dX8_does_123 : decode cX8_does 123 = .ok (.lsub, 1) := by decide +kernel
theorem dX8_does_124 : decode cX8_does 124 = .ok (.ladd, 1) := by decide +kernel
theorem dX8_does_125 : decode cX8_does 125 = .ok (.putfield 309, 3) := by decide +kernel
theorem dX8_does_128 : decode cX8_does 128 = .ok (.aload_n 2, 1) := by decide +kernel
theorem dX8_does_129 : decode cX8_does 129 = .ok (.iconst 1, 1) := by decide +kernel
theorem dX8_does_130 : decode cX8_does 130 = .ok (.putfield 284, 3) := by decide +kernel
theorem dX8_does_133 : decode cX8_does 133 = .ok (.aload_n 2, 1) := by decide +kernel
theorem dX8_does_134 : decode cX8_does 134 = .ok (.getfield 309, 3) := by decide +kernel
theorem dX8_does_137 : decode cX8_does 137 = .ok (.lreturn, 1) := by decide +kernel
theorem dX8_byHand_0 : decode cX8_byHand 0 = .ok (.aload_n 0, 1) := by decide +kernel
theorem dX8_byHand_1 : decode cX8_byHand 1 = .ok (.getfield 21, 3) := by decide +kernel
theorem dX8_byHand_4 : decode cX8_byHand 4 = .ok (.getfield 272, 3) := by decide +kernel
theorem dX8_byHand_7 : decode cX8_byHand 7 = .ok (.astore_n 2, 1) := by decide +kernel
theorem dX8_byHand_8 : decode cX8_byHand 8 = .ok (.aload_n 2, 1) := by decide +kernel
theorem dX8_byHand_9 : decode cX8_byHand 9 = .ok (.getfield 280, 3) := by decide +kernel
theorem dX8_byHand_12 : decode cX8_byHand 12 = .ok (.ifCond .eq 12, 3) := by decide +kernel
theorem dX8_byHand_15 : decode cX8_byHand 15 = .ok (.iload_n 1, 1) := by decide +kernel
theorem dX8_byHand_16 : decode cX8_byHand 16 = .ok (.iconst 0, 1) := by decide +kernel
theorem dX8_byHand_17 : decode cX8_byHand 17 = .ok (.iconst 4, 1) := by decide +kernel
theorem dX8_byHand_18 : decode cX8_byHand 18 = .ok (.invokestatic 65, 3) := by decide +kernel
theorem dX8_byHand_21 : decode cX8_byHand 21 = .ok (.ifCond .ne 7, 3) := by decide +kernel
theorem dX8_byHand_24 : decode cX8_byHand 24 = .ok (.ldc2_w 97, 3) := by decide +kernel
theorem dX8_byHand_27 : decode cX8_byHand 27 = .ok (.lreturn, 1) := by decide +kernel
theorem dX8_byHand_28 : decode cX8_byHand 28 = .ok (.iload_n 1, 1) := by decide +kernel
theorem dX8_byHand_29 : decode cX8_byHand 29 = .ok (.tableswitch 63 0 3 #[31, 44, 53, 58], 31) := by decide +kernel
theorem dX8_byHand_60 : decode cX8_byHand 60 = .ok (.aload_n 2, 1) := by decide +kernel
theorem dX8_byHand_61 : decode cX8_byHand 61 = .ok (.getfield 284, 3) := by decide +kernel
theorem dX8_byHand_64 : decode cX8_byHand 64 = .ok (.ifCond .eq 7, 3) := by decide +kernel
theorem dX8_byHand_67 : decode cX8_byHand 67 = .ok (.lconst 0, 1) := by decide +kernel
theorem dX8_byHand_68 : decode cX8_byHand 68 = .ok (.goto 4, 3) := by decide +kernel
theorem dX8_byHand_71 : decode cX8_byHand 71 = .ok (.lconst 1, 1) := by decide +kernel
theorem dX8_byHand_72 : decode cX8_byHand 72 = .ok (.lreturn, 1) := by decide +kernel
theorem dX8_byHand_73 : decode cX8_byHand 73 = .ok (.aload_n 2, 1) := by decide +kernel
