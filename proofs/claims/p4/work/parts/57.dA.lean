theorem dX0_init_0 : decode cX0_init 0 = .ok (.aload_n 0, 1) := by decide +kernel
theorem dX0_init_1 : decode cX0_init 1 = .ok (.invokespecial 3, 3) := by decide +kernel
theorem dX0_init_4 : decode cX0_init 4 = .ok (.aload_n 0, 1) := by decide +kernel
theorem dX0_init_5 : decode cX0_init 5 = .ok (.bipush 36, 2) := by decide +kernel
theorem dX0_init_7 : decode cX0_init 7 = .ok (.newarray .int, 2) := by decide +kernel
theorem dX0_init_9 : decode cX0_init 9 = .ok (.putfield 11, 3) := by decide +kernel
theorem dX0_init_12 : decode cX0_init 12 = .ok (.aload_n 0, 1) := by decide +kernel
theorem dX0_init_13 : decode cX0_init 13 = .ok (.getfield 11, 3) := by decide +kernel
theorem dX0_init_16 : decode cX0_init 16 = .ok (.iconst 0, 1) := by decide +kernel
theorem dX0_init_17 : decode cX0_init 17 = .ok (.sipush 10000, 3) := by decide +kernel
theorem dX0_init_20 : decode cX0_init 20 = .ok (.iastore, 1) := by decide +kernel
theorem dX0_init_21 : decode cX0_init 21 = .ok (.aload_n 0, 1) := by decide +kernel
theorem dX0_init_22 : decode cX0_init 22 = .ok (.getfield 11, 3) := by decide +kernel
theorem dX0_init_25 : decode cX0_init 25 = .ok (.iconst 1, 1) := by decide +kernel
theorem dX0_init_26 : decode cX0_init 26 = .ok (.bipush 100, 2) := by decide +kernel
theorem dX0_init_28 : decode cX0_init 28 = .ok (.iastore, 1) := by decide +kernel
theorem dX0_init_29 : decode cX0_init 29 = .ok (.aload_n 0, 1) := by decide +kernel
theorem dX0_init_30 : decode cX0_init 30 = .ok (.getfield 11, 3) := by decide +kernel
theorem dX0_init_33 : decode cX0_init 33 = .ok (.iconst 3, 1) := by decide +kernel
theorem dX0_init_34 : decode cX0_init 34 = .ok (.bipush 6, 2) := by decide +kernel
theorem dX0_init_36 : decode cX0_init 36 = .ok (.iastore, 1) := by decide +kernel
theorem dX0_init_37 : decode cX0_init 37 = .ok (.aload_n 0, 1) := by decide +kernel
theorem dX0_init_38 : decode cX0_init 38 = .ok (.getfield 11, 3) := by decide +kernel
theorem dX0_init_41 : decode cX0_init 41 = .ok (.iconst 5, 1) := by decide +kernel
theorem dX0_init_42 : decode cX0_init 42 = .ok (.iconst 1, 1) := by decide +kernel
theorem dX0_init_43 : decode cX0_init 43 = .ok (.iastore, 1) := by decide +kernel
theorem dX0_init_44 : decode cX0_init 44 = .ok (.aload_n 0, 1) := by decide +kernel
theorem dX0_init_45 : decode cX0_init 45 = .ok (.bipush 20, 2) := by decide +kernel
theorem dX0_init_47 : decode cX0_init 47 = .ok (.invokevirtual 15, 3) := by decide +kernel
theorem dX0_init_50 : decode cX0_init 50 = .ok (.aload_n 0, 1) := by decide +kernel
theorem dX0_init_51 : decode cX0_init 51 = .ok (.bipush 30, 2) := by decide +kernel
theorem dX0_init_53 : decode cX0_init 53 = .ok (.invokevirtual 15, 3) := by decide +kernel
theorem dX0_init_56 : decode cX0_init 56 = .ok (.return_, 1) := by decide +kernel
theorem dX0_hasTerm_0 : decode cX0_hasTerm 0 = .ok (.iload_n 0, 1) := by decide +kernel
theorem dX0_hasTerm_1 : decode cX0_hasTerm 1 = .ok (.iconst 0, 1) := by decide +kernel
theorem dX0_hasTerm_2 : decode cX0_hasTerm 2 = .ok (.bipush 7, 2) := by decide +kernel
theorem dX0_hasTerm_4 : decode cX0_hasTerm 4 = .ok (.invokestatic 19, 3) := by decide +kernel
theorem dX0_hasTerm_7 : decode cX0_hasTerm 7 = .ok (.ifCond .ne 36, 3) := by decide +kernel
theorem dX0_hasTerm_10 : decode cX0_hasTerm 10 = .ok (.iload_n 0, 1) := by decide +kernel
theorem dX0_hasTerm_11 : decode cX0_hasTerm 11 = .ok (.bipush 11, 2) := by decide +kernel
theorem dX0_hasTerm_13 : decode cX0_hasTerm 13 = .ok (.bipush 16, 2) := by decide +kernel
theorem dX0_hasTerm_15 : decode cX0_hasTerm 15 = .ok (.invokestatic 19, 3) := by decide +kernel
theorem dX0_hasTerm_18 : decode cX0_hasTerm 18 = .ok (.ifCond .ne 25, 3) := by decide +kernel
theorem dX0_hasTerm_21 : decode cX0_hasTerm 21 = .ok (.iload_n 0, 1) := by decide +kernel
theorem dX0_hasTerm_22 : decode cX0_hasTerm 22 = .ok (.bipush 20, 2) := by decide +kernel
theorem dX0_hasTerm_24 : decode cX0_hasTerm 24 = .ok (.bipush 25, 2) := by decide +kernel
theorem dX0_hasTerm_26 : decode cX0_hasTerm 26 = .ok (.invokestatic 19, 3) := by decide +kernel
theorem dX0_hasTerm_29 : decode cX0_hasTerm 29 = .ok (.ifCond .ne 14, 3) := by decide +kernel
theorem dX0_hasTerm_32 : decode cX0_hasTerm 32 = .ok (.iload_n 0, 1) := by decide +kernel
theorem dX0_hasTerm_33 : decode cX0_hasTerm 33 = .ok (.bipush 30, 2) := by decide +kernel
theorem dX0_hasTerm_35 : decode cX0_hasTerm 35 = .ok (.bipush 35, 2) := by decide +kernel
theorem dX0_hasTerm_37 : decode cX0_hasTerm 37 = .ok (.invokestatic 19, 3) := by decide +kernel
theorem dX0_hasTerm_40 : decode cX0_hasTerm 40 = .ok (.ifCond .eq 7, 3) := by decide +kernel
theorem dX0_hasTerm_43 : decode cX0_hasTerm 43 = .ok (.iconst 1, 1) := by decide +kernel
theorem dX0_hasTerm_44 : decode cX0_hasTerm 44 = .ok (.goto 4, 3) := by decide +kernel
theorem dX0_hasTerm_47 : decode cX0_hasTerm 47 = .ok (.iconst 0, 1) := by decide +kernel
theorem dX0_hasTerm_48 : decode cX0_hasTerm 48 = .ok (.ireturn, 1) := by decide +kernel
theorem dX0_get_0 : decode cX0_get 0 = .ok (.iconst 0, 1) := by decide +kernel
theorem dX0_get_1 : decode cX0_get 1 = .ok (.iload_n 1, 1) := by decide +kernel
theorem dX0_get_2 : decode cX0_get 2 = .ok (.if_icmp .gt 18, 3) := by decide +kernel
theorem dX0_get_5 : decode cX0_get 5 = .ok (.iload_n 1, 1) := by decide +kernel
theorem dX0_get_6 : decode cX0_get 6 = .ok (.bipush 36, 2) := by decide +kernel
theorem dX0_get_8 : decode cX0_get 8 = .ok (.if_icmp .ge 12, 3) := by decide +kernel
theorem dX0_get_11 : decode cX0_get 11 = .ok (.aload_n 0, 1) := by decide +kernel
theorem dX0_get_12 : decode cX0_get 12 = .ok (.getfield 11, 3) := by decide +kernel
theorem dX0_get_15 : decode cX0_get 15 = .ok (.iload_n 1, 1) := by decide +kernel
theorem dX0_get_16 : decode cX0_get 16 = .ok (.iaload, 1) := by decide +kernel
theorem dX0_get_17 : decode cX0_get 17 = .ok (.goto 4, 3) := by decide +kernel
theorem dX0_get_20 : decode cX0_get 20 = .ok (.iconst (-1), 1) := by decide +kernel
theorem dX0_get_21 : decode cX0_get 21 = .ok (.ireturn, 1) := by decide +kernel
theorem dX0_set_0 : decode cX0_set 0 = .ok (.iconst 0, 1) := by decide +kernel
theorem dX0_set_1 : decode cX0_set 1 = .ok (.iload_n 1, 1) := by decide +kernel
theorem dX0_set_2 : decode cX0_set 2 = .ok (.if_icmp .gt 16, 3) := by decide +kernel
theorem dX0_set_5 : decode cX0_set 5 = .ok (.iload_n 1, 1) := by decide +kernel
theorem dX0_set_6 : decode cX0_set 6 = .ok (.bipush 36, 2) := by decide +kernel
theorem dX0_set_8 : decode cX0_set 8 = .ok (.if_icmp .ge 10, 3) := by decide +kernel
theorem dX0_set_11 : decode cX0_set 11 = .ok (.aload_n 0, 1) := by decide +kernel
theorem dX0_set_12 : decode cX0_set 12 = .ok (.getfield 11, 3) := by decide +kernel
theorem dX0_set_15 : decode cX0_set 15 = .ok (.iload_n 1, 1) := by decide +kernel
theorem dX0_set_16 : decode cX0_set 16 = .ok (.iload_n 2, 1) := by decide +kernel
theorem dX0_set_17 : decode cX0_set 17 = .ok (.iastore, 1) := by decide +kernel
theorem dX0_set_18 : decode cX0_set 18 = .ok (.return_, 1) := by decide +kernel
theorem dX0_takeFrom_0 : decode cX0_takeFrom 0 = .ok (.aload_n 1, 1) := by decide +kernel
theorem dX0_takeFrom_1 : decode cX0_takeFrom 1 = .ok (.getfield 11, 3) := by decide +kernel
theorem dX0_takeFrom_4 : decode cX0_takeFrom 4 = .ok (.iconst 0, 1) := by decide +kernel
theorem dX0_takeFrom_5 : decode cX0_takeFrom 5 = .ok (.aload_n 0, 1) := by decide +kernel
theorem dX0_takeFrom_6 : decode cX0_takeFrom 6 = .ok (.getfield 11, 3) := by decide +kernel
theorem dX0_takeFrom_9 : decode cX0_takeFrom 9 = .ok (.iconst 0, 1) := by decide +kernel
theorem dX0_takeFrom_10 : decode cX0_takeFrom 10 = .ok (.bipush 36, 2) := by decide +kernel
theorem dX0_takeFrom_12 : decode cX0_takeFrom 12 = .ok (.invokestatic 23, 3) := by decide +kernel
theorem dX0_takeFrom_15 : decode cX0_takeFrom 15 = .ok (.return_, 1) := by decide +kernel
theorem dX0_setAllCoupons_0 : decode cX0_setAllCoupons 0 = .ok (.iconst 1, 1) := by decide +kernel
theorem dX0_setAllCoupons_1 : decode cX0_setAllCoupons 1 = .ok (.istore_n 2, 1) := by decide +kernel
theorem dX0_setAllCoupons_2 : decode cX0_setAllCoupons 2 = .ok (.iload_n 2, 1) := by decide +kernel
theorem dX0_setAllCoupons_3 : decode cX0_setAllCoupons 3 = .ok (.bipush 6, 2) := by decide +kernel
theorem dX0_setAllCoupons_5 : decode cX0_setAllCoupons 5 = .ok (.if_icmp .gt 19, 3) := by decide +kernel
theorem dX0_setAllCoupons_8 : decode cX0_setAllCoupons 8 = .ok (.aload_n 0, 1) := by decide +kernel
theorem dX0_setAllCoupons_9 : decode cX0_setAllCoupons 9 = .ok (.getfield 11, 3) := by decide +kernel
theorem dX0_setAllCoupons_12 : decode cX0_setAllCoupons 12 = .ok (.bipush 10, 2) := by decide +kernel
theorem dX0_setAllCoupons_14 : decode cX0_setAllCoupons 14 = .ok (.iload_n 2, 1) := by decide +kernel
theorem dX0_setAllCoupons_15 : decode cX0_setAllCoupons 15 = .ok (.iadd, 1) := by decide +kernel
theorem dX0_setAllCoupons_16 : decode cX0_setAllCoupons 16 = .ok (.iload_n 1, 1) := by decide +kernel
theorem dX0_setAllCoupons_17 : decode cX0_setAllCoupons 17 = .ok (.iastore, 1) := by decide +kernel
theorem dX0_setAllCoupons_18 : decode cX0_setAllCoupons 18 = .ok (.iinc 2 1, 3) := by decide +kernel
theorem dX0_setAllCoupons_21 : decode cX0_setAllCoupons 21 = .ok (.goto (-19), 3) := by decide +kernel
theorem dX0_setAllCoupons_24 : decode cX0_setAllCoupons 24 = .ok (.return_, 1) := by decide +kernel
theorem dX0_dropRights_0 : decode cX0_dropRights 0 = .ok (.iconst 0, 1) := by decide +kernel
theorem dX0_dropRights_1 : decode cX0_dropRights 1 = .ok (.istore_n 2, 1) := by decide +kernel
theorem dX0_dropRights_2 : decode cX0_dropRights 2 = .ok (.iload_n 2, 1) := by decide +kernel
theorem dX0_dropRights_3 : decode cX0_dropRights 3 = .ok (.bipush 6, 2) := by decide +kernel
theorem dX0_dropRights_5 : decode cX0_dropRights 5 = .ok (.if_icmp .ge 18, 3) := by decide +kernel
theorem dX0_dropRights_8 : decode cX0_dropRights 8 = .ok (.aload_n 0, 1) := by decide +kernel
theorem dX0_dropRights_9 : decode cX0_dropRights 9 = .ok (.iload_n 1, 1) := by decide +kernel
theorem dX0_dropRights_10 : decode cX0_dropRights 10 = .ok (.iload_n 2, 1) := by decide +kernel
theorem dX0_dropRights_11 : decode cX0_dropRights 11 = .ok (.iadd, 1) := by decide +kernel
theorem dX0_dropRights_12 : decode cX0_dropRights 12 = .ok (.bipush (-2), 2) := by decide +kernel
theorem dX0_dropRights_14 : decode cX0_dropRights 14 = .ok (.invokevirtual 29, 3) := by decide +kernel
theorem dX0_dropRights_17 : decode cX0_dropRights 17 = .ok (.iinc 2 1, 3) := by decide +kernel
theorem dX0_dropRights_20 : decode cX0_dropRights 20 = .ok (.goto (-18), 3) := by decide +kernel
theorem dX0_dropRights_23 : decode cX0_dropRights 23 = .ok (.return_, 1) := by decide +kernel
theorem dX0_giveUp_0 : decode cX0_giveUp 0 = .ok (.iload_n 1, 1) := by decide +kernel
theorem dX0_giveUp_1 : decode cX0_giveUp 1 = .ok (.iconst 1, 1) := by decide +kernel
theorem dX0_giveUp_2 : decode cX0_giveUp 2 = .ok (.iand, 1) := by decide +kernel
theorem dX0_giveUp_3 : decode cX0_giveUp 3 = .ok (.ifCond .eq 9, 3) := by decide +kernel
theorem dX0_giveUp_6 : decode cX0_giveUp 6 = .ok (.aload_n 0, 1) := by decide +kernel
theorem dX0_giveUp_7 : decode cX0_giveUp 7 = .ok (.bipush 20, 2) := by decide +kernel
theorem dX0_giveUp_9 : decode cX0_giveUp 9 = .ok (.invokevirtual 15, 3) := by decide +kernel
theorem dX0_giveUp_12 : decode cX0_giveUp 12 = .ok (.iload_n 1, 1) := by decide +kernel
theorem dX0_giveUp_13 : decode cX0_giveUp 13 = .ok (.iconst 2, 1) := by decide +kernel
theorem dX0_giveUp_14 : decode cX0_giveUp 14 = .ok (.iand, 1) := by decide +kernel
theorem dX0_giveUp_15 : decode cX0_giveUp 15 = .ok (.ifCond .eq 9, 3) := by decide +kernel
theorem dX0_giveUp_18 : decode cX0_giveUp 18 = .ok (.aload_n 0, 1) := by decide +kernel
theorem dX0_giveUp_19 : decode cX0_giveUp 19 = .ok (.bipush 30, 2) := by decide +kernel
theorem dX0_giveUp_21 : decode cX0_giveUp 21 = .ok (.invokevirtual 15, 3) := by decide +kernel
theorem dX0_giveUp_24 : decode cX0_giveUp 24 = .ok (.iload_n 1, 1) := by decide +kernel
theorem dX0_giveUp_25 : decode cX0_giveUp 25 = .ok (.iconst 4, 1) := by decide +kernel
theorem dX0_giveUp_26 : decode cX0_giveUp 26 = .ok (.iand, 1) := by decide +kernel
theorem dX0_giveUp_27 : decode cX0_giveUp 27 = .ok (.ifCond .eq 19, 3) := by decide +kernel
theorem dX0_giveUp_30 : decode cX0_giveUp 30 = .ok (.aload_n 0, 1) := by decide +kernel
theorem dX0_giveUp_31 : decode cX0_giveUp 31 = .ok (.getfield 11, 3) := by decide +kernel
theorem dX0_giveUp_34 : decode cX0_giveUp 34 = .ok (.iconst 2, 1) := by decide +kernel
theorem dX0_giveUp_35 : decode cX0_giveUp 35 = .ok (.bipush 7, 2) := by decide +kernel
theorem dX0_giveUp_37 : decode cX0_giveUp 37 = .ok (.iastore, 1) := by decide +kernel
theorem dX0_giveUp_38 : decode cX0_giveUp 38 = .ok (.aload_n 0, 1) := by decide +kernel
theorem dX0_giveUp_39 : decode cX0_giveUp 39 = .ok (.getfield 11, 3) := by decide +kernel
theorem dX0_giveUp_42 : decode cX0_giveUp 42 = .ok (.iconst 3, 1) := by decide +kernel
theorem dX0_giveUp_43 : decode cX0_giveUp 43 = .ok (.bipush 7, 2) := by decide +kernel
theorem dX0_giveUp_45 : decode cX0_giveUp 45 = .ok (.iastore, 1) := by decide +kernel
theorem dX0_giveUp_46 : decode cX0_giveUp 46 = .ok (.iload_n 1, 1) := by decide +kernel
theorem dX0_giveUp_47 : decode cX0_giveUp 47 = .ok (.bipush 8, 2) := by decide +kernel
theorem dX0_giveUp_49 : decode cX0_giveUp 49 = .ok (.iand, 1) := by decide +kernel
theorem dX0_giveUp_50 : decode cX0_giveUp 50 = .ok (.ifCond .eq 10, 3) := by decide +kernel
theorem dX0_giveUp_53 : decode cX0_giveUp 53 = .ok (.aload_n 0, 1) := by decide +kernel
theorem dX0_giveUp_54 : decode cX0_giveUp 54 = .ok (.getfield 11, 3) := by decide +kernel
theorem dX0_giveUp_57 : decode cX0_giveUp 57 = .ok (.iconst 4, 1) := by decide +kernel
theorem dX0_giveUp_58 : decode cX0_giveUp 58 = .ok (.iconst 0, 1) := by decide +kernel
theorem dX0_giveUp_59 : decode cX0_giveUp 59 = .ok (.iastore, 1) := by decide +kernel
theorem dX0_giveUp_60 : decode cX0_giveUp 60 = .ok (.return_, 1) := by decide +kernel
theorem dX0_couponOn_0 : decode cX0_couponOn 0 = .ok (.iload_n 1, 1) := by decide +kernel
theorem dX0_couponOn_1 : decode cX0_couponOn 1 = .ok (.iconst 1, 1) := by decide +kernel
theorem dX0_couponOn_2 : decode cX0_couponOn 2 = .ok (.bipush 6, 2) := by decide +kernel
theorem dX0_couponOn_4 : decode cX0_couponOn 4 = .ok (.invokestatic 19, 3) := by decide +kernel
theorem dX0_couponOn_7 : decode cX0_couponOn 7 = .ok (.ifCond .eq 15, 3) := by decide +kernel
theorem dX0_couponOn_10 : decode cX0_couponOn 10 = .ok (.aload_n 0, 1) := by decide +kernel
theorem dX0_couponOn_11 : decode cX0_couponOn 11 = .ok (.getfield 11, 3) := by decide +kernel
theorem dX0_couponOn_14 : decode cX0_couponOn 14 = .ok (.bipush 10, 2) := by decide +kernel
theorem dX0_couponOn_16 : decode cX0_couponOn 16 = .ok (.iload_n 1, 1) := by decide +kernel
theorem dX0_couponOn_17 : decode cX0_couponOn 17 = .ok (.iadd, 1) := by decide +kernel
theorem dX0_couponOn_18 : decode cX0_couponOn 18 = .ok (.iaload, 1) := by decide +kernel
theorem dX0_couponOn_19 : decode cX0_couponOn 19 = .ok (.goto 4, 3) := by decide +kernel
theorem dX0_couponOn_22 : decode cX0_couponOn 22 = .ok (.iconst 0, 1) := by decide +kernel
theorem dX0_couponOn_23 : decode cX0_couponOn 23 = .ok (.ireturn, 1) := by decide +kernel
theorem dX0_callOn_0 : decode cX0_callOn 0 = .ok (.iload_n 1, 1) := by decide +kernel
theorem dX0_callOn_1 : decode cX0_callOn 1 = .ok (.iconst 0, 1) := by decide +kernel
theorem dX0_callOn_2 : decode cX0_callOn 2 = .ok (.iconst 5, 1) := by decide +kernel
theorem dX0_callOn_3 : decode cX0_callOn 3 = .ok (.invokestatic 19, 3) := by decide +kernel
theorem dX0_callOn_6 : decode cX0_callOn 6 = .ok (.ifCond .eq 15, 3) := by decide +kernel
theorem dX0_callOn_9 : decode cX0_callOn 9 = .ok (.aload_n 0, 1) := by decide +kernel
theorem dX0_callOn_10 : decode cX0_callOn 10 = .ok (.getfield 11, 3) := by decide +kernel
theorem dX0_callOn_13 : decode cX0_callOn 13 = .ok (.bipush 20, 2) := by decide +kernel
theorem dX0_callOn_15 : decode cX0_callOn 15 = .ok (.iload_n 1, 1) := by decide +kernel
theorem dX0_callOn_16 : decode cX0_callOn 16 = .ok (.iadd, 1) := by decide +kernel
theorem dX0_callOn_17 : decode cX0_callOn 17 = .ok (.iaload, 1) := by decide +kernel
theorem dX0_callOn_18 : decode cX0_callOn 18 = .ok (.goto 5, 3) := by decide +kernel
theorem dX0_callOn_21 : decode cX0_callOn 21 = .ok (.bipush (-2), 2) := by decide +kernel
theorem dX0_callOn_23 : decode cX0_callOn 23 = .ok (.ireturn, 1) := by decide +kernel
theorem dX0_putOn_0 : decode cX0_putOn 0 = .ok (.iload_n 1, 1) := by decide +kernel
theorem dX0_putOn_1 : decode cX0_putOn 1 = .ok (.iconst 0, 1) := by decide +kernel
theorem dX0_putOn_2 : decode cX0_putOn 2 = .ok (.iconst 5, 1) := by decide +kernel
theorem dX0_putOn_3 : decode cX0_putOn 3 = .ok (.invokestatic 19, 3) := by decide +kernel
theorem dX0_putOn_6 : decode cX0_putOn 6 = .ok (.ifCond .eq 15, 3) := by decide +kernel
theorem dX0_putOn_9 : decode cX0_putOn 9 = .ok (.aload_n 0, 1) := by decide +kernel
theorem dX0_putOn_10 : decode cX0_putOn 10 = .ok (.getfield 11, 3) := by decide +kernel
theorem dX0_putOn_13 : decode cX0_putOn 13 = .ok (.bipush 30, 2) := by decide +kernel
theorem dX0_putOn_15 : decode cX0_putOn 15 = .ok (.iload_n 1, 1) := by decide +kernel
theorem dX0_putOn_16 : decode cX0_putOn 16 = .ok (.iadd, 1) := by decide +kernel
theorem dX0_putOn_17 : decode cX0_putOn 17 = .ok (.iaload, 1) := by decide +kernel
theorem dX0_putOn_18 : decode cX0_putOn 18 = .ok (.goto 5, 3) := by decide +kernel
theorem dX0_putOn_21 : decode cX0_putOn 21 = .ok (.bipush (-2), 2) := by decide +kernel
theorem dX0_putOn_23 : decode cX0_putOn 23 = .ok (.ireturn, 1) := by decide +kernel
theorem dX0_face_0 : decode cX0_face 0 = .ok (.aload_n 0, 1) := by decide +kernel
theorem dX0_face_1 : decode cX0_face 1 = .ok (.getfield 11, 3) := by decide +kernel
theorem dX0_face_4 : decode cX0_face 4 = .ok (.iconst 0, 1) := by decide +kernel
theorem dX0_face_5 : decode cX0_face 5 = .ok (.iaload, 1) := by decide +kernel
theorem dX0_face_6 : decode cX0_face 6 = .ok (.ireturn, 1) := by decide +kernel
theorem dX0_softLeast_0 : decode cX0_softLeast 0 = .ok (.aload_n 0, 1) := by decide +kernel
theorem dX0_softLeast_1 : decode cX0_softLeast 1 = .ok (.getfield 11, 3) := by decide +kernel
theorem dX0_softLeast_4 : decode cX0_softLeast 4 = .ok (.iconst 4, 1) := by decide +kernel
theorem dX0_softLeast_5 : decode cX0_softLeast 5 = .ok (.iaload, 1) := by decide +kernel
theorem dX0_softLeast_6 : decode cX0_softLeast 6 = .ok (.ireturn, 1) := by decide +kernel
theorem dX0_softLevel_0 : decode cX0_softLevel 0 = .ok (.aload_n 0, 1) := by decide +kernel
theorem dX0_softLevel_1 : decode cX0_softLevel 1 = .ok (.getfield 11, 3) := by decide +kernel
theorem dX0_softLevel_4 : decode cX0_softLevel 4 = .ok (.bipush 6, 2) := by decide +kernel
theorem dX0_softLevel_6 : decode cX0_softLevel 6 = .ok (.iaload, 1) := by decide +kernel
theorem dX0_softLevel_7 : decode cX0_softLevel 7 = .ok (.ireturn, 1) := by decide +kernel
theorem dX0_mayTurnOn_0 : decode cX0_mayTurnOn 0 = .ok (.iload_n 1, 1) := by decide +kernel
theorem dX0_mayTurnOn_1 : decode cX0_mayTurnOn 1 = .ok (.aload_n 0, 1) := by decide +kernel
theorem dX0_mayTurnOn_2 : decode cX0_mayTurnOn 2 = .ok (.getfield 11, 3) := by decide +kernel
theorem dX0_mayTurnOn_5 : decode cX0_mayTurnOn 5 = .ok (.iconst 2, 1) := by decide +kernel
theorem dX0_mayTurnOn_6 : decode cX0_mayTurnOn 6 = .ok (.iaload, 1) := by decide +kernel
theorem dX0_mayTurnOn_7 : decode cX0_mayTurnOn 7 = .ok (.aload_n 0, 1) := by decide +kernel
theorem dX0_mayTurnOn_8 : decode cX0_mayTurnOn 8 = .ok (.getfield 11, 3) := by decide +kernel
theorem dX0_mayTurnOn_11 : decode cX0_mayTurnOn 11 = .ok (.iconst 3, 1) := by decide +kernel
theorem dX0_mayTurnOn_12 : decode cX0_mayTurnOn 12 = .ok (.iaload, 1) := by decide +kernel
theorem dX0_mayTurnOn_13 : decode cX0_mayTurnOn 13 = .ok (.invokestatic 19, 3) := by decide +kernel
theorem dX0_mayTurnOn_16 : decode cX0_mayTurnOn 16 = .ok (.ireturn, 1) := by decide +kernel
theorem dX0_highDays_0 : decode cX0_highDays 0 = .ok (.iload_n 1, 1) := by decide +kernel
theorem dX0_highDays_1 : decode cX0_highDays 1 = .ok (.iconst 1, 1) := by decide +kernel
theorem dX0_highDays_2 : decode cX0_highDays 2 = .ok (.aload_n 0, 1) := by decide +kernel
theorem dX0_highDays_3 : decode cX0_highDays 3 = .ok (.getfield 11, 3) := by decide +kernel
theorem dX0_highDays_6 : decode cX0_highDays 6 = .ok (.iconst 5, 1) := by decide +kernel
theorem dX0_highDays_7 : decode cX0_highDays 7 = .ok (.iaload, 1) := by decide +kernel
theorem dX0_highDays_8 : decode cX0_highDays 8 = .ok (.ishl, 1) := by decide +kernel
theorem dX0_highDays_9 : decode cX0_highDays 9 = .ok (.iconst 1, 1) := by decide +kernel
theorem dX0_highDays_10 : decode cX0_highDays 10 = .ok (.isub, 1) := by decide +kernel
theorem dX0_highDays_11 : decode cX0_highDays 11 = .ok (.iand, 1) := by decide +kernel
theorem dX0_highDays_12 : decode cX0_highDays 12 = .ok (.invokestatic 33, 3) := by decide +kernel
theorem dX0_highDays_15 : decode cX0_highDays 15 = .ok (.ireturn, 1) := by decide +kernel
theorem dX0_turnedWorth_0 : decode cX0_turnedWorth 0 = .ok (.aload_n 0, 1) := by decide +kernel
theorem dX0_turnedWorth_1 : decode cX0_turnedWorth 1 = .ok (.getfield 11, 3) := by decide +kernel
theorem dX0_turnedWorth_4 : decode cX0_turnedWorth 4 = .ok (.iconst 1, 1) := by decide +kernel
theorem dX0_turnedWorth_5 : decode cX0_turnedWorth 5 = .ok (.iaload, 1) := by decide +kernel
theorem dX0_turnedWorth_6 : decode cX0_turnedWorth 6 = .ok (.i2l, 1) := by decide +kernel
theorem dX0_turnedWorth_7 : decode cX0_turnedWorth 7 = .ok (.lload_n 1, 1) := by decide +kernel
theorem dX0_turnedWorth_8 : decode cX0_turnedWorth 8 = .ok (.lmul, 1) := by decide +kernel
theorem dX0_turnedWorth_9 : decode cX0_turnedWorth 9 = .ok (.ldc2_w 39, 3) := by decide +kernel
theorem dX0_turnedWorth_12 : decode cX0_turnedWorth 12 = .ok (.ldiv, 1) := by decide +kernel
theorem dX0_turnedWorth_13 : decode cX0_turnedWorth 13 = .ok (.lstore 5, 2) := by decide +kernel
theorem dX0_turnedWorth_15 : decode cX0_turnedWorth 15 = .ok (.aload_n 0, 1) := by decide +kernel
theorem dX0_turnedWorth_16 : decode cX0_turnedWorth 16 = .ok (.getfield 11, 3) := by decide +kernel
theorem dX0_turnedWorth_19 : decode cX0_turnedWorth 19 = .ok (.iconst 1, 1) := by decide +kernel
theorem dX0_turnedWorth_20 : decode cX0_turnedWorth 20 = .ok (.iaload, 1) := by decide +kernel
theorem dX0_turnedWorth_21 : decode cX0_turnedWorth 21 = .ok (.i2l, 1) := by decide +kernel
theorem dX0_turnedWorth_22 : decode cX0_turnedWorth 22 = .ok (.lload_n 1, 1) := by decide +kernel
theorem dX0_turnedWorth_23 : decode cX0_turnedWorth 23 = .ok (.lload_n 3, 1) := by decide +kernel
theorem dX0_turnedWorth_24 : decode cX0_turnedWorth 24 = .ok (.ladd, 1) := by decide +kernel
theorem dX0_turnedWorth_25 : decode cX0_turnedWorth 25 = .ok (.lmul, 1) := by decide +kernel
theorem dX0_turnedWorth_26 : decode cX0_turnedWorth 26 = .ok (.ldc2_w 41, 3) := by decide +kernel
theorem dX0_turnedWorth_29 : decode cX0_turnedWorth 29 = .ok (.ldiv, 1) := by decide +kernel
theorem dX0_turnedWorth_30 : decode cX0_turnedWorth 30 = .ok (.lstore 7, 2) := by decide +kernel
theorem dX0_turnedWorth_32 : decode cX0_turnedWorth 32 = .ok (.aload_n 0, 1) := by decide +kernel
theorem dX0_turnedWorth_33 : decode cX0_turnedWorth 33 = .ok (.getfield 11, 3) := by decide +kernel
theorem dX0_turnedWorth_36 : decode cX0_turnedWorth 36 = .ok (.bipush 7, 2) := by decide +kernel
theorem dX0_turnedWorth_38 : decode cX0_turnedWorth 38 = .ok (.iaload, 1) := by decide +kernel
theorem dX0_turnedWorth_39 : decode cX0_turnedWorth 39 = .ok (.tableswitch 39 0 2 #[25, 28, 31], 25) := by decide +kernel
theorem dX0_turnedWorth_64 : decode cX0_turnedWorth 64 = .ok (.lload 5, 2) := by decide +kernel
theorem dX0_turnedWorth_66 : decode cX0_turnedWorth 66 = .ok (.lreturn, 1) := by decide +kernel
theorem dX0_turnedWorth_67 : decode cX0_turnedWorth 67 = .ok (.lload 7, 2) := by decide +kernel
theorem dX0_turnedWorth_69 : decode cX0_turnedWorth 69 = .ok (.lreturn, 1) := by decide +kernel
theorem dX0_turnedWorth_70 : decode cX0_turnedWorth 70 = .ok (.lload 5, 2) := by decide +kernel
theorem dX0_turnedWorth_72 : decode cX0_turnedWorth 72 = .ok (.lload 7, 2) := by decide +kernel
theorem dX0_turnedWorth_74 : decode cX0_turnedWorth 74 = .ok (.invokestatic 43, 3) := by decide +kernel
theorem dX0_turnedWorth_77 : decode cX0_turnedWorth 77 = .ok (.lreturn, 1) := by decide +kernel
theorem dX0_turnedWorth_78 : decode cX0_turnedWorth 78 = .ok (.lload 5, 2) := by decide +kernel
theorem dX0_turnedWorth_80 : decode cX0_turnedWorth 80 = .ok (.lload 7, 2) := by decide +kernel
theorem dX0_turnedWorth_82 : decode cX0_turnedWorth 82 = .ok (.invokestatic 49, 3) := by decide +kernel
theorem dX0_turnedWorth_85 : decode cX0_turnedWorth 85 = .ok (.lreturn, 1) := by decide +kernel
theorem dX0_write_0 : decode cX0_write 0 = .ok (.aload_n 1, 1) := by decide +kernel
theorem dX0_write_1 : decode cX0_write 1 = .ok (.bipush 102, 2) := by decide +kernel
theorem dX0_write_3 : decode cX0_write 3 = .ok (.invokevirtual 52, 3) := by decide +kernel
theorem dX0_write_6 : decode cX0_write 6 = .ok (.aload_n 0, 1) := by decide +kernel
theorem dX0_write_7 : decode cX0_write 7 = .ok (.getfield 11, 3) := by decide +kernel
theorem dX0_write_10 : decode cX0_write 10 = .ok (.iconst 0, 1) := by decide +kernel
theorem dX0_write_11 : decode cX0_write 11 = .ok (.iaload, 1) := by decide +kernel
theorem dX0_write_12 : decode cX0_write 12 = .ok (.invokevirtual 58, 3) := by decide +kernel
theorem dX0_write_15 : decode cX0_write 15 = .ok (.bipush 110, 2) := by decide +kernel
theorem dX0_write_17 : decode cX0_write 17 = .ok (.invokevirtual 52, 3) := by decide +kernel
theorem dX0_write_20 : decode cX0_write 20 = .ok (.aload_n 0, 1) := by decide +kernel
theorem dX0_write_21 : decode cX0_write 21 = .ok (.getfield 11, 3) := by decide +kernel
theorem dX0_write_24 : decode cX0_write 24 = .ok (.iconst 1, 1) := by decide +kernel
theorem dX0_write_25 : decode cX0_write 25 = .ok (.iaload, 1) := by decide +kernel
theorem dX0_write_26 : decode cX0_write 26 = .ok (.invokevirtual 58, 3) := by decide +kernel
theorem dX0_write_29 : decode cX0_write 29 = .ok (.pop, 1) := by decide +kernel
theorem dX0_write_30 : decode cX0_write 30 = .ok (.iconst 1, 1) := by decide +kernel
theorem dX0_write_31 : decode cX0_write 31 = .ok (.istore_n 2, 1) := by decide +kernel
theorem dX0_write_32 : decode cX0_write 32 = .ok (.iload_n 2, 1) := by decide +kernel
theorem dX0_write_33 : decode cX0_write 33 = .ok (.bipush 6, 2) := by decide +kernel
theorem dX0_write_35 : decode cX0_write 35 = .ok (.if_icmp .gt 37, 3) := by decide +kernel
theorem dX0_write_38 : decode cX0_write 38 = .ok (.aload_n 0, 1) := by decide +kernel
theorem dX0_write_39 : decode cX0_write 39 = .ok (.getfield 11, 3) := by decide +kernel
theorem dX0_write_42 : decode cX0_write 42 = .ok (.bipush 10, 2) := by decide +kernel
theorem dX0_write_44 : decode cX0_write 44 = .ok (.iload_n 2, 1) := by decide +kernel
theorem dX0_write_45 : decode cX0_write 45 = .ok (.iadd, 1) := by decide +kernel
theorem dX0_write_46 : decode cX0_write 46 = .ok (.iaload, 1) := by decide +kernel
theorem dX0_write_47 : decode cX0_write 47 = .ok (.ifCond .le 19, 3) := by decide +kernel
theorem dX0_write_50 : decode cX0_write 50 = .ok (.aload_n 1, 1) := by decide +kernel
theorem dX0_write_51 : decode cX0_write 51 = .ok (.bipush 99, 2) := by decide +kernel
theorem dX0_write_53 : decode cX0_write 53 = .ok (.iload_n 2, 1) := by decide +kernel
theorem dX0_write_54 : decode cX0_write 54 = .ok (.aload_n 0, 1) := by decide +kernel
theorem dX0_write_55 : decode cX0_write 55 = .ok (.getfield 11, 3) := by decide +kernel
theorem dX0_write_58 : decode cX0_write 58 = .ok (.bipush 10, 2) := by decide +kernel
theorem dX0_write_60 : decode cX0_write 60 = .ok (.iload_n 2, 1) := by decide +kernel
theorem dX0_write_61 : decode cX0_write 61 = .ok (.iadd, 1) := by decide +kernel
theorem dX0_write_62 : decode cX0_write 62 = .ok (.iaload, 1) := by decide +kernel
theorem dX0_write_63 : decode cX0_write 63 = .ok (.invokestatic 61, 3) := by decide +kernel
theorem dX0_write_66 : decode cX0_write 66 = .ok (.iinc 2 1, 3) := by decide +kernel
theorem dX0_write_69 : decode cX0_write 69 = .ok (.goto (-37), 3) := by decide +kernel
theorem dX0_write_72 : decode cX0_write 72 = .ok (.iconst 0, 1) := by decide +kernel
theorem dX0_write_73 : decode cX0_write 73 = .ok (.istore_n 2, 1) := by decide +kernel
theorem dX0_write_74 : decode cX0_write 74 = .ok (.iload_n 2, 1) := by decide +kernel
theorem dX0_write_75 : decode cX0_write 75 = .ok (.bipush 6, 2) := by decide +kernel
theorem dX0_write_77 : decode cX0_write 77 = .ok (.if_icmp .ge 37, 3) := by decide +kernel
theorem dX0_write_80 : decode cX0_write 80 = .ok (.aload_n 0, 1) := by decide +kernel
theorem dX0_write_81 : decode cX0_write 81 = .ok (.getfield 11, 3) := by decide +kernel
theorem dX0_write_84 : decode cX0_write 84 = .ok (.bipush 20, 2) := by decide +kernel
theorem dX0_write_86 : decode cX0_write 86 = .ok (.iload_n 2, 1) := by decide +kernel
theorem dX0_write_87 : decode cX0_write 87 = .ok (.iadd, 1) := by decide +kernel
theorem dX0_write_88 : decode cX0_write 88 = .ok (.iaload, 1) := by decide +kernel
theorem dX0_write_89 : decode cX0_write 89 = .ok (.ifCond .lt 19, 3) := by decide +kernel
theorem dX0_write_92 : decode cX0_write 92 = .ok (.aload_n 1, 1) := by decide +kernel
theorem dX0_write_93 : decode cX0_write 93 = .ok (.bipush 107, 2) := by decide +kernel
theorem dX0_write_95 : decode cX0_write 95 = .ok (.iload_n 2, 1) := by decide +kernel
theorem dX0_write_96 : decode cX0_write 96 = .ok (.aload_n 0, 1) := by decide +kernel
theorem dX0_write_97 : decode cX0_write 97 = .ok (.getfield 11, 3) := by decide +kernel
theorem dX0_write_100 : decode cX0_write 100 = .ok (.bipush 20, 2) := by decide +kernel
theorem dX0_write_102 : decode cX0_write 102 = .ok (.iload_n 2, 1) := by decide +kernel
theorem dX0_write_103 : decode cX0_write 103 = .ok (.iadd, 1) := by decide +kernel
theorem dX0_write_104 : decode cX0_write 104 = .ok (.iaload, 1) := by decide +kernel
theorem dX0_write_105 : decode cX0_write 105 = .ok (.invokestatic 61, 3) := by decide +kernel
theorem dX0_write_108 : decode cX0_write 108 = .ok (.iinc 2 1, 3) := by decide +kernel
theorem dX0_write_111 : decode cX0_write 111 = .ok (.goto (-37), 3) := by decide +kernel
theorem dX0_write_114 : decode cX0_write 114 = .ok (.iconst 0, 1) := by decide +kernel
theorem dX0_write_115 : decode cX0_write 115 = .ok (.istore_n 2, 1) := by decide +kernel
theorem dX0_write_116 : decode cX0_write 116 = .ok (.iload_n 2, 1) := by decide +kernel
theorem dX0_write_117 : decode cX0_write 117 = .ok (.bipush 6, 2) := by decide +kernel
theorem dX0_write_119 : decode cX0_write 119 = .ok (.if_icmp .ge 37, 3) := by decide +kernel
theorem dX0_write_122 : decode cX0_write 122 = .ok (.aload_n 0, 1) := by decide +kernel
theorem dX0_write_123 : decode cX0_write 123 = .ok (.getfield 11, 3) := by decide +kernel
theorem dX0_write_126 : decode cX0_write 126 = .ok (.bipush 30, 2) := by decide +kernel
theorem dX0_write_128 : decode cX0_write 128 = .ok (.iload_n 2, 1) := by decide +kernel
theorem dX0_write_129 : decode cX0_write 129 = .ok (.iadd, 1) := by decide +kernel
theorem dX0_write_130 : decode cX0_write 130 = .ok (.iaload, 1) := by decide +kernel
theorem dX0_write_131 : decode cX0_write 131 = .ok (.ifCond .lt 19, 3) := by decide +kernel
theorem dX0_write_134 : decode cX0_write 134 = .ok (.aload_n 1, 1) := by decide +kernel
theorem dX0_write_135 : decode cX0_write 135 = .ok (.bipush 112, 2) := by decide +kernel
theorem dX0_write_137 : decode cX0_write 137 = .ok (.iload_n 2, 1) := by decide +kernel
theorem dX0_write_138 : decode cX0_write 138 = .ok (.aload_n 0, 1) := by decide +kernel
theorem dX0_write_139 : decode cX0_write 139 = .ok (.getfield 11, 3) := by decide +kernel
theorem dX0_write_142 : decode cX0_write 142 = .ok (.bipush 30, 2) := by decide +kernel
theorem dX0_write_144 : decode cX0_write 144 = .ok (.iload_n 2, 1) := by decide +kernel
theorem dX0_write_145 : decode cX0_write 145 = .ok (.iadd, 1) := by decide +kernel
theorem dX0_write_146 : decode cX0_write 146 = .ok (.iaload, 1) := by decide +kernel
theorem dX0_write_147 : decode cX0_write 147 = .ok (.invokestatic 61, 3) := by decide +kernel
theorem dX0_write_150 : decode cX0_write 150 = .ok (.iinc 2 1, 3) := by decide +kernel
theorem dX0_write_153 : decode cX0_write 153 = .ok (.goto (-37), 3) := by decide +kernel
theorem dX0_write_156 : decode cX0_write 156 = .ok (.aload_n 1, 1) := by decide +kernel
theorem dX0_write_157 : decode cX0_write 157 = .ok (.bipush 119, 2) := by decide +kernel
theorem dX0_write_159 : decode cX0_write 159 = .ok (.invokevirtual 52, 3) := by decide +kernel
theorem dX0_write_162 : decode cX0_write 162 = .ok (.aload_n 0, 1) := by decide +kernel
theorem dX0_write_163 : decode cX0_write 163 = .ok (.getfield 11, 3) := by decide +kernel
theorem dX0_write_166 : decode cX0_write 166 = .ok (.iconst 2, 1) := by decide +kernel
theorem dX0_write_167 : decode cX0_write 167 = .ok (.iaload, 1) := by decide +kernel
theorem dX0_write_168 : decode cX0_write 168 = .ok (.invokevirtual 58, 3) := by decide +kernel
theorem dX0_write_171 : decode cX0_write 171 = .ok (.bipush 45, 2) := by decide +kernel
theorem dX0_write_173 : decode cX0_write 173 = .ok (.invokevirtual 52, 3) := by decide +kernel
theorem dX0_write_176 : decode cX0_write 176 = .ok (.aload_n 0, 1) := by decide +kernel
theorem dX0_write_177 : decode cX0_write 177 = .ok (.getfield 11, 3) := by decide +kernel
theorem dX0_write_180 : decode cX0_write 180 = .ok (.iconst 3, 1) := by decide +kernel
theorem dX0_write_181 : decode cX0_write 181 = .ok (.iaload, 1) := by decide +kernel
theorem dX0_write_182 : decode cX0_write 182 = .ok (.invokevirtual 58, 3) := by decide +kernel
theorem dX0_write_185 : decode cX0_write 185 = .ok (.pop, 1) := by decide +kernel
theorem dX0_write_186 : decode cX0_write 186 = .ok (.aload_n 1, 1) := by decide +kernel
theorem dX0_write_187 : decode cX0_write 187 = .ok (.bipush 115, 2) := by decide +kernel
theorem dX0_write_189 : decode cX0_write 189 = .ok (.invokevirtual 52, 3) := by decide +kernel
theorem dX0_write_192 : decode cX0_write 192 = .ok (.aload_n 0, 1) := by decide +kernel
theorem dX0_write_193 : decode cX0_write 193 = .ok (.getfield 11, 3) := by decide +kernel
theorem dX0_write_196 : decode cX0_write 196 = .ok (.iconst 4, 1) := by decide +kernel
theorem dX0_write_197 : decode cX0_write 197 = .ok (.iaload, 1) := by decide +kernel
theorem dX0_write_198 : decode cX0_write 198 = .ok (.invokevirtual 58, 3) := by decide +kernel
theorem dX0_write_201 : decode cX0_write 201 = .ok (.bipush 47, 2) := by decide +kernel
theorem dX0_write_203 : decode cX0_write 203 = .ok (.invokevirtual 52, 3) := by decide +kernel
theorem dX0_write_206 : decode cX0_write 206 = .ok (.aload_n 0, 1) := by decide +kernel
theorem dX0_write_207 : decode cX0_write 207 = .ok (.getfield 11, 3) := by decide +kernel
theorem dX0_write_210 : decode cX0_write 210 = .ok (.iconst 5, 1) := by decide +kernel
theorem dX0_write_211 : decode cX0_write 211 = .ok (.iaload, 1) := by decide +kernel
theorem dX0_write_212 : decode cX0_write 212 = .ok (.invokevirtual 58, 3) := by decide +kernel
theorem dX0_write_215 : decode cX0_write 215 = .ok (.pop, 1) := by decide +kernel
theorem dX0_write_216 : decode cX0_write 216 = .ok (.aload_n 1, 1) := by decide +kernel
theorem dX0_write_217 : decode cX0_write 217 = .ok (.bipush 47, 2) := by decide +kernel
theorem dX0_write_219 : decode cX0_write 219 = .ok (.invokevirtual 52, 3) := by decide +kernel
theorem dX0_write_222 : decode cX0_write 222 = .ok (.aload_n 0, 1) := by decide +kernel
theorem dX0_write_223 : decode cX0_write 223 = .ok (.getfield 11, 3) := by decide +kernel
theorem dX0_write_226 : decode cX0_write 226 = .ok (.bipush 6, 2) := by decide +kernel
theorem dX0_write_228 : decode cX0_write 228 = .ok (.iaload, 1) := by decide +kernel
theorem dX0_write_229 : decode cX0_write 229 = .ok (.invokevirtual 58, 3) := by decide +kernel
theorem dX0_write_232 : decode cX0_write 232 = .ok (.bipush 122, 2) := by decide +kernel
theorem dX0_write_234 : decode cX0_write 234 = .ok (.invokevirtual 52, 3) := by decide +kernel
theorem dX0_write_237 : decode cX0_write 237 = .ok (.aload_n 0, 1) := by decide +kernel
theorem dX0_write_238 : decode cX0_write 238 = .ok (.getfield 11, 3) := by decide +kernel
theorem dX0_write_241 : decode cX0_write 241 = .ok (.bipush 7, 2) := by decide +kernel
theorem dX0_write_243 : decode cX0_write 243 = .ok (.iaload, 1) := by decide +kernel
theorem dX0_write_244 : decode cX0_write 244 = .ok (.invokevirtual 58, 3) := by decide +kernel
theorem dX0_write_247 : decode cX0_write 247 = .ok (.pop, 1) := by decide +kernel
theorem dX0_write_248 : decode cX0_write 248 = .ok (.return_, 1) := by decide +kernel
theorem dX0_writeOfDay_0 : decode cX0_writeOfDay 0 = .ok (.aload_n 0, 1) := by decide +kernel
theorem dX0_writeOfDay_1 : decode cX0_writeOfDay 1 = .ok (.iload_n 1, 1) := by decide +kernel
theorem dX0_writeOfDay_2 : decode cX0_writeOfDay 2 = .ok (.invokevirtual 52, 3) := by decide +kernel
theorem dX0_writeOfDay_5 : decode cX0_writeOfDay 5 = .ok (.iload_n 2, 1) := by decide +kernel
theorem dX0_writeOfDay_6 : decode cX0_writeOfDay 6 = .ok (.invokevirtual 58, 3) := by decide +kernel
theorem dX0_writeOfDay_9 : decode cX0_writeOfDay 9 = .ok (.bipush 58, 2) := by decide +kernel
theorem dX0_writeOfDay_11 : decode cX0_writeOfDay 11 = .ok (.invokevirtual 52, 3) := by decide +kernel
theorem dX0_writeOfDay_14 : decode cX0_writeOfDay 14 = .ok (.iload_n 3, 1) := by decide +kernel
theorem dX0_writeOfDay_15 : decode cX0_writeOfDay 15 = .ok (.invokevirtual 58, 3) := by decide +kernel
theorem dX0_writeOfDay_18 : decode cX0_writeOfDay 18 = .ok (.pop, 1) := by decide +kernel
theorem dX0_writeOfDay_19 : decode cX0_writeOfDay 19 = .ok (.return_, 1) := by decide +kernel
theorem dX1_init_0 : decode cX1_init 0 = .ok (.aload_n 0, 1) := by decide +kernel
theorem dX1_init_1 : decode cX1_init 1 = .ok (.invokespecial 3, 3) := by decide +kernel
theorem dX1_init_4 : decode cX1_init 4 = .ok (.aload_n 0, 1) := by decide +kernel
theorem dX1_init_5 : decode cX1_init 5 = .ok (.iconst 0, 1) := by decide +kernel
theorem dX1_init_6 : decode cX1_init 6 = .ok (.putfield 9, 3) := by decide +kernel
theorem dX1_init_9 : decode cX1_init 9 = .ok (.return_, 1) := by decide +kernel
theorem dX1_begin_0 : decode cX1_begin 0 = .ok (.aload_n 0, 1) := by decide +kernel
theorem dX1_begin_1 : decode cX1_begin 1 = .ok (.iload_n 1, 1) := by decide +kernel
theorem dX1_begin_2 : decode cX1_begin 2 = .ok (.ldc 15, 2) := by decide +kernel
theorem dX1_begin_4 : decode cX1_begin 4 = .ok (.iand, 1) := by decide +kernel
theorem dX1_begin_5 : decode cX1_begin 5 = .ok (.putfield 9, 3) := by decide +kernel
theorem dX1_begin_8 : decode cX1_begin 8 = .ok (.return_, 1) := by decide +kernel
theorem dX1_drawBelow_0 : decode cX1_drawBelow 0 = .ok (.aload_n 0, 1) := by decide +kernel
theorem dX1_drawBelow_1 : decode cX1_drawBelow 1 = .ok (.sipush 25173, 3) := by decide +kernel
theorem dX1_drawBelow_4 : decode cX1_drawBelow 4 = .ok (.aload_n 0, 1) := by decide +kernel
theorem dX1_drawBelow_5 : decode cX1_drawBelow 5 = .ok (.getfield 9, 3) := by decide +kernel
theorem dX1_drawBelow_8 : decode cX1_drawBelow 8 = .ok (.imul, 1) := by decide +kernel
theorem dX1_drawBelow_9 : decode cX1_drawBelow 9 = .ok (.sipush 13849, 3) := by decide +kernel
theorem dX1_drawBelow_12 : decode cX1_drawBelow 12 = .ok (.iadd, 1) := by decide +kernel
theorem dX1_drawBelow_13 : decode cX1_drawBelow 13 = .ok (.ldc 15, 2) := by decide +kernel
theorem dX1_drawBelow_15 : decode cX1_drawBelow 15 = .ok (.iand, 1) := by decide +kernel
theorem dX1_drawBelow_16 : decode cX1_drawBelow 16 = .ok (.putfield 9, 3) := by decide +kernel
theorem dX1_drawBelow_19 : decode cX1_drawBelow 19 = .ok (.iload_n 1, 1) := by decide +kernel
theorem dX1_drawBelow_20 : decode cX1_drawBelow 20 = .ok (.ifCond .le 14, 3) := by decide +kernel
theorem dX1_drawBelow_23 : decode cX1_drawBelow 23 = .ok (.aload_n 0, 1) := by decide +kernel
theorem dX1_drawBelow_24 : decode cX1_drawBelow 24 = .ok (.getfield 9, 3) := by decide +kernel
theorem dX1_drawBelow_27 : decode cX1_drawBelow 27 = .ok (.iconst 4, 1) := by decide +kernel
theorem dX1_drawBelow_28 : decode cX1_drawBelow 28 = .ok (.idiv, 1) := by decide +kernel
theorem dX1_drawBelow_29 : decode cX1_drawBelow 29 = .ok (.iload_n 1, 1) := by decide +kernel
theorem dX1_drawBelow_30 : decode cX1_drawBelow 30 = .ok (.irem, 1) := by decide +kernel
theorem dX1_drawBelow_31 : decode cX1_drawBelow 31 = .ok (.goto 4, 3) := by decide +kernel
theorem dX1_drawBelow_34 : decode cX1_drawBelow 34 = .ok (.iconst 0, 1) := by decide +kernel
theorem dX1_drawBelow_35 : decode cX1_drawBelow 35 = .ok (.ireturn, 1) := by decide +kernel
theorem dX1_drawRow_0 : decode cX1_drawRow 0 = .ok (.iconst 1, 1) := by decide +kernel
theorem dX1_drawRow_1 : decode cX1_drawRow 1 = .ok (.istore_n 3, 1) := by decide +kernel
theorem dX1_drawRow_2 : decode cX1_drawRow 2 = .ok (.iconst 0, 1) := by decide +kernel
theorem dX1_drawRow_3 : decode cX1_drawRow 3 = .ok (.istore 4, 2) := by decide +kernel
theorem dX1_drawRow_5 : decode cX1_drawRow 5 = .ok (.iload 4, 2) := by decide +kernel
theorem dX1_drawRow_7 : decode cX1_drawRow 7 = .ok (.iload_n 1, 1) := by decide +kernel
theorem dX1_drawRow_8 : decode cX1_drawRow 8 = .ok (.if_icmp .ge 45, 3) := by decide +kernel
theorem dX1_drawRow_11 : decode cX1_drawRow 11 = .ok (.iload 4, 2) := by decide +kernel
theorem dX1_drawRow_13 : decode cX1_drawRow 13 = .ok (.bipush 6, 2) := by decide +kernel
theorem dX1_drawRow_15 : decode cX1_drawRow 15 = .ok (.if_icmp .ge 38, 3) := by decide +kernel
theorem dX1_drawRow_18 : decode cX1_drawRow 18 = .ok (.iload_n 3, 1) := by decide +kernel
theorem dX1_drawRow_19 : decode cX1_drawRow 19 = .ok (.aload_n 0, 1) := by decide +kernel
theorem dX1_drawRow_20 : decode cX1_drawRow 20 = .ok (.aload_n 2, 1) := by decide +kernel
theorem dX1_drawRow_21 : decode cX1_drawRow 21 = .ok (.bipush 7, 2) := by decide +kernel
theorem dX1_drawRow_23 : decode cX1_drawRow 23 = .ok (.invokevirtual 18, 3) := by decide +kernel
theorem dX1_drawRow_26 : decode cX1_drawRow 26 = .ok (.invokevirtual 22, 3) := by decide +kernel
theorem dX1_drawRow_29 : decode cX1_drawRow 29 = .ok (.aload_n 2, 1) := by decide +kernel
theorem dX1_drawRow_30 : decode cX1_drawRow 30 = .ok (.bipush 6, 2) := by decide +kernel
theorem dX1_drawRow_32 : decode cX1_drawRow 32 = .ok (.invokevirtual 18, 3) := by decide +kernel
theorem dX1_drawRow_35 : decode cX1_drawRow 35 = .ok (.if_icmp .ge 7, 3) := by decide +kernel
theorem dX1_drawRow_38 : decode cX1_drawRow 38 = .ok (.iconst 1, 1) := by decide +kernel
theorem dX1_drawRow_39 : decode cX1_drawRow 39 = .ok (.goto 4, 3) := by decide +kernel
theorem dX1_drawRow_42 : decode cX1_drawRow 42 = .ok (.iconst 0, 1) := by decide +kernel
theorem dX1_drawRow_43 : decode cX1_drawRow 43 = .ok (.invokestatic 25, 3) := by decide +kernel
theorem dX1_drawRow_46 : decode cX1_drawRow 46 = .ok (.istore_n 3, 1) := by decide +kernel
theorem dX1_drawRow_47 : decode cX1_drawRow 47 = .ok (.iinc 4 1, 3) := by decide +kernel
theorem dX1_drawRow_50 : decode cX1_drawRow 50 = .ok (.goto (-45), 3) := by decide +kernel
theorem dX1_drawRow_53 : decode cX1_drawRow 53 = .ok (.iload_n 3, 1) := by decide +kernel
theorem dX1_drawRow_54 : decode cX1_drawRow 54 = .ok (.ireturn, 1) := by decide +kernel
theorem dX3_init_0 : decode cX3_init 0 = .ok (.aload_n 0, 1) := by decide +kernel
theorem dX3_init_1 : decode cX3_init 1 = .ok (.invokespecial 3, 3) := by decide +kernel
theorem dX3_init_4 : decode cX3_init 4 = .ok (.aload_n 0, 1) := by decide +kernel
theorem dX3_init_5 : decode cX3_init 5 = .ok (.new 9, 3) := by decide +kernel
theorem dX3_init_8 : decode cX3_init 8 = .ok (.dup, 1) := by decide +kernel
theorem dX3_init_9 : decode cX3_init 9 = .ok (.invokespecial 11, 3) := by decide +kernel
theorem dX3_init_12 : decode cX3_init 12 = .ok (.putfield 12, 3) := by decide +kernel
theorem dX3_init_15 : decode cX3_init 15 = .ok (.aload_n 0, 1) := by decide +kernel
theorem dX3_init_16 : decode cX3_init 16 = .ok (.new 18, 3) := by decide +kernel
theorem dX3_init_19 : decode cX3_init 19 = .ok (.dup, 1) := by decide +kernel
theorem dX3_init_20 : decode cX3_init 20 = .ok (.invokespecial 20, 3) := by decide +kernel
theorem dX3_init_23 : decode cX3_init 23 = .ok (.putfield 21, 3) := by decide +kernel
theorem dX3_init_26 : decode cX3_init 26 = .ok (.aload_n 0, 1) := by decide +kernel
theorem dX3_init_27 : decode cX3_init 27 = .ok (.iconst 0, 1) := by decide +kernel
theorem dX3_init_28 : decode cX3_init 28 = .ok (.putfield 25, 3) := by decide +kernel
theorem dX3_init_31 : decode cX3_init 31 = .ok (.aload_n 0, 1) := by decide +kernel
theorem dX3_init_32 : decode cX3_init 32 = .ok (.iconst 0, 1) := by decide +kernel
theorem dX3_init_33 : decode cX3_init 33 = .ok (.putfield 29, 3) := by decide +kernel
theorem dX3_init_36 : decode cX3_init 36 = .ok (.aload_n 0, 1) := by decide +kernel
theorem dX3_init_37 : decode cX3_init 37 = .ok (.iconst 1, 1) := by decide +kernel
theorem dX3_init_38 : decode cX3_init 38 = .ok (.putfield 32, 3) := by decide +kernel
theorem dX3_init_41 : decode cX3_init 41 = .ok (.aload_n 0, 1) := by decide +kernel
theorem dX3_init_42 : decode cX3_init 42 = .ok (.lconst 0, 1) := by decide +kernel
theorem dX3_init_43 : decode cX3_init 43 = .ok (.putfield 36, 3) := by decide +kernel
theorem dX3_init_46 : decode cX3_init 46 = .ok (.aload_n 0, 1) := by decide +kernel
theorem dX3_init_47 : decode cX3_init 47 = .ok (.lconst 0, 1) := by decide +kernel
theorem dX3_init_48 : decode cX3_init 48 = .ok (.putfield 40, 3) := by decide +kernel
theorem dX3_init_51 : decode cX3_init 51 = .ok (.return_, 1) := by decide +kernel
theorem dX3_begin_0 : decode cX3_begin 0 = .ok (.aload_n 0, 1) := by decide +kernel
theorem dX3_begin_1 : decode cX3_begin 1 = .ok (.getfield 12, 3) := by decide +kernel
theorem dX3_begin_4 : decode cX3_begin 4 = .ok (.aload_n 1, 1) := by decide +kernel
theorem dX3_begin_5 : decode cX3_begin 5 = .ok (.invokevirtual 43, 3) := by decide +kernel
theorem dX3_begin_8 : decode cX3_begin 8 = .ok (.aload_n 0, 1) := by decide +kernel
theorem dX3_begin_9 : decode cX3_begin 9 = .ok (.getfield 21, 3) := by decide +kernel
theorem dX3_begin_12 : decode cX3_begin 12 = .ok (.aload_n 2, 1) := by decide +kernel
theorem dX3_begin_13 : decode cX3_begin 13 = .ok (.invokevirtual 47, 3) := by decide +kernel
theorem dX3_begin_16 : decode cX3_begin 16 = .ok (.aload_n 0, 1) := by decide +kernel
theorem dX3_begin_17 : decode cX3_begin 17 = .ok (.iconst 1, 1) := by decide +kernel
theorem dX3_begin_18 : decode cX3_begin 18 = .ok (.putfield 25, 3) := by decide +kernel
theorem dX3_begin_21 : decode cX3_begin 21 = .ok (.aload_n 0, 1) := by decide +kernel
theorem dX3_begin_22 : decode cX3_begin 22 = .ok (.iconst 0, 1) := by decide +kernel
theorem dX3_begin_23 : decode cX3_begin 23 = .ok (.putfield 29, 3) := by decide +kernel
theorem dX3_begin_26 : decode cX3_begin 26 = .ok (.aload_n 0, 1) := by decide +kernel
theorem dX3_begin_27 : decode cX3_begin 27 = .ok (.iconst 1, 1) := by decide +kernel
theorem dX3_begin_28 : decode cX3_begin 28 = .ok (.putfield 32, 3) := by decide +kernel
theorem dX3_begin_31 : decode cX3_begin 31 = .ok (.aload_n 0, 1) := by decide +kernel
theorem dX3_begin_32 : decode cX3_begin 32 = .ok (.lconst 0, 1) := by decide +kernel
theorem dX3_begin_33 : decode cX3_begin 33 = .ok (.putfield 36, 3) := by decide +kernel
theorem dX3_begin_36 : decode cX3_begin 36 = .ok (.aload_n 0, 1) := by decide +kernel
theorem dX3_begin_37 : decode cX3_begin 37 = .ok (.lconst 0, 1) := by decide +kernel
theorem dX3_begin_38 : decode cX3_begin 38 = .ok (.putfield 40, 3) := by decide +kernel
theorem dX3_begin_41 : decode cX3_begin 41 = .ok (.return_, 1) := by decide +kernel
theorem dX3_isOnLastDay_0 : decode cX3_isOnLastDay 0 = .ok (.aload_n 0, 1) := by decide +kernel
theorem dX3_isOnLastDay_1 : decode cX3_isOnLastDay 1 = .ok (.getfield 32, 3) := by decide +kernel
theorem dX3_isOnLastDay_4 : decode cX3_isOnLastDay 4 = .ok (.invokestatic 50, 3) := by decide +kernel
theorem dX3_isOnLastDay_7 : decode cX3_isOnLastDay 7 = .ok (.aload_n 0, 1) := by decide +kernel
theorem dX3_isOnLastDay_8 : decode cX3_isOnLastDay 8 = .ok (.getfield 12, 3) := by decide +kernel
theorem dX3_isOnLastDay_11 : decode cX3_isOnLastDay 11 = .ok (.invokevirtual 54, 3) := by decide +kernel
theorem dX3_isOnLastDay_14 : decode cX3_isOnLastDay 14 = .ok (.if_icmp .lt 7, 3) := by decide +kernel
theorem dX3_isOnLastDay_17 : decode cX3_isOnLastDay 17 = .ok (.iconst 1, 1) := by decide +kernel
theorem dX3_isOnLastDay_18 : decode cX3_isOnLastDay 18 = .ok (.goto 4, 3) := by decide +kernel
theorem dX3_isOnLastDay_21 : decode cX3_isOnLastDay 21 = .ok (.iconst 0, 1) := by decide +kernel
theorem dX3_isOnLastDay_22 : decode cX3_isOnLastDay 22 = .ok (.ireturn, 1) := by decide +kernel
theorem dX3_takeFrom_0 : decode cX3_takeFrom 0 = .ok (.aload_n 0, 1) := by decide +kernel
theorem dX3_takeFrom_1 : decode cX3_takeFrom 1 = .ok (.getfield 12, 3) := by decide +kernel
theorem dX3_takeFrom_4 : decode cX3_takeFrom 4 = .ok (.aload_n 1, 1) := by decide +kernel
theorem dX3_takeFrom_5 : decode cX3_takeFrom 5 = .ok (.getfield 12, 3) := by decide +kernel
theorem dX3_takeFrom_8 : decode cX3_takeFrom 8 = .ok (.invokevirtual 43, 3) := by decide +kernel
theorem dX3_takeFrom_11 : decode cX3_takeFrom 11 = .ok (.aload_n 0, 1) := by decide +kernel
theorem dX3_takeFrom_12 : decode cX3_takeFrom 12 = .ok (.getfield 21, 3) := by decide +kernel
theorem dX3_takeFrom_15 : decode cX3_takeFrom 15 = .ok (.aload_n 1, 1) := by decide +kernel
theorem dX3_takeFrom_16 : decode cX3_takeFrom 16 = .ok (.getfield 21, 3) := by decide +kernel
theorem dX3_takeFrom_19 : decode cX3_takeFrom 19 = .ok (.invokevirtual 47, 3) := by decide +kernel
theorem dX3_takeFrom_22 : decode cX3_takeFrom 22 = .ok (.aload_n 0, 1) := by decide +kernel
theorem dX3_takeFrom_23 : decode cX3_takeFrom 23 = .ok (.aload_n 1, 1) := by decide +kernel
theorem dX3_takeFrom_24 : decode cX3_takeFrom 24 = .ok (.getfield 25, 3) := by decide +kernel
theorem dX3_takeFrom_27 : decode cX3_takeFrom 27 = .ok (.putfield 25, 3) := by decide +kernel
theorem dX3_takeFrom_30 : decode cX3_takeFrom 30 = .ok (.aload_n 0, 1) := by decide +kernel
theorem dX3_takeFrom_31 : decode cX3_takeFrom 31 = .ok (.aload_n 1, 1) := by decide +kernel
theorem dX3_takeFrom_32 : decode cX3_takeFrom 32 = .ok (.getfield 29, 3) := by decide +kernel
theorem dX3_takeFrom_35 : decode cX3_takeFrom 35 = .ok (.putfield 29, 3) := by decide +kernel
theorem dX3_takeFrom_38 : decode cX3_takeFrom 38 = .ok (.aload_n 0, 1) := by decide +kernel
theorem dX3_takeFrom_39 : decode cX3_takeFrom 39 = .ok (.aload_n 1, 1) := by decide +kernel
theorem dX3_takeFrom_40 : decode cX3_takeFrom 40 = .ok (.getfield 32, 3) := by decide +kernel
theorem dX3_takeFrom_43 : decode cX3_takeFrom 43 = .ok (.putfield 32, 3) := by decide +kernel
theorem dX3_takeFrom_46 : decode cX3_takeFrom 46 = .ok (.aload_n 0, 1) := by decide +kernel
theorem dX3_takeFrom_47 : decode cX3_takeFrom 47 = .ok (.aload_n 1, 1) := by decide +kernel
theorem dX3_takeFrom_48 : decode cX3_takeFrom 48 = .ok (.getfield 36, 3) := by decide +kernel
theorem dX3_takeFrom_51 : decode cX3_takeFrom 51 = .ok (.putfield 36, 3) := by decide +kernel
theorem dX3_takeFrom_54 : decode cX3_takeFrom 54 = .ok (.aload_n 0, 1) := by decide +kernel
theorem dX3_takeFrom_55 : decode cX3_takeFrom 55 = .ok (.aload_n 1, 1) := by decide +kernel
theorem dX3_takeFrom_56 : decode cX3_takeFrom 56 = .ok (.getfield 40, 3) := by decide +kernel
theorem dX3_takeFrom_59 : decode cX3_takeFrom 59 = .ok (.putfield 40, 3) := by decide +kernel
theorem dX3_takeFrom_62 : decode cX3_takeFrom 62 = .ok (.return_, 1) := by decide +kernel
theorem dX4_init_0 : decode cX4_init 0 = .ok (.aload_n 0, 1) := by decide +kernel
theorem dX4_init_1 : decode cX4_init 1 = .ok (.invokespecial 3, 3) := by decide +kernel
theorem dX4_init_4 : decode cX4_init 4 = .ok (.aload_n 0, 1) := by decide +kernel
theorem dX4_init_5 : decode cX4_init 5 = .ok (.new 9, 3) := by decide +kernel
theorem dX4_init_8 : decode cX4_init 8 = .ok (.dup, 1) := by decide +kernel
theorem dX4_init_9 : decode cX4_init 9 = .ok (.invokespecial 11, 3) := by decide +kernel
theorem dX4_init_12 : decode cX4_init 12 = .ok (.putfield 12, 3) := by decide +kernel
theorem dX4_init_15 : decode cX4_init 15 = .ok (.aload_n 0, 1) := by decide +kernel
theorem dX4_init_16 : decode cX4_init 16 = .ok (.iconst 3, 1) := by decide +kernel
theorem dX4_init_17 : decode cX4_init 17 = .ok (.anewarray 18, 3) := by decide +kernel
theorem dX4_init_20 : decode cX4_init 20 = .ok (.dup, 1) := by decide +kernel
theorem dX4_init_21 : decode cX4_init 21 = .ok (.iconst 0, 1) := by decide +kernel
theorem dX4_init_22 : decode cX4_init 22 = .ok (.new 18, 3) := by decide +kernel
theorem dX4_init_25 : decode cX4_init 25 = .ok (.dup, 1) := by decide +kernel
theorem dX4_init_26 : decode cX4_init 26 = .ok (.invokespecial 20, 3) := by decide +kernel
theorem dX4_init_29 : decode cX4_init 29 = .ok (.aastore, 1) := by decide +kernel
theorem dX4_init_30 : decode cX4_init 30 = .ok (.dup, 1) := by decide +kernel
theorem dX4_init_31 : decode cX4_init 31 = .ok (.iconst 1, 1) := by decide +kernel
theorem dX4_init_32 : decode cX4_init 32 = .ok (.new 18, 3) := by decide +kernel
theorem dX4_init_35 : decode cX4_init 35 = .ok (.dup, 1) := by decide +kernel
theorem dX4_init_36 : decode cX4_init 36 = .ok (.invokespecial 20, 3) := by decide +kernel
theorem dX4_init_39 : decode cX4_init 39 = .ok (.aastore, 1) := by decide +kernel
theorem dX4_init_40 : decode cX4_init 40 = .ok (.dup, 1) := by decide +kernel
theorem dX4_init_41 : decode cX4_init 41 = .ok (.iconst 2, 1) := by decide +kernel
theorem dX4_init_42 : decode cX4_init 42 = .ok (.new 18, 3) := by decide +kernel
theorem dX4_init_45 : decode cX4_init 45 = .ok (.dup, 1) := by decide +kernel
theorem dX4_init_46 : decode cX4_init 46 = .ok (.invokespecial 20, 3) := by decide +kernel
theorem dX4_init_49 : decode cX4_init 49 = .ok (.aastore, 1) := by decide +kernel
theorem dX4_init_50 : decode cX4_init 50 = .ok (.putfield 21, 3) := by decide +kernel
theorem dX4_init_53 : decode cX4_init 53 = .ok (.aload_n 0, 1) := by decide +kernel
theorem dX4_init_54 : decode cX4_init 54 = .ok (.new 25, 3) := by decide +kernel
theorem dX4_init_57 : decode cX4_init 57 = .ok (.dup, 1) := by decide +kernel
theorem dX4_init_58 : decode cX4_init 58 = .ok (.invokespecial 27, 3) := by decide +kernel
theorem dX4_init_61 : decode cX4_init 61 = .ok (.putfield 28, 3) := by decide +kernel
theorem dX4_init_64 : decode cX4_init 64 = .ok (.aload_n 0, 1) := by decide +kernel
theorem dX4_init_65 : decode cX4_init 65 = .ok (.iconst 1, 1) := by decide +kernel
theorem dX4_init_66 : decode cX4_init 66 = .ok (.putfield 32, 3) := by decide +kernel
theorem dX4_init_69 : decode cX4_init 69 = .ok (.return_, 1) := by decide +kernel
theorem dX4_takeFrom_0 : decode cX4_takeFrom 0 = .ok (.aload_n 0, 1) := by decide +kernel
theorem dX4_takeFrom_1 : decode cX4_takeFrom 1 = .ok (.getfield 12, 3) := by decide +kernel
theorem dX4_takeFrom_4 : decode cX4_takeFrom 4 = .ok (.aload_n 1, 1) := by decide +kernel
theorem dX4_takeFrom_5 : decode cX4_takeFrom 5 = .ok (.getfield 12, 3) := by decide +kernel
theorem dX4_takeFrom_8 : decode cX4_takeFrom 8 = .ok (.invokevirtual 36, 3) := by decide +kernel
theorem dX4_takeFrom_11 : decode cX4_takeFrom 11 = .ok (.iconst 0, 1) := by decide +kernel
theorem dX4_takeFrom_12 : decode cX4_takeFrom 12 = .ok (.istore_n 2, 1) := by decide +kernel
theorem dX4_takeFrom_13 : decode cX4_takeFrom 13 = .ok (.iload_n 2, 1) := by decide +kernel
theorem dX4_takeFrom_14 : decode cX4_takeFrom 14 = .ok (.iconst 3, 1) := by decide +kernel
theorem dX4_takeFrom_15 : decode cX4_takeFrom 15 = .ok (.if_icmp .ge 24, 3) := by decide +kernel
theorem dX4_takeFrom_18 : decode cX4_takeFrom 18 = .ok (.aload_n 0, 1) := by decide +kernel
theorem dX4_takeFrom_19 : decode cX4_takeFrom 19 = .ok (.getfield 21, 3) := by decide +kernel
theorem dX4_takeFrom_22 : decode cX4_takeFrom 22 = .ok (.iload_n 2, 1) := by decide +kernel
theorem dX4_takeFrom_23 : decode cX4_takeFrom 23 = .ok (.aaload, 1) := by decide +kernel
theorem dX4_takeFrom_24 : decode cX4_takeFrom 24 = .ok (.aload_n 1, 1) := by decide +kernel
theorem dX4_takeFrom_25 : decode cX4_takeFrom 25 = .ok (.getfield 21, 3) := by decide +kernel
theorem dX4_takeFrom_28 : decode cX4_takeFrom 28 = .ok (.iload_n 2, 1) := by decide +kernel
theorem dX4_takeFrom_29 : decode cX4_takeFrom 29 = .ok (.aaload, 1) := by decide +kernel
theorem dX4_takeFrom_30 : decode cX4_takeFrom 30 = .ok (.invokevirtual 40, 3) := by decide +kernel
theorem dX4_takeFrom_33 : decode cX4_takeFrom 33 = .ok (.iinc 2 1, 3) := by decide +kernel
theorem dX4_takeFrom_36 : decode cX4_takeFrom 36 = .ok (.goto (-23), 3) := by decide +kernel
theorem dX4_takeFrom_39 : decode cX4_takeFrom 39 = .ok (.aload_n 0, 1) := by decide +kernel
theorem dX4_takeFrom_40 : decode cX4_takeFrom 40 = .ok (.getfield 28, 3) := by decide +kernel
theorem dX4_takeFrom_43 : decode cX4_takeFrom 43 = .ok (.aload_n 1, 1) := by decide +kernel
theorem dX4_takeFrom_44 : decode cX4_takeFrom 44 = .ok (.getfield 28, 3) := by decide +kernel
theorem dX4_takeFrom_47 : decode cX4_takeFrom 47 = .ok (.invokevirtual 43, 3) := by decide +kernel
theorem dX4_takeFrom_50 : decode cX4_takeFrom 50 = .ok (.aload_n 0, 1) := by decide +kernel
theorem dX4_takeFrom_51 : decode cX4_takeFrom 51 = .ok (.aload_n 1, 1) := by decide +kernel
theorem dX4_takeFrom_52 : decode cX4_takeFrom 52 = .ok (.getfield 32, 3) := by decide +kernel
theorem dX4_takeFrom_55 : decode cX4_takeFrom 55 = .ok (.putfield 32, 3) := by decide +kernel
theorem dX4_takeFrom_58 : decode cX4_takeFrom 58 = .ok (.return_, 1) := by decide +kernel
theorem dX7_init_0 : decode cX7_init 0 = .ok (.aload_n 0, 1) := by decide +kernel
theorem dX7_init_1 : decode cX7_init 1 = .ok (.invokespecial 3, 3) := by decide +kernel
theorem dX7_init_4 : decode cX7_init 4 = .ok (.aload_n 0, 1) := by decide +kernel
theorem dX7_init_5 : decode cX7_init 5 = .ok (.bipush 9, 2) := by decide +kernel
theorem dX7_init_7 : decode cX7_init 7 = .ok (.newarray .int, 2) := by decide +kernel
theorem dX7_init_9 : decode cX7_init 9 = .ok (.dup, 1) := by decide +kernel
theorem dX7_init_10 : decode cX7_init 10 = .ok (.iconst 0, 1) := by decide +kernel
theorem dX7_init_11 : decode cX7_init 11 = .ok (.iconst 3, 1) := by decide +kernel
theorem dX7_init_12 : decode cX7_init 12 = .ok (.iastore, 1) := by decide +kernel
theorem dX7_init_13 : decode cX7_init 13 = .ok (.dup, 1) := by decide +kernel
theorem dX7_init_14 : decode cX7_init 14 = .ok (.iconst 1, 1) := by decide +kernel
theorem dX7_init_15 : decode cX7_init 15 = .ok (.bipush 100, 2) := by decide +kernel
theorem dX7_init_17 : decode cX7_init 17 = .ok (.iastore, 1) := by decide +kernel
theorem dX7_init_18 : decode cX7_init 18 = .ok (.dup, 1) := by decide +kernel
theorem dX7_init_19 : decode cX7_init 19 = .ok (.iconst 2, 1) := by decide +kernel
theorem dX7_init_20 : decode cX7_init 20 = .ok (.bipush 6, 2) := by decide +kernel
theorem dX7_init_22 : decode cX7_init 22 = .ok (.iastore, 1) := by decide +kernel
theorem dX7_init_23 : decode cX7_init 23 = .ok (.dup, 1) := by decide +kernel
theorem dX7_init_24 : decode cX7_init 24 = .ok (.iconst 3, 1) := by decide +kernel
theorem dX7_init_25 : decode cX7_init 25 = .ok (.iconst 5, 1) := by decide +kernel
theorem dX7_init_26 : decode cX7_init 26 = .ok (.iastore, 1) := by decide +kernel
theorem dX7_init_27 : decode cX7_init 27 = .ok (.dup, 1) := by decide +kernel
theorem dX7_init_28 : decode cX7_init 28 = .ok (.iconst 4, 1) := by decide +kernel
theorem dX7_init_29 : decode cX7_init 29 = .ok (.iconst 5, 1) := by decide +kernel
theorem dX7_init_30 : decode cX7_init 30 = .ok (.iastore, 1) := by decide +kernel
theorem dX7_init_31 : decode cX7_init 31 = .ok (.dup, 1) := by decide +kernel
theorem dX7_init_32 : decode cX7_init 32 = .ok (.iconst 5, 1) := by decide +kernel
theorem dX7_init_33 : decode cX7_init 33 = .ok (.bipush 6, 2) := by decide +kernel
theorem dX7_init_35 : decode cX7_init 35 = .ok (.iastore, 1) := by decide +kernel
theorem dX7_init_36 : decode cX7_init 36 = .ok (.dup, 1) := by decide +kernel
theorem dX7_init_37 : decode cX7_init 37 = .ok (.bipush 6, 2) := by decide +kernel
theorem dX7_init_39 : decode cX7_init 39 = .ok (.iconst 1, 1) := by decide +kernel
theorem dX7_init_40 : decode cX7_init 40 = .ok (.iastore, 1) := by decide +kernel
theorem dX7_init_41 : decode cX7_init 41 = .ok (.dup, 1) := by decide +kernel
theorem dX7_init_42 : decode cX7_init 42 = .ok (.bipush 7, 2) := by decide +kernel
theorem dX7_init_44 : decode cX7_init 44 = .ok (.iconst 2, 1) := by decide +kernel
theorem dX7_init_45 : decode cX7_init 45 = .ok (.iastore, 1) := by decide +kernel
theorem dX7_init_46 : decode cX7_init 46 = .ok (.dup, 1) := by decide +kernel
theorem dX7_init_47 : decode cX7_init 47 = .ok (.bipush 8, 2) := by decide +kernel
theorem dX7_init_49 : decode cX7_init 49 = .ok (.iconst 0, 1) := by decide +kernel
theorem dX7_init_50 : decode cX7_init 50 = .ok (.iastore, 1) := by decide +kernel
theorem dX7_init_51 : decode cX7_init 51 = .ok (.putfield 9, 3) := by decide +kernel
theorem dX7_init_54 : decode cX7_init 54 = .ok (.return_, 1) := by decide +kernel
theorem dX7_get_0 : decode cX7_get 0 = .ok (.iload_n 1, 1) := by decide +kernel
theorem dX7_get_1 : decode cX7_get 1 = .ok (.iconst 0, 1) := by decide +kernel
theorem dX7_get_2 : decode cX7_get 2 = .ok (.bipush 8, 2) := by decide +kernel
theorem dX7_get_4 : decode cX7_get 4 = .ok (.invokestatic 15, 3) := by decide +kernel
theorem dX7_get_7 : decode cX7_get 7 = .ok (.ifCond .eq 12, 3) := by decide +kernel
theorem dX7_get_10 : decode cX7_get 10 = .ok (.aload_n 0, 1) := by decide +kernel
theorem dX7_get_11 : decode cX7_get 11 = .ok (.getfield 9, 3) := by decide +kernel
theorem dX7_get_14 : decode cX7_get 14 = .ok (.iload_n 1, 1) := by decide +kernel
theorem dX7_get_15 : decode cX7_get 15 = .ok (.iaload, 1) := by decide +kernel
theorem dX7_get_16 : decode cX7_get 16 = .ok (.goto 4, 3) := by decide +kernel
theorem dX7_get_19 : decode cX7_get 19 = .ok (.iconst (-1), 1) := by decide +kernel
theorem dX7_get_20 : decode cX7_get 20 = .ok (.ireturn, 1) := by decide +kernel
theorem dX7_set_0 : decode cX7_set 0 = .ok (.iload_n 1, 1) := by decide +kernel
theorem dX7_set_1 : decode cX7_set 1 = .ok (.iconst 0, 1) := by decide +kernel
theorem dX7_set_2 : decode cX7_set 2 = .ok (.bipush 8, 2) := by decide +kernel
theorem dX7_set_4 : decode cX7_set 4 = .ok (.invokestatic 15, 3) := by decide +kernel
theorem dX7_set_7 : decode cX7_set 7 = .ok (.ifCond .eq 10, 3) := by decide +kernel
theorem dX7_set_10 : decode cX7_set 10 = .ok (.aload_n 0, 1) := by decide +kernel
theorem dX7_set_11 : decode cX7_set 11 = .ok (.getfield 9, 3) := by decide +kernel
theorem dX7_set_14 : decode cX7_set 14 = .ok (.iload_n 1, 1) := by decide +kernel
theorem dX7_set_15 : decode cX7_set 15 = .ok (.iload_n 2, 1) := by decide +kernel
theorem dX7_set_16 : decode cX7_set 16 = .ok (.iastore, 1) := by decide +kernel
theorem dX7_set_17 : decode cX7_set 17 = .ok (.return_, 1) := by decide +kernel
theorem dX7_takeFrom_0 : decode cX7_takeFrom 0 = .ok (.aload_n 1, 1) := by decide +kernel
theorem dX7_takeFrom_1 : decode cX7_takeFrom 1 = .ok (.getfield 9, 3) := by decide +kernel
theorem dX7_takeFrom_4 : decode cX7_takeFrom 4 = .ok (.iconst 0, 1) := by decide +kernel
theorem dX7_takeFrom_5 : decode cX7_takeFrom 5 = .ok (.aload_n 0, 1) := by decide +kernel
theorem dX7_takeFrom_6 : decode cX7_takeFrom 6 = .ok (.getfield 9, 3) := by decide +kernel
theorem dX7_takeFrom_9 : decode cX7_takeFrom 9 = .ok (.iconst 0, 1) := by decide +kernel
theorem dX7_takeFrom_10 : decode cX7_takeFrom 10 = .ok (.bipush 9, 2) := by decide +kernel
theorem dX7_takeFrom_12 : decode cX7_takeFrom 12 = .ok (.invokestatic 19, 3) := by decide +kernel
theorem dX7_takeFrom_15 : decode cX7_takeFrom 15 = .ok (.return_, 1) := by decide +kernel
theorem dX7_lastDay_0 : decode cX7_lastDay 0 = .ok (.aload_n 0, 1) := by decide +kernel
theorem dX7_lastDay_1 : decode cX7_lastDay 1 = .ok (.getfield 9, 3) := by decide +kernel
theorem dX7_lastDay_4 : decode cX7_lastDay 4 = .ok (.iconst 0, 1) := by decide +kernel
theorem dX7_lastDay_5 : decode cX7_lastDay 5 = .ok (.iaload, 1) := by decide +kernel
theorem dX7_lastDay_6 : decode cX7_lastDay 6 = .ok (.bipush 6, 2) := by decide +kernel
theorem dX7_lastDay_8 : decode cX7_lastDay 8 = .ok (.invokestatic 25, 3) := by decide +kernel
theorem dX7_lastDay_11 : decode cX7_lastDay 11 = .ok (.ireturn, 1) := by decide +kernel
theorem dX7_priceTop_0 : decode cX7_priceTop 0 = .ok (.aload_n 0, 1) := by decide +kernel
theorem dX7_priceTop_1 : decode cX7_priceTop 1 = .ok (.getfield 9, 3) := by decide +kernel
theorem dX7_priceTop_4 : decode cX7_priceTop 4 = .ok (.iconst 1, 1) := by decide +kernel
theorem dX7_priceTop_5 : decode cX7_priceTop 5 = .ok (.iaload, 1) := by decide +kernel
theorem dX7_priceTop_6 : decode cX7_priceTop 6 = .ok (.i2l, 1) := by decide +kernel
theorem dX7_priceTop_7 : decode cX7_priceTop 7 = .ok (.aload_n 0, 1) := by decide +kernel
theorem dX7_priceTop_8 : decode cX7_priceTop 8 = .ok (.getfield 9, 3) := by decide +kernel
theorem dX7_priceTop_11 : decode cX7_priceTop 11 = .ok (.iconst 2, 1) := by decide +kernel
theorem dX7_priceTop_12 : decode cX7_priceTop 12 = .ok (.iaload, 1) := by decide +kernel
theorem dX7_priceTop_13 : decode cX7_priceTop 13 = .ok (.i2l, 1) := by decide +kernel
theorem dX7_priceTop_14 : decode cX7_priceTop 14 = .ok (.iload_n 2, 1) := by decide +kernel
theorem dX7_priceTop_15 : decode cX7_priceTop 15 = .ok (.invokestatic 31, 3) := by decide +kernel
theorem dX7_priceTop_18 : decode cX7_priceTop 18 = .ok (.lmul, 1) := by decide +kernel
theorem dX7_priceTop_19 : decode cX7_priceTop 19 = .ok (.aload_n 0, 1) := by decide +kernel
theorem dX7_priceTop_20 : decode cX7_priceTop 20 = .ok (.getfield 9, 3) := by decide +kernel
theorem dX7_priceTop_23 : decode cX7_priceTop 23 = .ok (.iconst 4, 1) := by decide +kernel
theorem dX7_priceTop_24 : decode cX7_priceTop 24 = .ok (.iaload, 1) := by decide +kernel
theorem dX7_priceTop_25 : decode cX7_priceTop 25 = .ok (.i2l, 1) := by decide +kernel
theorem dX7_priceTop_26 : decode cX7_priceTop 26 = .ok (.iload_n 1, 1) := by decide +kernel
theorem dX7_priceTop_27 : decode cX7_priceTop 27 = .ok (.iload_n 2, 1) := by decide +kernel
theorem dX7_priceTop_28 : decode cX7_priceTop 28 = .ok (.isub, 1) := by decide +kernel
theorem dX7_priceTop_29 : decode cX7_priceTop 29 = .ok (.invokestatic 31, 3) := by decide +kernel
theorem dX7_priceTop_32 : decode cX7_priceTop 32 = .ok (.lmul, 1) := by decide +kernel
theorem dX7_priceTop_33 : decode cX7_priceTop 33 = .ok (.lreturn, 1) := by decide +kernel
theorem dX7_priceBottom_0 : decode cX7_priceBottom 0 = .ok (.aload_n 0, 1) := by decide +kernel
theorem dX7_priceBottom_1 : decode cX7_priceBottom 1 = .ok (.getfield 9, 3) := by decide +kernel
theorem dX7_priceBottom_4 : decode cX7_priceBottom 4 = .ok (.iconst 3, 1) := by decide +kernel
theorem dX7_priceBottom_5 : decode cX7_priceBottom 5 = .ok (.iaload, 1) := by decide +kernel
theorem dX7_priceBottom_6 : decode cX7_priceBottom 6 = .ok (.i2l, 1) := by decide +kernel
theorem dX7_priceBottom_7 : decode cX7_priceBottom 7 = .ok (.iload_n 2, 1) := by decide +kernel
theorem dX7_priceBottom_8 : decode cX7_priceBottom 8 = .ok (.invokestatic 31, 3) := by decide +kernel
theorem dX7_priceBottom_11 : decode cX7_priceBottom 11 = .ok (.aload_n 0, 1) := by decide +kernel
theorem dX7_priceBottom_12 : decode cX7_priceBottom 12 = .ok (.getfield 9, 3) := by decide +kernel
theorem dX7_priceBottom_15 : decode cX7_priceBottom 15 = .ok (.iconst 5, 1) := by decide +kernel
theorem dX7_priceBottom_16 : decode cX7_priceBottom 16 = .ok (.iaload, 1) := by decide +kernel
theorem dX7_priceBottom_17 : decode cX7_priceBottom 17 = .ok (.i2l, 1) := by decide +kernel
theorem dX7_priceBottom_18 : decode cX7_priceBottom 18 = .ok (.iload_n 1, 1) := by decide +kernel
theorem dX7_priceBottom_19 : decode cX7_priceBottom 19 = .ok (.iload_n 2, 1) := by decide +kernel
theorem dX7_priceBottom_20 : decode cX7_priceBottom 20 = .ok (.isub, 1) := by decide +kernel
theorem dX7_priceBottom_21 : decode cX7_priceBottom 21 = .ok (.invokestatic 31, 3) := by decide +kernel
theorem dX7_priceBottom_24 : decode cX7_priceBottom 24 = .ok (.lmul, 1) := by decide +kernel
theorem dX7_priceBottom_25 : decode cX7_priceBottom 25 = .ok (.lreturn, 1) := by decide +kernel
theorem dX7_pence_0 : decode cX7_pence 0 = .ok (.ldc2_w 35, 3) := by decide +kernel
theorem dX7_pence_3 : decode cX7_pence 3 = .ok (.aload_n 0, 1) := by decide +kernel
theorem dX7_pence_4 : decode cX7_pence 4 = .ok (.iload_n 1, 1) := by decide +kernel
theorem dX7_pence_5 : decode cX7_pence 5 = .ok (.iload_n 2, 1) := by decide +kernel
theorem dX7_pence_6 : decode cX7_pence 6 = .ok (.invokevirtual 37, 3) := by decide +kernel
theorem dX7_pence_9 : decode cX7_pence 9 = .ok (.lmul, 1) := by decide +kernel
theorem dX7_pence_10 : decode cX7_pence 10 = .ok (.aload_n 0, 1) := by decide +kernel
theorem dX7_pence_11 : decode cX7_pence 11 = .ok (.iload_n 1, 1) := by decide +kernel
theorem dX7_pence_12 : decode cX7_pence 12 = .ok (.iload_n 2, 1) := by decide +kernel
theorem dX7_pence_13 : decode cX7_pence 13 = .ok (.invokevirtual 41, 3) := by decide +kernel
theorem dX7_pence_16 : decode cX7_pence 16 = .ok (.invokestatic 44, 3) := by decide +kernel
theorem dX7_pence_19 : decode cX7_pence 19 = .ok (.lreturn, 1) := by decide +kernel
theorem dX7_chanceWhole_0 : decode cX7_chanceWhole 0 = .ok (.aload_n 0, 1) := by decide +kernel
theorem dX7_chanceWhole_1 : decode cX7_chanceWhole 1 = .ok (.getfield 9, 3) := by decide +kernel
theorem dX7_chanceWhole_4 : decode cX7_chanceWhole 4 = .ok (.bipush 7, 2) := by decide +kernel
theorem dX7_chanceWhole_6 : decode cX7_chanceWhole 6 = .ok (.iaload, 1) := by decide +kernel
theorem dX7_chanceWhole_7 : decode cX7_chanceWhole 7 = .ok (.i2l, 1) := by decide +kernel
theorem dX7_chanceWhole_8 : decode cX7_chanceWhole 8 = .ok (.aload_n 0, 1) := by decide +kernel
theorem dX7_chanceWhole_9 : decode cX7_chanceWhole 9 = .ok (.invokevirtual 48, 3) := by decide +kernel
theorem dX7_chanceWhole_12 : decode cX7_chanceWhole 12 = .ok (.invokestatic 31, 3) := by decide +kernel
theorem dX7_chanceWhole_15 : decode cX7_chanceWhole 15 = .ok (.lreturn, 1) := by decide +kernel
theorem dX7_chanceOf_0 : decode cX7_chanceOf 0 = .ok (.aload_n 0, 1) := by decide +kernel
theorem dX7_chanceOf_1 : decode cX7_chanceOf 1 = .ok (.getfield 9, 3) := by decide +kernel
theorem dX7_chanceOf_4 : decode cX7_chanceOf 4 = .ok (.bipush 6, 2) := by decide +kernel
theorem dX7_chanceOf_6 : decode cX7_chanceOf 6 = .ok (.iaload, 1) := by decide +kernel
theorem dX7_chanceOf_7 : decode cX7_chanceOf 7 = .ok (.istore_n 3, 1) := by decide +kernel
theorem dX7_chanceOf_8 : decode cX7_chanceOf 8 = .ok (.aload_n 0, 1) := by decide +kernel
theorem dX7_chanceOf_9 : decode cX7_chanceOf 9 = .ok (.getfield 9, 3) := by decide +kernel
theorem dX7_chanceOf_12 : decode cX7_chanceOf 12 = .ok (.bipush 7, 2) := by decide +kernel
theorem dX7_chanceOf_14 : decode cX7_chanceOf 14 = .ok (.iaload, 1) := by decide +kernel
theorem dX7_chanceOf_15 : decode cX7_chanceOf 15 = .ok (.istore 4, 2) := by decide +kernel
theorem dX7_chanceOf_17 : decode cX7_chanceOf 17 = .ok (.iload_n 3, 1) := by decide +kernel
theorem dX7_chanceOf_18 : decode cX7_chanceOf 18 = .ok (.i2l, 1) := by decide +kernel
theorem dX7_chanceOf_19 : decode cX7_chanceOf 19 = .ok (.iload_n 2, 1) := by decide +kernel
theorem dX7_chanceOf_20 : decode cX7_chanceOf 20 = .ok (.invokestatic 31, 3) := by decide +kernel
theorem dX7_chanceOf_23 : decode cX7_chanceOf 23 = .ok (.iload 4, 2) := by decide +kernel
theorem dX7_chanceOf_25 : decode cX7_chanceOf 25 = .ok (.iload_n 3, 1) := by decide +kernel
theorem dX7_chanceOf_26 : decode cX7_chanceOf 26 = .ok (.isub, 1) := by decide +kernel
theorem dX7_chanceOf_27 : decode cX7_chanceOf 27 = .ok (.i2l, 1) := by decide +kernel
theorem dX7_chanceOf_28 : decode cX7_chanceOf 28 = .ok (.iload_n 1, 1) := by decide +kernel
theorem dX7_chanceOf_29 : decode cX7_chanceOf 29 = .ok (.iload_n 2, 1) := by decide +kernel
theorem dX7_chanceOf_30 : decode cX7_chanceOf 30 = .ok (.isub, 1) := by decide +kernel
theorem dX7_chanceOf_31 : decode cX7_chanceOf 31 = .ok (.invokestatic 31, 3) := by decide +kernel
theorem dX7_chanceOf_34 : decode cX7_chanceOf 34 = .ok (.lmul, 1) := by decide +kernel
theorem dX7_chanceOf_35 : decode cX7_chanceOf 35 = .ok (.iload 4, 2) := by decide +kernel
theorem dX7_chanceOf_37 : decode cX7_chanceOf 37 = .ok (.i2l, 1) := by decide +kernel
theorem dX7_chanceOf_38 : decode cX7_chanceOf 38 = .ok (.aload_n 0, 1) := by decide +kernel
theorem dX7_chanceOf_39 : decode cX7_chanceOf 39 = .ok (.invokevirtual 48, 3) := by decide +kernel
theorem dX7_chanceOf_42 : decode cX7_chanceOf 42 = .ok (.iload_n 1, 1) := by decide +kernel
theorem dX7_chanceOf_43 : decode cX7_chanceOf 43 = .ok (.isub, 1) := by decide +kernel
theorem dX7_chanceOf_44 : decode cX7_chanceOf 44 = .ok (.invokestatic 31, 3) := by decide +kernel
theorem dX7_chanceOf_47 : decode cX7_chanceOf 47 = .ok (.lmul, 1) := by decide +kernel
theorem dX7_chanceOf_48 : decode cX7_chanceOf 48 = .ok (.lreturn, 1) := by decide +kernel
theorem dX7_meanOf_0 : decode cX7_meanOf 0 = .ok (.aload_n 0, 1) := by decide +kernel
theorem dX7_meanOf_1 : decode cX7_meanOf 1 = .ok (.getfield 9, 3) := by decide +kernel
theorem dX7_meanOf_4 : decode cX7_meanOf 4 = .ok (.bipush 6, 2) := by decide +kernel
theorem dX7_meanOf_6 : decode cX7_meanOf 6 = .ok (.iaload, 1) := by decide +kernel
theorem dX7_meanOf_7 : decode cX7_meanOf 7 = .ok (.istore 5, 2) := by decide +kernel
theorem dX7_meanOf_9 : decode cX7_meanOf 9 = .ok (.aload_n 0, 1) := by decide +kernel
theorem dX7_meanOf_10 : decode cX7_meanOf 10 = .ok (.getfield 9, 3) := by decide +kernel
theorem dX7_meanOf_13 : decode cX7_meanOf 13 = .ok (.bipush 7, 2) := by decide +kernel
theorem dX7_meanOf_15 : decode cX7_meanOf 15 = .ok (.iaload, 1) := by decide +kernel
theorem dX7_meanOf_16 : decode cX7_meanOf 16 = .ok (.istore 6, 2) := by decide +kernel
theorem dX7_meanOf_18 : decode cX7_meanOf 18 = .ok (.iload 5, 2) := by decide +kernel
theorem dX7_meanOf_20 : decode cX7_meanOf 20 = .ok (.i2l, 1) := by decide +kernel
theorem dX7_meanOf_21 : decode cX7_meanOf 21 = .ok (.lload_n 1, 1) := by decide +kernel
theorem dX7_meanOf_22 : decode cX7_meanOf 22 = .ok (.lmul, 1) := by decide +kernel
theorem dX7_meanOf_23 : decode cX7_meanOf 23 = .ok (.iload 6, 2) := by decide +kernel
theorem dX7_meanOf_25 : decode cX7_meanOf 25 = .ok (.iload 5, 2) := by decide +kernel
theorem dX7_meanOf_27 : decode cX7_meanOf 27 = .ok (.isub, 1) := by decide +kernel
theorem dX7_meanOf_28 : decode cX7_meanOf 28 = .ok (.i2l, 1) := by decide +kernel
theorem dX7_meanOf_29 : decode cX7_meanOf 29 = .ok (.lload_n 3, 1) := by decide +kernel
theorem dX7_meanOf_30 : decode cX7_meanOf 30 = .ok (.lmul, 1) := by decide +kernel
theorem dX7_meanOf_31 : decode cX7_meanOf 31 = .ok (.ladd, 1) := by decide +kernel
theorem dX7_meanOf_32 : decode cX7_meanOf 32 = .ok (.lstore 7, 2) := by decide +kernel
theorem dX7_meanOf_34 : decode cX7_meanOf 34 = .ok (.lload 7, 2) := by decide +kernel
theorem dX7_meanOf_36 : decode cX7_meanOf 36 = .ok (.ldc2_w 52, 3) := by decide +kernel
theorem dX7_meanOf_39 : decode cX7_meanOf 39 = .ok (.lmul, 1) := by decide +kernel
theorem dX7_meanOf_40 : decode cX7_meanOf 40 = .ok (.iload 6, 2) := by decide +kernel
theorem dX7_meanOf_42 : decode cX7_meanOf 42 = .ok (.sipush 1000, 3) := by decide +kernel
theorem dX7_meanOf_45 : decode cX7_meanOf 45 = .ok (.aload_n 0, 1) := by decide +kernel
theorem dX7_meanOf_46 : decode cX7_meanOf 46 = .ok (.getfield 9, 3) := by decide +kernel
theorem dX7_meanOf_49 : decode cX7_meanOf 49 = .ok (.bipush 8, 2) := by decide +kernel
theorem dX7_meanOf_51 : decode cX7_meanOf 51 = .ok (.iaload, 1) := by decide +kernel
theorem dX7_meanOf_52 : decode cX7_meanOf 52 = .ok (.iadd, 1) := by decide +kernel
theorem dX7_meanOf_53 : decode cX7_meanOf 53 = .ok (.imul, 1) := by decide +kernel
theorem dX7_meanOf_54 : decode cX7_meanOf 54 = .ok (.i2l, 1) := by decide +kernel
theorem dX7_meanOf_55 : decode cX7_meanOf 55 = .ok (.invokestatic 44, 3) := by decide +kernel
theorem dX7_meanOf_58 : decode cX7_meanOf 58 = .ok (.lreturn, 1) := by decide +kernel
theorem dX6_init_0 : decode cX6_init 0 = .ok (.aload_n 0, 1) := by decide +kernel
theorem dX6_init_1 : decode cX6_init 1 = .ok (.invokespecial 3, 3) := by decide +kernel
theorem dX6_init_4 : decode cX6_init 4 = .ok (.aload_n 0, 1) := by decide +kernel
theorem dX6_init_5 : decode cX6_init 5 = .ok (.sipush 200, 3) := by decide +kernel
theorem dX6_init_8 : decode cX6_init 8 = .ok (.newarray .int, 2) := by decide +kernel
theorem dX6_init_10 : decode cX6_init 10 = .ok (.putfield 9, 3) := by decide +kernel
theorem dX6_init_13 : decode cX6_init 13 = .ok (.aload_n 0, 1) := by decide +kernel
theorem dX6_init_14 : decode cX6_init 14 = .ok (.iconst 0, 1) := by decide +kernel
theorem dX6_init_15 : decode cX6_init 15 = .ok (.putfield 15, 3) := by decide +kernel
theorem dX6_init_18 : decode cX6_init 18 = .ok (.aload_n 0, 1) := by decide +kernel
theorem dX6_init_19 : decode cX6_init 19 = .ok (.new 19, 3) := by decide +kernel
theorem dX6_init_22 : decode cX6_init 22 = .ok (.dup, 1) := by decide +kernel
theorem dX6_init_23 : decode cX6_init 23 = .ok (.invokespecial 21, 3) := by decide +kernel
theorem dX6_init_26 : decode cX6_init 26 = .ok (.putfield 22, 3) := by decide +kernel
theorem dX6_init_29 : decode cX6_init 29 = .ok (.aload_n 0, 1) := by decide +kernel
theorem dX6_init_30 : decode cX6_init 30 = .ok (.iconst 0, 1) := by decide +kernel
theorem dX6_init_31 : decode cX6_init 31 = .ok (.putfield 26, 3) := by decide +kernel
theorem dX6_init_34 : decode cX6_init 34 = .ok (.aload_n 0, 1) := by decide +kernel
theorem dX6_init_35 : decode cX6_init 35 = .ok (.iconst 0, 1) := by decide +kernel
theorem dX6_init_36 : decode cX6_init 36 = .ok (.putfield 29, 3) := by decide +kernel
theorem dX6_init_39 : decode cX6_init 39 = .ok (.aload_n 0, 1) := by decide +kernel
theorem dX6_init_40 : decode cX6_init 40 = .ok (.iconst 0, 1) := by decide +kernel
theorem dX6_init_41 : decode cX6_init 41 = .ok (.putfield 32, 3) := by decide +kernel
theorem dX6_init_44 : decode cX6_init 44 = .ok (.aload_n 0, 1) := by decide +kernel
theorem dX6_init_45 : decode cX6_init 45 = .ok (.iconst 0, 1) := by decide +kernel
theorem dX6_init_46 : decode cX6_init 46 = .ok (.putfield 35, 3) := by decide +kernel
theorem dX6_init_49 : decode cX6_init 49 = .ok (.aload_n 0, 1) := by decide +kernel
theorem dX6_init_50 : decode cX6_init 50 = .ok (.iconst 0, 1) := by decide +kernel
theorem dX6_init_51 : decode cX6_init 51 = .ok (.putfield 38, 3) := by decide +kernel
theorem dX6_init_54 : decode cX6_init 54 = .ok (.return_, 1) := by decide +kernel
theorem dX6_size_0 : decode cX6_size 0 = .ok (.aload_n 0, 1) := by decide +kernel
theorem dX6_size_1 : decode cX6_size 1 = .ok (.getfield 15, 3) := by decide +kernel
theorem dX6_size_4 : decode cX6_size 4 = .ok (.ireturn, 1) := by decide +kernel
theorem dX6_clear_0 : decode cX6_clear 0 = .ok (.aload_n 0, 1) := by decide +kernel
theorem dX6_clear_1 : decode cX6_clear 1 = .ok (.iconst 0, 1) := by decide +kernel
theorem dX6_clear_2 : decode cX6_clear 2 = .ok (.putfield 15, 3) := by decide +kernel
theorem dX6_clear_5 : decode cX6_clear 5 = .ok (.return_, 1) := by decide +kernel
theorem dX6_append_0 : decode cX6_append 0 = .ok (.bipush 24, 2) := by decide +kernel
theorem dX6_append_2 : decode cX6_append 2 = .ok (.istore_n 2, 1) := by decide +kernel
theorem dX6_append_3 : decode cX6_append 3 = .ok (.iload_n 2, 1) := by decide +kernel
theorem dX6_append_4 : decode cX6_append 4 = .ok (.ifCond .lt 45, 3) := by decide +kernel
theorem dX6_append_7 : decode cX6_append 7 = .ok (.aload_n 0, 1) := by decide +kernel
theorem dX6_append_8 : decode cX6_append 8 = .ok (.getfield 15, 3) := by decide +kernel
theorem dX6_append_11 : decode cX6_append 11 = .ok (.sipush 200, 3) := by decide +kernel
theorem dX6_append_14 : decode cX6_append 14 = .ok (.if_icmp .ge 35, 3) := by decide +kernel
theorem dX6_append_17 : decode cX6_append 17 = .ok (.aload_n 0, 1) := by decide +kernel
theorem dX6_append_18 : decode cX6_append 18 = .ok (.getfield 9, 3) := by decide +kernel
theorem dX6_append_21 : decode cX6_append 21 = .ok (.aload_n 0, 1) := by decide +kernel
theorem dX6_append_22 : decode cX6_append 22 = .ok (.getfield 15, 3) := by decide +kernel
theorem dX6_append_25 : decode cX6_append 25 = .ok (.iload_n 1, 1) := by decide +kernel
theorem dX6_append_26 : decode cX6_append 26 = .ok (.iload_n 2, 1) := by decide +kernel
theorem dX6_append_27 : decode cX6_append 27 = .ok (.ishr, 1) := by decide +kernel
theorem dX6_append_28 : decode cX6_append 28 = .ok (.sipush 255, 3) := by decide +kernel
theorem dX6_append_31 : decode cX6_append 31 = .ok (.iand, 1) := by decide +kernel
theorem dX6_append_32 : decode cX6_append 32 = .ok (.iastore, 1) := by decide +kernel
theorem dX6_append_33 : decode cX6_append 33 = .ok (.aload_n 0, 1) := by decide +kernel
theorem dX6_append_34 : decode cX6_append 34 = .ok (.dup, 1) := by decide +kernel
theorem dX6_append_35 : decode cX6_append 35 = .ok (.getfield 15, 3) := by decide +kernel
theorem dX6_append_38 : decode cX6_append 38 = .ok (.iconst 1, 1) := by decide +kernel
theorem dX6_append_39 : decode cX6_append 39 = .ok (.iadd, 1) := by decide +kernel
theorem dX6_append_40 : decode cX6_append 40 = .ok (.putfield 15, 3) := by decide +kernel
theorem dX6_append_43 : decode cX6_append 43 = .ok (.iinc 2 (-8), 3) := by decide +kernel
theorem dX6_append_46 : decode cX6_append 46 = .ok (.goto (-43), 3) := by decide +kernel
theorem dX6_append_49 : decode cX6_append 49 = .ok (.return_, 1) := by decide +kernel
theorem dX6_readMoves_0 : decode cX6_readMoves 0 = .ok (.iconst 1, 1) := by decide +kernel
theorem dX6_readMoves_1 : decode cX6_readMoves 1 = .ok (.istore_n 2, 1) := by decide +kernel
theorem dX6_readMoves_2 : decode cX6_readMoves 2 = .ok (.iconst 0, 1) := by decide +kernel
theorem dX6_readMoves_3 : decode cX6_readMoves 3 = .ok (.istore_n 3, 1) := by decide +kernel
theorem dX6_readMoves_4 : decode cX6_readMoves 4 = .ok (.iload_n 3, 1) := by decide +kernel
theorem dX6_readMoves_5 : decode cX6_readMoves 5 = .ok (.iload_n 1, 1) := by decide +kernel
theorem dX6_readMoves_6 : decode cX6_readMoves 6 = .ok (.if_icmp .ge 60, 3) := by decide +kernel
theorem dX6_readMoves_9 : decode cX6_readMoves 9 = .ok (.iload_n 3, 1) := by decide +kernel
theorem dX6_readMoves_10 : decode cX6_readMoves 10 = .ok (.bipush 6, 2) := by decide +kernel
theorem dX6_readMoves_12 : decode cX6_readMoves 12 = .ok (.if_icmp .ge 54, 3) := by decide +kernel
theorem dX6_readMoves_15 : decode cX6_readMoves 15 = .ok (.aload_n 0, 1) := by decide +kernel
theorem dX6_readMoves_16 : decode cX6_readMoves 16 = .ok (.getfield 9, 3) := by decide +kernel
theorem dX6_readMoves_19 : decode cX6_readMoves 19 = .ok (.iload_n 3, 1) := by decide +kernel
theorem dX6_readMoves_20 : decode cX6_readMoves 20 = .ok (.iaload, 1) := by decide +kernel
theorem dX6_readMoves_21 : decode cX6_readMoves 21 = .ok (.bipush 117, 2) := by decide +kernel
theorem dX6_readMoves_23 : decode cX6_readMoves 23 = .ok (.if_icmp .eq 16, 3) := by decide +kernel
theorem dX6_readMoves_26 : decode cX6_readMoves 26 = .ok (.aload_n 0, 1) := by decide +kernel
theorem dX6_readMoves_27 : decode cX6_readMoves 27 = .ok (.getfield 9, 3) := by decide +kernel
theorem dX6_readMoves_30 : decode cX6_readMoves 30 = .ok (.iload_n 3, 1) := by decide +kernel
theorem dX6_readMoves_31 : decode cX6_readMoves 31 = .ok (.iaload, 1) := by decide +kernel
theorem dX6_readMoves_32 : decode cX6_readMoves 32 = .ok (.bipush 100, 2) := by decide +kernel
theorem dX6_readMoves_34 : decode cX6_readMoves 34 = .ok (.if_icmp .eq 5, 3) := by decide +kernel
theorem dX6_readMoves_37 : decode cX6_readMoves 37 = .ok (.iconst 0, 1) := by decide +kernel
theorem dX6_readMoves_38 : decode cX6_readMoves 38 = .ok (.ireturn, 1) := by decide +kernel
theorem dX6_readMoves_39 : decode cX6_readMoves 39 = .ok (.iload_n 2, 1) := by decide +kernel
theorem dX6_readMoves_40 : decode cX6_readMoves 40 = .ok (.aload_n 0, 1) := by decide +kernel
theorem dX6_readMoves_41 : decode cX6_readMoves 41 = .ok (.getfield 9, 3) := by decide +kernel
theorem dX6_readMoves_44 : decode cX6_readMoves 44 = .ok (.iload_n 3, 1) := by decide +kernel
theorem dX6_readMoves_45 : decode cX6_readMoves 45 = .ok (.iaload, 1) := by decide +kernel
theorem dX6_readMoves_46 : decode cX6_readMoves 46 = .ok (.bipush 117, 2) := by decide +kernel
theorem dX6_readMoves_48 : decode cX6_readMoves 48 = .ok (.if_icmp .ne 7, 3) := by decide +kernel
theorem dX6_readMoves_51 : decode cX6_readMoves 51 = .ok (.iconst 1, 1) := by decide +kernel
theorem dX6_readMoves_52 : decode cX6_readMoves 52 = .ok (.goto 4, 3) := by decide +kernel
theorem dX6_readMoves_55 : decode cX6_readMoves 55 = .ok (.iconst 0, 1) := by decide +kernel
theorem dX6_readMoves_56 : decode cX6_readMoves 56 = .ok (.invokestatic 41, 3) := by decide +kernel
theorem dX6_readMoves_59 : decode cX6_readMoves 59 = .ok (.istore_n 2, 1) := by decide +kernel
theorem dX6_readMoves_60 : decode cX6_readMoves 60 = .ok (.iinc 3 1, 3) := by decide +kernel
theorem dX6_readMoves_63 : decode cX6_readMoves 63 = .ok (.goto (-59), 3) := by decide +kernel
theorem dX6_readMoves_66 : decode cX6_readMoves 66 = .ok (.iload_n 2, 1) := by decide +kernel
theorem dX6_readMoves_67 : decode cX6_readMoves 67 = .ok (.ireturn, 1) := by decide +kernel
theorem dX6_readTerms_0 : decode cX6_readTerms 0 = .ok (.aload_n 0, 1) := by decide +kernel
theorem dX6_readTerms_1 : decode cX6_readTerms 1 = .ok (.getfield 22, 3) := by decide +kernel
theorem dX6_readTerms_4 : decode cX6_readTerms 4 = .ok (.aload_n 2, 1) := by decide +kernel
theorem dX6_readTerms_5 : decode cX6_readTerms 5 = .ok (.invokevirtual 45, 3) := by decide +kernel
theorem dX6_readTerms_8 : decode cX6_readTerms 8 = .ok (.aload_n 0, 1) := by decide +kernel
theorem dX6_readTerms_9 : decode cX6_readTerms 9 = .ok (.iload_n 1, 1) := by decide +kernel
theorem dX6_readTerms_10 : decode cX6_readTerms 10 = .ok (.aload_n 0, 1) := by decide +kernel
theorem dX6_readTerms_11 : decode cX6_readTerms 11 = .ok (.getfield 15, 3) := by decide +kernel
theorem dX6_readTerms_14 : decode cX6_readTerms 14 = .ok (.invokestatic 49, 3) := by decide +kernel
theorem dX6_readTerms_17 : decode cX6_readTerms 17 = .ok (.putfield 26, 3) := by decide +kernel
theorem dX6_readTerms_20 : decode cX6_readTerms 20 = .ok (.aload_n 0, 1) := by decide +kernel
theorem dX6_readTerms_21 : decode cX6_readTerms 21 = .ok (.iconst 0, 1) := by decide +kernel
theorem dX6_readTerms_22 : decode cX6_readTerms 22 = .ok (.putfield 29, 3) := by decide +kernel
theorem dX6_readTerms_25 : decode cX6_readTerms 25 = .ok (.iconst 0, 1) := by decide +kernel
theorem dX6_readTerms_26 : decode cX6_readTerms 26 = .ok (.istore_n 3, 1) := by decide +kernel
theorem dX6_readTerms_27 : decode cX6_readTerms 27 = .ok (.iload_n 3, 1) := by decide +kernel
theorem dX6_readTerms_28 : decode cX6_readTerms 28 = .ok (.bipush 100, 2) := by decide +kernel
theorem dX6_readTerms_30 : decode cX6_readTerms 30 = .ok (.if_icmp .ge 38, 3) := by decide +kernel
theorem dX6_readTerms_33 : decode cX6_readTerms 33 = .ok (.aload_n 0, 1) := by decide +kernel
theorem dX6_readTerms_34 : decode cX6_readTerms 34 = .ok (.invokevirtual 55, 3) := by decide +kernel
theorem dX6_readTerms_37 : decode cX6_readTerms 37 = .ok (.iconst (-1), 1) := by decide +kernel
theorem dX6_readTerms_38 : decode cX6_readTerms 38 = .ok (.if_icmp .eq 30, 3) := by decide +kernel
theorem dX6_readTerms_41 : decode cX6_readTerms 41 = .ok (.aload_n 0, 1) := by decide +kernel
theorem dX6_readTerms_42 : decode cX6_readTerms 42 = .ok (.invokevirtual 59, 3) := by decide +kernel
theorem dX6_readTerms_45 : decode cX6_readTerms 45 = .ok (.ifCond .ne 17, 3) := by decide +kernel
theorem dX6_readTerms_48 : decode cX6_readTerms 48 = .ok (.sipush (-1000), 3) := by decide +kernel
theorem dX6_readTerms_51 : decode cX6_readTerms 51 = .ok (.aload_n 0, 1) := by decide +kernel
theorem dX6_readTerms_52 : decode cX6_readTerms 52 = .ok (.getfield 32, 3) := by decide +kernel
theorem dX6_readTerms_55 : decode cX6_readTerms 55 = .ok (.imul, 1) := by decide +kernel
theorem dX6_readTerms_56 : decode cX6_readTerms 56 = .ok (.aload_n 0, 1) := by decide +kernel
theorem dX6_readTerms_57 : decode cX6_readTerms 57 = .ok (.getfield 35, 3) := by decide +kernel
theorem dX6_readTerms_60 : decode cX6_readTerms 60 = .ok (.isub, 1) := by decide +kernel
theorem dX6_readTerms_61 : decode cX6_readTerms 61 = .ok (.ireturn, 1) := by decide +kernel
theorem dX6_readTerms_62 : decode cX6_readTerms 62 = .ok (.iinc 3 1, 3) := by decide +kernel
theorem dX6_readTerms_65 : decode cX6_readTerms 65 = .ok (.goto (-38), 3) := by decide +kernel
theorem dX6_readTerms_68 : decode cX6_readTerms 68 = .ok (.aload_n 2, 1) := by decide +kernel
theorem dX6_readTerms_69 : decode cX6_readTerms 69 = .ok (.aload_n 0, 1) := by decide +kernel
theorem dX6_readTerms_70 : decode cX6_readTerms 70 = .ok (.getfield 22, 3) := by decide +kernel
theorem dX6_readTerms_73 : decode cX6_readTerms 73 = .ok (.invokevirtual 45, 3) := by decide +kernel
theorem dX6_readTerms_76 : decode cX6_readTerms 76 = .ok (.iload_n 3, 1) := by decide +kernel
theorem dX6_readTerms_77 : decode cX6_readTerms 77 = .ok (.ireturn, 1) := by decide +kernel
theorem dX6_takeClause_0 : decode cX6_takeClause 0 = .ok (.aload_n 0, 1) := by decide +kernel
theorem dX6_takeClause_1 : decode cX6_takeClause 1 = .ok (.invokevirtual 55, 3) := by decide +kernel
theorem dX6_takeClause_4 : decode cX6_takeClause 4 = .ok (.istore_n 1, 1) := by decide +kernel
theorem dX6_takeClause_5 : decode cX6_takeClause 5 = .ok (.aload_n 0, 1) := by decide +kernel
theorem dX6_takeClause_6 : decode cX6_takeClause 6 = .ok (.dup, 1) := by decide +kernel
theorem dX6_takeClause_7 : decode cX6_takeClause 7 = .ok (.getfield 29, 3) := by decide +kernel
theorem dX6_takeClause_10 : decode cX6_takeClause 10 = .ok (.iconst 1, 1) := by decide +kernel
theorem dX6_takeClause_11 : decode cX6_takeClause 11 = .ok (.iadd, 1) := by decide +kernel
theorem dX6_takeClause_12 : decode cX6_takeClause 12 = .ok (.putfield 29, 3) := by decide +kernel
theorem dX6_takeClause_15 : decode cX6_takeClause 15 = .ok (.iload_n 1, 1) := by decide +kernel
theorem dX6_takeClause_16 : decode cX6_takeClause 16 = .ok (.tableswitch 181 99 122 #[139, 181, 181, 112, 181, 181, 181, 181, 144, 181, 181, 125, 181, 151, 181, 181, 163, 181, 181, 181, 158, 181, 181, 168], 112) := by decide +kernel
theorem dX6_takeClause_128 : decode cX6_takeClause 128 = .ok (.aload_n 0, 1) := by decide +kernel
theorem dX6_takeClause_129 : decode cX6_takeClause 129 = .ok (.iconst 0, 1) := by decide +kernel
theorem dX6_takeClause_130 : decode cX6_takeClause 130 = .ok (.aload_n 0, 1) := by decide +kernel
theorem dX6_takeClause_131 : decode cX6_takeClause 131 = .ok (.iconst 1, 1) := by decide +kernel
theorem dX6_takeClause_132 : decode cX6_takeClause 132 = .ok (.ldc 63, 2) := by decide +kernel
theorem dX6_takeClause_134 : decode cX6_takeClause 134 = .ok (.invokevirtual 64, 3) := by decide +kernel
theorem dX6_takeClause_137 : decode cX6_takeClause 137 = .ok (.invokevirtual 67, 3) := by decide +kernel
theorem dX6_takeClause_140 : decode cX6_takeClause 140 = .ok (.ireturn, 1) := by decide +kernel
theorem dX6_takeClause_141 : decode cX6_takeClause 141 = .ok (.aload_n 0, 1) := by decide +kernel
theorem dX6_takeClause_142 : decode cX6_takeClause 142 = .ok (.iconst 1, 1) := by decide +kernel
theorem dX6_takeClause_143 : decode cX6_takeClause 143 = .ok (.aload_n 0, 1) := by decide +kernel
theorem dX6_takeClause_144 : decode cX6_takeClause 144 = .ok (.iconst 0, 1) := by decide +kernel
theorem dX6_takeClause_145 : decode cX6_takeClause 145 = .ok (.sipush 1000, 3) := by decide +kernel
theorem dX6_takeClause_148 : decode cX6_takeClause 148 = .ok (.invokevirtual 64, 3) := by decide +kernel
theorem dX6_takeClause_151 : decode cX6_takeClause 151 = .ok (.invokevirtual 67, 3) := by decide +kernel
theorem dX6_takeClause_154 : decode cX6_takeClause 154 = .ok (.ireturn, 1) := by decide +kernel
theorem dX6_takeClause_155 : decode cX6_takeClause 155 = .ok (.aload_n 0, 1) := by decide +kernel
theorem dX6_takeClause_156 : decode cX6_takeClause 156 = .ok (.invokevirtual 71, 3) := by decide +kernel
theorem dX6_takeClause_159 : decode cX6_takeClause 159 = .ok (.ireturn, 1) := by decide +kernel
theorem dX6_takeClause_160 : decode cX6_takeClause 160 = .ok (.aload_n 0, 1) := by decide +kernel
theorem dX6_takeClause_161 : decode cX6_takeClause 161 = .ok (.bipush 20, 2) := by decide +kernel
theorem dX6_takeClause_163 : decode cX6_takeClause 163 = .ok (.invokevirtual 74, 3) := by decide +kernel
theorem dX6_takeClause_166 : decode cX6_takeClause 166 = .ok (.ireturn, 1) := by decide +kernel
theorem dX6_takeClause_167 : decode cX6_takeClause 167 = .ok (.aload_n 0, 1) := by decide +kernel
theorem dX6_takeClause_168 : decode cX6_takeClause 168 = .ok (.bipush 30, 2) := by decide +kernel
theorem dX6_takeClause_170 : decode cX6_takeClause 170 = .ok (.invokevirtual 74, 3) := by decide +kernel
theorem dX6_takeClause_173 : decode cX6_takeClause 173 = .ok (.ireturn, 1) := by decide +kernel
theorem dX6_takeClause_174 : decode cX6_takeClause 174 = .ok (.aload_n 0, 1) := by decide +kernel
theorem dX6_takeClause_175 : decode cX6_takeClause 175 = .ok (.invokevirtual 78, 3) := by decide +kernel
theorem dX6_takeClause_178 : decode cX6_takeClause 178 = .ok (.ireturn, 1) := by decide +kernel
theorem dX6_takeClause_179 : decode cX6_takeClause 179 = .ok (.aload_n 0, 1) := by decide +kernel
theorem dX6_takeClause_180 : decode cX6_takeClause 180 = .ok (.invokevirtual 81, 3) := by decide +kernel
theorem dX6_takeClause_183 : decode cX6_takeClause 183 = .ok (.ireturn, 1) := by decide +kernel
theorem dX6_takeClause_184 : decode cX6_takeClause 184 = .ok (.aload_n 0, 1) := by decide +kernel
theorem dX6_takeClause_185 : decode cX6_takeClause 185 = .ok (.bipush 7, 2) := by decide +kernel
theorem dX6_takeClause_187 : decode cX6_takeClause 187 = .ok (.aload_n 0, 1) := by decide +kernel
theorem dX6_takeClause_188 : decode cX6_takeClause 188 = .ok (.iconst 0, 1) := by decide +kernel
theorem dX6_takeClause_189 : decode cX6_takeClause 189 = .ok (.iconst 3, 1) := by decide +kernel
theorem dX6_takeClause_190 : decode cX6_takeClause 190 = .ok (.invokevirtual 84, 3) := by decide +kernel
theorem dX6_takeClause_193 : decode cX6_takeClause 193 = .ok (.invokevirtual 67, 3) := by decide +kernel
theorem dX6_takeClause_196 : decode cX6_takeClause 196 = .ok (.ireturn, 1) := by decide +kernel
theorem dX6_takeClause_197 : decode cX6_takeClause 197 = .ok (.aload_n 0, 1) := by decide +kernel
theorem dX6_takeClause_198 : decode cX6_takeClause 198 = .ok (.iconst 1, 1) := by decide +kernel
theorem dX6_takeClause_199 : decode cX6_takeClause 199 = .ok (.aload_n 0, 1) := by decide +kernel
theorem dX6_takeClause_200 : decode cX6_takeClause 200 = .ok (.getfield 29, 3) := by decide +kernel
theorem dX6_takeClause_203 : decode cX6_takeClause 203 = .ok (.iconst 1, 1) := by decide +kernel
theorem dX6_takeClause_204 : decode cX6_takeClause 204 = .ok (.isub, 1) := by decide +kernel
theorem dX6_takeClause_205 : decode cX6_takeClause 205 = .ok (.invokevirtual 87, 3) := by decide +kernel
theorem dX6_takeClause_208 : decode cX6_takeClause 208 = .ok (.ireturn, 1) := by decide +kernel
theorem dX6_takeCoupon_0 : decode cX6_takeCoupon 0 = .ok (.aload_n 0, 1) := by decide +kernel
theorem dX6_takeCoupon_1 : decode cX6_takeCoupon 1 = .ok (.aload_n 0, 1) := by decide +kernel
theorem dX6_takeCoupon_2 : decode cX6_takeCoupon 2 = .ok (.invokevirtual 55, 3) := by decide +kernel
theorem dX6_takeCoupon_5 : decode cX6_takeCoupon 5 = .ok (.invokevirtual 90, 3) := by decide +kernel
theorem dX6_takeCoupon_8 : decode cX6_takeCoupon 8 = .ok (.istore_n 1, 1) := by decide +kernel
theorem dX6_takeCoupon_9 : decode cX6_takeCoupon 9 = .ok (.iload_n 1, 1) := by decide +kernel
theorem dX6_takeCoupon_10 : decode cX6_takeCoupon 10 = .ok (.ifCond .ge 5, 3) := by decide +kernel
theorem dX6_takeCoupon_13 : decode cX6_takeCoupon 13 = .ok (.iconst 0, 1) := by decide +kernel
theorem dX6_takeCoupon_14 : decode cX6_takeCoupon 14 = .ok (.ireturn, 1) := by decide +kernel
theorem dX6_takeCoupon_15 : decode cX6_takeCoupon 15 = .ok (.aload_n 0, 1) := by decide +kernel
theorem dX6_takeCoupon_16 : decode cX6_takeCoupon 16 = .ok (.getfield 38, 3) := by decide +kernel
theorem dX6_takeCoupon_19 : decode cX6_takeCoupon 19 = .ok (.istore_n 2, 1) := by decide +kernel
theorem dX6_takeCoupon_20 : decode cX6_takeCoupon 20 = .ok (.aload_n 0, 1) := by decide +kernel
theorem dX6_takeCoupon_21 : decode cX6_takeCoupon 21 = .ok (.getfield 29, 3) := by decide +kernel
theorem dX6_takeCoupon_24 : decode cX6_takeCoupon 24 = .ok (.iload_n 2, 1) := by decide +kernel
theorem dX6_takeCoupon_25 : decode cX6_takeCoupon 25 = .ok (.isub, 1) := by decide +kernel
theorem dX6_takeCoupon_26 : decode cX6_takeCoupon 26 = .ok (.iconst 1, 1) := by decide +kernel
theorem dX6_takeCoupon_27 : decode cX6_takeCoupon 27 = .ok (.if_icmp .ne 7, 3) := by decide +kernel
theorem dX6_takeCoupon_30 : decode cX6_takeCoupon 30 = .ok (.iconst 1, 1) := by decide +kernel
theorem dX6_takeCoupon_31 : decode cX6_takeCoupon 31 = .ok (.goto 4, 3) := by decide +kernel
theorem dX6_takeCoupon_34 : decode cX6_takeCoupon 34 = .ok (.iconst 0, 1) := by decide +kernel
theorem dX6_takeCoupon_35 : decode cX6_takeCoupon 35 = .ok (.istore_n 3, 1) := by decide +kernel
theorem dX6_takeCoupon_36 : decode cX6_takeCoupon 36 = .ok (.iload_n 3, 1) := by decide +kernel
theorem dX6_takeCoupon_37 : decode cX6_takeCoupon 37 = .ok (.ifCond .eq 56, 3) := by decide +kernel
theorem dX6_takeCoupon_40 : decode cX6_takeCoupon 40 = .ok (.aload_n 0, 1) := by decide +kernel
theorem dX6_takeCoupon_41 : decode cX6_takeCoupon 41 = .ok (.invokevirtual 55, 3) := by decide +kernel
theorem dX6_takeCoupon_44 : decode cX6_takeCoupon 44 = .ok (.bipush 58, 2) := by decide +kernel
theorem dX6_takeCoupon_46 : decode cX6_takeCoupon 46 = .ok (.if_icmp .ne 47, 3) := by decide +kernel
theorem dX6_takeCoupon_49 : decode cX6_takeCoupon 49 = .ok (.aload_n 0, 1) := by decide +kernel
theorem dX6_takeCoupon_50 : decode cX6_takeCoupon 50 = .ok (.dup, 1) := by decide +kernel
theorem dX6_takeCoupon_51 : decode cX6_takeCoupon 51 = .ok (.getfield 29, 3) := by decide +kernel
theorem dX6_takeCoupon_54 : decode cX6_takeCoupon 54 = .ok (.iconst 1, 1) := by decide +kernel
theorem dX6_takeCoupon_55 : decode cX6_takeCoupon 55 = .ok (.iadd, 1) := by decide +kernel
theorem dX6_takeCoupon_56 : decode cX6_takeCoupon 56 = .ok (.putfield 29, 3) := by decide +kernel
theorem dX6_takeCoupon_59 : decode cX6_takeCoupon 59 = .ok (.iload_n 1, 1) := by decide +kernel
theorem dX6_takeCoupon_60 : decode cX6_takeCoupon 60 = .ok (.iconst 1, 1) := by decide +kernel
theorem dX6_takeCoupon_61 : decode cX6_takeCoupon 61 = .ok (.bipush 6, 2) := by decide +kernel
theorem dX6_takeCoupon_63 : decode cX6_takeCoupon 63 = .ok (.invokestatic 94, 3) := by decide +kernel
theorem dX6_takeCoupon_66 : decode cX6_takeCoupon 66 = .ok (.ifCond .ne 10, 3) := by decide +kernel
theorem dX6_takeCoupon_69 : decode cX6_takeCoupon 69 = .ok (.aload_n 0, 1) := by decide +kernel
theorem dX6_takeCoupon_70 : decode cX6_takeCoupon 70 = .ok (.iconst 3, 1) := by decide +kernel
theorem dX6_takeCoupon_71 : decode cX6_takeCoupon 71 = .ok (.iload_n 2, 1) := by decide +kernel
theorem dX6_takeCoupon_72 : decode cX6_takeCoupon 72 = .ok (.invokevirtual 87, 3) := by decide +kernel
theorem dX6_takeCoupon_75 : decode cX6_takeCoupon 75 = .ok (.ireturn, 1) := by decide +kernel
theorem dX6_takeCoupon_76 : decode cX6_takeCoupon 76 = .ok (.aload_n 0, 1) := by decide +kernel
theorem dX6_takeCoupon_77 : decode cX6_takeCoupon 77 = .ok (.bipush 10, 2) := by decide +kernel
theorem dX6_takeCoupon_79 : decode cX6_takeCoupon 79 = .ok (.iload_n 1, 1) := by decide +kernel
theorem dX6_takeCoupon_80 : decode cX6_takeCoupon 80 = .ok (.iadd, 1) := by decide +kernel
theorem dX6_takeCoupon_81 : decode cX6_takeCoupon 81 = .ok (.aload_n 0, 1) := by decide +kernel
theorem dX6_takeCoupon_82 : decode cX6_takeCoupon 82 = .ok (.iconst 0, 1) := by decide +kernel
theorem dX6_takeCoupon_83 : decode cX6_takeCoupon 83 = .ok (.sipush 1000, 3) := by decide +kernel
theorem dX6_takeCoupon_86 : decode cX6_takeCoupon 86 = .ok (.invokevirtual 64, 3) := by decide +kernel
theorem dX6_takeCoupon_89 : decode cX6_takeCoupon 89 = .ok (.invokevirtual 67, 3) := by decide +kernel
theorem dX6_takeCoupon_92 : decode cX6_takeCoupon 92 = .ok (.ireturn, 1) := by decide +kernel
theorem dX6_takeCoupon_93 : decode cX6_takeCoupon 93 = .ok (.iload_n 1, 1) := by decide +kernel
theorem dX6_takeCoupon_94 : decode cX6_takeCoupon 94 = .ok (.sipush 1000, 3) := by decide +kernel
theorem dX6_takeCoupon_97 : decode cX6_takeCoupon 97 = .ok (.if_icmp .le 10, 3) := by decide +kernel
theorem dX6_takeCoupon_100 : decode cX6_takeCoupon 100 = .ok (.aload_n 0, 1) := by decide +kernel
theorem dX6_takeCoupon_101 : decode cX6_takeCoupon 101 = .ok (.iconst 3, 1) := by decide +kernel
theorem dX6_takeCoupon_102 : decode cX6_takeCoupon 102 = .ok (.iload_n 2, 1) := by decide +kernel
theorem dX6_takeCoupon_103 : decode cX6_takeCoupon 103 = .ok (.invokevirtual 87, 3) := by decide +kernel
theorem dX6_takeCoupon_106 : decode cX6_takeCoupon 106 = .ok (.ireturn, 1) := by decide +kernel
theorem dX6_takeCoupon_107 : decode cX6_takeCoupon 107 = .ok (.aload_n 0, 1) := by decide +kernel
theorem dX6_takeCoupon_108 : decode cX6_takeCoupon 108 = .ok (.getfield 22, 3) := by decide +kernel
theorem dX6_takeCoupon_111 : decode cX6_takeCoupon 111 = .ok (.iload_n 1, 1) := by decide +kernel
theorem dX6_takeCoupon_112 : decode cX6_takeCoupon 112 = .ok (.invokevirtual 98, 3) := by decide +kernel
theorem dX6_takeCoupon_115 : decode cX6_takeCoupon 115 = .ok (.iconst 1, 1) := by decide +kernel
theorem dX6_takeCoupon_116 : decode cX6_takeCoupon 116 = .ok (.ireturn, 1) := by decide +kernel
theorem dX6_takeRight_0 : decode cX6_takeRight 0 = .ok (.aload_n 0, 1) := by decide +kernel
theorem dX6_takeRight_1 : decode cX6_takeRight 1 = .ok (.iconst 0, 1) := by decide +kernel
theorem dX6_takeRight_2 : decode cX6_takeRight 2 = .ok (.iconst 5, 1) := by decide +kernel
theorem dX6_takeRight_3 : decode cX6_takeRight 3 = .ok (.invokevirtual 84, 3) := by decide +kernel
theorem dX6_takeRight_6 : decode cX6_takeRight 6 = .ok (.istore_n 2, 1) := by decide +kernel
theorem dX6_takeRight_7 : decode cX6_takeRight 7 = .ok (.iload_n 2, 1) := by decide +kernel
theorem dX6_takeRight_8 : decode cX6_takeRight 8 = .ok (.ifCond .lt 12, 3) := by decide +kernel
theorem dX6_takeRight_11 : decode cX6_takeRight 11 = .ok (.aload_n 0, 1) := by decide +kernel
theorem dX6_takeRight_12 : decode cX6_takeRight 12 = .ok (.bipush 58, 2) := by decide +kernel
theorem dX6_takeRight_14 : decode cX6_takeRight 14 = .ok (.invokevirtual 102, 3) := by decide +kernel
theorem dX6_takeRight_17 : decode cX6_takeRight 17 = .ok (.ifCond .ne 5, 3) := by decide +kernel
theorem dX6_takeRight_20 : decode cX6_takeRight 20 = .ok (.iconst 0, 1) := by decide +kernel
theorem dX6_takeRight_21 : decode cX6_takeRight 21 = .ok (.ireturn, 1) := by decide +kernel
theorem dX6_takeRight_22 : decode cX6_takeRight 22 = .ok (.aload_n 0, 1) := by decide +kernel
theorem dX6_takeRight_23 : decode cX6_takeRight 23 = .ok (.invokevirtual 55, 3) := by decide +kernel
theorem dX6_takeRight_26 : decode cX6_takeRight 26 = .ok (.bipush 45, 2) := by decide +kernel
theorem dX6_takeRight_28 : decode cX6_takeRight 28 = .ok (.if_icmp .ne 27, 3) := by decide +kernel
theorem dX6_takeRight_31 : decode cX6_takeRight 31 = .ok (.aload_n 0, 1) := by decide +kernel
theorem dX6_takeRight_32 : decode cX6_takeRight 32 = .ok (.dup, 1) := by decide +kernel
theorem dX6_takeRight_33 : decode cX6_takeRight 33 = .ok (.getfield 29, 3) := by decide +kernel
theorem dX6_takeRight_36 : decode cX6_takeRight 36 = .ok (.iconst 1, 1) := by decide +kernel
theorem dX6_takeRight_37 : decode cX6_takeRight 37 = .ok (.iadd, 1) := by decide +kernel
theorem dX6_takeRight_38 : decode cX6_takeRight 38 = .ok (.putfield 29, 3) := by decide +kernel
theorem dX6_takeRight_41 : decode cX6_takeRight 41 = .ok (.aload_n 0, 1) := by decide +kernel
theorem dX6_takeRight_42 : decode cX6_takeRight 42 = .ok (.getfield 22, 3) := by decide +kernel
theorem dX6_takeRight_45 : decode cX6_takeRight 45 = .ok (.iload_n 1, 1) := by decide +kernel
theorem dX6_takeRight_46 : decode cX6_takeRight 46 = .ok (.iload_n 2, 1) := by decide +kernel
theorem dX6_takeRight_47 : decode cX6_takeRight 47 = .ok (.iadd, 1) := by decide +kernel
theorem dX6_takeRight_48 : decode cX6_takeRight 48 = .ok (.bipush (-2), 2) := by decide +kernel
theorem dX6_takeRight_50 : decode cX6_takeRight 50 = .ok (.invokevirtual 105, 3) := by decide +kernel
theorem dX6_takeRight_53 : decode cX6_takeRight 53 = .ok (.iconst 1, 1) := by decide +kernel
theorem dX6_takeRight_54 : decode cX6_takeRight 54 = .ok (.ireturn, 1) := by decide +kernel
theorem dX6_takeRight_55 : decode cX6_takeRight 55 = .ok (.aload_n 0, 1) := by decide +kernel
theorem dX6_takeRight_56 : decode cX6_takeRight 56 = .ok (.iload_n 1, 1) := by decide +kernel
theorem dX6_takeRight_57 : decode cX6_takeRight 57 = .ok (.iload_n 2, 1) := by decide +kernel
theorem dX6_takeRight_58 : decode cX6_takeRight 58 = .ok (.iadd, 1) := by decide +kernel
theorem dX6_takeRight_59 : decode cX6_takeRight 59 = .ok (.aload_n 0, 1) := by decide +kernel
theorem dX6_takeRight_60 : decode cX6_takeRight 60 = .ok (.iconst 0, 1) := by decide +kernel
theorem dX6_takeRight_61 : decode cX6_takeRight 61 = .ok (.ldc 63, 2) := by decide +kernel
theorem dX6_takeRight_63 : decode cX6_takeRight 63 = .ok (.invokevirtual 64, 3) := by decide +kernel
theorem dX6_takeRight_66 : decode cX6_takeRight 66 = .ok (.invokevirtual 67, 3) := by decide +kernel
theorem dX6_takeRight_69 : decode cX6_takeRight 69 = .ok (.ireturn, 1) := by decide +kernel
theorem dX6_takeWindow_0 : decode cX6_takeWindow 0 = .ok (.aload_n 0, 1) := by decide +kernel
theorem dX6_takeWindow_1 : decode cX6_takeWindow 1 = .ok (.iconst 0, 1) := by decide +kernel
theorem dX6_takeWindow_2 : decode cX6_takeWindow 2 = .ok (.bipush 6, 2) := by decide +kernel
theorem dX6_takeWindow_4 : decode cX6_takeWindow 4 = .ok (.invokevirtual 84, 3) := by decide +kernel
theorem dX6_takeWindow_7 : decode cX6_takeWindow 7 = .ok (.istore_n 1, 1) := by decide +kernel
theorem dX6_takeWindow_8 : decode cX6_takeWindow 8 = .ok (.iload_n 1, 1) := by decide +kernel
theorem dX6_takeWindow_9 : decode cX6_takeWindow 9 = .ok (.ifCond .lt 12, 3) := by decide +kernel
theorem dX6_takeWindow_12 : decode cX6_takeWindow 12 = .ok (.aload_n 0, 1) := by decide +kernel
theorem dX6_takeWindow_13 : decode cX6_takeWindow 13 = .ok (.bipush 45, 2) := by decide +kernel
theorem dX6_takeWindow_15 : decode cX6_takeWindow 15 = .ok (.invokevirtual 102, 3) := by decide +kernel
theorem dX6_takeWindow_18 : decode cX6_takeWindow 18 = .ok (.ifCond .ne 5, 3) := by decide +kernel
theorem dX6_takeWindow_21 : decode cX6_takeWindow 21 = .ok (.iconst 0, 1) := by decide +kernel
theorem dX6_takeWindow_22 : decode cX6_takeWindow 22 = .ok (.ireturn, 1) := by decide +kernel
theorem dX6_takeWindow_23 : decode cX6_takeWindow 23 = .ok (.aload_n 0, 1) := by decide +kernel
theorem dX6_takeWindow_24 : decode cX6_takeWindow 24 = .ok (.iconst 3, 1) := by decide +kernel
theorem dX6_takeWindow_25 : decode cX6_takeWindow 25 = .ok (.aload_n 0, 1) := by decide +kernel
theorem dX6_takeWindow_26 : decode cX6_takeWindow 26 = .ok (.iload_n 1, 1) := by decide +kernel
theorem dX6_takeWindow_27 : decode cX6_takeWindow 27 = .ok (.bipush 6, 2) := by decide +kernel
theorem dX6_takeWindow_29 : decode cX6_takeWindow 29 = .ok (.invokevirtual 84, 3) := by decide +kernel
theorem dX6_takeWindow_32 : decode cX6_takeWindow 32 = .ok (.invokevirtual 67, 3) := by decide +kernel
theorem dX6_takeWindow_35 : decode cX6_takeWindow 35 = .ok (.ifCond .eq 16, 3) := by decide +kernel
theorem dX6_takeWindow_38 : decode cX6_takeWindow 38 = .ok (.aload_n 0, 1) := by decide +kernel
theorem dX6_takeWindow_39 : decode cX6_takeWindow 39 = .ok (.iconst 2, 1) := by decide +kernel
theorem dX6_takeWindow_40 : decode cX6_takeWindow 40 = .ok (.iload_n 1, 1) := by decide +kernel
theorem dX6_takeWindow_41 : decode cX6_takeWindow 41 = .ok (.invokevirtual 67, 3) := by decide +kernel
theorem dX6_takeWindow_44 : decode cX6_takeWindow 44 = .ok (.ifCond .eq 7, 3) := by decide +kernel
theorem dX6_takeWindow_47 : decode cX6_takeWindow 47 = .ok (.iconst 1, 1) := by decide +kernel
theorem dX6_takeWindow_48 : decode cX6_takeWindow 48 = .ok (.goto 4, 3) := by decide +kernel
theorem dX6_takeWindow_51 : decode cX6_takeWindow 51 = .ok (.iconst 0, 1) := by decide +kernel
theorem dX6_takeWindow_52 : decode cX6_takeWindow 52 = .ok (.ireturn, 1) := by decide +kernel
theorem dX6_takeSoft_0 : decode cX6_takeSoft 0 = .ok (.aload_n 0, 1) := by decide +kernel
theorem dX6_takeSoft_1 : decode cX6_takeSoft 1 = .ok (.iconst 0, 1) := by decide +kernel
theorem dX6_takeSoft_2 : decode cX6_takeSoft 2 = .ok (.iconst 3, 1) := by decide +kernel
theorem dX6_takeSoft_3 : decode cX6_takeSoft 3 = .ok (.invokevirtual 84, 3) := by decide +kernel
theorem dX6_takeSoft_6 : decode cX6_takeSoft 6 = .ok (.istore_n 1, 1) := by decide +kernel
theorem dX6_takeSoft_7 : decode cX6_takeSoft 7 = .ok (.iload_n 1, 1) := by decide +kernel
theorem dX6_takeSoft_8 : decode cX6_takeSoft 8 = .ok (.ifCond .lt 12, 3) := by decide +kernel
theorem dX6_takeSoft_11 : decode cX6_takeSoft 11 = .ok (.aload_n 0, 1) := by decide +kernel
theorem dX6_takeSoft_12 : decode cX6_takeSoft 12 = .ok (.bipush 47, 2) := by decide +kernel
theorem dX6_takeSoft_14 : decode cX6_takeSoft 14 = .ok (.invokevirtual 102, 3) := by decide +kernel
theorem dX6_takeSoft_17 : decode cX6_takeSoft 17 = .ok (.ifCond .ne 5, 3) := by decide +kernel
theorem dX6_takeSoft_20 : decode cX6_takeSoft 20 = .ok (.iconst 0, 1) := by decide +kernel
theorem dX6_takeSoft_21 : decode cX6_takeSoft 21 = .ok (.ireturn, 1) := by decide +kernel
theorem dX6_takeSoft_22 : decode cX6_takeSoft 22 = .ok (.aload_n 0, 1) := by decide +kernel
theorem dX6_takeSoft_23 : decode cX6_takeSoft 23 = .ok (.iconst 1, 1) := by decide +kernel
theorem dX6_takeSoft_24 : decode cX6_takeSoft 24 = .ok (.iload_n 1, 1) := by decide +kernel
theorem dX6_takeSoft_25 : decode cX6_takeSoft 25 = .ok (.invokestatic 109, 3) := by decide +kernel
theorem dX6_takeSoft_28 : decode cX6_takeSoft 28 = .ok (.iconst 3, 1) := by decide +kernel
theorem dX6_takeSoft_29 : decode cX6_takeSoft 29 = .ok (.invokevirtual 84, 3) := by decide +kernel
theorem dX6_takeSoft_32 : decode cX6_takeSoft 32 = .ok (.istore_n 2, 1) := by decide +kernel
theorem dX6_takeSoft_33 : decode cX6_takeSoft 33 = .ok (.iload_n 2, 1) := by decide +kernel
theorem dX6_takeSoft_34 : decode cX6_takeSoft 34 = .ok (.ifCond .lt 12, 3) := by decide +kernel
theorem dX6_takeSoft_37 : decode cX6_takeSoft 37 = .ok (.aload_n 0, 1) := by decide +kernel
theorem dX6_takeSoft_38 : decode cX6_takeSoft 38 = .ok (.bipush 47, 2) := by decide +kernel
theorem dX6_takeSoft_40 : decode cX6_takeSoft 40 = .ok (.invokevirtual 102, 3) := by decide +kernel
theorem dX6_takeSoft_43 : decode cX6_takeSoft 43 = .ok (.ifCond .ne 5, 3) := by decide +kernel
theorem dX6_takeSoft_46 : decode cX6_takeSoft 46 = .ok (.iconst 0, 1) := by decide +kernel
theorem dX6_takeSoft_47 : decode cX6_takeSoft 47 = .ok (.ireturn, 1) := by decide +kernel
theorem dX6_takeSoft_48 : decode cX6_takeSoft 48 = .ok (.aload_n 0, 1) := by decide +kernel
theorem dX6_takeSoft_49 : decode cX6_takeSoft 49 = .ok (.bipush 6, 2) := by decide +kernel
theorem dX6_takeSoft_51 : decode cX6_takeSoft 51 = .ok (.aload_n 0, 1) := by decide +kernel
theorem dX6_takeSoft_52 : decode cX6_takeSoft 52 = .ok (.iconst 0, 1) := by decide +kernel
theorem dX6_takeSoft_53 : decode cX6_takeSoft 53 = .ok (.ldc 63, 2) := by decide +kernel
theorem dX6_takeSoft_55 : decode cX6_takeSoft 55 = .ok (.invokevirtual 64, 3) := by decide +kernel
theorem dX6_takeSoft_58 : decode cX6_takeSoft 58 = .ok (.invokevirtual 67, 3) := by decide +kernel
theorem dX6_takeSoft_61 : decode cX6_takeSoft 61 = .ok (.ifCond .eq 25, 3) := by decide +kernel
theorem dX6_takeSoft_64 : decode cX6_takeSoft 64 = .ok (.aload_n 0, 1) := by decide +kernel
theorem dX6_takeSoft_65 : decode cX6_takeSoft 65 = .ok (.iconst 5, 1) := by decide +kernel
theorem dX6_takeSoft_66 : decode cX6_takeSoft 66 = .ok (.iload_n 2, 1) := by decide +kernel
theorem dX6_takeSoft_67 : decode cX6_takeSoft 67 = .ok (.invokevirtual 67, 3) := by decide +kernel
theorem dX6_takeSoft_70 : decode cX6_takeSoft 70 = .ok (.ifCond .eq 16, 3) := by decide +kernel
theorem dX6_takeSoft_73 : decode cX6_takeSoft 73 = .ok (.aload_n 0, 1) := by decide +kernel
theorem dX6_takeSoft_74 : decode cX6_takeSoft 74 = .ok (.iconst 4, 1) := by decide +kernel
theorem dX6_takeSoft_75 : decode cX6_takeSoft 75 = .ok (.iload_n 1, 1) := by decide +kernel
theorem dX6_takeSoft_76 : decode cX6_takeSoft 76 = .ok (.invokevirtual 67, 3) := by decide +kernel
theorem dX6_takeSoft_79 : decode cX6_takeSoft 79 = .ok (.ifCond .eq 7, 3) := by decide +kernel
theorem dX6_takeSoft_82 : decode cX6_takeSoft 82 = .ok (.iconst 1, 1) := by decide +kernel
theorem dX6_takeSoft_83 : decode cX6_takeSoft 83 = .ok (.goto 4, 3) := by decide +kernel
theorem dX6_takeSoft_86 : decode cX6_takeSoft 86 = .ok (.iconst 0, 1) := by decide +kernel
theorem dX6_takeSoft_87 : decode cX6_takeSoft 87 = .ok (.ireturn, 1) := by decide +kernel
theorem dX6_store_0 : decode cX6_store 0 = .ok (.iload_n 2, 1) := by decide +kernel
theorem dX6_store_1 : decode cX6_store 1 = .ok (.ifCond .ge 5, 3) := by decide +kernel
theorem dX6_store_4 : decode cX6_store 4 = .ok (.iconst 0, 1) := by decide +kernel
theorem dX6_store_5 : decode cX6_store 5 = .ok (.ireturn, 1) := by decide +kernel
theorem dX6_store_6 : decode cX6_store 6 = .ok (.aload_n 0, 1) := by decide +kernel
theorem dX6_store_7 : decode cX6_store 7 = .ok (.getfield 22, 3) := by decide +kernel
theorem dX6_store_10 : decode cX6_store 10 = .ok (.iload_n 1, 1) := by decide +kernel
theorem dX6_store_11 : decode cX6_store 11 = .ok (.iload_n 2, 1) := by decide +kernel
theorem dX6_store_12 : decode cX6_store 12 = .ok (.invokevirtual 105, 3) := by decide +kernel
theorem dX6_store_15 : decode cX6_store 15 = .ok (.iconst 1, 1) := by decide +kernel
theorem dX6_store_16 : decode cX6_store 16 = .ok (.ireturn, 1) := by decide +kernel
theorem dX6_look_0 : decode cX6_look 0 = .ok (.aload_n 0, 1) := by decide +kernel
theorem dX6_look_1 : decode cX6_look 1 = .ok (.getfield 29, 3) := by decide +kernel
theorem dX6_look_4 : decode cX6_look 4 = .ok (.aload_n 0, 1) := by decide +kernel
theorem dX6_look_5 : decode cX6_look 5 = .ok (.getfield 26, 3) := by decide +kernel
theorem dX6_look_8 : decode cX6_look 8 = .ok (.if_icmp .ge 29, 3) := by decide +kernel
theorem dX6_look_11 : decode cX6_look 11 = .ok (.aload_n 0, 1) := by decide +kernel
theorem dX6_look_12 : decode cX6_look 12 = .ok (.aload_n 0, 1) := by decide +kernel
theorem dX6_look_13 : decode cX6_look 13 = .ok (.getfield 29, 3) := by decide +kernel
theorem dX6_look_16 : decode cX6_look 16 = .ok (.invokevirtual 112, 3) := by decide +kernel
theorem dX6_look_19 : decode cX6_look 19 = .ok (.bipush 32, 2) := by decide +kernel
theorem dX6_look_21 : decode cX6_look 21 = .ok (.if_icmp .ne 16, 3) := by decide +kernel
theorem dX6_look_24 : decode cX6_look 24 = .ok (.aload_n 0, 1) := by decide +kernel
theorem dX6_look_25 : decode cX6_look 25 = .ok (.dup, 1) := by decide +kernel
theorem dX6_look_26 : decode cX6_look 26 = .ok (.getfield 29, 3) := by decide +kernel
theorem dX6_look_29 : decode cX6_look 29 = .ok (.iconst 1, 1) := by decide +kernel
theorem dX6_look_30 : decode cX6_look 30 = .ok (.iadd, 1) := by decide +kernel
theorem dX6_look_31 : decode cX6_look 31 = .ok (.putfield 29, 3) := by decide +kernel
theorem dX6_look_34 : decode cX6_look 34 = .ok (.goto (-34), 3) := by decide +kernel
theorem dX6_look_37 : decode cX6_look 37 = .ok (.aload_n 0, 1) := by decide +kernel
theorem dX6_look_38 : decode cX6_look 38 = .ok (.aload_n 0, 1) := by decide +kernel
theorem dX6_look_39 : decode cX6_look 39 = .ok (.getfield 29, 3) := by decide +kernel
theorem dX6_look_42 : decode cX6_look 42 = .ok (.invokevirtual 112, 3) := by decide +kernel
theorem dX6_look_45 : decode cX6_look 45 = .ok (.ireturn, 1) := by decide +kernel
theorem dX6_byteAt_0 : decode cX6_byteAt 0 = .ok (.iconst 0, 1) := by decide +kernel
theorem dX6_byteAt_1 : decode cX6_byteAt 1 = .ok (.iload_n 1, 1) := by decide +kernel
theorem dX6_byteAt_2 : decode cX6_byteAt 2 = .ok (.if_icmp .gt 27, 3) := by decide +kernel
theorem dX6_byteAt_5 : decode cX6_byteAt 5 = .ok (.iload_n 1, 1) := by decide +kernel
theorem dX6_byteAt_6 : decode cX6_byteAt 6 = .ok (.aload_n 0, 1) := by decide +kernel
theorem dX6_byteAt_7 : decode cX6_byteAt 7 = .ok (.getfield 26, 3) := by decide +kernel
theorem dX6_byteAt_10 : decode cX6_byteAt 10 = .ok (.if_icmp .ge 19, 3) := by decide +kernel
theorem dX6_byteAt_13 : decode cX6_byteAt 13 = .ok (.iload_n 1, 1) := by decide +kernel
theorem dX6_byteAt_14 : decode cX6_byteAt 14 = .ok (.sipush 200, 3) := by decide +kernel
theorem dX6_byteAt_17 : decode cX6_byteAt 17 = .ok (.if_icmp .ge 12, 3) := by decide +kernel
theorem dX6_byteAt_20 : decode cX6_byteAt 20 = .ok (.aload_n 0, 1) := by decide +kernel
theorem dX6_byteAt_21 : decode cX6_byteAt 21 = .ok (.getfield 9, 3) := by decide +kernel
theorem dX6_byteAt_24 : decode cX6_byteAt 24 = .ok (.iload_n 1, 1) := by decide +kernel
theorem dX6_byteAt_25 : decode cX6_byteAt 25 = .ok (.iaload, 1) := by decide +kernel
theorem dX6_byteAt_26 : decode cX6_byteAt 26 = .ok (.goto 4, 3) := by decide +kernel
theorem dX6_byteAt_29 : decode cX6_byteAt 29 = .ok (.iconst (-1), 1) := by decide +kernel
theorem dX6_byteAt_30 : decode cX6_byteAt 30 = .ok (.ireturn, 1) := by decide +kernel
theorem dX6_takeSign_0 : decode cX6_takeSign 0 = .ok (.aload_n 0, 1) := by decide +kernel
theorem dX6_takeSign_1 : decode cX6_takeSign 1 = .ok (.invokevirtual 55, 3) := by decide +kernel
theorem dX6_takeSign_4 : decode cX6_takeSign 4 = .ok (.iload_n 1, 1) := by decide +kernel
theorem dX6_takeSign_5 : decode cX6_takeSign 5 = .ok (.if_icmp .eq 13, 3) := by decide +kernel
theorem dX6_takeSign_8 : decode cX6_takeSign 8 = .ok (.aload_n 0, 1) := by decide +kernel
theorem dX6_takeSign_9 : decode cX6_takeSign 9 = .ok (.iconst 1, 1) := by decide +kernel
theorem dX6_takeSign_10 : decode cX6_takeSign 10 = .ok (.aload_n 0, 1) := by decide +kernel
theorem dX6_takeSign_11 : decode cX6_takeSign 11 = .ok (.getfield 29, 3) := by decide +kernel
theorem dX6_takeSign_14 : decode cX6_takeSign 14 = .ok (.invokevirtual 87, 3) := by decide +kernel
theorem dX6_takeSign_17 : decode cX6_takeSign 17 = .ok (.ireturn, 1) := by decide +kernel
theorem dX6_takeSign_18 : decode cX6_takeSign 18 = .ok (.aload_n 0, 1) := by decide +kernel
theorem dX6_takeSign_19 : decode cX6_takeSign 19 = .ok (.dup, 1) := by decide +kernel
theorem dX6_takeSign_20 : decode cX6_takeSign 20 = .ok (.getfield 29, 3) := by decide +kernel
theorem dX6_takeSign_23 : decode cX6_takeSign 23 = .ok (.iconst 1, 1) := by decide +kernel
theorem dX6_takeSign_24 : decode cX6_takeSign 24 = .ok (.iadd, 1) := by decide +kernel
theorem dX6_takeSign_25 : decode cX6_takeSign 25 = .ok (.putfield 29, 3) := by decide +kernel
theorem dX6_takeSign_28 : decode cX6_takeSign 28 = .ok (.iconst 1, 1) := by decide +kernel
theorem dX6_takeSign_29 : decode cX6_takeSign 29 = .ok (.ireturn, 1) := by decide +kernel
theorem dX6_takeDigit_0 : decode cX6_takeDigit 0 = .ok (.aload_n 0, 1) := by decide +kernel
theorem dX6_takeDigit_1 : decode cX6_takeDigit 1 = .ok (.invokevirtual 55, 3) := by decide +kernel
theorem dX6_takeDigit_4 : decode cX6_takeDigit 4 = .ok (.istore_n 3, 1) := by decide +kernel
theorem dX6_takeDigit_5 : decode cX6_takeDigit 5 = .ok (.iload_n 3, 1) := by decide +kernel
theorem dX6_takeDigit_6 : decode cX6_takeDigit 6 = .ok (.invokestatic 115, 3) := by decide +kernel
theorem dX6_takeDigit_9 : decode cX6_takeDigit 9 = .ok (.ifCond .ne 13, 3) := by decide +kernel
theorem dX6_takeDigit_12 : decode cX6_takeDigit 12 = .ok (.aload_n 0, 1) := by decide +kernel
theorem dX6_takeDigit_13 : decode cX6_takeDigit 13 = .ok (.iconst 1, 1) := by decide +kernel
theorem dX6_takeDigit_14 : decode cX6_takeDigit 14 = .ok (.aload_n 0, 1) := by decide +kernel
theorem dX6_takeDigit_15 : decode cX6_takeDigit 15 = .ok (.getfield 29, 3) := by decide +kernel
theorem dX6_takeDigit_18 : decode cX6_takeDigit 18 = .ok (.invokevirtual 118, 3) := by decide +kernel
theorem dX6_takeDigit_21 : decode cX6_takeDigit 21 = .ok (.ireturn, 1) := by decide +kernel
theorem dX6_takeDigit_22 : decode cX6_takeDigit 22 = .ok (.iload_n 3, 1) := by decide +kernel
theorem dX6_takeDigit_23 : decode cX6_takeDigit 23 = .ok (.bipush 48, 2) := by decide +kernel
theorem dX6_takeDigit_25 : decode cX6_takeDigit 25 = .ok (.isub, 1) := by decide +kernel
theorem dX6_takeDigit_26 : decode cX6_takeDigit 26 = .ok (.iload_n 1, 1) := by decide +kernel
theorem dX6_takeDigit_27 : decode cX6_takeDigit 27 = .ok (.iload_n 2, 1) := by decide +kernel
theorem dX6_takeDigit_28 : decode cX6_takeDigit 28 = .ok (.invokestatic 94, 3) := by decide +kernel
theorem dX6_takeDigit_31 : decode cX6_takeDigit 31 = .ok (.ifCond .ne 13, 3) := by decide +kernel
theorem dX6_takeDigit_34 : decode cX6_takeDigit 34 = .ok (.aload_n 0, 1) := by decide +kernel
theorem dX6_takeDigit_35 : decode cX6_takeDigit 35 = .ok (.iconst 3, 1) := by decide +kernel
theorem dX6_takeDigit_36 : decode cX6_takeDigit 36 = .ok (.aload_n 0, 1) := by decide +kernel
theorem dX6_takeDigit_37 : decode cX6_takeDigit 37 = .ok (.getfield 29, 3) := by decide +kernel
theorem dX6_takeDigit_40 : decode cX6_takeDigit 40 = .ok (.invokevirtual 118, 3) := by decide +kernel
theorem dX6_takeDigit_43 : decode cX6_takeDigit 43 = .ok (.ireturn, 1) := by decide +kernel
theorem dX6_takeDigit_44 : decode cX6_takeDigit 44 = .ok (.aload_n 0, 1) := by decide +kernel
theorem dX6_takeDigit_45 : decode cX6_takeDigit 45 = .ok (.dup, 1) := by decide +kernel
theorem dX6_takeDigit_46 : decode cX6_takeDigit 46 = .ok (.getfield 29, 3) := by decide +kernel
theorem dX6_takeDigit_49 : decode cX6_takeDigit 49 = .ok (.iconst 1, 1) := by decide +kernel
theorem dX6_takeDigit_50 : decode cX6_takeDigit 50 = .ok (.iadd, 1) := by decide +kernel
theorem dX6_takeDigit_51 : decode cX6_takeDigit 51 = .ok (.putfield 29, 3) := by decide +kernel
theorem dX6_takeDigit_54 : decode cX6_takeDigit 54 = .ok (.iload_n 3, 1) := by decide +kernel
theorem dX6_takeDigit_55 : decode cX6_takeDigit 55 = .ok (.bipush 48, 2) := by decide +kernel
theorem dX6_takeDigit_57 : decode cX6_takeDigit 57 = .ok (.isub, 1) := by decide +kernel
theorem dX6_takeDigit_58 : decode cX6_takeDigit 58 = .ok (.ireturn, 1) := by decide +kernel
theorem dX6_takeNumber_0 : decode cX6_takeNumber 0 = .ok (.aload_n 0, 1) := by decide +kernel
theorem dX6_takeNumber_1 : decode cX6_takeNumber 1 = .ok (.aload_n 0, 1) := by decide +kernel
theorem dX6_takeNumber_2 : decode cX6_takeNumber 2 = .ok (.invokevirtual 55, 3) := by decide +kernel
theorem dX6_takeNumber_5 : decode cX6_takeNumber 5 = .ok (.invokevirtual 90, 3) := by decide +kernel
theorem dX6_takeNumber_8 : decode cX6_takeNumber 8 = .ok (.istore_n 3, 1) := by decide +kernel
theorem dX6_takeNumber_9 : decode cX6_takeNumber 9 = .ok (.iload_n 3, 1) := by decide +kernel
theorem dX6_takeNumber_10 : decode cX6_takeNumber 10 = .ok (.ifCond .lt 12, 3) := by decide +kernel
theorem dX6_takeNumber_13 : decode cX6_takeNumber 13 = .ok (.iload_n 3, 1) := by decide +kernel
theorem dX6_takeNumber_14 : decode cX6_takeNumber 14 = .ok (.iload_n 1, 1) := by decide +kernel
theorem dX6_takeNumber_15 : decode cX6_takeNumber 15 = .ok (.iload_n 2, 1) := by decide +kernel
theorem dX6_takeNumber_16 : decode cX6_takeNumber 16 = .ok (.invokestatic 94, 3) := by decide +kernel
theorem dX6_takeNumber_19 : decode cX6_takeNumber 19 = .ok (.ifCond .eq 5, 3) := by decide +kernel
theorem dX6_takeNumber_22 : decode cX6_takeNumber 22 = .ok (.iload_n 3, 1) := by decide +kernel
theorem dX6_takeNumber_23 : decode cX6_takeNumber 23 = .ok (.ireturn, 1) := by decide +kernel
theorem dX6_takeNumber_24 : decode cX6_takeNumber 24 = .ok (.aload_n 0, 1) := by decide +kernel
theorem dX6_takeNumber_25 : decode cX6_takeNumber 25 = .ok (.iconst 3, 1) := by decide +kernel
theorem dX6_takeNumber_26 : decode cX6_takeNumber 26 = .ok (.aload_n 0, 1) := by decide +kernel
theorem dX6_takeNumber_27 : decode cX6_takeNumber 27 = .ok (.getfield 38, 3) := by decide +kernel
theorem dX6_takeNumber_30 : decode cX6_takeNumber 30 = .ok (.invokevirtual 118, 3) := by decide +kernel
theorem dX6_takeNumber_33 : decode cX6_takeNumber 33 = .ok (.ireturn, 1) := by decide +kernel
theorem dX6_takeDigits_0 : decode cX6_takeDigits 0 = .ok (.iload_n 1, 1) := by decide +kernel
theorem dX6_takeDigits_1 : decode cX6_takeDigits 1 = .ok (.invokestatic 115, 3) := by decide +kernel
theorem dX6_takeDigits_4 : decode cX6_takeDigits 4 = .ok (.ifCond .ne 13, 3) := by decide +kernel
theorem dX6_takeDigits_7 : decode cX6_takeDigits 7 = .ok (.aload_n 0, 1) := by decide +kernel
theorem dX6_takeDigits_8 : decode cX6_takeDigits 8 = .ok (.iconst 1, 1) := by decide +kernel
theorem dX6_takeDigits_9 : decode cX6_takeDigits 9 = .ok (.aload_n 0, 1) := by decide +kernel
theorem dX6_takeDigits_10 : decode cX6_takeDigits 10 = .ok (.getfield 29, 3) := by decide +kernel
theorem dX6_takeDigits_13 : decode cX6_takeDigits 13 = .ok (.invokevirtual 118, 3) := by decide +kernel
theorem dX6_takeDigits_16 : decode cX6_takeDigits 16 = .ok (.ireturn, 1) := by decide +kernel
theorem dX6_takeDigits_17 : decode cX6_takeDigits 17 = .ok (.aload_n 0, 1) := by decide +kernel
theorem dX6_takeDigits_18 : decode cX6_takeDigits 18 = .ok (.aload_n 0, 1) := by decide +kernel
theorem dX6_takeDigits_19 : decode cX6_takeDigits 19 = .ok (.getfield 29, 3) := by decide +kernel
theorem dX6_takeDigits_22 : decode cX6_takeDigits 22 = .ok (.putfield 38, 3) := by decide +kernel
theorem dX6_takeDigits_25 : decode cX6_takeDigits 25 = .ok (.iconst 0, 1) := by decide +kernel
theorem dX6_takeDigits_26 : decode cX6_takeDigits 26 = .ok (.istore_n 2, 1) := by decide +kernel
theorem dX6_takeDigits_27 : decode cX6_takeDigits 27 = .ok (.aload_n 0, 1) := by decide +kernel
theorem dX6_takeDigits_28 : decode cX6_takeDigits 28 = .ok (.getfield 29, 3) := by decide +kernel
theorem dX6_takeDigits_31 : decode cX6_takeDigits 31 = .ok (.aload_n 0, 1) := by decide +kernel
theorem dX6_takeDigits_32 : decode cX6_takeDigits 32 = .ok (.getfield 26, 3) := by decide +kernel
theorem dX6_takeDigits_35 : decode cX6_takeDigits 35 = .ok (.if_icmp .ge 71, 3) := by decide +kernel
theorem dX6_takeDigits_38 : decode cX6_takeDigits 38 = .ok (.aload_n 0, 1) := by decide +kernel
theorem dX6_takeDigits_39 : decode cX6_takeDigits 39 = .ok (.aload_n 0, 1) := by decide +kernel
theorem dX6_takeDigits_40 : decode cX6_takeDigits 40 = .ok (.getfield 29, 3) := by decide +kernel
theorem dX6_takeDigits_43 : decode cX6_takeDigits 43 = .ok (.invokevirtual 112, 3) := by decide +kernel
theorem dX6_takeDigits_46 : decode cX6_takeDigits 46 = .ok (.invokestatic 115, 3) := by decide +kernel
theorem dX6_takeDigits_49 : decode cX6_takeDigits 49 = .ok (.ifCond .eq 57, 3) := by decide +kernel
theorem dX6_takeDigits_52 : decode cX6_takeDigits 52 = .ok (.aload_n 0, 1) := by decide +kernel
theorem dX6_takeDigits_53 : decode cX6_takeDigits 53 = .ok (.getfield 29, 3) := by decide +kernel
theorem dX6_takeDigits_56 : decode cX6_takeDigits 56 = .ok (.aload_n 0, 1) := by decide +kernel
theorem dX6_takeDigits_57 : decode cX6_takeDigits 57 = .ok (.getfield 38, 3) := by decide +kernel
theorem dX6_takeDigits_60 : decode cX6_takeDigits 60 = .ok (.isub, 1) := by decide +kernel
theorem dX6_takeDigits_61 : decode cX6_takeDigits 61 = .ok (.bipush 7, 2) := by decide +kernel
theorem dX6_takeDigits_63 : decode cX6_takeDigits 63 = .ok (.if_icmp .ne 13, 3) := by decide +kernel
theorem dX6_takeDigits_66 : decode cX6_takeDigits 66 = .ok (.aload_n 0, 1) := by decide +kernel
theorem dX6_takeDigits_67 : decode cX6_takeDigits 67 = .ok (.iconst 2, 1) := by decide +kernel
theorem dX6_takeDigits_68 : decode cX6_takeDigits 68 = .ok (.aload_n 0, 1) := by decide +kernel
theorem dX6_takeDigits_69 : decode cX6_takeDigits 69 = .ok (.getfield 29, 3) := by decide +kernel
theorem dX6_takeDigits_72 : decode cX6_takeDigits 72 = .ok (.invokevirtual 118, 3) := by decide +kernel
theorem dX6_takeDigits_75 : decode cX6_takeDigits 75 = .ok (.ireturn, 1) := by decide +kernel
theorem dX6_takeDigits_76 : decode cX6_takeDigits 76 = .ok (.iload_n 2, 1) := by decide +kernel
theorem dX6_takeDigits_77 : decode cX6_takeDigits 77 = .ok (.bipush 10, 2) := by decide +kernel
theorem dX6_takeDigits_79 : decode cX6_takeDigits 79 = .ok (.imul, 1) := by decide +kernel
theorem dX6_takeDigits_80 : decode cX6_takeDigits 80 = .ok (.aload_n 0, 1) := by decide +kernel
theorem dX6_takeDigits_81 : decode cX6_takeDigits 81 = .ok (.aload_n 0, 1) := by decide +kernel
theorem dX6_takeDigits_82 : decode cX6_takeDigits 82 = .ok (.getfield 29, 3) := by decide +kernel
theorem dX6_takeDigits_85 : decode cX6_takeDigits 85 = .ok (.invokevirtual 112, 3) := by decide +kernel
theorem dX6_takeDigits_88 : decode cX6_takeDigits 88 = .ok (.iadd, 1) := by decide +kernel
theorem dX6_takeDigits_89 : decode cX6_takeDigits 89 = .ok (.bipush 48, 2) := by decide +kernel
theorem dX6_takeDigits_91 : decode cX6_takeDigits 91 = .ok (.isub, 1) := by decide +kernel
theorem dX6_takeDigits_92 : decode cX6_takeDigits 92 = .ok (.istore_n 2, 1) := by decide +kernel
theorem dX6_takeDigits_93 : decode cX6_takeDigits 93 = .ok (.aload_n 0, 1) := by decide +kernel
theorem dX6_takeDigits_94 : decode cX6_takeDigits 94 = .ok (.dup, 1) := by decide +kernel
theorem dX6_takeDigits_95 : decode cX6_takeDigits 95 = .ok (.getfield 29, 3) := by decide +kernel
theorem dX6_takeDigits_98 : decode cX6_takeDigits 98 = .ok (.iconst 1, 1) := by decide +kernel
theorem dX6_takeDigits_99 : decode cX6_takeDigits 99 = .ok (.iadd, 1) := by decide +kernel
theorem dX6_takeDigits_100 : decode cX6_takeDigits 100 = .ok (.putfield 29, 3) := by decide +kernel
theorem dX6_takeDigits_103 : decode cX6_takeDigits 103 = .ok (.goto (-76), 3) := by decide +kernel
theorem dX6_takeDigits_106 : decode cX6_takeDigits 106 = .ok (.iload_n 2, 1) := by decide +kernel
theorem dX6_takeDigits_107 : decode cX6_takeDigits 107 = .ok (.ireturn, 1) := by decide +kernel
theorem dX6_isDigit_0 : decode cX6_isDigit 0 = .ok (.bipush 48, 2) := by decide +kernel
theorem dX6_isDigit_2 : decode cX6_isDigit 2 = .ok (.iload_n 0, 1) := by decide +kernel
theorem dX6_isDigit_3 : decode cX6_isDigit 3 = .ok (.if_icmp .gt 13, 3) := by decide +kernel
theorem dX6_isDigit_6 : decode cX6_isDigit 6 = .ok (.iload_n 0, 1) := by decide +kernel
theorem dX6_isDigit_7 : decode cX6_isDigit 7 = .ok (.bipush 57, 2) := by decide +kernel
theorem dX6_isDigit_9 : decode cX6_isDigit 9 = .ok (.if_icmp .gt 7, 3) := by decide +kernel
theorem dX6_isDigit_12 : decode cX6_isDigit 12 = .ok (.iconst 1, 1) := by decide +kernel
theorem dX6_isDigit_13 : decode cX6_isDigit 13 = .ok (.goto 4, 3) := by decide +kernel
theorem dX6_isDigit_16 : decode cX6_isDigit 16 = .ok (.iconst 0, 1) := by decide +kernel
theorem dX6_isDigit_17 : decode cX6_isDigit 17 = .ok (.ireturn, 1) := by decide +kernel
theorem dX6_wrong_0 : decode cX6_wrong 0 = .ok (.aload_n 0, 1) := by decide +kernel
theorem dX6_wrong_1 : decode cX6_wrong 1 = .ok (.iload_n 1, 1) := by decide +kernel
theorem dX6_wrong_2 : decode cX6_wrong 2 = .ok (.putfield 32, 3) := by decide +kernel
theorem dX6_wrong_5 : decode cX6_wrong 5 = .ok (.aload_n 0, 1) := by decide +kernel
theorem dX6_wrong_6 : decode cX6_wrong 6 = .ok (.iload_n 2, 1) := by decide +kernel
theorem dX6_wrong_7 : decode cX6_wrong 7 = .ok (.putfield 35, 3) := by decide +kernel
theorem dX6_wrong_10 : decode cX6_wrong 10 = .ok (.iconst (-1), 1) := by decide +kernel
theorem dX6_wrong_11 : decode cX6_wrong 11 = .ok (.ireturn, 1) := by decide +kernel
theorem dX6_fails_0 : decode cX6_fails 0 = .ok (.aload_n 0, 1) := by decide +kernel
theorem dX6_fails_1 : decode cX6_fails 1 = .ok (.iload_n 1, 1) := by decide +kernel
theorem dX6_fails_2 : decode cX6_fails 2 = .ok (.iload_n 2, 1) := by decide +kernel
theorem dX6_fails_3 : decode cX6_fails 3 = .ok (.invokevirtual 118, 3) := by decide +kernel
theorem dX6_fails_6 : decode cX6_fails 6 = .ok (.pop, 1) := by decide +kernel
theorem dX6_fails_7 : decode cX6_fails 7 = .ok (.iconst 0, 1) := by decide +kernel
theorem dX6_fails_8 : decode cX6_fails 8 = .ok (.ireturn, 1) := by decide +kernel
