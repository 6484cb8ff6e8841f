theorem dX0_init_0 : decode cX0_init 0 = .ok (.aload_n 0, 1) := by decide +kernel
theorem dX0_init_1 : decode cX0_init 1 = .ok (.invokespecial 3, 3) := by decide +kernel
theorem dX0_init_4 : decode cX0_init 4 = .ok (.aload_n 0, 1) := by decide +kernel
theorem dX0_init_5 : decode cX0_init 5 = .ok (.bipush 7, 2) := by decide +kernel
theorem dX0_init_7 : decode cX0_init 7 = .ok (.anewarray 9, 3) := by decide +kernel
theorem dX0_init_10 : decode cX0_init 10 = .ok (.putfield 11, 3) := by decide +kernel
theorem dX0_init_13 : decode cX0_init 13 = .ok (.iconst 0, 1) := by decide +kernel
theorem dX0_init_14 : decode cX0_init 14 = .ok (.istore_n 1, 1) := by decide +kernel
theorem dX0_init_15 : decode cX0_init 15 = .ok (.iload_n 1, 1) := by decide +kernel
theorem dX0_init_16 : decode cX0_init 16 = .ok (.aload_n 0, 1) := by decide +kernel
theorem dX0_init_17 : decode cX0_init 17 = .ok (.getfield 11, 3) := by decide +kernel
theorem dX0_init_20 : decode cX0_init 20 = .ok (.arraylength, 1) := by decide +kernel
theorem dX0_init_21 : decode cX0_init 21 = .ok (.if_icmp .ge 22, 3) := by decide +kernel
theorem dX0_init_24 : decode cX0_init 24 = .ok (.aload_n 0, 1) := by decide +kernel
theorem dX0_init_25 : decode cX0_init 25 = .ok (.getfield 11, 3) := by decide +kernel
theorem dX0_init_28 : decode cX0_init 28 = .ok (.iload_n 1, 1) := by decide +kernel
theorem dX0_init_29 : decode cX0_init 29 = .ok (.new 9, 3) := by decide +kernel
theorem dX0_init_32 : decode cX0_init 32 = .ok (.dup, 1) := by decide +kernel
theorem dX0_init_33 : decode cX0_init 33 = .ok (.invokespecial 17, 3) := by decide +kernel
theorem dX0_init_36 : decode cX0_init 36 = .ok (.aastore, 1) := by decide +kernel
theorem dX0_init_37 : decode cX0_init 37 = .ok (.iinc 1 1, 3) := by decide +kernel
theorem dX0_init_40 : decode cX0_init 40 = .ok (.goto (-25), 3) := by decide +kernel
theorem dX0_init_43 : decode cX0_init 43 = .ok (.return_, 1) := by decide +kernel
theorem dX0_open_0 : decode cX0_open 0 = .ok (.aload_n 0, 1) := by decide +kernel
theorem dX0_open_1 : decode cX0_open 1 = .ok (.aload_n 0, 1) := by decide +kernel
theorem dX0_open_2 : decode cX0_open 2 = .ok (.getfield 18, 3) := by decide +kernel
theorem dX0_open_5 : decode cX0_open 5 = .ok (.invokevirtual 22, 3) := by decide +kernel
theorem dX0_open_8 : decode cX0_open 8 = .ok (.aload_n 1, 1) := by decide +kernel
theorem dX0_open_9 : decode cX0_open 9 = .ok (.invokestatic 26, 3) := by decide +kernel
theorem dX0_open_12 : decode cX0_open 12 = .ok (.return_, 1) := by decide +kernel
theorem dX0_takeBack_0 : decode cX0_takeBack 0 = .ok (.aload_n 1, 1) := by decide +kernel
theorem dX0_takeBack_1 : decode cX0_takeBack 1 = .ok (.aload_n 0, 1) := by decide +kernel
theorem dX0_takeBack_2 : decode cX0_takeBack 2 = .ok (.aload_n 0, 1) := by decide +kernel
theorem dX0_takeBack_3 : decode cX0_takeBack 3 = .ok (.getfield 18, 3) := by decide +kernel
theorem dX0_takeBack_6 : decode cX0_takeBack 6 = .ok (.invokevirtual 22, 3) := by decide +kernel
theorem dX0_takeBack_9 : decode cX0_takeBack 9 = .ok (.invokestatic 26, 3) := by decide +kernel
theorem dX0_takeBack_12 : decode cX0_takeBack 12 = .ok (.return_, 1) := by decide +kernel
theorem dX0_close_0 : decode cX0_close 0 = .ok (.aload_n 0, 1) := by decide +kernel
theorem dX0_close_1 : decode cX0_close 1 = .ok (.getfield 18, 3) := by decide +kernel
theorem dX0_close_4 : decode cX0_close 4 = .ok (.bipush 6, 2) := by decide +kernel
theorem dX0_close_6 : decode cX0_close 6 = .ok (.if_icmp .ge 16, 3) := by decide +kernel
theorem dX0_close_9 : decode cX0_close 9 = .ok (.aload_n 0, 1) := by decide +kernel
theorem dX0_close_10 : decode cX0_close 10 = .ok (.dup, 1) := by decide +kernel
theorem dX0_close_11 : decode cX0_close 11 = .ok (.getfield 18, 3) := by decide +kernel
theorem dX0_close_14 : decode cX0_close 14 = .ok (.iconst 1, 1) := by decide +kernel
theorem dX0_close_15 : decode cX0_close 15 = .ok (.iadd, 1) := by decide +kernel
theorem dX0_close_16 : decode cX0_close 16 = .ok (.putfield 18, 3) := by decide +kernel
theorem dX0_close_19 : decode cX0_close 19 = .ok (.goto 7, 3) := by decide +kernel
theorem dX0_close_22 : decode cX0_close 22 = .ok (.aload_n 0, 1) := by decide +kernel
theorem dX0_close_23 : decode cX0_close 23 = .ok (.invokevirtual 30, 3) := by decide +kernel
theorem dX0_close_26 : decode cX0_close 26 = .ok (.return_, 1) := by decide +kernel
theorem dX0_stepBack_0 : decode cX0_stepBack 0 = .ok (.aload_n 0, 1) := by decide +kernel
theorem dX0_stepBack_1 : decode cX0_stepBack 1 = .ok (.getfield 18, 3) := by decide +kernel
theorem dX0_stepBack_4 : decode cX0_stepBack 4 = .ok (.ifCond .le 25, 3) := by decide +kernel
theorem dX0_stepBack_7 : decode cX0_stepBack 7 = .ok (.aload_n 0, 1) := by decide +kernel
theorem dX0_stepBack_8 : decode cX0_stepBack 8 = .ok (.dup, 1) := by decide +kernel
theorem dX0_stepBack_9 : decode cX0_stepBack 9 = .ok (.getfield 18, 3) := by decide +kernel
theorem dX0_stepBack_12 : decode cX0_stepBack 12 = .ok (.iconst 1, 1) := by decide +kernel
theorem dX0_stepBack_13 : decode cX0_stepBack 13 = .ok (.isub, 1) := by decide +kernel
theorem dX0_stepBack_14 : decode cX0_stepBack 14 = .ok (.putfield 18, 3) := by decide +kernel
theorem dX0_stepBack_17 : decode cX0_stepBack 17 = .ok (.aload_n 1, 1) := by decide +kernel
theorem dX0_stepBack_18 : decode cX0_stepBack 18 = .ok (.aload_n 0, 1) := by decide +kernel
theorem dX0_stepBack_19 : decode cX0_stepBack 19 = .ok (.aload_n 0, 1) := by decide +kernel
theorem dX0_stepBack_20 : decode cX0_stepBack 20 = .ok (.getfield 18, 3) := by decide +kernel
theorem dX0_stepBack_23 : decode cX0_stepBack 23 = .ok (.invokevirtual 22, 3) := by decide +kernel
theorem dX0_stepBack_26 : decode cX0_stepBack 26 = .ok (.invokestatic 26, 3) := by decide +kernel
theorem dX0_stepBack_29 : decode cX0_stepBack 29 = .ok (.return_, 1) := by decide +kernel
theorem dX0_forget_0 : decode cX0_forget 0 = .ok (.aload_n 0, 1) := by decide +kernel
theorem dX0_forget_1 : decode cX0_forget 1 = .ok (.iconst 0, 1) := by decide +kernel
theorem dX0_forget_2 : decode cX0_forget 2 = .ok (.putfield 18, 3) := by decide +kernel
theorem dX0_forget_5 : decode cX0_forget 5 = .ok (.return_, 1) := by decide +kernel
theorem dX0_forgetOldest_0 : decode cX0_forgetOldest 0 = .ok (.iconst 0, 1) := by decide +kernel
theorem dX0_forgetOldest_1 : decode cX0_forgetOldest 1 = .ok (.istore_n 1, 1) := by decide +kernel
theorem dX0_forgetOldest_2 : decode cX0_forgetOldest 2 = .ok (.iload_n 1, 1) := by decide +kernel
theorem dX0_forgetOldest_3 : decode cX0_forgetOldest 3 = .ok (.iconst 1, 1) := by decide +kernel
theorem dX0_forgetOldest_4 : decode cX0_forgetOldest 4 = .ok (.iadd, 1) := by decide +kernel
theorem dX0_forgetOldest_5 : decode cX0_forgetOldest 5 = .ok (.aload_n 0, 1) := by decide +kernel
theorem dX0_forgetOldest_6 : decode cX0_forgetOldest 6 = .ok (.getfield 11, 3) := by decide +kernel
theorem dX0_forgetOldest_9 : decode cX0_forgetOldest 9 = .ok (.arraylength, 1) := by decide +kernel
theorem dX0_forgetOldest_10 : decode cX0_forgetOldest 10 = .ok (.if_icmp .ge 39, 3) := by decide +kernel
theorem dX0_forgetOldest_13 : decode cX0_forgetOldest 13 = .ok (.aload_n 0, 1) := by decide +kernel
theorem dX0_forgetOldest_14 : decode cX0_forgetOldest 14 = .ok (.getfield 11, 3) := by decide +kernel
theorem dX0_forgetOldest_17 : decode cX0_forgetOldest 17 = .ok (.iload_n 1, 1) := by decide +kernel
theorem dX0_forgetOldest_18 : decode cX0_forgetOldest 18 = .ok (.aaload, 1) := by decide +kernel
theorem dX0_forgetOldest_19 : decode cX0_forgetOldest 19 = .ok (.astore_n 2, 1) := by decide +kernel
theorem dX0_forgetOldest_20 : decode cX0_forgetOldest 20 = .ok (.aload_n 0, 1) := by decide +kernel
theorem dX0_forgetOldest_21 : decode cX0_forgetOldest 21 = .ok (.getfield 11, 3) := by decide +kernel
theorem dX0_forgetOldest_24 : decode cX0_forgetOldest 24 = .ok (.iload_n 1, 1) := by decide +kernel
theorem dX0_forgetOldest_25 : decode cX0_forgetOldest 25 = .ok (.aload_n 0, 1) := by decide +kernel
theorem dX0_forgetOldest_26 : decode cX0_forgetOldest 26 = .ok (.getfield 11, 3) := by decide +kernel
theorem dX0_forgetOldest_29 : decode cX0_forgetOldest 29 = .ok (.iload_n 1, 1) := by decide +kernel
theorem dX0_forgetOldest_30 : decode cX0_forgetOldest 30 = .ok (.iconst 1, 1) := by decide +kernel
theorem dX0_forgetOldest_31 : decode cX0_forgetOldest 31 = .ok (.iadd, 1) := by decide +kernel
theorem dX0_forgetOldest_32 : decode cX0_forgetOldest 32 = .ok (.aaload, 1) := by decide +kernel
theorem dX0_forgetOldest_33 : decode cX0_forgetOldest 33 = .ok (.aastore, 1) := by decide +kernel
theorem dX0_forgetOldest_34 : decode cX0_forgetOldest 34 = .ok (.aload_n 0, 1) := by decide +kernel
theorem dX0_forgetOldest_35 : decode cX0_forgetOldest 35 = .ok (.getfield 11, 3) := by decide +kernel
theorem dX0_forgetOldest_38 : decode cX0_forgetOldest 38 = .ok (.iload_n 1, 1) := by decide +kernel
theorem dX0_forgetOldest_39 : decode cX0_forgetOldest 39 = .ok (.iconst 1, 1) := by decide +kernel
theorem dX0_forgetOldest_40 : decode cX0_forgetOldest 40 = .ok (.iadd, 1) := by decide +kernel
theorem dX0_forgetOldest_41 : decode cX0_forgetOldest 41 = .ok (.aload_n 2, 1) := by decide +kernel
theorem dX0_forgetOldest_42 : decode cX0_forgetOldest 42 = .ok (.aastore, 1) := by decide +kernel
theorem dX0_forgetOldest_43 : decode cX0_forgetOldest 43 = .ok (.iinc 1 1, 3) := by decide +kernel
theorem dX0_forgetOldest_46 : decode cX0_forgetOldest 46 = .ok (.goto (-44), 3) := by decide +kernel
theorem dX0_forgetOldest_49 : decode cX0_forgetOldest 49 = .ok (.return_, 1) := by decide +kernel
theorem dX0_rowAt_0 : decode cX0_rowAt 0 = .ok (.iload_n 1, 1) := by decide +kernel
theorem dX0_rowAt_1 : decode cX0_rowAt 1 = .ok (.ifCond .lt 21, 3) := by decide +kernel
theorem dX0_rowAt_4 : decode cX0_rowAt 4 = .ok (.iload_n 1, 1) := by decide +kernel
theorem dX0_rowAt_5 : decode cX0_rowAt 5 = .ok (.aload_n 0, 1) := by decide +kernel
theorem dX0_rowAt_6 : decode cX0_rowAt 6 = .ok (.getfield 11, 3) := by decide +kernel
theorem dX0_rowAt_9 : decode cX0_rowAt 9 = .ok (.arraylength, 1) := by decide +kernel
theorem dX0_rowAt_10 : decode cX0_rowAt 10 = .ok (.if_icmp .ge 12, 3) := by decide +kernel
theorem dX0_rowAt_13 : decode cX0_rowAt 13 = .ok (.aload_n 0, 1) := by decide +kernel
theorem dX0_rowAt_14 : decode cX0_rowAt 14 = .ok (.getfield 11, 3) := by decide +kernel
theorem dX0_rowAt_17 : decode cX0_rowAt 17 = .ok (.iload_n 1, 1) := by decide +kernel
theorem dX0_rowAt_18 : decode cX0_rowAt 18 = .ok (.aaload, 1) := by decide +kernel
theorem dX0_rowAt_19 : decode cX0_rowAt 19 = .ok (.goto 4, 3) := by decide +kernel
theorem dX0_rowAt_22 : decode cX0_rowAt 22 = .ok (.aconst_null, 1) := by decide +kernel
theorem dX0_rowAt_23 : decode cX0_rowAt 23 = .ok (.areturn, 1) := by decide +kernel
theorem dX0_copySeason_0 : decode cX0_copySeason 0 = .ok (.aload_n 0, 1) := by decide +kernel
theorem dX0_copySeason_1 : decode cX0_copySeason 1 = .ok (.ifnull 12, 3) := by decide +kernel
theorem dX0_copySeason_4 : decode cX0_copySeason 4 = .ok (.aload_n 1, 1) := by decide +kernel
theorem dX0_copySeason_5 : decode cX0_copySeason 5 = .ok (.ifnull 8, 3) := by decide +kernel
theorem dX0_copySeason_8 : decode cX0_copySeason 8 = .ok (.aload_n 0, 1) := by decide +kernel
theorem dX0_copySeason_9 : decode cX0_copySeason 9 = .ok (.aload_n 1, 1) := by decide +kernel
theorem dX0_copySeason_10 : decode cX0_copySeason 10 = .ok (.invokevirtual 33, 3) := by decide +kernel
theorem dX0_copySeason_13 : decode cX0_copySeason 13 = .ok (.return_, 1) := by decide +kernel
theorem dX1_init_0 : decode cX1_init 0 = .ok (.aload_n 0, 1) := by decide +kernel
theorem dX1_init_1 : decode cX1_init 1 = .ok (.invokespecial 3, 3) := by decide +kernel
theorem dX1_init_4 : decode cX1_init 4 = .ok (.aload_n 0, 1) := by decide +kernel
theorem dX1_init_5 : decode cX1_init 5 = .ok (.bipush 60, 2) := by decide +kernel
theorem dX1_init_7 : decode cX1_init 7 = .ok (.newarray .char, 2) := by decide +kernel
theorem dX1_init_9 : decode cX1_init 9 = .ok (.putfield 9, 3) := by decide +kernel
theorem dX1_init_12 : decode cX1_init 12 = .ok (.aload_n 0, 1) := by decide +kernel
theorem dX1_init_13 : decode cX1_init 13 = .ok (.new 15, 3) := by decide +kernel
theorem dX1_init_16 : decode cX1_init 16 = .ok (.dup, 1) := by decide +kernel
theorem dX1_init_17 : decode cX1_init 17 = .ok (.iconst 3, 1) := by decide +kernel
theorem dX1_init_18 : decode cX1_init 18 = .ok (.invokespecial 17, 3) := by decide +kernel
theorem dX1_init_21 : decode cX1_init 21 = .ok (.putfield 20, 3) := by decide +kernel
theorem dX1_init_24 : decode cX1_init 24 = .ok (.return_, 1) := by decide +kernel
theorem dX1_add_0 : decode cX1_add 0 = .ok (.aload_n 0, 1) := by decide +kernel
theorem dX1_add_1 : decode cX1_add 1 = .ok (.getfield 24, 3) := by decide +kernel
theorem dX1_add_4 : decode cX1_add 4 = .ok (.ifCond .lt 15, 3) := by decide +kernel
theorem dX1_add_7 : decode cX1_add 7 = .ok (.aload_n 0, 1) := by decide +kernel
theorem dX1_add_8 : decode cX1_add 8 = .ok (.getfield 24, 3) := by decide +kernel
theorem dX1_add_11 : decode cX1_add 11 = .ok (.aload_n 0, 1) := by decide +kernel
theorem dX1_add_12 : decode cX1_add 12 = .ok (.getfield 9, 3) := by decide +kernel
theorem dX1_add_15 : decode cX1_add 15 = .ok (.arraylength, 1) := by decide +kernel
theorem dX1_add_16 : decode cX1_add 16 = .ok (.if_icmp .lt 5, 3) := by decide +kernel
theorem dX1_add_19 : decode cX1_add 19 = .ok (.iconst 0, 1) := by decide +kernel
theorem dX1_add_20 : decode cX1_add 20 = .ok (.ireturn, 1) := by decide +kernel
theorem dX1_add_21 : decode cX1_add 21 = .ok (.aload_n 0, 1) := by decide +kernel
theorem dX1_add_22 : decode cX1_add 22 = .ok (.getfield 9, 3) := by decide +kernel
theorem dX1_add_25 : decode cX1_add 25 = .ok (.aload_n 0, 1) := by decide +kernel
theorem dX1_add_26 : decode cX1_add 26 = .ok (.getfield 24, 3) := by decide +kernel
theorem dX1_add_29 : decode cX1_add 29 = .ok (.iload_n 1, 1) := by decide +kernel
theorem dX1_add_30 : decode cX1_add 30 = .ok (.castore, 1) := by decide +kernel
theorem dX1_add_31 : decode cX1_add 31 = .ok (.aload_n 0, 1) := by decide +kernel
theorem dX1_add_32 : decode cX1_add 32 = .ok (.dup, 1) := by decide +kernel
theorem dX1_add_33 : decode cX1_add 33 = .ok (.getfield 24, 3) := by decide +kernel
theorem dX1_add_36 : decode cX1_add 36 = .ok (.iconst 1, 1) := by decide +kernel
theorem dX1_add_37 : decode cX1_add 37 = .ok (.iadd, 1) := by decide +kernel
theorem dX1_add_38 : decode cX1_add 38 = .ok (.putfield 24, 3) := by decide +kernel
theorem dX1_add_41 : decode cX1_add 41 = .ok (.iconst 1, 1) := by decide +kernel
theorem dX1_add_42 : decode cX1_add 42 = .ok (.ireturn, 1) := by decide +kernel
theorem dX1_clear_0 : decode cX1_clear 0 = .ok (.aload_n 0, 1) := by decide +kernel
theorem dX1_clear_1 : decode cX1_clear 1 = .ok (.iconst 0, 1) := by decide +kernel
theorem dX1_clear_2 : decode cX1_clear 2 = .ok (.putfield 24, 3) := by decide +kernel
theorem dX1_clear_5 : decode cX1_clear 5 = .ok (.return_, 1) := by decide +kernel
theorem dX1_goToStart_0 : decode cX1_goToStart 0 = .ok (.aload_n 0, 1) := by decide +kernel
theorem dX1_goToStart_1 : decode cX1_goToStart 1 = .ok (.iconst 0, 1) := by decide +kernel
theorem dX1_goToStart_2 : decode cX1_goToStart 2 = .ok (.putfield 28, 3) := by decide +kernel
theorem dX1_goToStart_5 : decode cX1_goToStart 5 = .ok (.return_, 1) := by decide +kernel
theorem dX1_findFault_0 : decode cX1_findFault 0 = .ok (.aload_n 0, 1) := by decide +kernel
theorem dX1_findFault_1 : decode cX1_findFault 1 = .ok (.invokevirtual 31, 3) := by decide +kernel
theorem dX1_findFault_4 : decode cX1_findFault 4 = .ok (.iconst 0, 1) := by decide +kernel
theorem dX1_findFault_5 : decode cX1_findFault 5 = .ok (.istore_n 1, 1) := by decide +kernel
theorem dX1_findFault_6 : decode cX1_findFault 6 = .ok (.iload_n 1, 1) := by decide +kernel
theorem dX1_findFault_7 : decode cX1_findFault 7 = .ok (.bipush 60, 2) := by decide +kernel
theorem dX1_findFault_9 : decode cX1_findFault 9 = .ok (.if_icmp .ge 48, 3) := by decide +kernel
theorem dX1_findFault_12 : decode cX1_findFault 12 = .ok (.aload_n 0, 1) := by decide +kernel
theorem dX1_findFault_13 : decode cX1_findFault 13 = .ok (.invokevirtual 34, 3) := by decide +kernel
theorem dX1_findFault_16 : decode cX1_findFault 16 = .ok (.ifCond .ne 8, 3) := by decide +kernel
theorem dX1_findFault_19 : decode cX1_findFault 19 = .ok (.aload_n 0, 1) := by decide +kernel
theorem dX1_findFault_20 : decode cX1_findFault 20 = .ok (.getfield 28, 3) := by decide +kernel
theorem dX1_findFault_23 : decode cX1_findFault 23 = .ok (.ireturn, 1) := by decide +kernel
theorem dX1_findFault_24 : decode cX1_findFault 24 = .ok (.aload_n 0, 1) := by decide +kernel
theorem dX1_findFault_25 : decode cX1_findFault 25 = .ok (.getfield 28, 3) := by decide +kernel
theorem dX1_findFault_28 : decode cX1_findFault 28 = .ok (.aload_n 0, 1) := by decide +kernel
theorem dX1_findFault_29 : decode cX1_findFault 29 = .ok (.getfield 24, 3) := by decide +kernel
theorem dX1_findFault_32 : decode cX1_findFault 32 = .ok (.if_icmp .lt 5, 3) := by decide +kernel
theorem dX1_findFault_35 : decode cX1_findFault 35 = .ok (.iconst (-1), 1) := by decide +kernel
theorem dX1_findFault_36 : decode cX1_findFault 36 = .ok (.ireturn, 1) := by decide +kernel
theorem dX1_findFault_37 : decode cX1_findFault 37 = .ok (.aload_n 0, 1) := by decide +kernel
theorem dX1_findFault_38 : decode cX1_findFault 38 = .ok (.bipush 59, 2) := by decide +kernel
theorem dX1_findFault_40 : decode cX1_findFault 40 = .ok (.invokevirtual 38, 3) := by decide +kernel
theorem dX1_findFault_43 : decode cX1_findFault 43 = .ok (.ifCond .ne 8, 3) := by decide +kernel
theorem dX1_findFault_46 : decode cX1_findFault 46 = .ok (.aload_n 0, 1) := by decide +kernel
theorem dX1_findFault_47 : decode cX1_findFault 47 = .ok (.getfield 28, 3) := by decide +kernel
theorem dX1_findFault_50 : decode cX1_findFault 50 = .ok (.ireturn, 1) := by decide +kernel
theorem dX1_findFault_51 : decode cX1_findFault 51 = .ok (.iinc 1 1, 3) := by decide +kernel
theorem dX1_findFault_54 : decode cX1_findFault 54 = .ok (.goto (-48), 3) := by decide +kernel
theorem dX1_findFault_57 : decode cX1_findFault 57 = .ok (.aload_n 0, 1) := by decide +kernel
theorem dX1_findFault_58 : decode cX1_findFault 58 = .ok (.getfield 28, 3) := by decide +kernel
theorem dX1_findFault_61 : decode cX1_findFault 61 = .ok (.ireturn, 1) := by decide +kernel
theorem dX1_takeNext_0 : decode cX1_takeNext 0 = .ok (.aload_n 0, 1) := by decide +kernel
theorem dX1_takeNext_1 : decode cX1_takeNext 1 = .ok (.getfield 28, 3) := by decide +kernel
theorem dX1_takeNext_4 : decode cX1_takeNext 4 = .ok (.aload_n 0, 1) := by decide +kernel
theorem dX1_takeNext_5 : decode cX1_takeNext 5 = .ok (.getfield 24, 3) := by decide +kernel
theorem dX1_takeNext_8 : decode cX1_takeNext 8 = .ok (.if_icmp .lt 5, 3) := by decide +kernel
theorem dX1_takeNext_11 : decode cX1_takeNext 11 = .ok (.iconst 0, 1) := by decide +kernel
theorem dX1_takeNext_12 : decode cX1_takeNext 12 = .ok (.ireturn, 1) := by decide +kernel
theorem dX1_takeNext_13 : decode cX1_takeNext 13 = .ok (.aload_n 0, 1) := by decide +kernel
theorem dX1_takeNext_14 : decode cX1_takeNext 14 = .ok (.invokevirtual 34, 3) := by decide +kernel
theorem dX1_takeNext_17 : decode cX1_takeNext 17 = .ok (.istore_n 1, 1) := by decide +kernel
theorem dX1_takeNext_18 : decode cX1_takeNext 18 = .ok (.aload_n 0, 1) := by decide +kernel
theorem dX1_takeNext_19 : decode cX1_takeNext 19 = .ok (.bipush 59, 2) := by decide +kernel
theorem dX1_takeNext_21 : decode cX1_takeNext 21 = .ok (.invokevirtual 38, 3) := by decide +kernel
theorem dX1_takeNext_24 : decode cX1_takeNext 24 = .ok (.pop, 1) := by decide +kernel
theorem dX1_takeNext_25 : decode cX1_takeNext 25 = .ok (.iload_n 1, 1) := by decide +kernel
theorem dX1_takeNext_26 : decode cX1_takeNext 26 = .ok (.ireturn, 1) := by decide +kernel
theorem dX1_takeCommand_0 : decode cX1_takeCommand 0 = .ok (.aload_n 0, 1) := by decide +kernel
theorem dX1_takeCommand_1 : decode cX1_takeCommand 1 = .ok (.aload_n 0, 1) := by decide +kernel
theorem dX1_takeCommand_2 : decode cX1_takeCommand 2 = .ok (.invokevirtual 42, 3) := by decide +kernel
theorem dX1_takeCommand_5 : decode cX1_takeCommand 5 = .ok (.putfield 46, 3) := by decide +kernel
theorem dX1_takeCommand_8 : decode cX1_takeCommand 8 = .ok (.aload_n 0, 1) := by decide +kernel
theorem dX1_takeCommand_9 : decode cX1_takeCommand 9 = .ok (.getfield 46, 3) := by decide +kernel
theorem dX1_takeCommand_12 : decode cX1_takeCommand 12 = .ok (.invokestatic 50, 3) := by decide +kernel
theorem dX1_takeCommand_15 : decode cX1_takeCommand 15 = .ok (.astore_n 1, 1) := by decide +kernel
theorem dX1_takeCommand_16 : decode cX1_takeCommand 16 = .ok (.aload_n 1, 1) := by decide +kernel
theorem dX1_takeCommand_17 : decode cX1_takeCommand 17 = .ok (.invokevirtual 54, 3) := by decide +kernel
theorem dX1_takeCommand_20 : decode cX1_takeCommand 20 = .ok (.ifCond .eq 5, 3) := by decide +kernel
theorem dX1_takeCommand_23 : decode cX1_takeCommand 23 = .ok (.iconst 0, 1) := by decide +kernel
theorem dX1_takeCommand_24 : decode cX1_takeCommand 24 = .ok (.ireturn, 1) := by decide +kernel
theorem dX1_takeCommand_25 : decode cX1_takeCommand 25 = .ok (.aload_n 0, 1) := by decide +kernel
theorem dX1_takeCommand_26 : decode cX1_takeCommand 26 = .ok (.dup, 1) := by decide +kernel
theorem dX1_takeCommand_27 : decode cX1_takeCommand 27 = .ok (.getfield 28, 3) := by decide +kernel
theorem dX1_takeCommand_30 : decode cX1_takeCommand 30 = .ok (.iconst 1, 1) := by decide +kernel
theorem dX1_takeCommand_31 : decode cX1_takeCommand 31 = .ok (.iadd, 1) := by decide +kernel
theorem dX1_takeCommand_32 : decode cX1_takeCommand 32 = .ok (.putfield 28, 3) := by decide +kernel
theorem dX1_takeCommand_35 : decode cX1_takeCommand 35 = .ok (.iconst 0, 1) := by decide +kernel
theorem dX1_takeCommand_36 : decode cX1_takeCommand 36 = .ok (.istore_n 2, 1) := by decide +kernel
theorem dX1_takeCommand_37 : decode cX1_takeCommand 37 = .ok (.iconst 0, 1) := by decide +kernel
theorem dX1_takeCommand_38 : decode cX1_takeCommand 38 = .ok (.istore_n 3, 1) := by decide +kernel
theorem dX1_takeCommand_39 : decode cX1_takeCommand 39 = .ok (.iload_n 3, 1) := by decide +kernel
theorem dX1_takeCommand_40 : decode cX1_takeCommand 40 = .ok (.aload_n 1, 1) := by decide +kernel
theorem dX1_takeCommand_41 : decode cX1_takeCommand 41 = .ok (.invokevirtual 59, 3) := by decide +kernel
theorem dX1_takeCommand_44 : decode cX1_takeCommand 44 = .ok (.if_icmp .ge 84, 3) := by decide +kernel
theorem dX1_takeCommand_47 : decode cX1_takeCommand 47 = .ok (.aload_n 1, 1) := by decide +kernel
theorem dX1_takeCommand_48 : decode cX1_takeCommand 48 = .ok (.iload_n 3, 1) := by decide +kernel
theorem dX1_takeCommand_49 : decode cX1_takeCommand 49 = .ok (.invokevirtual 62, 3) := by decide +kernel
theorem dX1_takeCommand_52 : decode cX1_takeCommand 52 = .ok (.istore 4, 2) := by decide +kernel
theorem dX1_takeCommand_54 : decode cX1_takeCommand 54 = .ok (.iload 4, 2) := by decide +kernel
theorem dX1_takeCommand_56 : decode cX1_takeCommand 56 = .ok (.bipush 35, 2) := by decide +kernel
theorem dX1_takeCommand_58 : decode cX1_takeCommand 58 = .ok (.if_icmp .eq 10, 3) := by decide +kernel
theorem dX1_takeCommand_61 : decode cX1_takeCommand 61 = .ok (.iload 4, 2) := by decide +kernel
theorem dX1_takeCommand_63 : decode cX1_takeCommand 63 = .ok (.bipush 49, 2) := by decide +kernel
theorem dX1_takeCommand_65 : decode cX1_takeCommand 65 = .ok (.if_icmp .ne 7, 3) := by decide +kernel
theorem dX1_takeCommand_68 : decode cX1_takeCommand 68 = .ok (.iconst 1, 1) := by decide +kernel
theorem dX1_takeCommand_69 : decode cX1_takeCommand 69 = .ok (.goto 4, 3) := by decide +kernel
theorem dX1_takeCommand_72 : decode cX1_takeCommand 72 = .ok (.iconst 0, 1) := by decide +kernel
theorem dX1_takeCommand_73 : decode cX1_takeCommand 73 = .ok (.istore 5, 2) := by decide +kernel
theorem dX1_takeCommand_75 : decode cX1_takeCommand 75 = .ok (.iload 5, 2) := by decide +kernel
theorem dX1_takeCommand_77 : decode cX1_takeCommand 77 = .ok (.ifCond .eq 26, 3) := by decide +kernel
theorem dX1_takeCommand_80 : decode cX1_takeCommand 80 = .ok (.aload_n 0, 1) := by decide +kernel
theorem dX1_takeCommand_81 : decode cX1_takeCommand 81 = .ok (.iload_n 2, 1) := by decide +kernel
theorem dX1_takeCommand_82 : decode cX1_takeCommand 82 = .ok (.iload 4, 2) := by decide +kernel
theorem dX1_takeCommand_84 : decode cX1_takeCommand 84 = .ok (.bipush 35, 2) := by decide +kernel
theorem dX1_takeCommand_86 : decode cX1_takeCommand 86 = .ok (.if_icmp .ne 7, 3) := by decide +kernel
theorem dX1_takeCommand_89 : decode cX1_takeCommand 89 = .ok (.iconst 1, 1) := by decide +kernel
theorem dX1_takeCommand_90 : decode cX1_takeCommand 90 = .ok (.goto 4, 3) := by decide +kernel
theorem dX1_takeCommand_93 : decode cX1_takeCommand 93 = .ok (.iconst 0, 1) := by decide +kernel
theorem dX1_takeCommand_94 : decode cX1_takeCommand 94 = .ok (.invokevirtual 66, 3) := by decide +kernel
theorem dX1_takeCommand_97 : decode cX1_takeCommand 97 = .ok (.ifCond .ne 17, 3) := by decide +kernel
theorem dX1_takeCommand_100 : decode cX1_takeCommand 100 = .ok (.goto 12, 3) := by decide +kernel
theorem dX1_takeCommand_103 : decode cX1_takeCommand 103 = .ok (.aload_n 0, 1) := by decide +kernel
theorem dX1_takeCommand_104 : decode cX1_takeCommand 104 = .ok (.iload 4, 2) := by decide +kernel
theorem dX1_takeCommand_106 : decode cX1_takeCommand 106 = .ok (.invokevirtual 38, 3) := by decide +kernel
theorem dX1_takeCommand_109 : decode cX1_takeCommand 109 = .ok (.ifCond .ne 5, 3) := by decide +kernel
theorem dX1_takeCommand_112 : decode cX1_takeCommand 112 = .ok (.iconst 0, 1) := by decide +kernel
theorem dX1_takeCommand_113 : decode cX1_takeCommand 113 = .ok (.ireturn, 1) := by decide +kernel
theorem dX1_takeCommand_114 : decode cX1_takeCommand 114 = .ok (.iload 5, 2) := by decide +kernel
theorem dX1_takeCommand_116 : decode cX1_takeCommand 116 = .ok (.ifCond .eq 6, 3) := by decide +kernel
theorem dX1_takeCommand_119 : decode cX1_takeCommand 119 = .ok (.iinc 2 1, 3) := by decide +kernel
theorem dX1_takeCommand_122 : decode cX1_takeCommand 122 = .ok (.iinc 3 1, 3) := by decide +kernel
theorem dX1_takeCommand_125 : decode cX1_takeCommand 125 = .ok (.goto (-86), 3) := by decide +kernel
theorem dX1_takeCommand_128 : decode cX1_takeCommand 128 = .ok (.iconst 1, 1) := by decide +kernel
theorem dX1_takeCommand_129 : decode cX1_takeCommand 129 = .ok (.ireturn, 1) := by decide +kernel
theorem dX1_formOf_0 : decode cX1_formOf 0 = .ok (.iload_n 0, 1) := by decide +kernel
theorem dX1_formOf_1 : decode cX1_formOf 1 = .ok (.tableswitch 112 101 119 #[106, 112, 112, 100, 112, 112, 112, 103, 109, 112, 112, 112, 112, 94, 91, 112, 112, 112, 97], 91) := by decide +kernel
theorem dX1_formOf_92 : decode cX1_formOf 92 = .ok (.ldc 70, 2) := by decide +kernel
theorem dX1_formOf_94 : decode cX1_formOf 94 = .ok (.areturn, 1) := by decide +kernel
theorem dX1_formOf_95 : decode cX1_formOf 95 = .ok (.ldc 70, 2) := by decide +kernel
theorem dX1_formOf_97 : decode cX1_formOf 97 = .ok (.areturn, 1) := by decide +kernel
theorem dX1_formOf_98 : decode cX1_formOf 98 = .ok (.ldc 72, 2) := by decide +kernel
theorem dX1_formOf_100 : decode cX1_formOf 100 = .ok (.areturn, 1) := by decide +kernel
theorem dX1_formOf_101 : decode cX1_formOf 101 = .ok (.ldc 74, 2) := by decide +kernel
theorem dX1_formOf_103 : decode cX1_formOf 103 = .ok (.areturn, 1) := by decide +kernel
theorem dX1_formOf_104 : decode cX1_formOf 104 = .ok (.ldc 74, 2) := by decide +kernel
theorem dX1_formOf_106 : decode cX1_formOf 106 = .ok (.areturn, 1) := by decide +kernel
theorem dX1_formOf_107 : decode cX1_formOf 107 = .ok (.ldc 76, 2) := by decide +kernel
theorem dX1_formOf_109 : decode cX1_formOf 109 = .ok (.areturn, 1) := by decide +kernel
theorem dX1_formOf_110 : decode cX1_formOf 110 = .ok (.ldc 78, 2) := by decide +kernel
theorem dX1_formOf_112 : decode cX1_formOf 112 = .ok (.areturn, 1) := by decide +kernel
theorem dX1_formOf_113 : decode cX1_formOf 113 = .ok (.ldc 80, 2) := by decide +kernel
theorem dX1_formOf_115 : decode cX1_formOf 115 = .ok (.areturn, 1) := by decide +kernel
theorem dX1_takeNumber_0 : decode cX1_takeNumber 0 = .ok (.aload_n 0, 1) := by decide +kernel
theorem dX1_takeNumber_1 : decode cX1_takeNumber 1 = .ok (.invokevirtual 42, 3) := by decide +kernel
theorem dX1_takeNumber_4 : decode cX1_takeNumber 4 = .ok (.invokestatic 82, 3) := by decide +kernel
theorem dX1_takeNumber_7 : decode cX1_takeNumber 7 = .ok (.ifCond .ne 5, 3) := by decide +kernel
theorem dX1_takeNumber_10 : decode cX1_takeNumber 10 = .ok (.iconst 0, 1) := by decide +kernel
theorem dX1_takeNumber_11 : decode cX1_takeNumber 11 = .ok (.ireturn, 1) := by decide +kernel
theorem dX1_takeNumber_12 : decode cX1_takeNumber 12 = .ok (.aload_n 0, 1) := by decide +kernel
theorem dX1_takeNumber_13 : decode cX1_takeNumber 13 = .ok (.invokevirtual 42, 3) := by decide +kernel
theorem dX1_takeNumber_16 : decode cX1_takeNumber 16 = .ok (.bipush 48, 2) := by decide +kernel
theorem dX1_takeNumber_18 : decode cX1_takeNumber 18 = .ok (.isub, 1) := by decide +kernel
theorem dX1_takeNumber_19 : decode cX1_takeNumber 19 = .ok (.istore_n 3, 1) := by decide +kernel
theorem dX1_takeNumber_20 : decode cX1_takeNumber 20 = .ok (.aload_n 0, 1) := by decide +kernel
theorem dX1_takeNumber_21 : decode cX1_takeNumber 21 = .ok (.dup, 1) := by decide +kernel
theorem dX1_takeNumber_22 : decode cX1_takeNumber 22 = .ok (.getfield 28, 3) := by decide +kernel
theorem dX1_takeNumber_25 : decode cX1_takeNumber 25 = .ok (.iconst 1, 1) := by decide +kernel
theorem dX1_takeNumber_26 : decode cX1_takeNumber 26 = .ok (.iadd, 1) := by decide +kernel
theorem dX1_takeNumber_27 : decode cX1_takeNumber 27 = .ok (.putfield 28, 3) := by decide +kernel
theorem dX1_takeNumber_30 : decode cX1_takeNumber 30 = .ok (.iload_n 2, 1) := by decide +kernel
theorem dX1_takeNumber_31 : decode cX1_takeNumber 31 = .ok (.ifCond .eq 36, 3) := by decide +kernel
theorem dX1_takeNumber_34 : decode cX1_takeNumber 34 = .ok (.aload_n 0, 1) := by decide +kernel
theorem dX1_takeNumber_35 : decode cX1_takeNumber 35 = .ok (.invokevirtual 42, 3) := by decide +kernel
theorem dX1_takeNumber_38 : decode cX1_takeNumber 38 = .ok (.invokestatic 82, 3) := by decide +kernel
theorem dX1_takeNumber_41 : decode cX1_takeNumber 41 = .ok (.ifCond .eq 26, 3) := by decide +kernel
theorem dX1_takeNumber_44 : decode cX1_takeNumber 44 = .ok (.iload_n 3, 1) := by decide +kernel
theorem dX1_takeNumber_45 : decode cX1_takeNumber 45 = .ok (.bipush 10, 2) := by decide +kernel
theorem dX1_takeNumber_47 : decode cX1_takeNumber 47 = .ok (.imul, 1) := by decide +kernel
theorem dX1_takeNumber_48 : decode cX1_takeNumber 48 = .ok (.aload_n 0, 1) := by decide +kernel
theorem dX1_takeNumber_49 : decode cX1_takeNumber 49 = .ok (.invokevirtual 42, 3) := by decide +kernel
theorem dX1_takeNumber_52 : decode cX1_takeNumber 52 = .ok (.iadd, 1) := by decide +kernel
theorem dX1_takeNumber_53 : decode cX1_takeNumber 53 = .ok (.bipush 48, 2) := by decide +kernel
theorem dX1_takeNumber_55 : decode cX1_takeNumber 55 = .ok (.isub, 1) := by decide +kernel
theorem dX1_takeNumber_56 : decode cX1_takeNumber 56 = .ok (.istore_n 3, 1) := by decide +kernel
theorem dX1_takeNumber_57 : decode cX1_takeNumber 57 = .ok (.aload_n 0, 1) := by decide +kernel
theorem dX1_takeNumber_58 : decode cX1_takeNumber 58 = .ok (.dup, 1) := by decide +kernel
theorem dX1_takeNumber_59 : decode cX1_takeNumber 59 = .ok (.getfield 28, 3) := by decide +kernel
theorem dX1_takeNumber_62 : decode cX1_takeNumber 62 = .ok (.iconst 1, 1) := by decide +kernel
theorem dX1_takeNumber_63 : decode cX1_takeNumber 63 = .ok (.iadd, 1) := by decide +kernel
theorem dX1_takeNumber_64 : decode cX1_takeNumber 64 = .ok (.putfield 28, 3) := by decide +kernel
theorem dX1_takeNumber_67 : decode cX1_takeNumber 67 = .ok (.aload_n 0, 1) := by decide +kernel
theorem dX1_takeNumber_68 : decode cX1_takeNumber 68 = .ok (.getfield 20, 3) := by decide +kernel
theorem dX1_takeNumber_71 : decode cX1_takeNumber 71 = .ok (.iload_n 1, 1) := by decide +kernel
theorem dX1_takeNumber_72 : decode cX1_takeNumber 72 = .ok (.iload_n 3, 1) := by decide +kernel
theorem dX1_takeNumber_73 : decode cX1_takeNumber 73 = .ok (.invokevirtual 85, 3) := by decide +kernel
theorem dX1_takeNumber_76 : decode cX1_takeNumber 76 = .ok (.iconst 1, 1) := by decide +kernel
theorem dX1_takeNumber_77 : decode cX1_takeNumber 77 = .ok (.ireturn, 1) := by decide +kernel
theorem dX1_takeSign_0 : decode cX1_takeSign 0 = .ok (.aload_n 0, 1) := by decide +kernel
theorem dX1_takeSign_1 : decode cX1_takeSign 1 = .ok (.invokevirtual 42, 3) := by decide +kernel
theorem dX1_takeSign_4 : decode cX1_takeSign 4 = .ok (.iload_n 1, 1) := by decide +kernel
theorem dX1_takeSign_5 : decode cX1_takeSign 5 = .ok (.if_icmp .eq 5, 3) := by decide +kernel
theorem dX1_takeSign_8 : decode cX1_takeSign 8 = .ok (.iconst 0, 1) := by decide +kernel
theorem dX1_takeSign_9 : decode cX1_takeSign 9 = .ok (.ireturn, 1) := by decide +kernel
theorem dX1_takeSign_10 : decode cX1_takeSign 10 = .ok (.aload_n 0, 1) := by decide +kernel
theorem dX1_takeSign_11 : decode cX1_takeSign 11 = .ok (.dup, 1) := by decide +kernel
theorem dX1_takeSign_12 : decode cX1_takeSign 12 = .ok (.getfield 28, 3) := by decide +kernel
theorem dX1_takeSign_15 : decode cX1_takeSign 15 = .ok (.iconst 1, 1) := by decide +kernel
theorem dX1_takeSign_16 : decode cX1_takeSign 16 = .ok (.iadd, 1) := by decide +kernel
theorem dX1_takeSign_17 : decode cX1_takeSign 17 = .ok (.putfield 28, 3) := by decide +kernel
theorem dX1_takeSign_20 : decode cX1_takeSign 20 = .ok (.iconst 1, 1) := by decide +kernel
theorem dX1_takeSign_21 : decode cX1_takeSign 21 = .ok (.ireturn, 1) := by decide +kernel
theorem dX1_signHere_0 : decode cX1_signHere 0 = .ok (.aload_n 0, 1) := by decide +kernel
theorem dX1_signHere_1 : decode cX1_signHere 1 = .ok (.getfield 28, 3) := by decide +kernel
theorem dX1_signHere_4 : decode cX1_signHere 4 = .ok (.ifCond .lt 30, 3) := by decide +kernel
theorem dX1_signHere_7 : decode cX1_signHere 7 = .ok (.aload_n 0, 1) := by decide +kernel
theorem dX1_signHere_8 : decode cX1_signHere 8 = .ok (.getfield 28, 3) := by decide +kernel
theorem dX1_signHere_11 : decode cX1_signHere 11 = .ok (.aload_n 0, 1) := by decide +kernel
theorem dX1_signHere_12 : decode cX1_signHere 12 = .ok (.getfield 24, 3) := by decide +kernel
theorem dX1_signHere_15 : decode cX1_signHere 15 = .ok (.if_icmp .ge 19, 3) := by decide +kernel
theorem dX1_signHere_18 : decode cX1_signHere 18 = .ok (.aload_n 0, 1) := by decide +kernel
theorem dX1_signHere_19 : decode cX1_signHere 19 = .ok (.getfield 28, 3) := by decide +kernel
theorem dX1_signHere_22 : decode cX1_signHere 22 = .ok (.aload_n 0, 1) := by decide +kernel
theorem dX1_signHere_23 : decode cX1_signHere 23 = .ok (.getfield 9, 3) := by decide +kernel
theorem dX1_signHere_26 : decode cX1_signHere 26 = .ok (.arraylength, 1) := by decide +kernel
theorem dX1_signHere_27 : decode cX1_signHere 27 = .ok (.if_icmp .ge 7, 3) := by decide +kernel
theorem dX1_signHere_30 : decode cX1_signHere 30 = .ok (.iconst 1, 1) := by decide +kernel
theorem dX1_signHere_31 : decode cX1_signHere 31 = .ok (.goto 4, 3) := by decide +kernel
theorem dX1_signHere_34 : decode cX1_signHere 34 = .ok (.iconst 0, 1) := by decide +kernel
theorem dX1_signHere_35 : decode cX1_signHere 35 = .ok (.istore_n 1, 1) := by decide +kernel
theorem dX1_signHere_36 : decode cX1_signHere 36 = .ok (.iload_n 1, 1) := by decide +kernel
theorem dX1_signHere_37 : decode cX1_signHere 37 = .ok (.ifCond .eq 15, 3) := by decide +kernel
theorem dX1_signHere_40 : decode cX1_signHere 40 = .ok (.aload_n 0, 1) := by decide +kernel
theorem dX1_signHere_41 : decode cX1_signHere 41 = .ok (.getfield 9, 3) := by decide +kernel
theorem dX1_signHere_44 : decode cX1_signHere 44 = .ok (.aload_n 0, 1) := by decide +kernel
theorem dX1_signHere_45 : decode cX1_signHere 45 = .ok (.getfield 28, 3) := by decide +kernel
theorem dX1_signHere_48 : decode cX1_signHere 48 = .ok (.caload, 1) := by decide +kernel
theorem dX1_signHere_49 : decode cX1_signHere 49 = .ok (.goto 4, 3) := by decide +kernel
theorem dX1_signHere_52 : decode cX1_signHere 52 = .ok (.iconst 0, 1) := by decide +kernel
theorem dX1_signHere_53 : decode cX1_signHere 53 = .ok (.ireturn, 1) := by decide +kernel
theorem dX1_isDigit_0 : decode cX1_isDigit 0 = .ok (.iload_n 0, 1) := by decide +kernel
theorem dX1_isDigit_1 : decode cX1_isDigit 1 = .ok (.bipush 48, 2) := by decide +kernel
theorem dX1_isDigit_3 : decode cX1_isDigit 3 = .ok (.if_icmp .lt 13, 3) := by decide +kernel
theorem dX1_isDigit_6 : decode cX1_isDigit 6 = .ok (.iload_n 0, 1) := by decide +kernel
theorem dX1_isDigit_7 : decode cX1_isDigit 7 = .ok (.bipush 57, 2) := by decide +kernel
theorem dX1_isDigit_9 : decode cX1_isDigit 9 = .ok (.if_icmp .gt 7, 3) := by decide +kernel
theorem dX1_isDigit_12 : decode cX1_isDigit 12 = .ok (.iconst 1, 1) := by decide +kernel
theorem dX1_isDigit_13 : decode cX1_isDigit 13 = .ok (.goto 4, 3) := by decide +kernel
theorem dX1_isDigit_16 : decode cX1_isDigit 16 = .ok (.iconst 0, 1) := by decide +kernel
theorem dX1_isDigit_17 : decode cX1_isDigit 17 = .ok (.ireturn, 1) := by decide +kernel
theorem dX2_init_0 : decode cX2_init 0 = .ok (.aload_n 0, 1) := by decide +kernel
theorem dX2_init_1 : decode cX2_init 1 = .ok (.invokespecial 3, 3) := by decide +kernel
theorem dX2_init_4 : decode cX2_init 4 = .ok (.aload_n 0, 1) := by decide +kernel
theorem dX2_init_5 : decode cX2_init 5 = .ok (.new 9, 3) := by decide +kernel
theorem dX2_init_8 : decode cX2_init 8 = .ok (.dup, 1) := by decide +kernel
theorem dX2_init_9 : decode cX2_init 9 = .ok (.bipush 24, 2) := by decide +kernel
theorem dX2_init_11 : decode cX2_init 11 = .ok (.invokespecial 11, 3) := by decide +kernel
theorem dX2_init_14 : decode cX2_init 14 = .ok (.putfield 14, 3) := by decide +kernel
theorem dX2_init_17 : decode cX2_init 17 = .ok (.aload_n 0, 1) := by decide +kernel
theorem dX2_init_18 : decode cX2_init 18 = .ok (.new 9, 3) := by decide +kernel
theorem dX2_init_21 : decode cX2_init 21 = .ok (.dup, 1) := by decide +kernel
theorem dX2_init_22 : decode cX2_init 22 = .ok (.bipush 24, 2) := by decide +kernel
theorem dX2_init_24 : decode cX2_init 24 = .ok (.invokespecial 11, 3) := by decide +kernel
theorem dX2_init_27 : decode cX2_init 27 = .ok (.putfield 20, 3) := by decide +kernel
theorem dX2_init_30 : decode cX2_init 30 = .ok (.aload_n 0, 1) := by decide +kernel
theorem dX2_init_31 : decode cX2_init 31 = .ok (.new 9, 3) := by decide +kernel
theorem dX2_init_34 : decode cX2_init 34 = .ok (.dup, 1) := by decide +kernel
theorem dX2_init_35 : decode cX2_init 35 = .ok (.bipush 24, 2) := by decide +kernel
theorem dX2_init_37 : decode cX2_init 37 = .ok (.invokespecial 11, 3) := by decide +kernel
theorem dX2_init_40 : decode cX2_init 40 = .ok (.putfield 23, 3) := by decide +kernel
theorem dX2_init_43 : decode cX2_init 43 = .ok (.aload_n 0, 1) := by decide +kernel
theorem dX2_init_44 : decode cX2_init 44 = .ok (.new 9, 3) := by decide +kernel
theorem dX2_init_47 : decode cX2_init 47 = .ok (.dup, 1) := by decide +kernel
theorem dX2_init_48 : decode cX2_init 48 = .ok (.bipush 24, 2) := by decide +kernel
theorem dX2_init_50 : decode cX2_init 50 = .ok (.invokespecial 11, 3) := by decide +kernel
theorem dX2_init_53 : decode cX2_init 53 = .ok (.putfield 26, 3) := by decide +kernel
theorem dX2_init_56 : decode cX2_init 56 = .ok (.aload_n 0, 1) := by decide +kernel
theorem dX2_init_57 : decode cX2_init 57 = .ok (.new 9, 3) := by decide +kernel
theorem dX2_init_60 : decode cX2_init 60 = .ok (.dup, 1) := by decide +kernel
theorem dX2_init_61 : decode cX2_init 61 = .ok (.bipush 24, 2) := by decide +kernel
theorem dX2_init_63 : decode cX2_init 63 = .ok (.invokespecial 11, 3) := by decide +kernel
theorem dX2_init_66 : decode cX2_init 66 = .ok (.putfield 29, 3) := by decide +kernel
theorem dX2_init_69 : decode cX2_init 69 = .ok (.aload_n 0, 1) := by decide +kernel
theorem dX2_init_70 : decode cX2_init 70 = .ok (.new 9, 3) := by decide +kernel
theorem dX2_init_73 : decode cX2_init 73 = .ok (.dup, 1) := by decide +kernel
theorem dX2_init_74 : decode cX2_init 74 = .ok (.bipush 24, 2) := by decide +kernel
theorem dX2_init_76 : decode cX2_init 76 = .ok (.invokespecial 11, 3) := by decide +kernel
theorem dX2_init_79 : decode cX2_init 79 = .ok (.putfield 32, 3) := by decide +kernel
theorem dX2_init_82 : decode cX2_init 82 = .ok (.return_, 1) := by decide +kernel
theorem dX2_has_0 : decode cX2_has 0 = .ok (.iload_n 1, 1) := by decide +kernel
theorem dX2_has_1 : decode cX2_has 1 = .ok (.iconst 0, 1) := by decide +kernel
theorem dX2_has_2 : decode cX2_has 2 = .ok (.aload_n 0, 1) := by decide +kernel
theorem dX2_has_3 : decode cX2_has 3 = .ok (.getfield 35, 3) := by decide +kernel
theorem dX2_has_6 : decode cX2_has 6 = .ok (.iconst 1, 1) := by decide +kernel
theorem dX2_has_7 : decode cX2_has 7 = .ok (.isub, 1) := by decide +kernel
theorem dX2_has_8 : decode cX2_has 8 = .ok (.invokestatic 39, 3) := by decide +kernel
theorem dX2_has_11 : decode cX2_has 11 = .ok (.ireturn, 1) := by decide +kernel
theorem dX2_add_0 : decode cX2_add 0 = .ok (.aload_n 0, 1) := by decide +kernel
theorem dX2_add_1 : decode cX2_add 1 = .ok (.getfield 35, 3) := by decide +kernel
theorem dX2_add_4 : decode cX2_add 4 = .ok (.istore 4, 2) := by decide +kernel
theorem dX2_add_6 : decode cX2_add 6 = .ok (.aload_n 0, 1) := by decide +kernel
theorem dX2_add_7 : decode cX2_add 7 = .ok (.getfield 14, 3) := by decide +kernel
theorem dX2_add_10 : decode cX2_add 10 = .ok (.iload 4, 2) := by decide +kernel
theorem dX2_add_12 : decode cX2_add 12 = .ok (.iload_n 1, 1) := by decide +kernel
theorem dX2_add_13 : decode cX2_add 13 = .ok (.invokevirtual 43, 3) := by decide +kernel
theorem dX2_add_16 : decode cX2_add 16 = .ok (.aload_n 0, 1) := by decide +kernel
theorem dX2_add_17 : decode cX2_add 17 = .ok (.getfield 20, 3) := by decide +kernel
theorem dX2_add_20 : decode cX2_add 20 = .ok (.iload 4, 2) := by decide +kernel
theorem dX2_add_22 : decode cX2_add 22 = .ok (.iload_n 2, 1) := by decide +kernel
theorem dX2_add_23 : decode cX2_add 23 = .ok (.invokevirtual 43, 3) := by decide +kernel
theorem dX2_add_26 : decode cX2_add 26 = .ok (.aload_n 0, 1) := by decide +kernel
theorem dX2_add_27 : decode cX2_add 27 = .ok (.getfield 23, 3) := by decide +kernel
theorem dX2_add_30 : decode cX2_add 30 = .ok (.iload 4, 2) := by decide +kernel
theorem dX2_add_32 : decode cX2_add 32 = .ok (.iload_n 3, 1) := by decide +kernel
theorem dX2_add_33 : decode cX2_add 33 = .ok (.invokevirtual 43, 3) := by decide +kernel
theorem dX2_add_36 : decode cX2_add 36 = .ok (.aload_n 0, 1) := by decide +kernel
theorem dX2_add_37 : decode cX2_add 37 = .ok (.getfield 26, 3) := by decide +kernel
theorem dX2_add_40 : decode cX2_add 40 = .ok (.iload 4, 2) := by decide +kernel
theorem dX2_add_42 : decode cX2_add 42 = .ok (.iconst 0, 1) := by decide +kernel
theorem dX2_add_43 : decode cX2_add 43 = .ok (.invokevirtual 43, 3) := by decide +kernel
theorem dX2_add_46 : decode cX2_add 46 = .ok (.aload_n 0, 1) := by decide +kernel
theorem dX2_add_47 : decode cX2_add 47 = .ok (.getfield 29, 3) := by decide +kernel
theorem dX2_add_50 : decode cX2_add 50 = .ok (.iload 4, 2) := by decide +kernel
theorem dX2_add_52 : decode cX2_add 52 = .ok (.iconst 0, 1) := by decide +kernel
theorem dX2_add_53 : decode cX2_add 53 = .ok (.invokevirtual 43, 3) := by decide +kernel
theorem dX2_add_56 : decode cX2_add 56 = .ok (.aload_n 0, 1) := by decide +kernel
theorem dX2_add_57 : decode cX2_add 57 = .ok (.getfield 32, 3) := by decide +kernel
theorem dX2_add_60 : decode cX2_add 60 = .ok (.iload 4, 2) := by decide +kernel
theorem dX2_add_62 : decode cX2_add 62 = .ok (.iconst 0, 1) := by decide +kernel
theorem dX2_add_63 : decode cX2_add 63 = .ok (.invokevirtual 43, 3) := by decide +kernel
theorem dX2_add_66 : decode cX2_add 66 = .ok (.aload_n 0, 1) := by decide +kernel
theorem dX2_add_67 : decode cX2_add 67 = .ok (.dup, 1) := by decide +kernel
theorem dX2_add_68 : decode cX2_add 68 = .ok (.getfield 35, 3) := by decide +kernel
theorem dX2_add_71 : decode cX2_add 71 = .ok (.iconst 1, 1) := by decide +kernel
theorem dX2_add_72 : decode cX2_add 72 = .ok (.iadd, 1) := by decide +kernel
theorem dX2_add_73 : decode cX2_add 73 = .ok (.putfield 35, 3) := by decide +kernel
theorem dX2_add_76 : decode cX2_add 76 = .ok (.iload 4, 2) := by decide +kernel
theorem dX2_add_78 : decode cX2_add 78 = .ok (.ireturn, 1) := by decide +kernel
theorem dX2_removeAt_0 : decode cX2_removeAt 0 = .ok (.aload_n 0, 1) := by decide +kernel
theorem dX2_removeAt_1 : decode cX2_removeAt 1 = .ok (.getfield 14, 3) := by decide +kernel
theorem dX2_removeAt_4 : decode cX2_removeAt 4 = .ok (.iload_n 1, 1) := by decide +kernel
theorem dX2_removeAt_5 : decode cX2_removeAt 5 = .ok (.invokevirtual 47, 3) := by decide +kernel
theorem dX2_removeAt_8 : decode cX2_removeAt 8 = .ok (.aload_n 0, 1) := by decide +kernel
theorem dX2_removeAt_9 : decode cX2_removeAt 9 = .ok (.getfield 20, 3) := by decide +kernel
theorem dX2_removeAt_12 : decode cX2_removeAt 12 = .ok (.iload_n 1, 1) := by decide +kernel
theorem dX2_removeAt_13 : decode cX2_removeAt 13 = .ok (.invokevirtual 47, 3) := by decide +kernel
theorem dX2_removeAt_16 : decode cX2_removeAt 16 = .ok (.aload_n 0, 1) := by decide +kernel
theorem dX2_removeAt_17 : decode cX2_removeAt 17 = .ok (.getfield 23, 3) := by decide +kernel
theorem dX2_removeAt_20 : decode cX2_removeAt 20 = .ok (.iload_n 1, 1) := by decide +kernel
theorem dX2_removeAt_21 : decode cX2_removeAt 21 = .ok (.invokevirtual 47, 3) := by decide +kernel
theorem dX2_removeAt_24 : decode cX2_removeAt 24 = .ok (.aload_n 0, 1) := by decide +kernel
theorem dX2_removeAt_25 : decode cX2_removeAt 25 = .ok (.getfield 26, 3) := by decide +kernel
theorem dX2_removeAt_28 : decode cX2_removeAt 28 = .ok (.iload_n 1, 1) := by decide +kernel
theorem dX2_removeAt_29 : decode cX2_removeAt 29 = .ok (.invokevirtual 47, 3) := by decide +kernel
theorem dX2_removeAt_32 : decode cX2_removeAt 32 = .ok (.aload_n 0, 1) := by decide +kernel
theorem dX2_removeAt_33 : decode cX2_removeAt 33 = .ok (.getfield 29, 3) := by decide +kernel
theorem dX2_removeAt_36 : decode cX2_removeAt 36 = .ok (.iload_n 1, 1) := by decide +kernel
theorem dX2_removeAt_37 : decode cX2_removeAt 37 = .ok (.invokevirtual 47, 3) := by decide +kernel
theorem dX2_removeAt_40 : decode cX2_removeAt 40 = .ok (.aload_n 0, 1) := by decide +kernel
theorem dX2_removeAt_41 : decode cX2_removeAt 41 = .ok (.getfield 32, 3) := by decide +kernel
theorem dX2_removeAt_44 : decode cX2_removeAt 44 = .ok (.iload_n 1, 1) := by decide +kernel
theorem dX2_removeAt_45 : decode cX2_removeAt 45 = .ok (.invokevirtual 47, 3) := by decide +kernel
theorem dX2_removeAt_48 : decode cX2_removeAt 48 = .ok (.aload_n 0, 1) := by decide +kernel
theorem dX2_removeAt_49 : decode cX2_removeAt 49 = .ok (.dup, 1) := by decide +kernel
theorem dX2_removeAt_50 : decode cX2_removeAt 50 = .ok (.getfield 35, 3) := by decide +kernel
theorem dX2_removeAt_53 : decode cX2_removeAt 53 = .ok (.iconst 1, 1) := by decide +kernel
theorem dX2_removeAt_54 : decode cX2_removeAt 54 = .ok (.isub, 1) := by decide +kernel
theorem dX2_removeAt_55 : decode cX2_removeAt 55 = .ok (.putfield 35, 3) := by decide +kernel
theorem dX2_removeAt_58 : decode cX2_removeAt 58 = .ok (.return_, 1) := by decide +kernel
theorem dX2_find_0 : decode cX2_find 0 = .ok (.iconst 0, 1) := by decide +kernel
theorem dX2_find_1 : decode cX2_find 1 = .ok (.istore_n 3, 1) := by decide +kernel
theorem dX2_find_2 : decode cX2_find 2 = .ok (.iload_n 3, 1) := by decide +kernel
theorem dX2_find_3 : decode cX2_find 3 = .ok (.aload_n 0, 1) := by decide +kernel
theorem dX2_find_4 : decode cX2_find 4 = .ok (.getfield 35, 3) := by decide +kernel
theorem dX2_find_7 : decode cX2_find 7 = .ok (.if_icmp .ge 35, 3) := by decide +kernel
theorem dX2_find_10 : decode cX2_find 10 = .ok (.aload_n 0, 1) := by decide +kernel
theorem dX2_find_11 : decode cX2_find 11 = .ok (.getfield 20, 3) := by decide +kernel
theorem dX2_find_14 : decode cX2_find 14 = .ok (.iload_n 3, 1) := by decide +kernel
theorem dX2_find_15 : decode cX2_find 15 = .ok (.invokevirtual 50, 3) := by decide +kernel
theorem dX2_find_18 : decode cX2_find 18 = .ok (.iload_n 1, 1) := by decide +kernel
theorem dX2_find_19 : decode cX2_find 19 = .ok (.if_icmp .ne 17, 3) := by decide +kernel
theorem dX2_find_22 : decode cX2_find 22 = .ok (.aload_n 0, 1) := by decide +kernel
theorem dX2_find_23 : decode cX2_find 23 = .ok (.getfield 23, 3) := by decide +kernel
theorem dX2_find_26 : decode cX2_find 26 = .ok (.iload_n 3, 1) := by decide +kernel
theorem dX2_find_27 : decode cX2_find 27 = .ok (.invokevirtual 50, 3) := by decide +kernel
theorem dX2_find_30 : decode cX2_find 30 = .ok (.iload_n 2, 1) := by decide +kernel
theorem dX2_find_31 : decode cX2_find 31 = .ok (.if_icmp .ne 5, 3) := by decide +kernel
theorem dX2_find_34 : decode cX2_find 34 = .ok (.iload_n 3, 1) := by decide +kernel
theorem dX2_find_35 : decode cX2_find 35 = .ok (.ireturn, 1) := by decide +kernel
theorem dX2_find_36 : decode cX2_find 36 = .ok (.iinc 3 1, 3) := by decide +kernel
theorem dX2_find_39 : decode cX2_find 39 = .ok (.goto (-37), 3) := by decide +kernel
theorem dX2_find_42 : decode cX2_find 42 = .ok (.iconst (-1), 1) := by decide +kernel
theorem dX2_find_43 : decode cX2_find 43 = .ok (.ireturn, 1) := by decide +kernel
theorem dX2_findOther_0 : decode cX2_findOther 0 = .ok (.iconst 0, 1) := by decide +kernel
theorem dX2_findOther_1 : decode cX2_findOther 1 = .ok (.istore 5, 2) := by decide +kernel
theorem dX2_findOther_3 : decode cX2_findOther 3 = .ok (.iload 5, 2) := by decide +kernel
theorem dX2_findOther_5 : decode cX2_findOther 5 = .ok (.aload_n 0, 1) := by decide +kernel
theorem dX2_findOther_6 : decode cX2_findOther 6 = .ok (.getfield 35, 3) := by decide +kernel
theorem dX2_findOther_9 : decode cX2_findOther 9 = .ok (.if_icmp .ge 70, 3) := by decide +kernel
theorem dX2_findOther_12 : decode cX2_findOther 12 = .ok (.aload_n 0, 1) := by decide +kernel
theorem dX2_findOther_13 : decode cX2_findOther 13 = .ok (.getfield 20, 3) := by decide +kernel
theorem dX2_findOther_16 : decode cX2_findOther 16 = .ok (.iload 5, 2) := by decide +kernel
theorem dX2_findOther_18 : decode cX2_findOther 18 = .ok (.invokevirtual 50, 3) := by decide +kernel
theorem dX2_findOther_21 : decode cX2_findOther 21 = .ok (.iload_n 3, 1) := by decide +kernel
theorem dX2_findOther_22 : decode cX2_findOther 22 = .ok (.if_icmp .eq 16, 3) := by decide +kernel
theorem dX2_findOther_25 : decode cX2_findOther 25 = .ok (.aload_n 0, 1) := by decide +kernel
theorem dX2_findOther_26 : decode cX2_findOther 26 = .ok (.getfield 14, 3) := by decide +kernel
theorem dX2_findOther_29 : decode cX2_findOther 29 = .ok (.iload 5, 2) := by decide +kernel
theorem dX2_findOther_31 : decode cX2_findOther 31 = .ok (.invokevirtual 50, 3) := by decide +kernel
theorem dX2_findOther_34 : decode cX2_findOther 34 = .ok (.iload_n 2, 1) := by decide +kernel
theorem dX2_findOther_35 : decode cX2_findOther 35 = .ok (.if_icmp .ne 7, 3) := by decide +kernel
theorem dX2_findOther_38 : decode cX2_findOther 38 = .ok (.iconst 1, 1) := by decide +kernel
theorem dX2_findOther_39 : decode cX2_findOther 39 = .ok (.goto 4, 3) := by decide +kernel
theorem dX2_findOther_42 : decode cX2_findOther 42 = .ok (.iconst 0, 1) := by decide +kernel
theorem dX2_findOther_43 : decode cX2_findOther 43 = .ok (.istore 6, 2) := by decide +kernel
theorem dX2_findOther_45 : decode cX2_findOther 45 = .ok (.iload 5, 2) := by decide +kernel
theorem dX2_findOther_47 : decode cX2_findOther 47 = .ok (.iload_n 1, 1) := by decide +kernel
theorem dX2_findOther_48 : decode cX2_findOther 48 = .ok (.if_icmp .eq 25, 3) := by decide +kernel
theorem dX2_findOther_51 : decode cX2_findOther 51 = .ok (.iload 6, 2) := by decide +kernel
theorem dX2_findOther_53 : decode cX2_findOther 53 = .ok (.ifCond .eq 20, 3) := by decide +kernel
theorem dX2_findOther_56 : decode cX2_findOther 56 = .ok (.aload_n 0, 1) := by decide +kernel
theorem dX2_findOther_57 : decode cX2_findOther 57 = .ok (.getfield 23, 3) := by decide +kernel
theorem dX2_findOther_60 : decode cX2_findOther 60 = .ok (.iload 5, 2) := by decide +kernel
theorem dX2_findOther_62 : decode cX2_findOther 62 = .ok (.invokevirtual 50, 3) := by decide +kernel
theorem dX2_findOther_65 : decode cX2_findOther 65 = .ok (.iload 4, 2) := by decide +kernel
theorem dX2_findOther_67 : decode cX2_findOther 67 = .ok (.if_icmp .ne 6, 3) := by decide +kernel
theorem dX2_findOther_70 : decode cX2_findOther 70 = .ok (.iload 5, 2) := by decide +kernel
theorem dX2_findOther_72 : decode cX2_findOther 72 = .ok (.ireturn, 1) := by decide +kernel
theorem dX2_findOther_73 : decode cX2_findOther 73 = .ok (.iinc 5 1, 3) := by decide +kernel
theorem dX2_findOther_76 : decode cX2_findOther 76 = .ok (.goto (-73), 3) := by decide +kernel
theorem dX2_findOther_79 : decode cX2_findOther 79 = .ok (.iconst (-1), 1) := by decide +kernel
theorem dX2_findOther_80 : decode cX2_findOther 80 = .ok (.ireturn, 1) := by decide +kernel
theorem dX2_taken_0 : decode cX2_taken 0 = .ok (.aload_n 0, 1) := by decide +kernel
theorem dX2_taken_1 : decode cX2_taken 1 = .ok (.getfield 26, 3) := by decide +kernel
theorem dX2_taken_4 : decode cX2_taken 4 = .ok (.iload_n 1, 1) := by decide +kernel
theorem dX2_taken_5 : decode cX2_taken 5 = .ok (.invokevirtual 50, 3) := by decide +kernel
theorem dX2_taken_8 : decode cX2_taken 8 = .ok (.aload_n 0, 1) := by decide +kernel
theorem dX2_taken_9 : decode cX2_taken 9 = .ok (.getfield 29, 3) := by decide +kernel
theorem dX2_taken_12 : decode cX2_taken 12 = .ok (.iload_n 1, 1) := by decide +kernel
theorem dX2_taken_13 : decode cX2_taken 13 = .ok (.invokevirtual 50, 3) := by decide +kernel
theorem dX2_taken_16 : decode cX2_taken 16 = .ok (.iadd, 1) := by decide +kernel
theorem dX2_taken_17 : decode cX2_taken 17 = .ok (.ireturn, 1) := by decide +kernel
theorem dX2_isHeldBy_0 : decode cX2_isHeldBy 0 = .ok (.aload_n 0, 1) := by decide +kernel
theorem dX2_isHeldBy_1 : decode cX2_isHeldBy 1 = .ok (.getfield 32, 3) := by decide +kernel
theorem dX2_isHeldBy_4 : decode cX2_isHeldBy 4 = .ok (.iload_n 2, 1) := by decide +kernel
theorem dX2_isHeldBy_5 : decode cX2_isHeldBy 5 = .ok (.invokevirtual 50, 3) := by decide +kernel
theorem dX2_isHeldBy_8 : decode cX2_isHeldBy 8 = .ok (.iload_n 1, 1) := by decide +kernel
theorem dX2_isHeldBy_9 : decode cX2_isHeldBy 9 = .ok (.invokestatic 54, 3) := by decide +kernel
theorem dX2_isHeldBy_12 : decode cX2_isHeldBy 12 = .ok (.ireturn, 1) := by decide +kernel
theorem dX2_heldFor_0 : decode cX2_heldFor 0 = .ok (.iconst 0, 1) := by decide +kernel
theorem dX2_heldFor_1 : decode cX2_heldFor 1 = .ok (.istore_n 2, 1) := by decide +kernel
theorem dX2_heldFor_2 : decode cX2_heldFor 2 = .ok (.iconst 0, 1) := by decide +kernel
theorem dX2_heldFor_3 : decode cX2_heldFor 3 = .ok (.istore_n 3, 1) := by decide +kernel
theorem dX2_heldFor_4 : decode cX2_heldFor 4 = .ok (.iload_n 3, 1) := by decide +kernel
theorem dX2_heldFor_5 : decode cX2_heldFor 5 = .ok (.aload_n 0, 1) := by decide +kernel
theorem dX2_heldFor_6 : decode cX2_heldFor 6 = .ok (.getfield 35, 3) := by decide +kernel
theorem dX2_heldFor_9 : decode cX2_heldFor 9 = .ok (.if_icmp .ge 24, 3) := by decide +kernel
theorem dX2_heldFor_12 : decode cX2_heldFor 12 = .ok (.aload_n 0, 1) := by decide +kernel
theorem dX2_heldFor_13 : decode cX2_heldFor 13 = .ok (.iload_n 1, 1) := by decide +kernel
theorem dX2_heldFor_14 : decode cX2_heldFor 14 = .ok (.iload_n 3, 1) := by decide +kernel
theorem dX2_heldFor_15 : decode cX2_heldFor 15 = .ok (.invokevirtual 58, 3) := by decide +kernel
theorem dX2_heldFor_18 : decode cX2_heldFor 18 = .ok (.ifCond .eq 9, 3) := by decide +kernel
theorem dX2_heldFor_21 : decode cX2_heldFor 21 = .ok (.iload_n 2, 1) := by decide +kernel
theorem dX2_heldFor_22 : decode cX2_heldFor 22 = .ok (.iconst 1, 1) := by decide +kernel
theorem dX2_heldFor_23 : decode cX2_heldFor 23 = .ok (.iload_n 3, 1) := by decide +kernel
theorem dX2_heldFor_24 : decode cX2_heldFor 24 = .ok (.ishl, 1) := by decide +kernel
theorem dX2_heldFor_25 : decode cX2_heldFor 25 = .ok (.ior, 1) := by decide +kernel
theorem dX2_heldFor_26 : decode cX2_heldFor 26 = .ok (.istore_n 2, 1) := by decide +kernel
theorem dX2_heldFor_27 : decode cX2_heldFor 27 = .ok (.iinc 3 1, 3) := by decide +kernel
theorem dX2_heldFor_30 : decode cX2_heldFor 30 = .ok (.goto (-26), 3) := by decide +kernel
theorem dX2_heldFor_33 : decode cX2_heldFor 33 = .ok (.iload_n 2, 1) := by decide +kernel
theorem dX2_heldFor_34 : decode cX2_heldFor 34 = .ok (.ireturn, 1) := by decide +kernel
theorem dX2_beginHolding_0 : decode cX2_beginHolding 0 = .ok (.aload_n 0, 1) := by decide +kernel
theorem dX2_beginHolding_1 : decode cX2_beginHolding 1 = .ok (.getfield 32, 3) := by decide +kernel
theorem dX2_beginHolding_4 : decode cX2_beginHolding 4 = .ok (.iload_n 2, 1) := by decide +kernel
theorem dX2_beginHolding_5 : decode cX2_beginHolding 5 = .ok (.aload_n 0, 1) := by decide +kernel
theorem dX2_beginHolding_6 : decode cX2_beginHolding 6 = .ok (.getfield 32, 3) := by decide +kernel
theorem dX2_beginHolding_9 : decode cX2_beginHolding 9 = .ok (.iload_n 2, 1) := by decide +kernel
theorem dX2_beginHolding_10 : decode cX2_beginHolding 10 = .ok (.invokevirtual 50, 3) := by decide +kernel
theorem dX2_beginHolding_13 : decode cX2_beginHolding 13 = .ok (.iconst 1, 1) := by decide +kernel
theorem dX2_beginHolding_14 : decode cX2_beginHolding 14 = .ok (.iload_n 1, 1) := by decide +kernel
theorem dX2_beginHolding_15 : decode cX2_beginHolding 15 = .ok (.ishl, 1) := by decide +kernel
theorem dX2_beginHolding_16 : decode cX2_beginHolding 16 = .ok (.ior, 1) := by decide +kernel
theorem dX2_beginHolding_17 : decode cX2_beginHolding 17 = .ok (.invokevirtual 43, 3) := by decide +kernel
theorem dX2_beginHolding_20 : decode cX2_beginHolding 20 = .ok (.aload_n 0, 1) := by decide +kernel
theorem dX2_beginHolding_21 : decode cX2_beginHolding 21 = .ok (.getfield 29, 3) := by decide +kernel
theorem dX2_beginHolding_24 : decode cX2_beginHolding 24 = .ok (.iload_n 2, 1) := by decide +kernel
theorem dX2_beginHolding_25 : decode cX2_beginHolding 25 = .ok (.iload_n 3, 1) := by decide +kernel
theorem dX2_beginHolding_26 : decode cX2_beginHolding 26 = .ok (.invokevirtual 61, 3) := by decide +kernel
theorem dX2_beginHolding_29 : decode cX2_beginHolding 29 = .ok (.return_, 1) := by decide +kernel
theorem dX2_endHolding_0 : decode cX2_endHolding 0 = .ok (.aload_n 0, 1) := by decide +kernel
theorem dX2_endHolding_1 : decode cX2_endHolding 1 = .ok (.getfield 32, 3) := by decide +kernel
theorem dX2_endHolding_4 : decode cX2_endHolding 4 = .ok (.iload_n 2, 1) := by decide +kernel
theorem dX2_endHolding_5 : decode cX2_endHolding 5 = .ok (.aload_n 0, 1) := by decide +kernel
theorem dX2_endHolding_6 : decode cX2_endHolding 6 = .ok (.getfield 32, 3) := by decide +kernel
theorem dX2_endHolding_9 : decode cX2_endHolding 9 = .ok (.iload_n 2, 1) := by decide +kernel
theorem dX2_endHolding_10 : decode cX2_endHolding 10 = .ok (.invokevirtual 50, 3) := by decide +kernel
theorem dX2_endHolding_13 : decode cX2_endHolding 13 = .ok (.iconst 1, 1) := by decide +kernel
theorem dX2_endHolding_14 : decode cX2_endHolding 14 = .ok (.iload_n 1, 1) := by decide +kernel
theorem dX2_endHolding_15 : decode cX2_endHolding 15 = .ok (.ishl, 1) := by decide +kernel
theorem dX2_endHolding_16 : decode cX2_endHolding 16 = .ok (.iconst (-1), 1) := by decide +kernel
theorem dX2_endHolding_17 : decode cX2_endHolding 17 = .ok (.ixor, 1) := by decide +kernel
theorem dX2_endHolding_18 : decode cX2_endHolding 18 = .ok (.iand, 1) := by decide +kernel
theorem dX2_endHolding_19 : decode cX2_endHolding 19 = .ok (.invokevirtual 43, 3) := by decide +kernel
theorem dX2_endHolding_22 : decode cX2_endHolding 22 = .ok (.aload_n 0, 1) := by decide +kernel
theorem dX2_endHolding_23 : decode cX2_endHolding 23 = .ok (.getfield 29, 3) := by decide +kernel
theorem dX2_endHolding_26 : decode cX2_endHolding 26 = .ok (.iload_n 2, 1) := by decide +kernel
theorem dX2_endHolding_27 : decode cX2_endHolding 27 = .ok (.iload_n 3, 1) := by decide +kernel
theorem dX2_endHolding_28 : decode cX2_endHolding 28 = .ok (.ineg, 1) := by decide +kernel
theorem dX2_endHolding_29 : decode cX2_endHolding 29 = .ok (.invokevirtual 61, 3) := by decide +kernel
theorem dX2_endHolding_32 : decode cX2_endHolding 32 = .ok (.return_, 1) := by decide +kernel
theorem dX2_copyFrom_0 : decode cX2_copyFrom 0 = .ok (.aload_n 0, 1) := by decide +kernel
theorem dX2_copyFrom_1 : decode cX2_copyFrom 1 = .ok (.aload_n 1, 1) := by decide +kernel
theorem dX2_copyFrom_2 : decode cX2_copyFrom 2 = .ok (.getfield 35, 3) := by decide +kernel
theorem dX2_copyFrom_5 : decode cX2_copyFrom 5 = .ok (.putfield 35, 3) := by decide +kernel
theorem dX2_copyFrom_8 : decode cX2_copyFrom 8 = .ok (.aload_n 0, 1) := by decide +kernel
theorem dX2_copyFrom_9 : decode cX2_copyFrom 9 = .ok (.getfield 14, 3) := by decide +kernel
theorem dX2_copyFrom_12 : decode cX2_copyFrom 12 = .ok (.aload_n 1, 1) := by decide +kernel
theorem dX2_copyFrom_13 : decode cX2_copyFrom 13 = .ok (.getfield 14, 3) := by decide +kernel
theorem dX2_copyFrom_16 : decode cX2_copyFrom 16 = .ok (.invokevirtual 64, 3) := by decide +kernel
theorem dX2_copyFrom_19 : decode cX2_copyFrom 19 = .ok (.aload_n 0, 1) := by decide +kernel
theorem dX2_copyFrom_20 : decode cX2_copyFrom 20 = .ok (.getfield 20, 3) := by decide +kernel
theorem dX2_copyFrom_23 : decode cX2_copyFrom 23 = .ok (.aload_n 1, 1) := by decide +kernel
theorem dX2_copyFrom_24 : decode cX2_copyFrom 24 = .ok (.getfield 20, 3) := by decide +kernel
theorem dX2_copyFrom_27 : decode cX2_copyFrom 27 = .ok (.invokevirtual 64, 3) := by decide +kernel
theorem dX2_copyFrom_30 : decode cX2_copyFrom 30 = .ok (.aload_n 0, 1) := by decide +kernel
theorem dX2_copyFrom_31 : decode cX2_copyFrom 31 = .ok (.getfield 23, 3) := by decide +kernel
theorem dX2_copyFrom_34 : decode cX2_copyFrom 34 = .ok (.aload_n 1, 1) := by decide +kernel
theorem dX2_copyFrom_35 : decode cX2_copyFrom 35 = .ok (.getfield 23, 3) := by decide +kernel
theorem dX2_copyFrom_38 : decode cX2_copyFrom 38 = .ok (.invokevirtual 64, 3) := by decide +kernel
theorem dX2_copyFrom_41 : decode cX2_copyFrom 41 = .ok (.aload_n 0, 1) := by decide +kernel
theorem dX2_copyFrom_42 : decode cX2_copyFrom 42 = .ok (.getfield 26, 3) := by decide +kernel
theorem dX2_copyFrom_45 : decode cX2_copyFrom 45 = .ok (.aload_n 1, 1) := by decide +kernel
theorem dX2_copyFrom_46 : decode cX2_copyFrom 46 = .ok (.getfield 26, 3) := by decide +kernel
theorem dX2_copyFrom_49 : decode cX2_copyFrom 49 = .ok (.invokevirtual 64, 3) := by decide +kernel
theorem dX2_copyFrom_52 : decode cX2_copyFrom 52 = .ok (.aload_n 0, 1) := by decide +kernel
theorem dX2_copyFrom_53 : decode cX2_copyFrom 53 = .ok (.getfield 29, 3) := by decide +kernel
theorem dX2_copyFrom_56 : decode cX2_copyFrom 56 = .ok (.aload_n 1, 1) := by decide +kernel
theorem dX2_copyFrom_57 : decode cX2_copyFrom 57 = .ok (.getfield 29, 3) := by decide +kernel
theorem dX2_copyFrom_60 : decode cX2_copyFrom 60 = .ok (.invokevirtual 64, 3) := by decide +kernel
theorem dX2_copyFrom_63 : decode cX2_copyFrom 63 = .ok (.aload_n 0, 1) := by decide +kernel
theorem dX2_copyFrom_64 : decode cX2_copyFrom 64 = .ok (.getfield 32, 3) := by decide +kernel
theorem dX2_copyFrom_67 : decode cX2_copyFrom 67 = .ok (.aload_n 1, 1) := by decide +kernel
theorem dX2_copyFrom_68 : decode cX2_copyFrom 68 = .ok (.getfield 32, 3) := by decide +kernel
theorem dX2_copyFrom_71 : decode cX2_copyFrom 71 = .ok (.invokevirtual 64, 3) := by decide +kernel
theorem dX2_copyFrom_74 : decode cX2_copyFrom 74 = .ok (.return_, 1) := by decide +kernel
theorem dX3_init_0 : decode cX3_init 0 = .ok (.aload_n 0, 1) := by decide +kernel
theorem dX3_init_1 : decode cX3_init 1 = .ok (.invokespecial 3, 3) := by decide +kernel
theorem dX3_init_4 : decode cX3_init 4 = .ok (.aload_n 0, 1) := by decide +kernel
theorem dX3_init_5 : decode cX3_init 5 = .ok (.new 9, 3) := by decide +kernel
theorem dX3_init_8 : decode cX3_init 8 = .ok (.dup, 1) := by decide +kernel
theorem dX3_init_9 : decode cX3_init 9 = .ok (.bipush 8, 2) := by decide +kernel
theorem dX3_init_11 : decode cX3_init 11 = .ok (.invokespecial 11, 3) := by decide +kernel
theorem dX3_init_14 : decode cX3_init 14 = .ok (.putfield 14, 3) := by decide +kernel
theorem dX3_init_17 : decode cX3_init 17 = .ok (.aload_n 0, 1) := by decide +kernel
theorem dX3_init_18 : decode cX3_init 18 = .ok (.new 9, 3) := by decide +kernel
theorem dX3_init_21 : decode cX3_init 21 = .ok (.dup, 1) := by decide +kernel
theorem dX3_init_22 : decode cX3_init 22 = .ok (.bipush 8, 2) := by decide +kernel
theorem dX3_init_24 : decode cX3_init 24 = .ok (.invokespecial 11, 3) := by decide +kernel
theorem dX3_init_27 : decode cX3_init 27 = .ok (.putfield 20, 3) := by decide +kernel
theorem dX3_init_30 : decode cX3_init 30 = .ok (.aload_n 0, 1) := by decide +kernel
theorem dX3_init_31 : decode cX3_init 31 = .ok (.new 9, 3) := by decide +kernel
theorem dX3_init_34 : decode cX3_init 34 = .ok (.dup, 1) := by decide +kernel
theorem dX3_init_35 : decode cX3_init 35 = .ok (.bipush 8, 2) := by decide +kernel
theorem dX3_init_37 : decode cX3_init 37 = .ok (.invokespecial 11, 3) := by decide +kernel
theorem dX3_init_40 : decode cX3_init 40 = .ok (.putfield 23, 3) := by decide +kernel
theorem dX3_init_43 : decode cX3_init 43 = .ok (.aload_n 0, 1) := by decide +kernel
theorem dX3_init_44 : decode cX3_init 44 = .ok (.new 9, 3) := by decide +kernel
theorem dX3_init_47 : decode cX3_init 47 = .ok (.dup, 1) := by decide +kernel
theorem dX3_init_48 : decode cX3_init 48 = .ok (.bipush 8, 2) := by decide +kernel
theorem dX3_init_50 : decode cX3_init 50 = .ok (.invokespecial 11, 3) := by decide +kernel
theorem dX3_init_53 : decode cX3_init 53 = .ok (.putfield 26, 3) := by decide +kernel
theorem dX3_init_56 : decode cX3_init 56 = .ok (.aload_n 0, 1) := by decide +kernel
theorem dX3_init_57 : decode cX3_init 57 = .ok (.new 9, 3) := by decide +kernel
theorem dX3_init_60 : decode cX3_init 60 = .ok (.dup, 1) := by decide +kernel
theorem dX3_init_61 : decode cX3_init 61 = .ok (.bipush 8, 2) := by decide +kernel
theorem dX3_init_63 : decode cX3_init 63 = .ok (.invokespecial 11, 3) := by decide +kernel
theorem dX3_init_66 : decode cX3_init 66 = .ok (.putfield 29, 3) := by decide +kernel
theorem dX3_init_69 : decode cX3_init 69 = .ok (.return_, 1) := by decide +kernel
theorem dX3_has_0 : decode cX3_has 0 = .ok (.iload_n 1, 1) := by decide +kernel
theorem dX3_has_1 : decode cX3_has 1 = .ok (.iconst 0, 1) := by decide +kernel
theorem dX3_has_2 : decode cX3_has 2 = .ok (.aload_n 0, 1) := by decide +kernel
theorem dX3_has_3 : decode cX3_has 3 = .ok (.getfield 32, 3) := by decide +kernel
theorem dX3_has_6 : decode cX3_has 6 = .ok (.iconst 1, 1) := by decide +kernel
theorem dX3_has_7 : decode cX3_has 7 = .ok (.isub, 1) := by decide +kernel
theorem dX3_has_8 : decode cX3_has 8 = .ok (.invokestatic 36, 3) := by decide +kernel
theorem dX3_has_11 : decode cX3_has 11 = .ok (.ireturn, 1) := by decide +kernel
theorem dX3_add_0 : decode cX3_add 0 = .ok (.aload_n 0, 1) := by decide +kernel
theorem dX3_add_1 : decode cX3_add 1 = .ok (.getfield 32, 3) := by decide +kernel
theorem dX3_add_4 : decode cX3_add 4 = .ok (.istore 5, 2) := by decide +kernel
theorem dX3_add_6 : decode cX3_add 6 = .ok (.aload_n 0, 1) := by decide +kernel
theorem dX3_add_7 : decode cX3_add 7 = .ok (.getfield 14, 3) := by decide +kernel
theorem dX3_add_10 : decode cX3_add 10 = .ok (.iload 5, 2) := by decide +kernel
theorem dX3_add_12 : decode cX3_add 12 = .ok (.iload_n 1, 1) := by decide +kernel
theorem dX3_add_13 : decode cX3_add 13 = .ok (.invokevirtual 40, 3) := by decide +kernel
theorem dX3_add_16 : decode cX3_add 16 = .ok (.aload_n 0, 1) := by decide +kernel
theorem dX3_add_17 : decode cX3_add 17 = .ok (.getfield 20, 3) := by decide +kernel
theorem dX3_add_20 : decode cX3_add 20 = .ok (.iload 5, 2) := by decide +kernel
theorem dX3_add_22 : decode cX3_add 22 = .ok (.iload_n 2, 1) := by decide +kernel
theorem dX3_add_23 : decode cX3_add 23 = .ok (.invokevirtual 40, 3) := by decide +kernel
theorem dX3_add_26 : decode cX3_add 26 = .ok (.aload_n 0, 1) := by decide +kernel
theorem dX3_add_27 : decode cX3_add 27 = .ok (.getfield 23, 3) := by decide +kernel
theorem dX3_add_30 : decode cX3_add 30 = .ok (.iload 5, 2) := by decide +kernel
theorem dX3_add_32 : decode cX3_add 32 = .ok (.iload_n 3, 1) := by decide +kernel
theorem dX3_add_33 : decode cX3_add 33 = .ok (.invokevirtual 40, 3) := by decide +kernel
theorem dX3_add_36 : decode cX3_add 36 = .ok (.aload_n 0, 1) := by decide +kernel
theorem dX3_add_37 : decode cX3_add 37 = .ok (.getfield 26, 3) := by decide +kernel
theorem dX3_add_40 : decode cX3_add 40 = .ok (.iload 5, 2) := by decide +kernel
theorem dX3_add_42 : decode cX3_add 42 = .ok (.iload 4, 2) := by decide +kernel
theorem dX3_add_44 : decode cX3_add 44 = .ok (.invokevirtual 40, 3) := by decide +kernel
theorem dX3_add_47 : decode cX3_add 47 = .ok (.aload_n 0, 1) := by decide +kernel
theorem dX3_add_48 : decode cX3_add 48 = .ok (.getfield 29, 3) := by decide +kernel
theorem dX3_add_51 : decode cX3_add 51 = .ok (.iload 5, 2) := by decide +kernel
theorem dX3_add_53 : decode cX3_add 53 = .ok (.iconst 0, 1) := by decide +kernel
theorem dX3_add_54 : decode cX3_add 54 = .ok (.invokevirtual 40, 3) := by decide +kernel
theorem dX3_add_57 : decode cX3_add 57 = .ok (.aload_n 0, 1) := by decide +kernel
theorem dX3_add_58 : decode cX3_add 58 = .ok (.dup, 1) := by decide +kernel
theorem dX3_add_59 : decode cX3_add 59 = .ok (.getfield 32, 3) := by decide +kernel
theorem dX3_add_62 : decode cX3_add 62 = .ok (.iconst 1, 1) := by decide +kernel
theorem dX3_add_63 : decode cX3_add 63 = .ok (.iadd, 1) := by decide +kernel
theorem dX3_add_64 : decode cX3_add 64 = .ok (.putfield 32, 3) := by decide +kernel
theorem dX3_add_67 : decode cX3_add 67 = .ok (.iload 5, 2) := by decide +kernel
theorem dX3_add_69 : decode cX3_add 69 = .ok (.ireturn, 1) := by decide +kernel
theorem dX3_isStored_0 : decode cX3_isStored 0 = .ok (.iload_n 0, 1) := by decide +kernel
theorem dX3_isStored_1 : decode cX3_isStored 1 = .ok (.iconst 1, 1) := by decide +kernel
theorem dX3_isStored_2 : decode cX3_isStored 2 = .ok (.iload_n 1, 1) := by decide +kernel
theorem dX3_isStored_3 : decode cX3_isStored 3 = .ok (.ishl, 1) := by decide +kernel
theorem dX3_isStored_4 : decode cX3_isStored 4 = .ok (.iconst 1, 1) := by decide +kernel
theorem dX3_isStored_5 : decode cX3_isStored 5 = .ok (.isub, 1) := by decide +kernel
theorem dX3_isStored_6 : decode cX3_isStored 6 = .ok (.iand, 1) := by decide +kernel
theorem dX3_isStored_7 : decode cX3_isStored 7 = .ok (.ifCond .eq 7, 3) := by decide +kernel
theorem dX3_isStored_10 : decode cX3_isStored 10 = .ok (.iconst 1, 1) := by decide +kernel
theorem dX3_isStored_11 : decode cX3_isStored 11 = .ok (.goto 4, 3) := by decide +kernel
theorem dX3_isStored_14 : decode cX3_isStored 14 = .ok (.iconst 0, 1) := by decide +kernel
theorem dX3_isStored_15 : decode cX3_isStored 15 = .ok (.istore_n 2, 1) := by decide +kernel
theorem dX3_isStored_16 : decode cX3_isStored 16 = .ok (.iload_n 0, 1) := by decide +kernel
theorem dX3_isStored_17 : decode cX3_isStored 17 = .ok (.iload_n 1, 1) := by decide +kernel
theorem dX3_isStored_18 : decode cX3_isStored 18 = .ok (.ishr, 1) := by decide +kernel
theorem dX3_isStored_19 : decode cX3_isStored 19 = .ok (.ifCond .eq 7, 3) := by decide +kernel
theorem dX3_isStored_22 : decode cX3_isStored 22 = .ok (.iconst 1, 1) := by decide +kernel
theorem dX3_isStored_23 : decode cX3_isStored 23 = .ok (.goto 4, 3) := by decide +kernel
theorem dX3_isStored_26 : decode cX3_isStored 26 = .ok (.iconst 0, 1) := by decide +kernel
theorem dX3_isStored_27 : decode cX3_isStored 27 = .ok (.istore_n 3, 1) := by decide +kernel
theorem dX3_isStored_28 : decode cX3_isStored 28 = .ok (.iload_n 0, 1) := by decide +kernel
theorem dX3_isStored_29 : decode cX3_isStored 29 = .ok (.iload_n 1, 1) := by decide +kernel
theorem dX3_isStored_30 : decode cX3_isStored 30 = .ok (.ishr, 1) := by decide +kernel
theorem dX3_isStored_31 : decode cX3_isStored 31 = .ok (.iconst 1, 1) := by decide +kernel
theorem dX3_isStored_32 : decode cX3_isStored 32 = .ok (.iand, 1) := by decide +kernel
theorem dX3_isStored_33 : decode cX3_isStored 33 = .ok (.ifCond .eq 7, 3) := by decide +kernel
theorem dX3_isStored_36 : decode cX3_isStored 36 = .ok (.iconst 1, 1) := by decide +kernel
theorem dX3_isStored_37 : decode cX3_isStored 37 = .ok (.goto 4, 3) := by decide +kernel
theorem dX3_isStored_40 : decode cX3_isStored 40 = .ok (.iconst 0, 1) := by decide +kernel
theorem dX3_isStored_41 : decode cX3_isStored 41 = .ok (.istore 4, 2) := by decide +kernel
theorem dX3_isStored_43 : decode cX3_isStored 43 = .ok (.iload_n 2, 1) := by decide +kernel
theorem dX3_isStored_44 : decode cX3_isStored 44 = .ok (.ifCond .eq 16, 3) := by decide +kernel
theorem dX3_isStored_47 : decode cX3_isStored 47 = .ok (.iload_n 3, 1) := by decide +kernel
theorem dX3_isStored_48 : decode cX3_isStored 48 = .ok (.ifCond .eq 12, 3) := by decide +kernel
theorem dX3_isStored_51 : decode cX3_isStored 51 = .ok (.iload 4, 2) := by decide +kernel
theorem dX3_isStored_53 : decode cX3_isStored 53 = .ok (.ifCond .ne 7, 3) := by decide +kernel
theorem dX3_isStored_56 : decode cX3_isStored 56 = .ok (.iconst 1, 1) := by decide +kernel
theorem dX3_isStored_57 : decode cX3_isStored 57 = .ok (.goto 4, 3) := by decide +kernel
theorem dX3_isStored_60 : decode cX3_isStored 60 = .ok (.iconst 0, 1) := by decide +kernel
theorem dX3_isStored_61 : decode cX3_isStored 61 = .ok (.ireturn, 1) := by decide +kernel
theorem dX3_loadIf_0 : decode cX3_loadIf 0 = .ok (.iconst 0, 1) := by decide +kernel
theorem dX3_loadIf_1 : decode cX3_loadIf 1 = .ok (.istore 4, 2) := by decide +kernel
theorem dX3_loadIf_3 : decode cX3_loadIf 3 = .ok (.iconst 0, 1) := by decide +kernel
theorem dX3_loadIf_4 : decode cX3_loadIf 4 = .ok (.istore 5, 2) := by decide +kernel
theorem dX3_loadIf_6 : decode cX3_loadIf 6 = .ok (.iload 5, 2) := by decide +kernel
theorem dX3_loadIf_8 : decode cX3_loadIf 8 = .ok (.aload_n 0, 1) := by decide +kernel
theorem dX3_loadIf_9 : decode cX3_loadIf 9 = .ok (.getfield 32, 3) := by decide +kernel
theorem dX3_loadIf_12 : decode cX3_loadIf 12 = .ok (.if_icmp .ge 53, 3) := by decide +kernel
theorem dX3_loadIf_15 : decode cX3_loadIf 15 = .ok (.iload 5, 2) := by decide +kernel
theorem dX3_loadIf_17 : decode cX3_loadIf 17 = .ok (.iload_n 2, 1) := by decide +kernel
theorem dX3_loadIf_18 : decode cX3_loadIf 18 = .ok (.if_icmp .ne 7, 3) := by decide +kernel
theorem dX3_loadIf_21 : decode cX3_loadIf 21 = .ok (.iload_n 3, 1) := by decide +kernel
theorem dX3_loadIf_22 : decode cX3_loadIf 22 = .ok (.goto 12, 3) := by decide +kernel
theorem dX3_loadIf_25 : decode cX3_loadIf 25 = .ok (.aload_n 0, 1) := by decide +kernel
theorem dX3_loadIf_26 : decode cX3_loadIf 26 = .ok (.getfield 29, 3) := by decide +kernel
theorem dX3_loadIf_29 : decode cX3_loadIf 29 = .ok (.iload 5, 2) := by decide +kernel
theorem dX3_loadIf_31 : decode cX3_loadIf 31 = .ok (.invokevirtual 44, 3) := by decide +kernel
theorem dX3_loadIf_34 : decode cX3_loadIf 34 = .ok (.istore 6, 2) := by decide +kernel
theorem dX3_loadIf_36 : decode cX3_loadIf 36 = .ok (.iload 6, 2) := by decide +kernel
theorem dX3_loadIf_38 : decode cX3_loadIf 38 = .ok (.iload_n 1, 1) := by decide +kernel
theorem dX3_loadIf_39 : decode cX3_loadIf 39 = .ok (.invokestatic 48, 3) := by decide +kernel
theorem dX3_loadIf_42 : decode cX3_loadIf 42 = .ok (.ifCond .eq 17, 3) := by decide +kernel
theorem dX3_loadIf_45 : decode cX3_loadIf 45 = .ok (.iload 4, 2) := by decide +kernel
theorem dX3_loadIf_47 : decode cX3_loadIf 47 = .ok (.aload_n 0, 1) := by decide +kernel
theorem dX3_loadIf_48 : decode cX3_loadIf 48 = .ok (.getfield 14, 3) := by decide +kernel
theorem dX3_loadIf_51 : decode cX3_loadIf 51 = .ok (.iload 5, 2) := by decide +kernel
theorem dX3_loadIf_53 : decode cX3_loadIf 53 = .ok (.invokevirtual 44, 3) := by decide +kernel
theorem dX3_loadIf_56 : decode cX3_loadIf 56 = .ok (.iadd, 1) := by decide +kernel
theorem dX3_loadIf_57 : decode cX3_loadIf 57 = .ok (.istore 4, 2) := by decide +kernel
theorem dX3_loadIf_59 : decode cX3_loadIf 59 = .ok (.iinc 5 1, 3) := by decide +kernel
theorem dX3_loadIf_62 : decode cX3_loadIf 62 = .ok (.goto (-56), 3) := by decide +kernel
theorem dX3_loadIf_65 : decode cX3_loadIf 65 = .ok (.iload 4, 2) := by decide +kernel
theorem dX3_loadIf_67 : decode cX3_loadIf 67 = .ok (.ireturn, 1) := by decide +kernel
theorem dX3_peakIf_0 : decode cX3_peakIf 0 = .ok (.iconst 0, 1) := by decide +kernel
theorem dX3_peakIf_1 : decode cX3_peakIf 1 = .ok (.istore_n 3, 1) := by decide +kernel
theorem dX3_peakIf_2 : decode cX3_peakIf 2 = .ok (.iconst 0, 1) := by decide +kernel
theorem dX3_peakIf_3 : decode cX3_peakIf 3 = .ok (.istore 4, 2) := by decide +kernel
theorem dX3_peakIf_5 : decode cX3_peakIf 5 = .ok (.iload 4, 2) := by decide +kernel
theorem dX3_peakIf_7 : decode cX3_peakIf 7 = .ok (.bipush 30, 2) := by decide +kernel
theorem dX3_peakIf_9 : decode cX3_peakIf 9 = .ok (.if_icmp .ge 22, 3) := by decide +kernel
theorem dX3_peakIf_12 : decode cX3_peakIf 12 = .ok (.iload_n 3, 1) := by decide +kernel
theorem dX3_peakIf_13 : decode cX3_peakIf 13 = .ok (.aload_n 0, 1) := by decide +kernel
theorem dX3_peakIf_14 : decode cX3_peakIf 14 = .ok (.iload 4, 2) := by decide +kernel
theorem dX3_peakIf_16 : decode cX3_peakIf 16 = .ok (.iload_n 1, 1) := by decide +kernel
theorem dX3_peakIf_17 : decode cX3_peakIf 17 = .ok (.iload_n 2, 1) := by decide +kernel
theorem dX3_peakIf_18 : decode cX3_peakIf 18 = .ok (.invokevirtual 52, 3) := by decide +kernel
theorem dX3_peakIf_21 : decode cX3_peakIf 21 = .ok (.invokestatic 56, 3) := by decide +kernel
theorem dX3_peakIf_24 : decode cX3_peakIf 24 = .ok (.istore_n 3, 1) := by decide +kernel
theorem dX3_peakIf_25 : decode cX3_peakIf 25 = .ok (.iinc 4 1, 3) := by decide +kernel
theorem dX3_peakIf_28 : decode cX3_peakIf 28 = .ok (.goto (-23), 3) := by decide +kernel
theorem dX3_peakIf_31 : decode cX3_peakIf 31 = .ok (.iload_n 3, 1) := by decide +kernel
theorem dX3_peakIf_32 : decode cX3_peakIf 32 = .ok (.ireturn, 1) := by decide +kernel
theorem dX3_crewIf_0 : decode cX3_crewIf 0 = .ok (.iconst 0, 1) := by decide +kernel
theorem dX3_crewIf_1 : decode cX3_crewIf 1 = .ok (.istore 4, 2) := by decide +kernel
theorem dX3_crewIf_3 : decode cX3_crewIf 3 = .ok (.iconst 0, 1) := by decide +kernel
theorem dX3_crewIf_4 : decode cX3_crewIf 4 = .ok (.istore 5, 2) := by decide +kernel
theorem dX3_crewIf_6 : decode cX3_crewIf 6 = .ok (.iload 5, 2) := by decide +kernel
theorem dX3_crewIf_8 : decode cX3_crewIf 8 = .ok (.aload_n 0, 1) := by decide +kernel
theorem dX3_crewIf_9 : decode cX3_crewIf 9 = .ok (.getfield 32, 3) := by decide +kernel
theorem dX3_crewIf_12 : decode cX3_crewIf 12 = .ok (.if_icmp .ge 53, 3) := by decide +kernel
theorem dX3_crewIf_15 : decode cX3_crewIf 15 = .ok (.iload 5, 2) := by decide +kernel
theorem dX3_crewIf_17 : decode cX3_crewIf 17 = .ok (.iload_n 2, 1) := by decide +kernel
theorem dX3_crewIf_18 : decode cX3_crewIf 18 = .ok (.if_icmp .ne 7, 3) := by decide +kernel
theorem dX3_crewIf_21 : decode cX3_crewIf 21 = .ok (.iload_n 3, 1) := by decide +kernel
theorem dX3_crewIf_22 : decode cX3_crewIf 22 = .ok (.goto 12, 3) := by decide +kernel
theorem dX3_crewIf_25 : decode cX3_crewIf 25 = .ok (.aload_n 0, 1) := by decide +kernel
theorem dX3_crewIf_26 : decode cX3_crewIf 26 = .ok (.getfield 29, 3) := by decide +kernel
theorem dX3_crewIf_29 : decode cX3_crewIf 29 = .ok (.iload 5, 2) := by decide +kernel
theorem dX3_crewIf_31 : decode cX3_crewIf 31 = .ok (.invokevirtual 44, 3) := by decide +kernel
theorem dX3_crewIf_34 : decode cX3_crewIf 34 = .ok (.istore 6, 2) := by decide +kernel
theorem dX3_crewIf_36 : decode cX3_crewIf 36 = .ok (.iload 6, 2) := by decide +kernel
theorem dX3_crewIf_38 : decode cX3_crewIf 38 = .ok (.iload_n 1, 1) := by decide +kernel
theorem dX3_crewIf_39 : decode cX3_crewIf 39 = .ok (.invokestatic 62, 3) := by decide +kernel
theorem dX3_crewIf_42 : decode cX3_crewIf 42 = .ok (.ifCond .eq 17, 3) := by decide +kernel
theorem dX3_crewIf_45 : decode cX3_crewIf 45 = .ok (.iload 4, 2) := by decide +kernel
theorem dX3_crewIf_47 : decode cX3_crewIf 47 = .ok (.aload_n 0, 1) := by decide +kernel
theorem dX3_crewIf_48 : decode cX3_crewIf 48 = .ok (.getfield 20, 3) := by decide +kernel
theorem dX3_crewIf_51 : decode cX3_crewIf 51 = .ok (.iload 5, 2) := by decide +kernel
theorem dX3_crewIf_53 : decode cX3_crewIf 53 = .ok (.invokevirtual 44, 3) := by decide +kernel
theorem dX3_crewIf_56 : decode cX3_crewIf 56 = .ok (.iadd, 1) := by decide +kernel
theorem dX3_crewIf_57 : decode cX3_crewIf 57 = .ok (.istore 4, 2) := by decide +kernel
theorem dX3_crewIf_59 : decode cX3_crewIf 59 = .ok (.iinc 5 1, 3) := by decide +kernel
theorem dX3_crewIf_62 : decode cX3_crewIf 62 = .ok (.goto (-56), 3) := by decide +kernel
theorem dX3_crewIf_65 : decode cX3_crewIf 65 = .ok (.iload 4, 2) := by decide +kernel
theorem dX3_crewIf_67 : decode cX3_crewIf 67 = .ok (.ireturn, 1) := by decide +kernel
theorem dX3_staffRefusalIf_0 : decode cX3_staffRefusalIf 0 = .ok (.iconst 0, 1) := by decide +kernel
theorem dX3_staffRefusalIf_1 : decode cX3_staffRefusalIf 1 = .ok (.istore 4, 2) := by decide +kernel
theorem dX3_staffRefusalIf_3 : decode cX3_staffRefusalIf 3 = .ok (.iload 4, 2) := by decide +kernel
theorem dX3_staffRefusalIf_5 : decode cX3_staffRefusalIf 5 = .ok (.bipush 30, 2) := by decide +kernel
theorem dX3_staffRefusalIf_7 : decode cX3_staffRefusalIf 7 = .ok (.if_icmp .ge 33, 3) := by decide +kernel
theorem dX3_staffRefusalIf_10 : decode cX3_staffRefusalIf 10 = .ok (.aload_n 0, 1) := by decide +kernel
theorem dX3_staffRefusalIf_11 : decode cX3_staffRefusalIf 11 = .ok (.iload 4, 2) := by decide +kernel
theorem dX3_staffRefusalIf_13 : decode cX3_staffRefusalIf 13 = .ok (.iload_n 2, 1) := by decide +kernel
theorem dX3_staffRefusalIf_14 : decode cX3_staffRefusalIf 14 = .ok (.iload_n 3, 1) := by decide +kernel
theorem dX3_staffRefusalIf_15 : decode cX3_staffRefusalIf 15 = .ok (.invokevirtual 65, 3) := by decide +kernel
theorem dX3_staffRefusalIf_18 : decode cX3_staffRefusalIf 18 = .ok (.iload_n 1, 1) := by decide +kernel
theorem dX3_staffRefusalIf_19 : decode cX3_staffRefusalIf 19 = .ok (.isub, 1) := by decide +kernel
theorem dX3_staffRefusalIf_20 : decode cX3_staffRefusalIf 20 = .ok (.istore 5, 2) := by decide +kernel
theorem dX3_staffRefusalIf_22 : decode cX3_staffRefusalIf 22 = .ok (.iload 5, 2) := by decide +kernel
theorem dX3_staffRefusalIf_24 : decode cX3_staffRefusalIf 24 = .ok (.ifCond .le 10, 3) := by decide +kernel
theorem dX3_staffRefusalIf_27 : decode cX3_staffRefusalIf 27 = .ok (.iconst 2, 1) := by decide +kernel
theorem dX3_staffRefusalIf_28 : decode cX3_staffRefusalIf 28 = .ok (.iload 5, 2) := by decide +kernel
theorem dX3_staffRefusalIf_30 : decode cX3_staffRefusalIf 30 = .ok (.invokestatic 68, 3) := by decide +kernel
theorem dX3_staffRefusalIf_33 : decode cX3_staffRefusalIf 33 = .ok (.ireturn, 1) := by decide +kernel
theorem dX3_staffRefusalIf_34 : decode cX3_staffRefusalIf 34 = .ok (.iinc 4 1, 3) := by decide +kernel
theorem dX3_staffRefusalIf_37 : decode cX3_staffRefusalIf 37 = .ok (.goto (-34), 3) := by decide +kernel
theorem dX3_staffRefusalIf_40 : decode cX3_staffRefusalIf 40 = .ok (.iconst 0, 1) := by decide +kernel
theorem dX3_staffRefusalIf_41 : decode cX3_staffRefusalIf 41 = .ok (.ireturn, 1) := by decide +kernel
theorem dX3_roomRefusalIf_0 : decode cX3_roomRefusalIf 0 = .ok (.iconst 0, 1) := by decide +kernel
theorem dX3_roomRefusalIf_1 : decode cX3_roomRefusalIf 1 = .ok (.istore 4, 2) := by decide +kernel
theorem dX3_roomRefusalIf_3 : decode cX3_roomRefusalIf 3 = .ok (.iload 4, 2) := by decide +kernel
theorem dX3_roomRefusalIf_5 : decode cX3_roomRefusalIf 5 = .ok (.bipush 30, 2) := by decide +kernel
theorem dX3_roomRefusalIf_7 : decode cX3_roomRefusalIf 7 = .ok (.if_icmp .ge 28, 3) := by decide +kernel
theorem dX3_roomRefusalIf_10 : decode cX3_roomRefusalIf 10 = .ok (.aload_n 0, 1) := by decide +kernel
theorem dX3_roomRefusalIf_11 : decode cX3_roomRefusalIf 11 = .ok (.iload 4, 2) := by decide +kernel
theorem dX3_roomRefusalIf_13 : decode cX3_roomRefusalIf 13 = .ok (.iload_n 2, 1) := by decide +kernel
theorem dX3_roomRefusalIf_14 : decode cX3_roomRefusalIf 14 = .ok (.iload_n 3, 1) := by decide +kernel
theorem dX3_roomRefusalIf_15 : decode cX3_roomRefusalIf 15 = .ok (.invokevirtual 52, 3) := by decide +kernel
theorem dX3_roomRefusalIf_18 : decode cX3_roomRefusalIf 18 = .ok (.iload_n 1, 1) := by decide +kernel
theorem dX3_roomRefusalIf_19 : decode cX3_roomRefusalIf 19 = .ok (.if_icmp .le 10, 3) := by decide +kernel
theorem dX3_roomRefusalIf_22 : decode cX3_roomRefusalIf 22 = .ok (.iconst 3, 1) := by decide +kernel
theorem dX3_roomRefusalIf_23 : decode cX3_roomRefusalIf 23 = .ok (.iload 4, 2) := by decide +kernel
theorem dX3_roomRefusalIf_25 : decode cX3_roomRefusalIf 25 = .ok (.invokestatic 68, 3) := by decide +kernel
theorem dX3_roomRefusalIf_28 : decode cX3_roomRefusalIf 28 = .ok (.ireturn, 1) := by decide +kernel
theorem dX3_roomRefusalIf_29 : decode cX3_roomRefusalIf 29 = .ok (.iinc 4 1, 3) := by decide +kernel
theorem dX3_roomRefusalIf_32 : decode cX3_roomRefusalIf 32 = .ok (.goto (-29), 3) := by decide +kernel
theorem dX3_roomRefusalIf_35 : decode cX3_roomRefusalIf 35 = .ok (.iconst 0, 1) := by decide +kernel
theorem dX3_roomRefusalIf_36 : decode cX3_roomRefusalIf 36 = .ok (.ireturn, 1) := by decide +kernel
theorem dX3_copyFrom_0 : decode cX3_copyFrom 0 = .ok (.aload_n 0, 1) := by decide +kernel
theorem dX3_copyFrom_1 : decode cX3_copyFrom 1 = .ok (.aload_n 1, 1) := by decide +kernel
theorem dX3_copyFrom_2 : decode cX3_copyFrom 2 = .ok (.getfield 32, 3) := by decide +kernel
theorem dX3_copyFrom_5 : decode cX3_copyFrom 5 = .ok (.putfield 32, 3) := by decide +kernel
theorem dX3_copyFrom_8 : decode cX3_copyFrom 8 = .ok (.aload_n 0, 1) := by decide +kernel
theorem dX3_copyFrom_9 : decode cX3_copyFrom 9 = .ok (.getfield 14, 3) := by decide +kernel
theorem dX3_copyFrom_12 : decode cX3_copyFrom 12 = .ok (.aload_n 1, 1) := by decide +kernel
theorem dX3_copyFrom_13 : decode cX3_copyFrom 13 = .ok (.getfield 14, 3) := by decide +kernel
theorem dX3_copyFrom_16 : decode cX3_copyFrom 16 = .ok (.invokevirtual 71, 3) := by decide +kernel
theorem dX3_copyFrom_19 : decode cX3_copyFrom 19 = .ok (.aload_n 0, 1) := by decide +kernel
theorem dX3_copyFrom_20 : decode cX3_copyFrom 20 = .ok (.getfield 20, 3) := by decide +kernel
theorem dX3_copyFrom_23 : decode cX3_copyFrom 23 = .ok (.aload_n 1, 1) := by decide +kernel
theorem dX3_copyFrom_24 : decode cX3_copyFrom 24 = .ok (.getfield 20, 3) := by decide +kernel
theorem dX3_copyFrom_27 : decode cX3_copyFrom 27 = .ok (.invokevirtual 71, 3) := by decide +kernel
theorem dX3_copyFrom_30 : decode cX3_copyFrom 30 = .ok (.aload_n 0, 1) := by decide +kernel
theorem dX3_copyFrom_31 : decode cX3_copyFrom 31 = .ok (.getfield 23, 3) := by decide +kernel
theorem dX3_copyFrom_34 : decode cX3_copyFrom 34 = .ok (.aload_n 1, 1) := by decide +kernel
theorem dX3_copyFrom_35 : decode cX3_copyFrom 35 = .ok (.getfield 23, 3) := by decide +kernel
theorem dX3_copyFrom_38 : decode cX3_copyFrom 38 = .ok (.invokevirtual 71, 3) := by decide +kernel
theorem dX3_copyFrom_41 : decode cX3_copyFrom 41 = .ok (.aload_n 0, 1) := by decide +kernel
theorem dX3_copyFrom_42 : decode cX3_copyFrom 42 = .ok (.getfield 26, 3) := by decide +kernel
theorem dX3_copyFrom_45 : decode cX3_copyFrom 45 = .ok (.aload_n 1, 1) := by decide +kernel
theorem dX3_copyFrom_46 : decode cX3_copyFrom 46 = .ok (.getfield 26, 3) := by decide +kernel
theorem dX3_copyFrom_49 : decode cX3_copyFrom 49 = .ok (.invokevirtual 71, 3) := by decide +kernel
theorem dX3_copyFrom_52 : decode cX3_copyFrom 52 = .ok (.aload_n 0, 1) := by decide +kernel
theorem dX3_copyFrom_53 : decode cX3_copyFrom 53 = .ok (.getfield 29, 3) := by decide +kernel
theorem dX3_copyFrom_56 : decode cX3_copyFrom 56 = .ok (.aload_n 1, 1) := by decide +kernel
theorem dX3_copyFrom_57 : decode cX3_copyFrom 57 = .ok (.getfield 29, 3) := by decide +kernel
theorem dX3_copyFrom_60 : decode cX3_copyFrom 60 = .ok (.invokevirtual 71, 3) := by decide +kernel
theorem dX3_copyFrom_63 : decode cX3_copyFrom 63 = .ok (.return_, 1) := by decide +kernel
theorem dX4_init_0 : decode cX4_init 0 = .ok (.aload_n 0, 1) := by decide +kernel
theorem dX4_init_1 : decode cX4_init 1 = .ok (.invokespecial 3, 3) := by decide +kernel
theorem dX4_init_4 : decode cX4_init 4 = .ok (.aload_n 0, 1) := by decide +kernel
theorem dX4_init_5 : decode cX4_init 5 = .ok (.new 9, 3) := by decide +kernel
theorem dX4_init_8 : decode cX4_init 8 = .ok (.dup, 1) := by decide +kernel
theorem dX4_init_9 : decode cX4_init 9 = .ok (.bipush 20, 2) := by decide +kernel
theorem dX4_init_11 : decode cX4_init 11 = .ok (.invokespecial 11, 3) := by decide +kernel
theorem dX4_init_14 : decode cX4_init 14 = .ok (.putfield 14, 3) := by decide +kernel
theorem dX4_init_17 : decode cX4_init 17 = .ok (.aload_n 0, 1) := by decide +kernel
theorem dX4_init_18 : decode cX4_init 18 = .ok (.new 9, 3) := by decide +kernel
theorem dX4_init_21 : decode cX4_init 21 = .ok (.dup, 1) := by decide +kernel
theorem dX4_init_22 : decode cX4_init 22 = .ok (.bipush 20, 2) := by decide +kernel
theorem dX4_init_24 : decode cX4_init 24 = .ok (.invokespecial 11, 3) := by decide +kernel
theorem dX4_init_27 : decode cX4_init 27 = .ok (.putfield 20, 3) := by decide +kernel
theorem dX4_init_30 : decode cX4_init 30 = .ok (.aload_n 0, 1) := by decide +kernel
theorem dX4_init_31 : decode cX4_init 31 = .ok (.new 9, 3) := by decide +kernel
theorem dX4_init_34 : decode cX4_init 34 = .ok (.dup, 1) := by decide +kernel
theorem dX4_init_35 : decode cX4_init 35 = .ok (.bipush 20, 2) := by decide +kernel
theorem dX4_init_37 : decode cX4_init 37 = .ok (.invokespecial 11, 3) := by decide +kernel
theorem dX4_init_40 : decode cX4_init 40 = .ok (.putfield 23, 3) := by decide +kernel
theorem dX4_init_43 : decode cX4_init 43 = .ok (.return_, 1) := by decide +kernel
theorem dX4_countFor_0 : decode cX4_countFor 0 = .ok (.iconst 0, 1) := by decide +kernel
theorem dX4_countFor_1 : decode cX4_countFor 1 = .ok (.istore_n 2, 1) := by decide +kernel
theorem dX4_countFor_2 : decode cX4_countFor 2 = .ok (.iconst 0, 1) := by decide +kernel
theorem dX4_countFor_3 : decode cX4_countFor 3 = .ok (.istore_n 3, 1) := by decide +kernel
theorem dX4_countFor_4 : decode cX4_countFor 4 = .ok (.iload_n 3, 1) := by decide +kernel
theorem dX4_countFor_5 : decode cX4_countFor 5 = .ok (.aload_n 0, 1) := by decide +kernel
theorem dX4_countFor_6 : decode cX4_countFor 6 = .ok (.getfield 26, 3) := by decide +kernel
theorem dX4_countFor_9 : decode cX4_countFor 9 = .ok (.if_icmp .ge 24, 3) := by decide +kernel
theorem dX4_countFor_12 : decode cX4_countFor 12 = .ok (.aload_n 0, 1) := by decide +kernel
theorem dX4_countFor_13 : decode cX4_countFor 13 = .ok (.getfield 14, 3) := by decide +kernel
theorem dX4_countFor_16 : decode cX4_countFor 16 = .ok (.iload_n 3, 1) := by decide +kernel
theorem dX4_countFor_17 : decode cX4_countFor 17 = .ok (.invokevirtual 30, 3) := by decide +kernel
theorem dX4_countFor_20 : decode cX4_countFor 20 = .ok (.iload_n 1, 1) := by decide +kernel
theorem dX4_countFor_21 : decode cX4_countFor 21 = .ok (.if_icmp .ne 6, 3) := by decide +kernel
theorem dX4_countFor_24 : decode cX4_countFor 24 = .ok (.iinc 2 1, 3) := by decide +kernel
theorem dX4_countFor_27 : decode cX4_countFor 27 = .ok (.iinc 3 1, 3) := by decide +kernel
theorem dX4_countFor_30 : decode cX4_countFor 30 = .ok (.goto (-26), 3) := by decide +kernel
theorem dX4_countFor_33 : decode cX4_countFor 33 = .ok (.iload_n 2, 1) := by decide +kernel
theorem dX4_countFor_34 : decode cX4_countFor 34 = .ok (.ireturn, 1) := by decide +kernel
theorem dX4_find_0 : decode cX4_find 0 = .ok (.iconst 0, 1) := by decide +kernel
theorem dX4_find_1 : decode cX4_find 1 = .ok (.istore_n 3, 1) := by decide +kernel
theorem dX4_find_2 : decode cX4_find 2 = .ok (.iconst 0, 1) := by decide +kernel
theorem dX4_find_3 : decode cX4_find 3 = .ok (.istore 4, 2) := by decide +kernel
theorem dX4_find_5 : decode cX4_find 5 = .ok (.iload 4, 2) := by decide +kernel
theorem dX4_find_7 : decode cX4_find 7 = .ok (.aload_n 0, 1) := by decide +kernel
theorem dX4_find_8 : decode cX4_find 8 = .ok (.getfield 26, 3) := by decide +kernel
theorem dX4_find_11 : decode cX4_find 11 = .ok (.if_icmp .ge 33, 3) := by decide +kernel
theorem dX4_find_14 : decode cX4_find 14 = .ok (.aload_n 0, 1) := by decide +kernel
theorem dX4_find_15 : decode cX4_find 15 = .ok (.getfield 14, 3) := by decide +kernel
theorem dX4_find_18 : decode cX4_find 18 = .ok (.iload 4, 2) := by decide +kernel
theorem dX4_find_20 : decode cX4_find 20 = .ok (.invokevirtual 30, 3) := by decide +kernel
theorem dX4_find_23 : decode cX4_find 23 = .ok (.iload_n 1, 1) := by decide +kernel
theorem dX4_find_24 : decode cX4_find 24 = .ok (.if_icmp .ne 14, 3) := by decide +kernel
theorem dX4_find_27 : decode cX4_find 27 = .ok (.iload_n 3, 1) := by decide +kernel
theorem dX4_find_28 : decode cX4_find 28 = .ok (.iload_n 2, 1) := by decide +kernel
theorem dX4_find_29 : decode cX4_find 29 = .ok (.if_icmp .ne 6, 3) := by decide +kernel
theorem dX4_find_32 : decode cX4_find 32 = .ok (.iload 4, 2) := by decide +kernel
theorem dX4_find_34 : decode cX4_find 34 = .ok (.ireturn, 1) := by decide +kernel
theorem dX4_find_35 : decode cX4_find 35 = .ok (.iinc 3 1, 3) := by decide +kernel
theorem dX4_find_38 : decode cX4_find 38 = .ok (.iinc 4 1, 3) := by decide +kernel
theorem dX4_find_41 : decode cX4_find 41 = .ok (.goto (-36), 3) := by decide +kernel
theorem dX4_find_44 : decode cX4_find 44 = .ok (.iconst (-1), 1) := by decide +kernel
theorem dX4_find_45 : decode cX4_find 45 = .ok (.ireturn, 1) := by decide +kernel
theorem dX4_add_0 : decode cX4_add 0 = .ok (.iconst 0, 1) := by decide +kernel
theorem dX4_add_1 : decode cX4_add 1 = .ok (.istore 4, 2) := by decide +kernel
theorem dX4_add_3 : decode cX4_add 3 = .ok (.iconst 0, 1) := by decide +kernel
theorem dX4_add_4 : decode cX4_add 4 = .ok (.istore 5, 2) := by decide +kernel
theorem dX4_add_6 : decode cX4_add 6 = .ok (.iload 5, 2) := by decide +kernel
theorem dX4_add_8 : decode cX4_add 8 = .ok (.aload_n 0, 1) := by decide +kernel
theorem dX4_add_9 : decode cX4_add 9 = .ok (.getfield 26, 3) := by decide +kernel
theorem dX4_add_12 : decode cX4_add 12 = .ok (.if_icmp .ge 41, 3) := by decide +kernel
theorem dX4_add_15 : decode cX4_add 15 = .ok (.aload_n 0, 1) := by decide +kernel
theorem dX4_add_16 : decode cX4_add 16 = .ok (.getfield 14, 3) := by decide +kernel
theorem dX4_add_19 : decode cX4_add 19 = .ok (.iload 5, 2) := by decide +kernel
theorem dX4_add_21 : decode cX4_add 21 = .ok (.invokevirtual 30, 3) := by decide +kernel
theorem dX4_add_24 : decode cX4_add 24 = .ok (.iload_n 1, 1) := by decide +kernel
theorem dX4_add_25 : decode cX4_add 25 = .ok (.if_icmp .ne 22, 3) := by decide +kernel
theorem dX4_add_28 : decode cX4_add 28 = .ok (.aload_n 0, 1) := by decide +kernel
theorem dX4_add_29 : decode cX4_add 29 = .ok (.getfield 23, 3) := by decide +kernel
theorem dX4_add_32 : decode cX4_add 32 = .ok (.iload 5, 2) := by decide +kernel
theorem dX4_add_34 : decode cX4_add 34 = .ok (.invokevirtual 30, 3) := by decide +kernel
theorem dX4_add_37 : decode cX4_add 37 = .ok (.iload_n 3, 1) := by decide +kernel
theorem dX4_add_38 : decode cX4_add 38 = .ok (.if_icmp .ge 6, 3) := by decide +kernel
theorem dX4_add_41 : decode cX4_add 41 = .ok (.goto 12, 3) := by decide +kernel
theorem dX4_add_44 : decode cX4_add 44 = .ok (.iinc 4 1, 3) := by decide +kernel
theorem dX4_add_47 : decode cX4_add 47 = .ok (.iinc 5 1, 3) := by decide +kernel
theorem dX4_add_50 : decode cX4_add 50 = .ok (.goto (-44), 3) := by decide +kernel
theorem dX4_add_53 : decode cX4_add 53 = .ok (.aload_n 0, 1) := by decide +kernel
theorem dX4_add_54 : decode cX4_add 54 = .ok (.getfield 14, 3) := by decide +kernel
theorem dX4_add_57 : decode cX4_add 57 = .ok (.iload 5, 2) := by decide +kernel
theorem dX4_add_59 : decode cX4_add 59 = .ok (.iload_n 1, 1) := by decide +kernel
theorem dX4_add_60 : decode cX4_add 60 = .ok (.invokevirtual 34, 3) := by decide +kernel
theorem dX4_add_63 : decode cX4_add 63 = .ok (.aload_n 0, 1) := by decide +kernel
theorem dX4_add_64 : decode cX4_add 64 = .ok (.getfield 20, 3) := by decide +kernel
theorem dX4_add_67 : decode cX4_add 67 = .ok (.iload 5, 2) := by decide +kernel
theorem dX4_add_69 : decode cX4_add 69 = .ok (.iload_n 2, 1) := by decide +kernel
theorem dX4_add_70 : decode cX4_add 70 = .ok (.invokevirtual 34, 3) := by decide +kernel
theorem dX4_add_73 : decode cX4_add 73 = .ok (.aload_n 0, 1) := by decide +kernel
theorem dX4_add_74 : decode cX4_add 74 = .ok (.getfield 23, 3) := by decide +kernel
theorem dX4_add_77 : decode cX4_add 77 = .ok (.iload 5, 2) := by decide +kernel
theorem dX4_add_79 : decode cX4_add 79 = .ok (.iload_n 3, 1) := by decide +kernel
theorem dX4_add_80 : decode cX4_add 80 = .ok (.invokevirtual 34, 3) := by decide +kernel
theorem dX4_add_83 : decode cX4_add 83 = .ok (.aload_n 0, 1) := by decide +kernel
theorem dX4_add_84 : decode cX4_add 84 = .ok (.dup, 1) := by decide +kernel
theorem dX4_add_85 : decode cX4_add 85 = .ok (.getfield 26, 3) := by decide +kernel
theorem dX4_add_88 : decode cX4_add 88 = .ok (.iconst 1, 1) := by decide +kernel
theorem dX4_add_89 : decode cX4_add 89 = .ok (.iadd, 1) := by decide +kernel
theorem dX4_add_90 : decode cX4_add 90 = .ok (.putfield 26, 3) := by decide +kernel
theorem dX4_add_93 : decode cX4_add 93 = .ok (.iload 4, 2) := by decide +kernel
theorem dX4_add_95 : decode cX4_add 95 = .ok (.ireturn, 1) := by decide +kernel
theorem dX4_removeAt_0 : decode cX4_removeAt 0 = .ok (.aload_n 0, 1) := by decide +kernel
theorem dX4_removeAt_1 : decode cX4_removeAt 1 = .ok (.getfield 14, 3) := by decide +kernel
theorem dX4_removeAt_4 : decode cX4_removeAt 4 = .ok (.iload_n 1, 1) := by decide +kernel
theorem dX4_removeAt_5 : decode cX4_removeAt 5 = .ok (.invokevirtual 38, 3) := by decide +kernel
theorem dX4_removeAt_8 : decode cX4_removeAt 8 = .ok (.aload_n 0, 1) := by decide +kernel
theorem dX4_removeAt_9 : decode cX4_removeAt 9 = .ok (.getfield 20, 3) := by decide +kernel
theorem dX4_removeAt_12 : decode cX4_removeAt 12 = .ok (.iload_n 1, 1) := by decide +kernel
theorem dX4_removeAt_13 : decode cX4_removeAt 13 = .ok (.invokevirtual 38, 3) := by decide +kernel
theorem dX4_removeAt_16 : decode cX4_removeAt 16 = .ok (.aload_n 0, 1) := by decide +kernel
theorem dX4_removeAt_17 : decode cX4_removeAt 17 = .ok (.getfield 23, 3) := by decide +kernel
theorem dX4_removeAt_20 : decode cX4_removeAt 20 = .ok (.iload_n 1, 1) := by decide +kernel
theorem dX4_removeAt_21 : decode cX4_removeAt 21 = .ok (.invokevirtual 38, 3) := by decide +kernel
theorem dX4_removeAt_24 : decode cX4_removeAt 24 = .ok (.aload_n 0, 1) := by decide +kernel
theorem dX4_removeAt_25 : decode cX4_removeAt 25 = .ok (.dup, 1) := by decide +kernel
theorem dX4_removeAt_26 : decode cX4_removeAt 26 = .ok (.getfield 26, 3) := by decide +kernel
theorem dX4_removeAt_29 : decode cX4_removeAt 29 = .ok (.iconst 1, 1) := by decide +kernel
theorem dX4_removeAt_30 : decode cX4_removeAt 30 = .ok (.isub, 1) := by decide +kernel
theorem dX4_removeAt_31 : decode cX4_removeAt 31 = .ok (.putfield 26, 3) := by decide +kernel
theorem dX4_removeAt_34 : decode cX4_removeAt 34 = .ok (.return_, 1) := by decide +kernel
theorem dX4_dropPerformance_0 : decode cX4_dropPerformance 0 = .ok (.aload_n 0, 1) := by decide +kernel
theorem dX4_dropPerformance_1 : decode cX4_dropPerformance 1 = .ok (.getfield 26, 3) := by decide +kernel
theorem dX4_dropPerformance_4 : decode cX4_dropPerformance 4 = .ok (.iconst 1, 1) := by decide +kernel
theorem dX4_dropPerformance_5 : decode cX4_dropPerformance 5 = .ok (.isub, 1) := by decide +kernel
theorem dX4_dropPerformance_6 : decode cX4_dropPerformance 6 = .ok (.istore_n 2, 1) := by decide +kernel
theorem dX4_dropPerformance_7 : decode cX4_dropPerformance 7 = .ok (.iload_n 2, 1) := by decide +kernel
theorem dX4_dropPerformance_8 : decode cX4_dropPerformance 8 = .ok (.ifCond .lt 47, 3) := by decide +kernel
theorem dX4_dropPerformance_11 : decode cX4_dropPerformance 11 = .ok (.aload_n 0, 1) := by decide +kernel
theorem dX4_dropPerformance_12 : decode cX4_dropPerformance 12 = .ok (.getfield 14, 3) := by decide +kernel
theorem dX4_dropPerformance_15 : decode cX4_dropPerformance 15 = .ok (.iload_n 2, 1) := by decide +kernel
theorem dX4_dropPerformance_16 : decode cX4_dropPerformance 16 = .ok (.invokevirtual 30, 3) := by decide +kernel
theorem dX4_dropPerformance_19 : decode cX4_dropPerformance 19 = .ok (.istore_n 3, 1) := by decide +kernel
theorem dX4_dropPerformance_20 : decode cX4_dropPerformance 20 = .ok (.iload_n 3, 1) := by decide +kernel
theorem dX4_dropPerformance_21 : decode cX4_dropPerformance 21 = .ok (.iload_n 1, 1) := by decide +kernel
theorem dX4_dropPerformance_22 : decode cX4_dropPerformance 22 = .ok (.if_icmp .ne 11, 3) := by decide +kernel
theorem dX4_dropPerformance_25 : decode cX4_dropPerformance 25 = .ok (.aload_n 0, 1) := by decide +kernel
theorem dX4_dropPerformance_26 : decode cX4_dropPerformance 26 = .ok (.iload_n 2, 1) := by decide +kernel
theorem dX4_dropPerformance_27 : decode cX4_dropPerformance 27 = .ok (.invokevirtual 41, 3) := by decide +kernel
theorem dX4_dropPerformance_30 : decode cX4_dropPerformance 30 = .ok (.goto 19, 3) := by decide +kernel
theorem dX4_dropPerformance_33 : decode cX4_dropPerformance 33 = .ok (.iload_n 3, 1) := by decide +kernel
theorem dX4_dropPerformance_34 : decode cX4_dropPerformance 34 = .ok (.iload_n 1, 1) := by decide +kernel
theorem dX4_dropPerformance_35 : decode cX4_dropPerformance 35 = .ok (.if_icmp .le 14, 3) := by decide +kernel
theorem dX4_dropPerformance_38 : decode cX4_dropPerformance 38 = .ok (.aload_n 0, 1) := by decide +kernel
theorem dX4_dropPerformance_39 : decode cX4_dropPerformance 39 = .ok (.getfield 14, 3) := by decide +kernel
theorem dX4_dropPerformance_42 : decode cX4_dropPerformance 42 = .ok (.iload_n 2, 1) := by decide +kernel
theorem dX4_dropPerformance_43 : decode cX4_dropPerformance 43 = .ok (.iload_n 3, 1) := by decide +kernel
theorem dX4_dropPerformance_44 : decode cX4_dropPerformance 44 = .ok (.iconst 1, 1) := by decide +kernel
theorem dX4_dropPerformance_45 : decode cX4_dropPerformance 45 = .ok (.isub, 1) := by decide +kernel
theorem dX4_dropPerformance_46 : decode cX4_dropPerformance 46 = .ok (.invokevirtual 42, 3) := by decide +kernel
theorem dX4_dropPerformance_49 : decode cX4_dropPerformance 49 = .ok (.iinc 2 (-1), 3) := by decide +kernel
theorem dX4_dropPerformance_52 : decode cX4_dropPerformance 52 = .ok (.goto (-45), 3) := by decide +kernel
theorem dX4_dropPerformance_55 : decode cX4_dropPerformance 55 = .ok (.return_, 1) := by decide +kernel
theorem dX4_copyFrom_0 : decode cX4_copyFrom 0 = .ok (.aload_n 0, 1) := by decide +kernel
theorem dX4_copyFrom_1 : decode cX4_copyFrom 1 = .ok (.aload_n 1, 1) := by decide +kernel
theorem dX4_copyFrom_2 : decode cX4_copyFrom 2 = .ok (.getfield 26, 3) := by decide +kernel
theorem dX4_copyFrom_5 : decode cX4_copyFrom 5 = .ok (.putfield 26, 3) := by decide +kernel
theorem dX4_copyFrom_8 : decode cX4_copyFrom 8 = .ok (.aload_n 0, 1) := by decide +kernel
theorem dX4_copyFrom_9 : decode cX4_copyFrom 9 = .ok (.getfield 14, 3) := by decide +kernel
theorem dX4_copyFrom_12 : decode cX4_copyFrom 12 = .ok (.aload_n 1, 1) := by decide +kernel
theorem dX4_copyFrom_13 : decode cX4_copyFrom 13 = .ok (.getfield 14, 3) := by decide +kernel
theorem dX4_copyFrom_16 : decode cX4_copyFrom 16 = .ok (.invokevirtual 45, 3) := by decide +kernel
theorem dX4_copyFrom_19 : decode cX4_copyFrom 19 = .ok (.aload_n 0, 1) := by decide +kernel
theorem dX4_copyFrom_20 : decode cX4_copyFrom 20 = .ok (.getfield 20, 3) := by decide +kernel
theorem dX4_copyFrom_23 : decode cX4_copyFrom 23 = .ok (.aload_n 1, 1) := by decide +kernel
theorem dX4_copyFrom_24 : decode cX4_copyFrom 24 = .ok (.getfield 20, 3) := by decide +kernel
theorem dX4_copyFrom_27 : decode cX4_copyFrom 27 = .ok (.invokevirtual 45, 3) := by decide +kernel
theorem dX4_copyFrom_30 : decode cX4_copyFrom 30 = .ok (.aload_n 0, 1) := by decide +kernel
theorem dX4_copyFrom_31 : decode cX4_copyFrom 31 = .ok (.getfield 23, 3) := by decide +kernel
theorem dX4_copyFrom_34 : decode cX4_copyFrom 34 = .ok (.aload_n 1, 1) := by decide +kernel
theorem dX4_copyFrom_35 : decode cX4_copyFrom 35 = .ok (.getfield 23, 3) := by decide +kernel
theorem dX4_copyFrom_38 : decode cX4_copyFrom 38 = .ok (.invokevirtual 45, 3) := by decide +kernel
theorem dX4_copyFrom_41 : decode cX4_copyFrom 41 = .ok (.return_, 1) := by decide +kernel
theorem dX5_init_0 : decode cX5_init 0 = .ok (.aload_n 0, 1) := by decide +kernel
theorem dX5_init_1 : decode cX5_init 1 = .ok (.invokespecial 1, 3) := by decide +kernel
theorem dX5_init_4 : decode cX5_init 4 = .ok (.aload_n 0, 1) := by decide +kernel
theorem dX5_init_5 : decode cX5_init 5 = .ok (.iload_n 1, 1) := by decide +kernel
theorem dX5_init_6 : decode cX5_init 6 = .ok (.ifCond .ge 7, 3) := by decide +kernel
theorem dX5_init_9 : decode cX5_init 9 = .ok (.iconst 0, 1) := by decide +kernel
theorem dX5_init_10 : decode cX5_init 10 = .ok (.goto 4, 3) := by decide +kernel
theorem dX5_init_13 : decode cX5_init 13 = .ok (.iload_n 1, 1) := by decide +kernel
theorem dX5_init_14 : decode cX5_init 14 = .ok (.newarray .int, 2) := by decide +kernel
theorem dX5_init_16 : decode cX5_init 16 = .ok (.putfield 7, 3) := by decide +kernel
theorem dX5_init_19 : decode cX5_init 19 = .ok (.return_, 1) := by decide +kernel
theorem dX5_get_0 : decode cX5_get 0 = .ok (.iload_n 1, 1) := by decide +kernel
theorem dX5_get_1 : decode cX5_get 1 = .ok (.ifCond .lt 21, 3) := by decide +kernel
theorem dX5_get_4 : decode cX5_get 4 = .ok (.iload_n 1, 1) := by decide +kernel
theorem dX5_get_5 : decode cX5_get 5 = .ok (.aload_n 0, 1) := by decide +kernel
theorem dX5_get_6 : decode cX5_get 6 = .ok (.getfield 7, 3) := by decide +kernel
theorem dX5_get_9 : decode cX5_get 9 = .ok (.arraylength, 1) := by decide +kernel
theorem dX5_get_10 : decode cX5_get 10 = .ok (.if_icmp .ge 12, 3) := by decide +kernel
theorem dX5_get_13 : decode cX5_get 13 = .ok (.aload_n 0, 1) := by decide +kernel
theorem dX5_get_14 : decode cX5_get 14 = .ok (.getfield 7, 3) := by decide +kernel
theorem dX5_get_17 : decode cX5_get 17 = .ok (.iload_n 1, 1) := by decide +kernel
theorem dX5_get_18 : decode cX5_get 18 = .ok (.iaload, 1) := by decide +kernel
theorem dX5_get_19 : decode cX5_get 19 = .ok (.goto 4, 3) := by decide +kernel
theorem dX5_get_22 : decode cX5_get 22 = .ok (.iconst 0, 1) := by decide +kernel
theorem dX5_get_23 : decode cX5_get 23 = .ok (.ireturn, 1) := by decide +kernel
theorem dX5_set_0 : decode cX5_set 0 = .ok (.iload_n 1, 1) := by decide +kernel
theorem dX5_set_1 : decode cX5_set 1 = .ok (.ifCond .lt 19, 3) := by decide +kernel
theorem dX5_set_4 : decode cX5_set 4 = .ok (.iload_n 1, 1) := by decide +kernel
theorem dX5_set_5 : decode cX5_set 5 = .ok (.aload_n 0, 1) := by decide +kernel
theorem dX5_set_6 : decode cX5_set 6 = .ok (.getfield 7, 3) := by decide +kernel
theorem dX5_set_9 : decode cX5_set 9 = .ok (.arraylength, 1) := by decide +kernel
theorem dX5_set_10 : decode cX5_set 10 = .ok (.if_icmp .ge 10, 3) := by decide +kernel
theorem dX5_set_13 : decode cX5_set 13 = .ok (.aload_n 0, 1) := by decide +kernel
theorem dX5_set_14 : decode cX5_set 14 = .ok (.getfield 7, 3) := by decide +kernel
theorem dX5_set_17 : decode cX5_set 17 = .ok (.iload_n 1, 1) := by decide +kernel
theorem dX5_set_18 : decode cX5_set 18 = .ok (.iload_n 2, 1) := by decide +kernel
theorem dX5_set_19 : decode cX5_set 19 = .ok (.iastore, 1) := by decide +kernel
theorem dX5_set_20 : decode cX5_set 20 = .ok (.return_, 1) := by decide +kernel
theorem dX5_add_0 : decode cX5_add 0 = .ok (.aload_n 0, 1) := by decide +kernel
theorem dX5_add_1 : decode cX5_add 1 = .ok (.iload_n 1, 1) := by decide +kernel
theorem dX5_add_2 : decode cX5_add 2 = .ok (.aload_n 0, 1) := by decide +kernel
theorem dX5_add_3 : decode cX5_add 3 = .ok (.iload_n 1, 1) := by decide +kernel
theorem dX5_add_4 : decode cX5_add 4 = .ok (.invokevirtual 13, 3) := by decide +kernel
theorem dX5_add_7 : decode cX5_add 7 = .ok (.iload_n 2, 1) := by decide +kernel
theorem dX5_add_8 : decode cX5_add 8 = .ok (.iadd, 1) := by decide +kernel
theorem dX5_add_9 : decode cX5_add 9 = .ok (.invokevirtual 17, 3) := by decide +kernel
theorem dX5_add_12 : decode cX5_add 12 = .ok (.return_, 1) := by decide +kernel
theorem dX5_insertAt_0 : decode cX5_insertAt 0 = .ok (.aload_n 0, 1) := by decide +kernel
theorem dX5_insertAt_1 : decode cX5_insertAt 1 = .ok (.getfield 7, 3) := by decide +kernel
theorem dX5_insertAt_4 : decode cX5_insertAt 4 = .ok (.arraylength, 1) := by decide +kernel
theorem dX5_insertAt_5 : decode cX5_insertAt 5 = .ok (.iconst 1, 1) := by decide +kernel
theorem dX5_insertAt_6 : decode cX5_insertAt 6 = .ok (.isub, 1) := by decide +kernel
theorem dX5_insertAt_7 : decode cX5_insertAt 7 = .ok (.istore_n 3, 1) := by decide +kernel
theorem dX5_insertAt_8 : decode cX5_insertAt 8 = .ok (.iload_n 3, 1) := by decide +kernel
theorem dX5_insertAt_9 : decode cX5_insertAt 9 = .ok (.iload_n 1, 1) := by decide +kernel
theorem dX5_insertAt_10 : decode cX5_insertAt 10 = .ok (.if_icmp .le 21, 3) := by decide +kernel
theorem dX5_insertAt_13 : decode cX5_insertAt 13 = .ok (.aload_n 0, 1) := by decide +kernel
theorem dX5_insertAt_14 : decode cX5_insertAt 14 = .ok (.iload_n 3, 1) := by decide +kernel
theorem dX5_insertAt_15 : decode cX5_insertAt 15 = .ok (.aload_n 0, 1) := by decide +kernel
theorem dX5_insertAt_16 : decode cX5_insertAt 16 = .ok (.iload_n 3, 1) := by decide +kernel
theorem dX5_insertAt_17 : decode cX5_insertAt 17 = .ok (.iconst 1, 1) := by decide +kernel
theorem dX5_insertAt_18 : decode cX5_insertAt 18 = .ok (.isub, 1) := by decide +kernel
theorem dX5_insertAt_19 : decode cX5_insertAt 19 = .ok (.invokevirtual 13, 3) := by decide +kernel
theorem dX5_insertAt_22 : decode cX5_insertAt 22 = .ok (.invokevirtual 17, 3) := by decide +kernel
theorem dX5_insertAt_25 : decode cX5_insertAt 25 = .ok (.iinc 3 (-1), 3) := by decide +kernel
theorem dX5_insertAt_28 : decode cX5_insertAt 28 = .ok (.goto (-20), 3) := by decide +kernel
theorem dX5_insertAt_31 : decode cX5_insertAt 31 = .ok (.aload_n 0, 1) := by decide +kernel
theorem dX5_insertAt_32 : decode cX5_insertAt 32 = .ok (.iload_n 1, 1) := by decide +kernel
theorem dX5_insertAt_33 : decode cX5_insertAt 33 = .ok (.iload_n 2, 1) := by decide +kernel
theorem dX5_insertAt_34 : decode cX5_insertAt 34 = .ok (.invokevirtual 17, 3) := by decide +kernel
theorem dX5_insertAt_37 : decode cX5_insertAt 37 = .ok (.return_, 1) := by decide +kernel
theorem dX5_removeAt_0 : decode cX5_removeAt 0 = .ok (.iload_n 1, 1) := by decide +kernel
theorem dX5_removeAt_1 : decode cX5_removeAt 1 = .ok (.istore_n 2, 1) := by decide +kernel
theorem dX5_removeAt_2 : decode cX5_removeAt 2 = .ok (.iload_n 2, 1) := by decide +kernel
theorem dX5_removeAt_3 : decode cX5_removeAt 3 = .ok (.aload_n 0, 1) := by decide +kernel
theorem dX5_removeAt_4 : decode cX5_removeAt 4 = .ok (.getfield 7, 3) := by decide +kernel
theorem dX5_removeAt_7 : decode cX5_removeAt 7 = .ok (.arraylength, 1) := by decide +kernel
theorem dX5_removeAt_8 : decode cX5_removeAt 8 = .ok (.if_icmp .ge 21, 3) := by decide +kernel
theorem dX5_removeAt_11 : decode cX5_removeAt 11 = .ok (.aload_n 0, 1) := by decide +kernel
theorem dX5_removeAt_12 : decode cX5_removeAt 12 = .ok (.iload_n 2, 1) := by decide +kernel
theorem dX5_removeAt_13 : decode cX5_removeAt 13 = .ok (.aload_n 0, 1) := by decide +kernel
theorem dX5_removeAt_14 : decode cX5_removeAt 14 = .ok (.iload_n 2, 1) := by decide +kernel
theorem dX5_removeAt_15 : decode cX5_removeAt 15 = .ok (.iconst 1, 1) := by decide +kernel
theorem dX5_removeAt_16 : decode cX5_removeAt 16 = .ok (.iadd, 1) := by decide +kernel
theorem dX5_removeAt_17 : decode cX5_removeAt 17 = .ok (.invokevirtual 13, 3) := by decide +kernel
theorem dX5_removeAt_20 : decode cX5_removeAt 20 = .ok (.invokevirtual 17, 3) := by decide +kernel
theorem dX5_removeAt_23 : decode cX5_removeAt 23 = .ok (.iinc 2 1, 3) := by decide +kernel
theorem dX5_removeAt_26 : decode cX5_removeAt 26 = .ok (.goto (-24), 3) := by decide +kernel
theorem dX5_removeAt_29 : decode cX5_removeAt 29 = .ok (.return_, 1) := by decide +kernel
theorem dX5_copyFrom_0 : decode cX5_copyFrom 0 = .ok (.aload_n 1, 1) := by decide +kernel
theorem dX5_copyFrom_1 : decode cX5_copyFrom 1 = .ok (.getfield 7, 3) := by decide +kernel
theorem dX5_copyFrom_4 : decode cX5_copyFrom 4 = .ok (.iconst 0, 1) := by decide +kernel
theorem dX5_copyFrom_5 : decode cX5_copyFrom 5 = .ok (.aload_n 0, 1) := by decide +kernel
theorem dX5_copyFrom_6 : decode cX5_copyFrom 6 = .ok (.getfield 7, 3) := by decide +kernel
theorem dX5_copyFrom_9 : decode cX5_copyFrom 9 = .ok (.iconst 0, 1) := by decide +kernel
theorem dX5_copyFrom_10 : decode cX5_copyFrom 10 = .ok (.aload_n 0, 1) := by decide +kernel
theorem dX5_copyFrom_11 : decode cX5_copyFrom 11 = .ok (.getfield 7, 3) := by decide +kernel
theorem dX5_copyFrom_14 : decode cX5_copyFrom 14 = .ok (.arraylength, 1) := by decide +kernel
theorem dX5_copyFrom_15 : decode cX5_copyFrom 15 = .ok (.aload_n 1, 1) := by decide +kernel
theorem dX5_copyFrom_16 : decode cX5_copyFrom 16 = .ok (.getfield 7, 3) := by decide +kernel
theorem dX5_copyFrom_19 : decode cX5_copyFrom 19 = .ok (.arraylength, 1) := by decide +kernel
theorem dX5_copyFrom_20 : decode cX5_copyFrom 20 = .ok (.invokestatic 21, 3) := by decide +kernel
theorem dX5_copyFrom_23 : decode cX5_copyFrom 23 = .ok (.invokestatic 27, 3) := by decide +kernel
theorem dX5_copyFrom_26 : decode cX5_copyFrom 26 = .ok (.return_, 1) := by decide +kernel
theorem dX6_init_0 : decode cX6_init 0 = .ok (.aload_n 0, 1) := by decide +kernel
theorem dX6_init_1 : decode cX6_init 1 = .ok (.invokespecial 3, 3) := by decide +kernel
theorem dX6_init_4 : decode cX6_init 4 = .ok (.aload_n 0, 1) := by decide +kernel
theorem dX6_init_5 : decode cX6_init 5 = .ok (.new 9, 3) := by decide +kernel
theorem dX6_init_8 : decode cX6_init 8 = .ok (.dup, 1) := by decide +kernel
theorem dX6_init_9 : decode cX6_init 9 = .ok (.iconst 3, 1) := by decide +kernel
theorem dX6_init_10 : decode cX6_init 10 = .ok (.invokespecial 11, 3) := by decide +kernel
theorem dX6_init_13 : decode cX6_init 13 = .ok (.putfield 14, 3) := by decide +kernel
theorem dX6_init_16 : decode cX6_init 16 = .ok (.aload_n 0, 1) := by decide +kernel
theorem dX6_init_17 : decode cX6_init 17 = .ok (.bipush 6, 2) := by decide +kernel
theorem dX6_init_19 : decode cX6_init 19 = .ok (.putfield 20, 3) := by decide +kernel
theorem dX6_init_22 : decode cX6_init 22 = .ok (.aload_n 0, 1) := by decide +kernel
theorem dX6_init_23 : decode cX6_init 23 = .ok (.bipush 20, 2) := by decide +kernel
theorem dX6_init_25 : decode cX6_init 25 = .ok (.putfield 24, 3) := by decide +kernel
theorem dX6_init_28 : decode cX6_init 28 = .ok (.aload_n 0, 1) := by decide +kernel
theorem dX6_init_29 : decode cX6_init 29 = .ok (.new 27, 3) := by decide +kernel
theorem dX6_init_32 : decode cX6_init 32 = .ok (.dup, 1) := by decide +kernel
theorem dX6_init_33 : decode cX6_init 33 = .ok (.invokespecial 29, 3) := by decide +kernel
theorem dX6_init_36 : decode cX6_init 36 = .ok (.putfield 30, 3) := by decide +kernel
theorem dX6_init_39 : decode cX6_init 39 = .ok (.aload_n 0, 1) := by decide +kernel
theorem dX6_init_40 : decode cX6_init 40 = .ok (.new 34, 3) := by decide +kernel
theorem dX6_init_43 : decode cX6_init 43 = .ok (.dup, 1) := by decide +kernel
theorem dX6_init_44 : decode cX6_init 44 = .ok (.invokespecial 36, 3) := by decide +kernel
theorem dX6_init_47 : decode cX6_init 47 = .ok (.putfield 37, 3) := by decide +kernel
theorem dX6_init_50 : decode cX6_init 50 = .ok (.aload_n 0, 1) := by decide +kernel
theorem dX6_init_51 : decode cX6_init 51 = .ok (.new 41, 3) := by decide +kernel
theorem dX6_init_54 : decode cX6_init 54 = .ok (.dup, 1) := by decide +kernel
theorem dX6_init_55 : decode cX6_init 55 = .ok (.invokespecial 43, 3) := by decide +kernel
theorem dX6_init_58 : decode cX6_init 58 = .ok (.putfield 44, 3) := by decide +kernel
theorem dX6_init_61 : decode cX6_init 61 = .ok (.aload_n 0, 1) := by decide +kernel
theorem dX6_init_62 : decode cX6_init 62 = .ok (.new 48, 3) := by decide +kernel
theorem dX6_init_65 : decode cX6_init 65 = .ok (.dup, 1) := by decide +kernel
theorem dX6_init_66 : decode cX6_init 66 = .ok (.invokespecial 50, 3) := by decide +kernel
theorem dX6_init_69 : decode cX6_init 69 = .ok (.putfield 51, 3) := by decide +kernel
theorem dX6_init_72 : decode cX6_init 72 = .ok (.aload_n 0, 1) := by decide +kernel
theorem dX6_init_73 : decode cX6_init 73 = .ok (.getfield 14, 3) := by decide +kernel
theorem dX6_init_76 : decode cX6_init 76 = .ok (.iconst 0, 1) := by decide +kernel
theorem dX6_init_77 : decode cX6_init 77 = .ok (.bipush 40, 2) := by decide +kernel
theorem dX6_init_79 : decode cX6_init 79 = .ok (.invokevirtual 55, 3) := by decide +kernel
theorem dX6_init_82 : decode cX6_init 82 = .ok (.aload_n 0, 1) := by decide +kernel
theorem dX6_init_83 : decode cX6_init 83 = .ok (.getfield 14, 3) := by decide +kernel
theorem dX6_init_86 : decode cX6_init 86 = .ok (.iconst 1, 1) := by decide +kernel
theorem dX6_init_87 : decode cX6_init 87 = .ok (.bipush 60, 2) := by decide +kernel
theorem dX6_init_89 : decode cX6_init 89 = .ok (.invokevirtual 55, 3) := by decide +kernel
theorem dX6_init_92 : decode cX6_init 92 = .ok (.aload_n 0, 1) := by decide +kernel
theorem dX6_init_93 : decode cX6_init 93 = .ok (.getfield 14, 3) := by decide +kernel
theorem dX6_init_96 : decode cX6_init 96 = .ok (.iconst 2, 1) := by decide +kernel
theorem dX6_init_97 : decode cX6_init 97 = .ok (.bipush 80, 2) := by decide +kernel
theorem dX6_init_99 : decode cX6_init 99 = .ok (.invokevirtual 55, 3) := by decide +kernel
theorem dX6_init_102 : decode cX6_init 102 = .ok (.return_, 1) := by decide +kernel
theorem dX6_copyFrom_0 : decode cX6_copyFrom 0 = .ok (.aload_n 0, 1) := by decide +kernel
theorem dX6_copyFrom_1 : decode cX6_copyFrom 1 = .ok (.getfield 14, 3) := by decide +kernel
theorem dX6_copyFrom_4 : decode cX6_copyFrom 4 = .ok (.aload_n 1, 1) := by decide +kernel
theorem dX6_copyFrom_5 : decode cX6_copyFrom 5 = .ok (.getfield 14, 3) := by decide +kernel
theorem dX6_copyFrom_8 : decode cX6_copyFrom 8 = .ok (.invokevirtual 59, 3) := by decide +kernel
theorem dX6_copyFrom_11 : decode cX6_copyFrom 11 = .ok (.aload_n 0, 1) := by decide +kernel
theorem dX6_copyFrom_12 : decode cX6_copyFrom 12 = .ok (.aload_n 1, 1) := by decide +kernel
theorem dX6_copyFrom_13 : decode cX6_copyFrom 13 = .ok (.getfield 20, 3) := by decide +kernel
theorem dX6_copyFrom_16 : decode cX6_copyFrom 16 = .ok (.putfield 20, 3) := by decide +kernel
theorem dX6_copyFrom_19 : decode cX6_copyFrom 19 = .ok (.aload_n 0, 1) := by decide +kernel
theorem dX6_copyFrom_20 : decode cX6_copyFrom 20 = .ok (.aload_n 1, 1) := by decide +kernel
theorem dX6_copyFrom_21 : decode cX6_copyFrom 21 = .ok (.getfield 24, 3) := by decide +kernel
theorem dX6_copyFrom_24 : decode cX6_copyFrom 24 = .ok (.putfield 24, 3) := by decide +kernel
theorem dX6_copyFrom_27 : decode cX6_copyFrom 27 = .ok (.aload_n 0, 1) := by decide +kernel
theorem dX6_copyFrom_28 : decode cX6_copyFrom 28 = .ok (.getfield 30, 3) := by decide +kernel
theorem dX6_copyFrom_31 : decode cX6_copyFrom 31 = .ok (.aload_n 1, 1) := by decide +kernel
theorem dX6_copyFrom_32 : decode cX6_copyFrom 32 = .ok (.getfield 30, 3) := by decide +kernel
theorem dX6_copyFrom_35 : decode cX6_copyFrom 35 = .ok (.invokevirtual 63, 3) := by decide +kernel
theorem dX6_copyFrom_38 : decode cX6_copyFrom 38 = .ok (.aload_n 0, 1) := by decide +kernel
theorem dX6_copyFrom_39 : decode cX6_copyFrom 39 = .ok (.getfield 37, 3) := by decide +kernel
theorem dX6_copyFrom_42 : decode cX6_copyFrom 42 = .ok (.aload_n 1, 1) := by decide +kernel
theorem dX6_copyFrom_43 : decode cX6_copyFrom 43 = .ok (.getfield 37, 3) := by decide +kernel
theorem dX6_copyFrom_46 : decode cX6_copyFrom 46 = .ok (.invokevirtual 66, 3) := by decide +kernel
theorem dX6_copyFrom_49 : decode cX6_copyFrom 49 = .ok (.aload_n 0, 1) := by decide +kernel
theorem dX6_copyFrom_50 : decode cX6_copyFrom 50 = .ok (.getfield 44, 3) := by decide +kernel
theorem dX6_copyFrom_53 : decode cX6_copyFrom 53 = .ok (.aload_n 1, 1) := by decide +kernel
theorem dX6_copyFrom_54 : decode cX6_copyFrom 54 = .ok (.getfield 44, 3) := by decide +kernel
theorem dX6_copyFrom_57 : decode cX6_copyFrom 57 = .ok (.invokevirtual 69, 3) := by decide +kernel
theorem dX6_copyFrom_60 : decode cX6_copyFrom 60 = .ok (.aload_n 0, 1) := by decide +kernel
theorem dX6_copyFrom_61 : decode cX6_copyFrom 61 = .ok (.getfield 51, 3) := by decide +kernel
theorem dX6_copyFrom_64 : decode cX6_copyFrom 64 = .ok (.aload_n 1, 1) := by decide +kernel
theorem dX6_copyFrom_65 : decode cX6_copyFrom 65 = .ok (.getfield 51, 3) := by decide +kernel
theorem dX6_copyFrom_68 : decode cX6_copyFrom 68 = .ok (.invokevirtual 72, 3) := by decide +kernel
theorem dX6_copyFrom_71 : decode cX6_copyFrom 71 = .ok (.return_, 1) := by decide +kernel
theorem dX6_changeSeats_0 : decode cX6_changeSeats 0 = .ok (.iload_n 1, 1) := by decide +kernel
theorem dX6_changeSeats_1 : decode cX6_changeSeats 1 = .ok (.invokestatic 75, 3) := by decide +kernel
theorem dX6_changeSeats_4 : decode cX6_changeSeats 4 = .ok (.ifCond .ne 5, 3) := by decide +kernel
theorem dX6_changeSeats_7 : decode cX6_changeSeats 7 = .ok (.iconst (-1), 1) := by decide +kernel
theorem dX6_changeSeats_8 : decode cX6_changeSeats 8 = .ok (.ireturn, 1) := by decide +kernel
theorem dX6_changeSeats_9 : decode cX6_changeSeats 9 = .ok (.iload_n 2, 1) := by decide +kernel
theorem dX6_changeSeats_10 : decode cX6_changeSeats 10 = .ok (.bipush 10, 2) := by decide +kernel
theorem dX6_changeSeats_12 : decode cX6_changeSeats 12 = .ok (.bipush 99, 2) := by decide +kernel
theorem dX6_changeSeats_14 : decode cX6_changeSeats 14 = .ok (.invokestatic 79, 3) := by decide +kernel
theorem dX6_changeSeats_17 : decode cX6_changeSeats 17 = .ok (.ifCond .ne 6, 3) := by decide +kernel
theorem dX6_changeSeats_20 : decode cX6_changeSeats 20 = .ok (.bipush (-2), 2) := by decide +kernel
theorem dX6_changeSeats_22 : decode cX6_changeSeats 22 = .ok (.ireturn, 1) := by decide +kernel
theorem dX6_changeSeats_23 : decode cX6_changeSeats 23 = .ok (.iconst 0, 1) := by decide +kernel
theorem dX6_changeSeats_24 : decode cX6_changeSeats 24 = .ok (.istore_n 3, 1) := by decide +kernel
theorem dX6_changeSeats_25 : decode cX6_changeSeats 25 = .ok (.iload_n 3, 1) := by decide +kernel
theorem dX6_changeSeats_26 : decode cX6_changeSeats 26 = .ok (.aload_n 0, 1) := by decide +kernel
theorem dX6_changeSeats_27 : decode cX6_changeSeats 27 = .ok (.getfield 37, 3) := by decide +kernel
theorem dX6_changeSeats_30 : decode cX6_changeSeats 30 = .ok (.getfield 83, 3) := by decide +kernel
theorem dX6_changeSeats_33 : decode cX6_changeSeats 33 = .ok (.if_icmp .ge 43, 3) := by decide +kernel
theorem dX6_changeSeats_36 : decode cX6_changeSeats 36 = .ok (.aload_n 0, 1) := by decide +kernel
theorem dX6_changeSeats_37 : decode cX6_changeSeats 37 = .ok (.getfield 37, 3) := by decide +kernel
theorem dX6_changeSeats_40 : decode cX6_changeSeats 40 = .ok (.getfield 86, 3) := by decide +kernel
theorem dX6_changeSeats_43 : decode cX6_changeSeats 43 = .ok (.iload_n 3, 1) := by decide +kernel
theorem dX6_changeSeats_44 : decode cX6_changeSeats 44 = .ok (.invokevirtual 89, 3) := by decide +kernel
theorem dX6_changeSeats_47 : decode cX6_changeSeats 47 = .ok (.iload_n 1, 1) := by decide +kernel
theorem dX6_changeSeats_48 : decode cX6_changeSeats 48 = .ok (.if_icmp .ne 22, 3) := by decide +kernel
theorem dX6_changeSeats_51 : decode cX6_changeSeats 51 = .ok (.aload_n 0, 1) := by decide +kernel
theorem dX6_changeSeats_52 : decode cX6_changeSeats 52 = .ok (.getfield 37, 3) := by decide +kernel
theorem dX6_changeSeats_55 : decode cX6_changeSeats 55 = .ok (.iload_n 3, 1) := by decide +kernel
theorem dX6_changeSeats_56 : decode cX6_changeSeats 56 = .ok (.invokevirtual 93, 3) := by decide +kernel
theorem dX6_changeSeats_59 : decode cX6_changeSeats 59 = .ok (.iload_n 2, 1) := by decide +kernel
theorem dX6_changeSeats_60 : decode cX6_changeSeats 60 = .ok (.if_icmp .le 10, 3) := by decide +kernel
theorem dX6_changeSeats_63 : decode cX6_changeSeats 63 = .ok (.bipush 9, 2) := by decide +kernel
theorem dX6_changeSeats_65 : decode cX6_changeSeats 65 = .ok (.iload_n 3, 1) := by decide +kernel
theorem dX6_changeSeats_66 : decode cX6_changeSeats 66 = .ok (.invokestatic 96, 3) := by decide +kernel
theorem dX6_changeSeats_69 : decode cX6_changeSeats 69 = .ok (.ireturn, 1) := by decide +kernel
theorem dX6_changeSeats_70 : decode cX6_changeSeats 70 = .ok (.iinc 3 1, 3) := by decide +kernel
theorem dX6_changeSeats_73 : decode cX6_changeSeats 73 = .ok (.goto (-48), 3) := by decide +kernel
theorem dX6_changeSeats_76 : decode cX6_changeSeats 76 = .ok (.aload_n 0, 1) := by decide +kernel
theorem dX6_changeSeats_77 : decode cX6_changeSeats 77 = .ok (.getfield 14, 3) := by decide +kernel
theorem dX6_changeSeats_80 : decode cX6_changeSeats 80 = .ok (.iload_n 1, 1) := by decide +kernel
theorem dX6_changeSeats_81 : decode cX6_changeSeats 81 = .ok (.invokevirtual 89, 3) := by decide +kernel
theorem dX6_changeSeats_84 : decode cX6_changeSeats 84 = .ok (.istore_n 3, 1) := by decide +kernel
theorem dX6_changeSeats_85 : decode cX6_changeSeats 85 = .ok (.aload_n 0, 1) := by decide +kernel
theorem dX6_changeSeats_86 : decode cX6_changeSeats 86 = .ok (.getfield 14, 3) := by decide +kernel
theorem dX6_changeSeats_89 : decode cX6_changeSeats 89 = .ok (.iload_n 1, 1) := by decide +kernel
theorem dX6_changeSeats_90 : decode cX6_changeSeats 90 = .ok (.iload_n 2, 1) := by decide +kernel
theorem dX6_changeSeats_91 : decode cX6_changeSeats 91 = .ok (.invokevirtual 55, 3) := by decide +kernel
theorem dX6_changeSeats_94 : decode cX6_changeSeats 94 = .ok (.aload_n 0, 1) := by decide +kernel
theorem dX6_changeSeats_95 : decode cX6_changeSeats 95 = .ok (.iload_n 1, 1) := by decide +kernel
theorem dX6_changeSeats_96 : decode cX6_changeSeats 96 = .ok (.invokevirtual 100, 3) := by decide +kernel
theorem dX6_changeSeats_99 : decode cX6_changeSeats 99 = .ok (.iload_n 3, 1) := by decide +kernel
theorem dX6_changeSeats_100 : decode cX6_changeSeats 100 = .ok (.ireturn, 1) := by decide +kernel
theorem dX6_changeStaff_0 : decode cX6_changeStaff 0 = .ok (.iload_n 1, 1) := by decide +kernel
theorem dX6_changeStaff_1 : decode cX6_changeStaff 1 = .ok (.iconst 1, 1) := by decide +kernel
theorem dX6_changeStaff_2 : decode cX6_changeStaff 2 = .ok (.bipush 20, 2) := by decide +kernel
theorem dX6_changeStaff_4 : decode cX6_changeStaff 4 = .ok (.invokestatic 79, 3) := by decide +kernel
theorem dX6_changeStaff_7 : decode cX6_changeStaff 7 = .ok (.ifCond .ne 6, 3) := by decide +kernel
theorem dX6_changeStaff_10 : decode cX6_changeStaff 10 = .ok (.bipush (-2), 2) := by decide +kernel
theorem dX6_changeStaff_12 : decode cX6_changeStaff 12 = .ok (.ireturn, 1) := by decide +kernel
theorem dX6_changeStaff_13 : decode cX6_changeStaff 13 = .ok (.aload_n 0, 1) := by decide +kernel
theorem dX6_changeStaff_14 : decode cX6_changeStaff 14 = .ok (.getfield 30, 3) := by decide +kernel
theorem dX6_changeStaff_17 : decode cX6_changeStaff 17 = .ok (.iload_n 1, 1) := by decide +kernel
theorem dX6_changeStaff_18 : decode cX6_changeStaff 18 = .ok (.iconst (-1), 1) := by decide +kernel
theorem dX6_changeStaff_19 : decode cX6_changeStaff 19 = .ok (.iconst 0, 1) := by decide +kernel
theorem dX6_changeStaff_20 : decode cX6_changeStaff 20 = .ok (.invokevirtual 103, 3) := by decide +kernel
theorem dX6_changeStaff_23 : decode cX6_changeStaff 23 = .ok (.istore_n 2, 1) := by decide +kernel
theorem dX6_changeStaff_24 : decode cX6_changeStaff 24 = .ok (.iload_n 2, 1) := by decide +kernel
theorem dX6_changeStaff_25 : decode cX6_changeStaff 25 = .ok (.ifCond .eq 5, 3) := by decide +kernel
theorem dX6_changeStaff_28 : decode cX6_changeStaff 28 = .ok (.iload_n 2, 1) := by decide +kernel
theorem dX6_changeStaff_29 : decode cX6_changeStaff 29 = .ok (.ireturn, 1) := by decide +kernel
theorem dX6_changeStaff_30 : decode cX6_changeStaff 30 = .ok (.aload_n 0, 1) := by decide +kernel
theorem dX6_changeStaff_31 : decode cX6_changeStaff 31 = .ok (.getfield 20, 3) := by decide +kernel
theorem dX6_changeStaff_34 : decode cX6_changeStaff 34 = .ok (.istore_n 3, 1) := by decide +kernel
theorem dX6_changeStaff_35 : decode cX6_changeStaff 35 = .ok (.aload_n 0, 1) := by decide +kernel
theorem dX6_changeStaff_36 : decode cX6_changeStaff 36 = .ok (.iload_n 1, 1) := by decide +kernel
theorem dX6_changeStaff_37 : decode cX6_changeStaff 37 = .ok (.putfield 20, 3) := by decide +kernel
theorem dX6_changeStaff_40 : decode cX6_changeStaff 40 = .ok (.iload_n 3, 1) := by decide +kernel
theorem dX6_changeStaff_41 : decode cX6_changeStaff 41 = .ok (.ireturn, 1) := by decide +kernel
theorem dX6_changeRoom_0 : decode cX6_changeRoom 0 = .ok (.iload_n 1, 1) := by decide +kernel
theorem dX6_changeRoom_1 : decode cX6_changeRoom 1 = .ok (.iconst 0, 1) := by decide +kernel
theorem dX6_changeRoom_2 : decode cX6_changeRoom 2 = .ok (.bipush 99, 2) := by decide +kernel
theorem dX6_changeRoom_4 : decode cX6_changeRoom 4 = .ok (.invokestatic 79, 3) := by decide +kernel
theorem dX6_changeRoom_7 : decode cX6_changeRoom 7 = .ok (.ifCond .ne 6, 3) := by decide +kernel
theorem dX6_changeRoom_10 : decode cX6_changeRoom 10 = .ok (.bipush (-2), 2) := by decide +kernel
theorem dX6_changeRoom_12 : decode cX6_changeRoom 12 = .ok (.ireturn, 1) := by decide +kernel
theorem dX6_changeRoom_13 : decode cX6_changeRoom 13 = .ok (.aload_n 0, 1) := by decide +kernel
theorem dX6_changeRoom_14 : decode cX6_changeRoom 14 = .ok (.getfield 30, 3) := by decide +kernel
theorem dX6_changeRoom_17 : decode cX6_changeRoom 17 = .ok (.iload_n 1, 1) := by decide +kernel
theorem dX6_changeRoom_18 : decode cX6_changeRoom 18 = .ok (.iconst (-1), 1) := by decide +kernel
theorem dX6_changeRoom_19 : decode cX6_changeRoom 19 = .ok (.iconst 0, 1) := by decide +kernel
theorem dX6_changeRoom_20 : decode cX6_changeRoom 20 = .ok (.invokevirtual 107, 3) := by decide +kernel
theorem dX6_changeRoom_23 : decode cX6_changeRoom 23 = .ok (.istore_n 2, 1) := by decide +kernel
theorem dX6_changeRoom_24 : decode cX6_changeRoom 24 = .ok (.iload_n 2, 1) := by decide +kernel
theorem dX6_changeRoom_25 : decode cX6_changeRoom 25 = .ok (.ifCond .eq 5, 3) := by decide +kernel
theorem dX6_changeRoom_28 : decode cX6_changeRoom 28 = .ok (.iload_n 2, 1) := by decide +kernel
theorem dX6_changeRoom_29 : decode cX6_changeRoom 29 = .ok (.ireturn, 1) := by decide +kernel
theorem dX6_changeRoom_30 : decode cX6_changeRoom 30 = .ok (.aload_n 0, 1) := by decide +kernel
theorem dX6_changeRoom_31 : decode cX6_changeRoom 31 = .ok (.getfield 24, 3) := by decide +kernel
theorem dX6_changeRoom_34 : decode cX6_changeRoom 34 = .ok (.istore_n 3, 1) := by decide +kernel
theorem dX6_changeRoom_35 : decode cX6_changeRoom 35 = .ok (.aload_n 0, 1) := by decide +kernel
theorem dX6_changeRoom_36 : decode cX6_changeRoom 36 = .ok (.iload_n 1, 1) := by decide +kernel
theorem dX6_changeRoom_37 : decode cX6_changeRoom 37 = .ok (.putfield 24, 3) := by decide +kernel
theorem dX6_changeRoom_40 : decode cX6_changeRoom 40 = .ok (.iload_n 3, 1) := by decide +kernel
theorem dX6_changeRoom_41 : decode cX6_changeRoom 41 = .ok (.ireturn, 1) := by decide +kernel
theorem dX6_makeProduction_0 : decode cX6_makeProduction 0 = .ok (.iload_n 1, 1) := by decide +kernel
theorem dX6_makeProduction_1 : decode cX6_makeProduction 1 = .ok (.iconst 1, 1) := by decide +kernel
theorem dX6_makeProduction_2 : decode cX6_makeProduction 2 = .ok (.bipush 9, 2) := by decide +kernel
theorem dX6_makeProduction_4 : decode cX6_makeProduction 4 = .ok (.invokestatic 79, 3) := by decide +kernel
theorem dX6_makeProduction_7 : decode cX6_makeProduction 7 = .ok (.ifCond .eq 38, 3) := by decide +kernel
theorem dX6_makeProduction_10 : decode cX6_makeProduction 10 = .ok (.iload_n 2, 1) := by decide +kernel
theorem dX6_makeProduction_11 : decode cX6_makeProduction 11 = .ok (.iconst 1, 1) := by decide +kernel
theorem dX6_makeProduction_12 : decode cX6_makeProduction 12 = .ok (.bipush 6, 2) := by decide +kernel
theorem dX6_makeProduction_14 : decode cX6_makeProduction 14 = .ok (.invokestatic 79, 3) := by decide +kernel
theorem dX6_makeProduction_17 : decode cX6_makeProduction 17 = .ok (.ifCond .eq 28, 3) := by decide +kernel
theorem dX6_makeProduction_20 : decode cX6_makeProduction 20 = .ok (.iload_n 3, 1) := by decide +kernel
theorem dX6_makeProduction_21 : decode cX6_makeProduction 21 = .ok (.iconst 1, 1) := by decide +kernel
theorem dX6_makeProduction_22 : decode cX6_makeProduction 22 = .ok (.bipush 50, 2) := by decide +kernel
theorem dX6_makeProduction_24 : decode cX6_makeProduction 24 = .ok (.invokestatic 79, 3) := by decide +kernel
theorem dX6_makeProduction_27 : decode cX6_makeProduction 27 = .ok (.ifCond .eq 18, 3) := by decide +kernel
theorem dX6_makeProduction_30 : decode cX6_makeProduction 30 = .ok (.iload 4, 2) := by decide +kernel
theorem dX6_makeProduction_32 : decode cX6_makeProduction 32 = .ok (.iconst 0, 1) := by decide +kernel
theorem dX6_makeProduction_33 : decode cX6_makeProduction 33 = .ok (.bipush 100, 2) := by decide +kernel
theorem dX6_makeProduction_35 : decode cX6_makeProduction 35 = .ok (.invokestatic 79, 3) := by decide +kernel
theorem dX6_makeProduction_38 : decode cX6_makeProduction 38 = .ok (.ifCond .eq 7, 3) := by decide +kernel
theorem dX6_makeProduction_41 : decode cX6_makeProduction 41 = .ok (.iconst 1, 1) := by decide +kernel
theorem dX6_makeProduction_42 : decode cX6_makeProduction 42 = .ok (.goto 4, 3) := by decide +kernel
theorem dX6_makeProduction_45 : decode cX6_makeProduction 45 = .ok (.iconst 0, 1) := by decide +kernel
theorem dX6_makeProduction_46 : decode cX6_makeProduction 46 = .ok (.istore 5, 2) := by decide +kernel
theorem dX6_makeProduction_48 : decode cX6_makeProduction 48 = .ok (.iload 5, 2) := by decide +kernel
theorem dX6_makeProduction_50 : decode cX6_makeProduction 50 = .ok (.ifCond .ne 6, 3) := by decide +kernel
theorem dX6_makeProduction_53 : decode cX6_makeProduction 53 = .ok (.bipush (-2), 2) := by decide +kernel
theorem dX6_makeProduction_55 : decode cX6_makeProduction 55 = .ok (.ireturn, 1) := by decide +kernel
theorem dX6_makeProduction_56 : decode cX6_makeProduction 56 = .ok (.aload_n 0, 1) := by decide +kernel
theorem dX6_makeProduction_57 : decode cX6_makeProduction 57 = .ok (.getfield 30, 3) := by decide +kernel
theorem dX6_makeProduction_60 : decode cX6_makeProduction 60 = .ok (.getfield 110, 3) := by decide +kernel
theorem dX6_makeProduction_63 : decode cX6_makeProduction 63 = .ok (.bipush 8, 2) := by decide +kernel
theorem dX6_makeProduction_65 : decode cX6_makeProduction 65 = .ok (.if_icmp .ge 18, 3) := by decide +kernel
theorem dX6_makeProduction_68 : decode cX6_makeProduction 68 = .ok (.aload_n 0, 1) := by decide +kernel
theorem dX6_makeProduction_69 : decode cX6_makeProduction 69 = .ok (.getfield 30, 3) := by decide +kernel
theorem dX6_makeProduction_72 : decode cX6_makeProduction 72 = .ok (.iload_n 1, 1) := by decide +kernel
theorem dX6_makeProduction_73 : decode cX6_makeProduction 73 = .ok (.iload_n 2, 1) := by decide +kernel
theorem dX6_makeProduction_74 : decode cX6_makeProduction 74 = .ok (.iload_n 3, 1) := by decide +kernel
theorem dX6_makeProduction_75 : decode cX6_makeProduction 75 = .ok (.iload 4, 2) := by decide +kernel
theorem dX6_makeProduction_77 : decode cX6_makeProduction 77 = .ok (.invokevirtual 111, 3) := by decide +kernel
theorem dX6_makeProduction_80 : decode cX6_makeProduction 80 = .ok (.goto 5, 3) := by decide +kernel
theorem dX6_makeProduction_83 : decode cX6_makeProduction 83 = .ok (.bipush (-3), 2) := by decide +kernel
theorem dX6_makeProduction_85 : decode cX6_makeProduction 85 = .ok (.ireturn, 1) := by decide +kernel
theorem dX6_makePerformance_0 : decode cX6_makePerformance 0 = .ok (.aload_n 0, 1) := by decide +kernel
theorem dX6_makePerformance_1 : decode cX6_makePerformance 1 = .ok (.getfield 30, 3) := by decide +kernel
theorem dX6_makePerformance_4 : decode cX6_makePerformance 4 = .ok (.iload_n 1, 1) := by decide +kernel
theorem dX6_makePerformance_5 : decode cX6_makePerformance 5 = .ok (.invokevirtual 115, 3) := by decide +kernel
theorem dX6_makePerformance_8 : decode cX6_makePerformance 8 = .ok (.ifCond .eq 10, 3) := by decide +kernel
theorem dX6_makePerformance_11 : decode cX6_makePerformance 11 = .ok (.iload_n 2, 1) := by decide +kernel
theorem dX6_makePerformance_12 : decode cX6_makePerformance 12 = .ok (.invokestatic 75, 3) := by decide +kernel
theorem dX6_makePerformance_15 : decode cX6_makePerformance 15 = .ok (.ifCond .ne 5, 3) := by decide +kernel
theorem dX6_makePerformance_18 : decode cX6_makePerformance 18 = .ok (.iconst (-1), 1) := by decide +kernel
theorem dX6_makePerformance_19 : decode cX6_makePerformance 19 = .ok (.ireturn, 1) := by decide +kernel
theorem dX6_makePerformance_20 : decode cX6_makePerformance 20 = .ok (.iload_n 3, 1) := by decide +kernel
theorem dX6_makePerformance_21 : decode cX6_makePerformance 21 = .ok (.invokestatic 118, 3) := by decide +kernel
theorem dX6_makePerformance_24 : decode cX6_makePerformance 24 = .ok (.ifCond .ne 6, 3) := by decide +kernel
theorem dX6_makePerformance_27 : decode cX6_makePerformance 27 = .ok (.bipush (-2), 2) := by decide +kernel
theorem dX6_makePerformance_29 : decode cX6_makePerformance 29 = .ok (.ireturn, 1) := by decide +kernel
theorem dX6_makePerformance_30 : decode cX6_makePerformance 30 = .ok (.aload_n 0, 1) := by decide +kernel
theorem dX6_makePerformance_31 : decode cX6_makePerformance 31 = .ok (.getfield 37, 3) := by decide +kernel
theorem dX6_makePerformance_34 : decode cX6_makePerformance 34 = .ok (.getfield 83, 3) := by decide +kernel
theorem dX6_makePerformance_37 : decode cX6_makePerformance 37 = .ok (.bipush 24, 2) := by decide +kernel
theorem dX6_makePerformance_39 : decode cX6_makePerformance 39 = .ok (.if_icmp .lt 6, 3) := by decide +kernel
theorem dX6_makePerformance_42 : decode cX6_makePerformance 42 = .ok (.bipush (-3), 2) := by decide +kernel
theorem dX6_makePerformance_44 : decode cX6_makePerformance 44 = .ok (.ireturn, 1) := by decide +kernel
theorem dX6_makePerformance_45 : decode cX6_makePerformance 45 = .ok (.aload_n 0, 1) := by decide +kernel
theorem dX6_makePerformance_46 : decode cX6_makePerformance 46 = .ok (.iconst (-1), 1) := by decide +kernel
theorem dX6_makePerformance_47 : decode cX6_makePerformance 47 = .ok (.iload_n 1, 1) := by decide +kernel
theorem dX6_makePerformance_48 : decode cX6_makePerformance 48 = .ok (.iload_n 2, 1) := by decide +kernel
theorem dX6_makePerformance_49 : decode cX6_makePerformance 49 = .ok (.iload_n 3, 1) := by decide +kernel
theorem dX6_makePerformance_50 : decode cX6_makePerformance 50 = .ok (.invokevirtual 121, 3) := by decide +kernel
theorem dX6_makePerformance_53 : decode cX6_makePerformance 53 = .ok (.istore 4, 2) := by decide +kernel
theorem dX6_makePerformance_55 : decode cX6_makePerformance 55 = .ok (.iload 4, 2) := by decide +kernel
theorem dX6_makePerformance_57 : decode cX6_makePerformance 57 = .ok (.ifCond .eq 6, 3) := by decide +kernel
theorem dX6_makePerformance_60 : decode cX6_makePerformance 60 = .ok (.iload 4, 2) := by decide +kernel
theorem dX6_makePerformance_62 : decode cX6_makePerformance 62 = .ok (.ireturn, 1) := by decide +kernel
theorem dX6_makePerformance_63 : decode cX6_makePerformance 63 = .ok (.aload_n 0, 1) := by decide +kernel
theorem dX6_makePerformance_64 : decode cX6_makePerformance 64 = .ok (.getfield 30, 3) := by decide +kernel
theorem dX6_makePerformance_67 : decode cX6_makePerformance 67 = .ok (.getfield 124, 3) := by decide +kernel
theorem dX6_makePerformance_70 : decode cX6_makePerformance 70 = .ok (.iload_n 1, 1) := by decide +kernel
theorem dX6_makePerformance_71 : decode cX6_makePerformance 71 = .ok (.aload_n 0, 1) := by decide +kernel
theorem dX6_makePerformance_72 : decode cX6_makePerformance 72 = .ok (.iconst (-1), 1) := by decide +kernel
theorem dX6_makePerformance_73 : decode cX6_makePerformance 73 = .ok (.iload_n 1, 1) := by decide +kernel
theorem dX6_makePerformance_74 : decode cX6_makePerformance 74 = .ok (.iload_n 3, 1) := by decide +kernel
theorem dX6_makePerformance_75 : decode cX6_makePerformance 75 = .ok (.invokevirtual 127, 3) := by decide +kernel
theorem dX6_makePerformance_78 : decode cX6_makePerformance 78 = .ok (.invokevirtual 55, 3) := by decide +kernel
theorem dX6_makePerformance_81 : decode cX6_makePerformance 81 = .ok (.aload_n 0, 1) := by decide +kernel
theorem dX6_makePerformance_82 : decode cX6_makePerformance 82 = .ok (.getfield 37, 3) := by decide +kernel
theorem dX6_makePerformance_85 : decode cX6_makePerformance 85 = .ok (.iload_n 1, 1) := by decide +kernel
theorem dX6_makePerformance_86 : decode cX6_makePerformance 86 = .ok (.iload_n 2, 1) := by decide +kernel
theorem dX6_makePerformance_87 : decode cX6_makePerformance 87 = .ok (.iload_n 3, 1) := by decide +kernel
theorem dX6_makePerformance_88 : decode cX6_makePerformance 88 = .ok (.invokevirtual 130, 3) := by decide +kernel
theorem dX6_makePerformance_91 : decode cX6_makePerformance 91 = .ok (.ireturn, 1) := by decide +kernel
theorem dX6_dropPerformance_0 : decode cX6_dropPerformance 0 = .ok (.aload_n 0, 1) := by decide +kernel
theorem dX6_dropPerformance_1 : decode cX6_dropPerformance 1 = .ok (.getfield 37, 3) := by decide +kernel
theorem dX6_dropPerformance_4 : decode cX6_dropPerformance 4 = .ok (.iload_n 1, 1) := by decide +kernel
theorem dX6_dropPerformance_5 : decode cX6_dropPerformance 5 = .ok (.invokevirtual 132, 3) := by decide +kernel
theorem dX6_dropPerformance_8 : decode cX6_dropPerformance 8 = .ok (.ifCond .ne 5, 3) := by decide +kernel
theorem dX6_dropPerformance_11 : decode cX6_dropPerformance 11 = .ok (.iconst (-1), 1) := by decide +kernel
theorem dX6_dropPerformance_12 : decode cX6_dropPerformance 12 = .ok (.ireturn, 1) := by decide +kernel
theorem dX6_dropPerformance_13 : decode cX6_dropPerformance 13 = .ok (.aload_n 0, 1) := by decide +kernel
theorem dX6_dropPerformance_14 : decode cX6_dropPerformance 14 = .ok (.getfield 37, 3) := by decide +kernel
theorem dX6_dropPerformance_17 : decode cX6_dropPerformance 17 = .ok (.getfield 133, 3) := by decide +kernel
theorem dX6_dropPerformance_20 : decode cX6_dropPerformance 20 = .ok (.iload_n 1, 1) := by decide +kernel
theorem dX6_dropPerformance_21 : decode cX6_dropPerformance 21 = .ok (.invokevirtual 89, 3) := by decide +kernel
theorem dX6_dropPerformance_24 : decode cX6_dropPerformance 24 = .ok (.istore_n 2, 1) := by decide +kernel
theorem dX6_dropPerformance_25 : decode cX6_dropPerformance 25 = .ok (.aload_n 0, 1) := by decide +kernel
theorem dX6_dropPerformance_26 : decode cX6_dropPerformance 26 = .ok (.getfield 30, 3) := by decide +kernel
theorem dX6_dropPerformance_29 : decode cX6_dropPerformance 29 = .ok (.getfield 124, 3) := by decide +kernel
theorem dX6_dropPerformance_32 : decode cX6_dropPerformance 32 = .ok (.iload_n 2, 1) := by decide +kernel
theorem dX6_dropPerformance_33 : decode cX6_dropPerformance 33 = .ok (.invokevirtual 89, 3) := by decide +kernel
theorem dX6_dropPerformance_36 : decode cX6_dropPerformance 36 = .ok (.iconst 1, 1) := by decide +kernel
theorem dX6_dropPerformance_37 : decode cX6_dropPerformance 37 = .ok (.aload_n 0, 1) := by decide +kernel
theorem dX6_dropPerformance_38 : decode cX6_dropPerformance 38 = .ok (.getfield 37, 3) := by decide +kernel
theorem dX6_dropPerformance_41 : decode cX6_dropPerformance 41 = .ok (.getfield 135, 3) := by decide +kernel
theorem dX6_dropPerformance_44 : decode cX6_dropPerformance 44 = .ok (.iload_n 1, 1) := by decide +kernel
theorem dX6_dropPerformance_45 : decode cX6_dropPerformance 45 = .ok (.invokevirtual 89, 3) := by decide +kernel
theorem dX6_dropPerformance_48 : decode cX6_dropPerformance 48 = .ok (.ishl, 1) := by decide +kernel
theorem dX6_dropPerformance_49 : decode cX6_dropPerformance 49 = .ok (.iconst (-1), 1) := by decide +kernel
theorem dX6_dropPerformance_50 : decode cX6_dropPerformance 50 = .ok (.ixor, 1) := by decide +kernel
theorem dX6_dropPerformance_51 : decode cX6_dropPerformance 51 = .ok (.iand, 1) := by decide +kernel
theorem dX6_dropPerformance_52 : decode cX6_dropPerformance 52 = .ok (.istore_n 3, 1) := by decide +kernel
theorem dX6_dropPerformance_53 : decode cX6_dropPerformance 53 = .ok (.aload_n 0, 1) := by decide +kernel
theorem dX6_dropPerformance_54 : decode cX6_dropPerformance 54 = .ok (.getfield 30, 3) := by decide +kernel
theorem dX6_dropPerformance_57 : decode cX6_dropPerformance 57 = .ok (.aload_n 0, 1) := by decide +kernel
theorem dX6_dropPerformance_58 : decode cX6_dropPerformance 58 = .ok (.getfield 24, 3) := by decide +kernel
theorem dX6_dropPerformance_61 : decode cX6_dropPerformance 61 = .ok (.iload_n 2, 1) := by decide +kernel
theorem dX6_dropPerformance_62 : decode cX6_dropPerformance 62 = .ok (.iload_n 3, 1) := by decide +kernel
theorem dX6_dropPerformance_63 : decode cX6_dropPerformance 63 = .ok (.invokevirtual 107, 3) := by decide +kernel
theorem dX6_dropPerformance_66 : decode cX6_dropPerformance 66 = .ok (.istore 4, 2) := by decide +kernel
theorem dX6_dropPerformance_68 : decode cX6_dropPerformance 68 = .ok (.iload 4, 2) := by decide +kernel
theorem dX6_dropPerformance_70 : decode cX6_dropPerformance 70 = .ok (.ifCond .eq 6, 3) := by decide +kernel
theorem dX6_dropPerformance_73 : decode cX6_dropPerformance 73 = .ok (.iload 4, 2) := by decide +kernel
theorem dX6_dropPerformance_75 : decode cX6_dropPerformance 75 = .ok (.ireturn, 1) := by decide +kernel
theorem dX6_dropPerformance_76 : decode cX6_dropPerformance 76 = .ok (.aload_n 0, 1) := by decide +kernel
theorem dX6_dropPerformance_77 : decode cX6_dropPerformance 77 = .ok (.getfield 37, 3) := by decide +kernel
theorem dX6_dropPerformance_80 : decode cX6_dropPerformance 80 = .ok (.getfield 136, 3) := by decide +kernel
theorem dX6_dropPerformance_83 : decode cX6_dropPerformance 83 = .ok (.iload_n 1, 1) := by decide +kernel
theorem dX6_dropPerformance_84 : decode cX6_dropPerformance 84 = .ok (.invokevirtual 89, 3) := by decide +kernel
theorem dX6_dropPerformance_87 : decode cX6_dropPerformance 87 = .ok (.istore 5, 2) := by decide +kernel
theorem dX6_dropPerformance_89 : decode cX6_dropPerformance 89 = .ok (.aload_n 0, 1) := by decide +kernel
theorem dX6_dropPerformance_90 : decode cX6_dropPerformance 90 = .ok (.getfield 30, 3) := by decide +kernel
theorem dX6_dropPerformance_93 : decode cX6_dropPerformance 93 = .ok (.getfield 124, 3) := by decide +kernel
theorem dX6_dropPerformance_96 : decode cX6_dropPerformance 96 = .ok (.iload_n 2, 1) := by decide +kernel
theorem dX6_dropPerformance_97 : decode cX6_dropPerformance 97 = .ok (.iload_n 3, 1) := by decide +kernel
theorem dX6_dropPerformance_98 : decode cX6_dropPerformance 98 = .ok (.invokevirtual 55, 3) := by decide +kernel
theorem dX6_dropPerformance_101 : decode cX6_dropPerformance 101 = .ok (.aload_n 0, 1) := by decide +kernel
theorem dX6_dropPerformance_102 : decode cX6_dropPerformance 102 = .ok (.getfield 37, 3) := by decide +kernel
theorem dX6_dropPerformance_105 : decode cX6_dropPerformance 105 = .ok (.iload_n 1, 1) := by decide +kernel
theorem dX6_dropPerformance_106 : decode cX6_dropPerformance 106 = .ok (.invokevirtual 139, 3) := by decide +kernel
theorem dX6_dropPerformance_109 : decode cX6_dropPerformance 109 = .ok (.aload_n 0, 1) := by decide +kernel
theorem dX6_dropPerformance_110 : decode cX6_dropPerformance 110 = .ok (.getfield 51, 3) := by decide +kernel
theorem dX6_dropPerformance_113 : decode cX6_dropPerformance 113 = .ok (.iload_n 1, 1) := by decide +kernel
theorem dX6_dropPerformance_114 : decode cX6_dropPerformance 114 = .ok (.invokevirtual 142, 3) := by decide +kernel
theorem dX6_dropPerformance_117 : decode cX6_dropPerformance 117 = .ok (.iload 5, 2) := by decide +kernel
theorem dX6_dropPerformance_119 : decode cX6_dropPerformance 119 = .ok (.ireturn, 1) := by decide +kernel
theorem dX6_movePerformance_0 : decode cX6_movePerformance 0 = .ok (.aload_n 0, 1) := by decide +kernel
theorem dX6_movePerformance_1 : decode cX6_movePerformance 1 = .ok (.getfield 37, 3) := by decide +kernel
theorem dX6_movePerformance_4 : decode cX6_movePerformance 4 = .ok (.iload_n 1, 1) := by decide +kernel
theorem dX6_movePerformance_5 : decode cX6_movePerformance 5 = .ok (.invokevirtual 132, 3) := by decide +kernel
theorem dX6_movePerformance_8 : decode cX6_movePerformance 8 = .ok (.ifCond .ne 5, 3) := by decide +kernel
theorem dX6_movePerformance_11 : decode cX6_movePerformance 11 = .ok (.iconst (-1), 1) := by decide +kernel
theorem dX6_movePerformance_12 : decode cX6_movePerformance 12 = .ok (.ireturn, 1) := by decide +kernel
theorem dX6_movePerformance_13 : decode cX6_movePerformance 13 = .ok (.iload_n 2, 1) := by decide +kernel
theorem dX6_movePerformance_14 : decode cX6_movePerformance 14 = .ok (.invokestatic 118, 3) := by decide +kernel
theorem dX6_movePerformance_17 : decode cX6_movePerformance 17 = .ok (.ifCond .ne 6, 3) := by decide +kernel
theorem dX6_movePerformance_20 : decode cX6_movePerformance 20 = .ok (.bipush (-2), 2) := by decide +kernel
theorem dX6_movePerformance_22 : decode cX6_movePerformance 22 = .ok (.ireturn, 1) := by decide +kernel
theorem dX6_movePerformance_23 : decode cX6_movePerformance 23 = .ok (.aload_n 0, 1) := by decide +kernel
theorem dX6_movePerformance_24 : decode cX6_movePerformance 24 = .ok (.getfield 37, 3) := by decide +kernel
theorem dX6_movePerformance_27 : decode cX6_movePerformance 27 = .ok (.getfield 133, 3) := by decide +kernel
theorem dX6_movePerformance_30 : decode cX6_movePerformance 30 = .ok (.iload_n 1, 1) := by decide +kernel
theorem dX6_movePerformance_31 : decode cX6_movePerformance 31 = .ok (.invokevirtual 89, 3) := by decide +kernel
theorem dX6_movePerformance_34 : decode cX6_movePerformance 34 = .ok (.istore_n 3, 1) := by decide +kernel
theorem dX6_movePerformance_35 : decode cX6_movePerformance 35 = .ok (.aload_n 0, 1) := by decide +kernel
theorem dX6_movePerformance_36 : decode cX6_movePerformance 36 = .ok (.iload_n 1, 1) := by decide +kernel
theorem dX6_movePerformance_37 : decode cX6_movePerformance 37 = .ok (.iload_n 3, 1) := by decide +kernel
theorem dX6_movePerformance_38 : decode cX6_movePerformance 38 = .ok (.aload_n 0, 1) := by decide +kernel
theorem dX6_movePerformance_39 : decode cX6_movePerformance 39 = .ok (.getfield 37, 3) := by decide +kernel
theorem dX6_movePerformance_42 : decode cX6_movePerformance 42 = .ok (.getfield 86, 3) := by decide +kernel
theorem dX6_movePerformance_45 : decode cX6_movePerformance 45 = .ok (.iload_n 1, 1) := by decide +kernel
theorem dX6_movePerformance_46 : decode cX6_movePerformance 46 = .ok (.invokevirtual 89, 3) := by decide +kernel
theorem dX6_movePerformance_49 : decode cX6_movePerformance 49 = .ok (.iload_n 2, 1) := by decide +kernel
theorem dX6_movePerformance_50 : decode cX6_movePerformance 50 = .ok (.invokevirtual 121, 3) := by decide +kernel
theorem dX6_movePerformance_53 : decode cX6_movePerformance 53 = .ok (.istore 4, 2) := by decide +kernel
theorem dX6_movePerformance_55 : decode cX6_movePerformance 55 = .ok (.iload 4, 2) := by decide +kernel
theorem dX6_movePerformance_57 : decode cX6_movePerformance 57 = .ok (.ifCond .eq 6, 3) := by decide +kernel
theorem dX6_movePerformance_60 : decode cX6_movePerformance 60 = .ok (.iload 4, 2) := by decide +kernel
theorem dX6_movePerformance_62 : decode cX6_movePerformance 62 = .ok (.ireturn, 1) := by decide +kernel
theorem dX6_movePerformance_63 : decode cX6_movePerformance 63 = .ok (.aload_n 0, 1) := by decide +kernel
theorem dX6_movePerformance_64 : decode cX6_movePerformance 64 = .ok (.getfield 37, 3) := by decide +kernel
theorem dX6_movePerformance_67 : decode cX6_movePerformance 67 = .ok (.getfield 135, 3) := by decide +kernel
theorem dX6_movePerformance_70 : decode cX6_movePerformance 70 = .ok (.iload_n 1, 1) := by decide +kernel
theorem dX6_movePerformance_71 : decode cX6_movePerformance 71 = .ok (.invokevirtual 89, 3) := by decide +kernel
theorem dX6_movePerformance_74 : decode cX6_movePerformance 74 = .ok (.istore 5, 2) := by decide +kernel
theorem dX6_movePerformance_76 : decode cX6_movePerformance 76 = .ok (.aload_n 0, 1) := by decide +kernel
theorem dX6_movePerformance_77 : decode cX6_movePerformance 77 = .ok (.getfield 30, 3) := by decide +kernel
theorem dX6_movePerformance_80 : decode cX6_movePerformance 80 = .ok (.getfield 124, 3) := by decide +kernel
theorem dX6_movePerformance_83 : decode cX6_movePerformance 83 = .ok (.iload_n 3, 1) := by decide +kernel
theorem dX6_movePerformance_84 : decode cX6_movePerformance 84 = .ok (.aload_n 0, 1) := by decide +kernel
theorem dX6_movePerformance_85 : decode cX6_movePerformance 85 = .ok (.iload_n 1, 1) := by decide +kernel
theorem dX6_movePerformance_86 : decode cX6_movePerformance 86 = .ok (.iload_n 3, 1) := by decide +kernel
theorem dX6_movePerformance_87 : decode cX6_movePerformance 87 = .ok (.iload_n 2, 1) := by decide +kernel
theorem dX6_movePerformance_88 : decode cX6_movePerformance 88 = .ok (.invokevirtual 127, 3) := by decide +kernel
theorem dX6_movePerformance_91 : decode cX6_movePerformance 91 = .ok (.invokevirtual 55, 3) := by decide +kernel
theorem dX6_movePerformance_94 : decode cX6_movePerformance 94 = .ok (.aload_n 0, 1) := by decide +kernel
theorem dX6_movePerformance_95 : decode cX6_movePerformance 95 = .ok (.getfield 37, 3) := by decide +kernel
theorem dX6_movePerformance_98 : decode cX6_movePerformance 98 = .ok (.getfield 135, 3) := by decide +kernel
theorem dX6_movePerformance_101 : decode cX6_movePerformance 101 = .ok (.iload_n 1, 1) := by decide +kernel
theorem dX6_movePerformance_102 : decode cX6_movePerformance 102 = .ok (.iload_n 2, 1) := by decide +kernel
theorem dX6_movePerformance_103 : decode cX6_movePerformance 103 = .ok (.invokevirtual 55, 3) := by decide +kernel
theorem dX6_movePerformance_106 : decode cX6_movePerformance 106 = .ok (.iload 5, 2) := by decide +kernel
theorem dX6_movePerformance_108 : decode cX6_movePerformance 108 = .ok (.ireturn, 1) := by decide +kernel
theorem dX6_datesWith_0 : decode cX6_datesWith 0 = .ok (.aload_n 0, 1) := by decide +kernel
theorem dX6_datesWith_1 : decode cX6_datesWith 1 = .ok (.getfield 30, 3) := by decide +kernel
theorem dX6_datesWith_4 : decode cX6_datesWith 4 = .ok (.getfield 124, 3) := by decide +kernel
theorem dX6_datesWith_7 : decode cX6_datesWith 7 = .ok (.iload_n 2, 1) := by decide +kernel
theorem dX6_datesWith_8 : decode cX6_datesWith 8 = .ok (.invokevirtual 89, 3) := by decide +kernel
theorem dX6_datesWith_11 : decode cX6_datesWith 11 = .ok (.istore 4, 2) := by decide +kernel
theorem dX6_datesWith_13 : decode cX6_datesWith 13 = .ok (.aload_n 0, 1) := by decide +kernel
theorem dX6_datesWith_14 : decode cX6_datesWith 14 = .ok (.getfield 37, 3) := by decide +kernel
theorem dX6_datesWith_17 : decode cX6_datesWith 17 = .ok (.iload_n 1, 1) := by decide +kernel
theorem dX6_datesWith_18 : decode cX6_datesWith 18 = .ok (.invokevirtual 132, 3) := by decide +kernel
theorem dX6_datesWith_21 : decode cX6_datesWith 21 = .ok (.ifCond .eq 23, 3) := by decide +kernel
theorem dX6_datesWith_24 : decode cX6_datesWith 24 = .ok (.iload 4, 2) := by decide +kernel
theorem dX6_datesWith_26 : decode cX6_datesWith 26 = .ok (.iconst 1, 1) := by decide +kernel
theorem dX6_datesWith_27 : decode cX6_datesWith 27 = .ok (.aload_n 0, 1) := by decide +kernel
theorem dX6_datesWith_28 : decode cX6_datesWith 28 = .ok (.getfield 37, 3) := by decide +kernel
theorem dX6_datesWith_31 : decode cX6_datesWith 31 = .ok (.getfield 135, 3) := by decide +kernel
theorem dX6_datesWith_34 : decode cX6_datesWith 34 = .ok (.iload_n 1, 1) := by decide +kernel
theorem dX6_datesWith_35 : decode cX6_datesWith 35 = .ok (.invokevirtual 89, 3) := by decide +kernel
theorem dX6_datesWith_38 : decode cX6_datesWith 38 = .ok (.ishl, 1) := by decide +kernel
theorem dX6_datesWith_39 : decode cX6_datesWith 39 = .ok (.iconst (-1), 1) := by decide +kernel
theorem dX6_datesWith_40 : decode cX6_datesWith 40 = .ok (.ixor, 1) := by decide +kernel
theorem dX6_datesWith_41 : decode cX6_datesWith 41 = .ok (.iand, 1) := by decide +kernel
theorem dX6_datesWith_42 : decode cX6_datesWith 42 = .ok (.istore 4, 2) := by decide +kernel
theorem dX6_datesWith_44 : decode cX6_datesWith 44 = .ok (.iload 4, 2) := by decide +kernel
theorem dX6_datesWith_46 : decode cX6_datesWith 46 = .ok (.iconst 1, 1) := by decide +kernel
theorem dX6_datesWith_47 : decode cX6_datesWith 47 = .ok (.iload_n 3, 1) := by decide +kernel
theorem dX6_datesWith_48 : decode cX6_datesWith 48 = .ok (.ishl, 1) := by decide +kernel
theorem dX6_datesWith_49 : decode cX6_datesWith 49 = .ok (.ior, 1) := by decide +kernel
theorem dX6_datesWith_50 : decode cX6_datesWith 50 = .ok (.ireturn, 1) := by decide +kernel
theorem dX6_placingRefusal_0 : decode cX6_placingRefusal 0 = .ok (.aload_n 0, 1) := by decide +kernel
theorem dX6_placingRefusal_1 : decode cX6_placingRefusal 1 = .ok (.getfield 37, 3) := by decide +kernel
theorem dX6_placingRefusal_4 : decode cX6_placingRefusal 4 = .ok (.iload_n 1, 1) := by decide +kernel
theorem dX6_placingRefusal_5 : decode cX6_placingRefusal 5 = .ok (.iload_n 2, 1) := by decide +kernel
theorem dX6_placingRefusal_6 : decode cX6_placingRefusal 6 = .ok (.iload_n 3, 1) := by decide +kernel
theorem dX6_placingRefusal_7 : decode cX6_placingRefusal 7 = .ok (.iload 4, 2) := by decide +kernel
theorem dX6_placingRefusal_9 : decode cX6_placingRefusal 9 = .ok (.invokevirtual 145, 3) := by decide +kernel
theorem dX6_placingRefusal_12 : decode cX6_placingRefusal 12 = .ok (.istore 5, 2) := by decide +kernel
theorem dX6_placingRefusal_14 : decode cX6_placingRefusal 14 = .ok (.iload 5, 2) := by decide +kernel
theorem dX6_placingRefusal_16 : decode cX6_placingRefusal 16 = .ok (.iconst (-1), 1) := by decide +kernel
theorem dX6_placingRefusal_17 : decode cX6_placingRefusal 17 = .ok (.if_icmp .eq 10, 3) := by decide +kernel
theorem dX6_placingRefusal_20 : decode cX6_placingRefusal 20 = .ok (.iconst 1, 1) := by decide +kernel
theorem dX6_placingRefusal_21 : decode cX6_placingRefusal 21 = .ok (.iload 5, 2) := by decide +kernel
theorem dX6_placingRefusal_23 : decode cX6_placingRefusal 23 = .ok (.invokestatic 96, 3) := by decide +kernel
theorem dX6_placingRefusal_26 : decode cX6_placingRefusal 26 = .ok (.ireturn, 1) := by decide +kernel
theorem dX6_placingRefusal_27 : decode cX6_placingRefusal 27 = .ok (.aload_n 0, 1) := by decide +kernel
theorem dX6_placingRefusal_28 : decode cX6_placingRefusal 28 = .ok (.iload_n 1, 1) := by decide +kernel
theorem dX6_placingRefusal_29 : decode cX6_placingRefusal 29 = .ok (.iload_n 2, 1) := by decide +kernel
theorem dX6_placingRefusal_30 : decode cX6_placingRefusal 30 = .ok (.iload 4, 2) := by decide +kernel
theorem dX6_placingRefusal_32 : decode cX6_placingRefusal 32 = .ok (.invokevirtual 127, 3) := by decide +kernel
theorem dX6_placingRefusal_35 : decode cX6_placingRefusal 35 = .ok (.istore 6, 2) := by decide +kernel
theorem dX6_placingRefusal_37 : decode cX6_placingRefusal 37 = .ok (.aload_n 0, 1) := by decide +kernel
theorem dX6_placingRefusal_38 : decode cX6_placingRefusal 38 = .ok (.getfield 30, 3) := by decide +kernel
theorem dX6_placingRefusal_41 : decode cX6_placingRefusal 41 = .ok (.aload_n 0, 1) := by decide +kernel
theorem dX6_placingRefusal_42 : decode cX6_placingRefusal 42 = .ok (.getfield 20, 3) := by decide +kernel
theorem dX6_placingRefusal_45 : decode cX6_placingRefusal 45 = .ok (.iload_n 2, 1) := by decide +kernel
theorem dX6_placingRefusal_46 : decode cX6_placingRefusal 46 = .ok (.iload 6, 2) := by decide +kernel
theorem dX6_placingRefusal_48 : decode cX6_placingRefusal 48 = .ok (.invokevirtual 103, 3) := by decide +kernel
theorem dX6_placingRefusal_51 : decode cX6_placingRefusal 51 = .ok (.istore 7, 2) := by decide +kernel
theorem dX6_placingRefusal_53 : decode cX6_placingRefusal 53 = .ok (.iload 7, 2) := by decide +kernel
theorem dX6_placingRefusal_55 : decode cX6_placingRefusal 55 = .ok (.ifCond .eq 6, 3) := by decide +kernel
theorem dX6_placingRefusal_58 : decode cX6_placingRefusal 58 = .ok (.iload 7, 2) := by decide +kernel
theorem dX6_placingRefusal_60 : decode cX6_placingRefusal 60 = .ok (.ireturn, 1) := by decide +kernel
theorem dX6_placingRefusal_61 : decode cX6_placingRefusal 61 = .ok (.aload_n 0, 1) := by decide +kernel
theorem dX6_placingRefusal_62 : decode cX6_placingRefusal 62 = .ok (.getfield 30, 3) := by decide +kernel
theorem dX6_placingRefusal_65 : decode cX6_placingRefusal 65 = .ok (.aload_n 0, 1) := by decide +kernel
theorem dX6_placingRefusal_66 : decode cX6_placingRefusal 66 = .ok (.getfield 24, 3) := by decide +kernel
theorem dX6_placingRefusal_69 : decode cX6_placingRefusal 69 = .ok (.iload_n 2, 1) := by decide +kernel
theorem dX6_placingRefusal_70 : decode cX6_placingRefusal 70 = .ok (.iload 6, 2) := by decide +kernel
theorem dX6_placingRefusal_72 : decode cX6_placingRefusal 72 = .ok (.invokevirtual 107, 3) := by decide +kernel
theorem dX6_placingRefusal_75 : decode cX6_placingRefusal 75 = .ok (.ireturn, 1) := by decide +kernel
theorem dX6_dateOfLeastPeak_0 : decode cX6_dateOfLeastPeak 0 = .ok (.aload_n 0, 1) := by decide +kernel
theorem dX6_dateOfLeastPeak_1 : decode cX6_dateOfLeastPeak 1 = .ok (.getfield 37, 3) := by decide +kernel
theorem dX6_dateOfLeastPeak_4 : decode cX6_dateOfLeastPeak 4 = .ok (.getfield 133, 3) := by decide +kernel
theorem dX6_dateOfLeastPeak_7 : decode cX6_dateOfLeastPeak 7 = .ok (.iload_n 1, 1) := by decide +kernel
theorem dX6_dateOfLeastPeak_8 : decode cX6_dateOfLeastPeak 8 = .ok (.invokevirtual 89, 3) := by decide +kernel
theorem dX6_dateOfLeastPeak_11 : decode cX6_dateOfLeastPeak 11 = .ok (.istore_n 2, 1) := by decide +kernel
theorem dX6_dateOfLeastPeak_12 : decode cX6_dateOfLeastPeak 12 = .ok (.aload_n 0, 1) := by decide +kernel
theorem dX6_dateOfLeastPeak_13 : decode cX6_dateOfLeastPeak 13 = .ok (.getfield 37, 3) := by decide +kernel
theorem dX6_dateOfLeastPeak_16 : decode cX6_dateOfLeastPeak 16 = .ok (.getfield 86, 3) := by decide +kernel
theorem dX6_dateOfLeastPeak_19 : decode cX6_dateOfLeastPeak 19 = .ok (.iload_n 1, 1) := by decide +kernel
theorem dX6_dateOfLeastPeak_20 : decode cX6_dateOfLeastPeak 20 = .ok (.invokevirtual 89, 3) := by decide +kernel
theorem dX6_dateOfLeastPeak_23 : decode cX6_dateOfLeastPeak 23 = .ok (.istore_n 3, 1) := by decide +kernel
theorem dX6_dateOfLeastPeak_24 : decode cX6_dateOfLeastPeak 24 = .ok (.iconst (-1), 1) := by decide +kernel
theorem dX6_dateOfLeastPeak_25 : decode cX6_dateOfLeastPeak 25 = .ok (.istore 4, 2) := by decide +kernel
theorem dX6_dateOfLeastPeak_27 : decode cX6_dateOfLeastPeak 27 = .ok (.iconst 0, 1) := by decide +kernel
theorem dX6_dateOfLeastPeak_28 : decode cX6_dateOfLeastPeak 28 = .ok (.istore 5, 2) := by decide +kernel
theorem dX6_dateOfLeastPeak_30 : decode cX6_dateOfLeastPeak 30 = .ok (.iconst 0, 1) := by decide +kernel
theorem dX6_dateOfLeastPeak_31 : decode cX6_dateOfLeastPeak 31 = .ok (.istore 6, 2) := by decide +kernel
theorem dX6_dateOfLeastPeak_33 : decode cX6_dateOfLeastPeak 33 = .ok (.iload 6, 2) := by decide +kernel
theorem dX6_dateOfLeastPeak_35 : decode cX6_dateOfLeastPeak 35 = .ok (.bipush 30, 2) := by decide +kernel
theorem dX6_dateOfLeastPeak_37 : decode cX6_dateOfLeastPeak 37 = .ok (.if_icmp .ge 88, 3) := by decide +kernel
theorem dX6_dateOfLeastPeak_40 : decode cX6_dateOfLeastPeak 40 = .ok (.iload 6, 2) := by decide +kernel
theorem dX6_dateOfLeastPeak_42 : decode cX6_dateOfLeastPeak 42 = .ok (.aload_n 0, 1) := by decide +kernel
theorem dX6_dateOfLeastPeak_43 : decode cX6_dateOfLeastPeak 43 = .ok (.getfield 37, 3) := by decide +kernel
theorem dX6_dateOfLeastPeak_46 : decode cX6_dateOfLeastPeak 46 = .ok (.getfield 135, 3) := by decide +kernel
theorem dX6_dateOfLeastPeak_49 : decode cX6_dateOfLeastPeak 49 = .ok (.iload_n 1, 1) := by decide +kernel
theorem dX6_dateOfLeastPeak_50 : decode cX6_dateOfLeastPeak 50 = .ok (.invokevirtual 89, 3) := by decide +kernel
theorem dX6_dateOfLeastPeak_53 : decode cX6_dateOfLeastPeak 53 = .ok (.if_icmp .ne 7, 3) := by decide +kernel
theorem dX6_dateOfLeastPeak_56 : decode cX6_dateOfLeastPeak 56 = .ok (.iconst 1, 1) := by decide +kernel
theorem dX6_dateOfLeastPeak_57 : decode cX6_dateOfLeastPeak 57 = .ok (.goto 4, 3) := by decide +kernel
theorem dX6_dateOfLeastPeak_60 : decode cX6_dateOfLeastPeak 60 = .ok (.iconst 0, 1) := by decide +kernel
theorem dX6_dateOfLeastPeak_61 : decode cX6_dateOfLeastPeak 61 = .ok (.istore 7, 2) := by decide +kernel
theorem dX6_dateOfLeastPeak_63 : decode cX6_dateOfLeastPeak 63 = .ok (.iload 7, 2) := by decide +kernel
theorem dX6_dateOfLeastPeak_65 : decode cX6_dateOfLeastPeak 65 = .ok (.ifCond .ne 54, 3) := by decide +kernel
theorem dX6_dateOfLeastPeak_68 : decode cX6_dateOfLeastPeak 68 = .ok (.aload_n 0, 1) := by decide +kernel
theorem dX6_dateOfLeastPeak_69 : decode cX6_dateOfLeastPeak 69 = .ok (.iload_n 1, 1) := by decide +kernel
theorem dX6_dateOfLeastPeak_70 : decode cX6_dateOfLeastPeak 70 = .ok (.iload_n 2, 1) := by decide +kernel
theorem dX6_dateOfLeastPeak_71 : decode cX6_dateOfLeastPeak 71 = .ok (.iload_n 3, 1) := by decide +kernel
theorem dX6_dateOfLeastPeak_72 : decode cX6_dateOfLeastPeak 72 = .ok (.iload 6, 2) := by decide +kernel
theorem dX6_dateOfLeastPeak_74 : decode cX6_dateOfLeastPeak 74 = .ok (.invokevirtual 121, 3) := by decide +kernel
theorem dX6_dateOfLeastPeak_77 : decode cX6_dateOfLeastPeak 77 = .ok (.ifCond .ne 42, 3) := by decide +kernel
theorem dX6_dateOfLeastPeak_80 : decode cX6_dateOfLeastPeak 80 = .ok (.aload_n 0, 1) := by decide +kernel
theorem dX6_dateOfLeastPeak_81 : decode cX6_dateOfLeastPeak 81 = .ok (.getfield 30, 3) := by decide +kernel
theorem dX6_dateOfLeastPeak_84 : decode cX6_dateOfLeastPeak 84 = .ok (.iload_n 2, 1) := by decide +kernel
theorem dX6_dateOfLeastPeak_85 : decode cX6_dateOfLeastPeak 85 = .ok (.aload_n 0, 1) := by decide +kernel
theorem dX6_dateOfLeastPeak_86 : decode cX6_dateOfLeastPeak 86 = .ok (.iload_n 1, 1) := by decide +kernel
theorem dX6_dateOfLeastPeak_87 : decode cX6_dateOfLeastPeak 87 = .ok (.iload_n 2, 1) := by decide +kernel
theorem dX6_dateOfLeastPeak_88 : decode cX6_dateOfLeastPeak 88 = .ok (.iload 6, 2) := by decide +kernel
theorem dX6_dateOfLeastPeak_90 : decode cX6_dateOfLeastPeak 90 = .ok (.invokevirtual 127, 3) := by decide +kernel
theorem dX6_dateOfLeastPeak_93 : decode cX6_dateOfLeastPeak 93 = .ok (.invokevirtual 148, 3) := by decide +kernel
theorem dX6_dateOfLeastPeak_96 : decode cX6_dateOfLeastPeak 96 = .ok (.istore 8, 2) := by decide +kernel
theorem dX6_dateOfLeastPeak_98 : decode cX6_dateOfLeastPeak 98 = .ok (.iload 4, 2) := by decide +kernel
theorem dX6_dateOfLeastPeak_100 : decode cX6_dateOfLeastPeak 100 = .ok (.iconst (-1), 1) := by decide +kernel
theorem dX6_dateOfLeastPeak_101 : decode cX6_dateOfLeastPeak 101 = .ok (.if_icmp .eq 10, 3) := by decide +kernel
theorem dX6_dateOfLeastPeak_104 : decode cX6_dateOfLeastPeak 104 = .ok (.iload 8, 2) := by decide +kernel
theorem dX6_dateOfLeastPeak_106 : decode cX6_dateOfLeastPeak 106 = .ok (.iload 5, 2) := by decide +kernel
theorem dX6_dateOfLeastPeak_108 : decode cX6_dateOfLeastPeak 108 = .ok (.if_icmp .ge 11, 3) := by decide +kernel
theorem dX6_dateOfLeastPeak_111 : decode cX6_dateOfLeastPeak 111 = .ok (.iload 6, 2) := by decide +kernel
theorem dX6_dateOfLeastPeak_113 : decode cX6_dateOfLeastPeak 113 = .ok (.istore 4, 2) := by decide +kernel
theorem dX6_dateOfLeastPeak_115 : decode cX6_dateOfLeastPeak 115 = .ok (.iload 8, 2) := by decide +kernel
theorem dX6_dateOfLeastPeak_117 : decode cX6_dateOfLeastPeak 117 = .ok (.istore 5, 2) := by decide +kernel
theorem dX6_dateOfLeastPeak_119 : decode cX6_dateOfLeastPeak 119 = .ok (.iinc 6 1, 3) := by decide +kernel
theorem dX6_dateOfLeastPeak_122 : decode cX6_dateOfLeastPeak 122 = .ok (.goto (-89), 3) := by decide +kernel
theorem dX6_dateOfLeastPeak_125 : decode cX6_dateOfLeastPeak 125 = .ok (.iload 4, 2) := by decide +kernel
theorem dX6_dateOfLeastPeak_127 : decode cX6_dateOfLeastPeak 127 = .ok (.ireturn, 1) := by decide +kernel
theorem dX6_sellSeats_0 : decode cX6_sellSeats 0 = .ok (.aload_n 0, 1) := by decide +kernel
theorem dX6_sellSeats_1 : decode cX6_sellSeats 1 = .ok (.getfield 37, 3) := by decide +kernel
theorem dX6_sellSeats_4 : decode cX6_sellSeats 4 = .ok (.iload_n 1, 1) := by decide +kernel
theorem dX6_sellSeats_5 : decode cX6_sellSeats 5 = .ok (.invokevirtual 132, 3) := by decide +kernel
theorem dX6_sellSeats_8 : decode cX6_sellSeats 8 = .ok (.ifCond .ne 5, 3) := by decide +kernel
theorem dX6_sellSeats_11 : decode cX6_sellSeats 11 = .ok (.iconst (-1), 1) := by decide +kernel
theorem dX6_sellSeats_12 : decode cX6_sellSeats 12 = .ok (.ireturn, 1) := by decide +kernel
theorem dX6_sellSeats_13 : decode cX6_sellSeats 13 = .ok (.iload_n 2, 1) := by decide +kernel
theorem dX6_sellSeats_14 : decode cX6_sellSeats 14 = .ok (.iconst 1, 1) := by decide +kernel
theorem dX6_sellSeats_15 : decode cX6_sellSeats 15 = .ok (.bipush 99, 2) := by decide +kernel
theorem dX6_sellSeats_17 : decode cX6_sellSeats 17 = .ok (.invokestatic 79, 3) := by decide +kernel
theorem dX6_sellSeats_20 : decode cX6_sellSeats 20 = .ok (.ifCond .ne 6, 3) := by decide +kernel
theorem dX6_sellSeats_23 : decode cX6_sellSeats 23 = .ok (.bipush (-2), 2) := by decide +kernel
theorem dX6_sellSeats_25 : decode cX6_sellSeats 25 = .ok (.ireturn, 1) := by decide +kernel
theorem dX6_sellSeats_26 : decode cX6_sellSeats 26 = .ok (.aload_n 0, 1) := by decide +kernel
theorem dX6_sellSeats_27 : decode cX6_sellSeats 27 = .ok (.iload_n 1, 1) := by decide +kernel
theorem dX6_sellSeats_28 : decode cX6_sellSeats 28 = .ok (.iconst 2, 1) := by decide +kernel
theorem dX6_sellSeats_29 : decode cX6_sellSeats 29 = .ok (.invokevirtual 151, 3) := by decide +kernel
theorem dX6_sellSeats_32 : decode cX6_sellSeats 32 = .ok (.istore_n 3, 1) := by decide +kernel
theorem dX6_sellSeats_33 : decode cX6_sellSeats 33 = .ok (.iload_n 3, 1) := by decide +kernel
theorem dX6_sellSeats_34 : decode cX6_sellSeats 34 = .ok (.iload_n 2, 1) := by decide +kernel
theorem dX6_sellSeats_35 : decode cX6_sellSeats 35 = .ok (.if_icmp .ge 9, 3) := by decide +kernel
theorem dX6_sellSeats_38 : decode cX6_sellSeats 38 = .ok (.iconst 4, 1) := by decide +kernel
theorem dX6_sellSeats_39 : decode cX6_sellSeats 39 = .ok (.iload_n 3, 1) := by decide +kernel
theorem dX6_sellSeats_40 : decode cX6_sellSeats 40 = .ok (.invokestatic 96, 3) := by decide +kernel
theorem dX6_sellSeats_43 : decode cX6_sellSeats 43 = .ok (.ireturn, 1) := by decide +kernel
theorem dX6_sellSeats_44 : decode cX6_sellSeats 44 = .ok (.aload_n 0, 1) := by decide +kernel
theorem dX6_sellSeats_45 : decode cX6_sellSeats 45 = .ok (.getfield 37, 3) := by decide +kernel
theorem dX6_sellSeats_48 : decode cX6_sellSeats 48 = .ok (.getfield 136, 3) := by decide +kernel
theorem dX6_sellSeats_51 : decode cX6_sellSeats 51 = .ok (.iload_n 1, 1) := by decide +kernel
theorem dX6_sellSeats_52 : decode cX6_sellSeats 52 = .ok (.iload_n 2, 1) := by decide +kernel
theorem dX6_sellSeats_53 : decode cX6_sellSeats 53 = .ok (.invokevirtual 154, 3) := by decide +kernel
theorem dX6_sellSeats_56 : decode cX6_sellSeats 56 = .ok (.iload_n 3, 1) := by decide +kernel
theorem dX6_sellSeats_57 : decode cX6_sellSeats 57 = .ok (.iload_n 2, 1) := by decide +kernel
theorem dX6_sellSeats_58 : decode cX6_sellSeats 58 = .ok (.isub, 1) := by decide +kernel
theorem dX6_sellSeats_59 : decode cX6_sellSeats 59 = .ok (.ireturn, 1) := by decide +kernel
theorem dX6_refundSeats_0 : decode cX6_refundSeats 0 = .ok (.aload_n 0, 1) := by decide +kernel
theorem dX6_refundSeats_1 : decode cX6_refundSeats 1 = .ok (.getfield 37, 3) := by decide +kernel
theorem dX6_refundSeats_4 : decode cX6_refundSeats 4 = .ok (.iload_n 1, 1) := by decide +kernel
theorem dX6_refundSeats_5 : decode cX6_refundSeats 5 = .ok (.invokevirtual 132, 3) := by decide +kernel
theorem dX6_refundSeats_8 : decode cX6_refundSeats 8 = .ok (.ifCond .ne 5, 3) := by decide +kernel
theorem dX6_refundSeats_11 : decode cX6_refundSeats 11 = .ok (.iconst (-1), 1) := by decide +kernel
theorem dX6_refundSeats_12 : decode cX6_refundSeats 12 = .ok (.ireturn, 1) := by decide +kernel
theorem dX6_refundSeats_13 : decode cX6_refundSeats 13 = .ok (.iload_n 2, 1) := by decide +kernel
theorem dX6_refundSeats_14 : decode cX6_refundSeats 14 = .ok (.iconst 1, 1) := by decide +kernel
theorem dX6_refundSeats_15 : decode cX6_refundSeats 15 = .ok (.bipush 99, 2) := by decide +kernel
theorem dX6_refundSeats_17 : decode cX6_refundSeats 17 = .ok (.invokestatic 79, 3) := by decide +kernel
theorem dX6_refundSeats_20 : decode cX6_refundSeats 20 = .ok (.ifCond .ne 6, 3) := by decide +kernel
theorem dX6_refundSeats_23 : decode cX6_refundSeats 23 = .ok (.bipush (-2), 2) := by decide +kernel
theorem dX6_refundSeats_25 : decode cX6_refundSeats 25 = .ok (.ireturn, 1) := by decide +kernel
theorem dX6_refundSeats_26 : decode cX6_refundSeats 26 = .ok (.aload_n 0, 1) := by decide +kernel
theorem dX6_refundSeats_27 : decode cX6_refundSeats 27 = .ok (.getfield 37, 3) := by decide +kernel
theorem dX6_refundSeats_30 : decode cX6_refundSeats 30 = .ok (.getfield 136, 3) := by decide +kernel
theorem dX6_refundSeats_33 : decode cX6_refundSeats 33 = .ok (.iload_n 1, 1) := by decide +kernel
theorem dX6_refundSeats_34 : decode cX6_refundSeats 34 = .ok (.invokevirtual 89, 3) := by decide +kernel
theorem dX6_refundSeats_37 : decode cX6_refundSeats 37 = .ok (.istore_n 3, 1) := by decide +kernel
theorem dX6_refundSeats_38 : decode cX6_refundSeats 38 = .ok (.iload_n 3, 1) := by decide +kernel
theorem dX6_refundSeats_39 : decode cX6_refundSeats 39 = .ok (.iload_n 2, 1) := by decide +kernel
theorem dX6_refundSeats_40 : decode cX6_refundSeats 40 = .ok (.if_icmp .ge 10, 3) := by decide +kernel
theorem dX6_refundSeats_43 : decode cX6_refundSeats 43 = .ok (.bipush 7, 2) := by decide +kernel
theorem dX6_refundSeats_45 : decode cX6_refundSeats 45 = .ok (.iload_n 3, 1) := by decide +kernel
theorem dX6_refundSeats_46 : decode cX6_refundSeats 46 = .ok (.invokestatic 96, 3) := by decide +kernel
theorem dX6_refundSeats_49 : decode cX6_refundSeats 49 = .ok (.ireturn, 1) := by decide +kernel
theorem dX6_refundSeats_50 : decode cX6_refundSeats 50 = .ok (.aload_n 0, 1) := by decide +kernel
theorem dX6_refundSeats_51 : decode cX6_refundSeats 51 = .ok (.getfield 37, 3) := by decide +kernel
theorem dX6_refundSeats_54 : decode cX6_refundSeats 54 = .ok (.getfield 136, 3) := by decide +kernel
theorem dX6_refundSeats_57 : decode cX6_refundSeats 57 = .ok (.iload_n 1, 1) := by decide +kernel
theorem dX6_refundSeats_58 : decode cX6_refundSeats 58 = .ok (.iload_n 2, 1) := by decide +kernel
theorem dX6_refundSeats_59 : decode cX6_refundSeats 59 = .ok (.ineg, 1) := by decide +kernel
theorem dX6_refundSeats_60 : decode cX6_refundSeats 60 = .ok (.invokevirtual 154, 3) := by decide +kernel
theorem dX6_refundSeats_63 : decode cX6_refundSeats 63 = .ok (.aload_n 0, 1) := by decide +kernel
theorem dX6_refundSeats_64 : decode cX6_refundSeats 64 = .ok (.iload_n 1, 1) := by decide +kernel
theorem dX6_refundSeats_65 : decode cX6_refundSeats 65 = .ok (.invokevirtual 156, 3) := by decide +kernel
theorem dX6_refundSeats_68 : decode cX6_refundSeats 68 = .ok (.aload_n 0, 1) := by decide +kernel
theorem dX6_refundSeats_69 : decode cX6_refundSeats 69 = .ok (.getfield 37, 3) := by decide +kernel
theorem dX6_refundSeats_72 : decode cX6_refundSeats 72 = .ok (.getfield 136, 3) := by decide +kernel
theorem dX6_refundSeats_75 : decode cX6_refundSeats 75 = .ok (.iload_n 1, 1) := by decide +kernel
theorem dX6_refundSeats_76 : decode cX6_refundSeats 76 = .ok (.invokevirtual 89, 3) := by decide +kernel
theorem dX6_refundSeats_79 : decode cX6_refundSeats 79 = .ok (.ireturn, 1) := by decide +kernel
theorem dX6_makeRequest_0 : decode cX6_makeRequest 0 = .ok (.aload_n 0, 1) := by decide +kernel
theorem dX6_makeRequest_1 : decode cX6_makeRequest 1 = .ok (.getfield 37, 3) := by decide +kernel
theorem dX6_makeRequest_4 : decode cX6_makeRequest 4 = .ok (.iload_n 1, 1) := by decide +kernel
theorem dX6_makeRequest_5 : decode cX6_makeRequest 5 = .ok (.invokevirtual 132, 3) := by decide +kernel
theorem dX6_makeRequest_8 : decode cX6_makeRequest 8 = .ok (.ifCond .ne 5, 3) := by decide +kernel
theorem dX6_makeRequest_11 : decode cX6_makeRequest 11 = .ok (.iconst (-1), 1) := by decide +kernel
theorem dX6_makeRequest_12 : decode cX6_makeRequest 12 = .ok (.ireturn, 1) := by decide +kernel
theorem dX6_makeRequest_13 : decode cX6_makeRequest 13 = .ok (.iload_n 2, 1) := by decide +kernel
theorem dX6_makeRequest_14 : decode cX6_makeRequest 14 = .ok (.iconst 1, 1) := by decide +kernel
theorem dX6_makeRequest_15 : decode cX6_makeRequest 15 = .ok (.bipush 99, 2) := by decide +kernel
theorem dX6_makeRequest_17 : decode cX6_makeRequest 17 = .ok (.invokestatic 79, 3) := by decide +kernel
theorem dX6_makeRequest_20 : decode cX6_makeRequest 20 = .ok (.ifCond .eq 13, 3) := by decide +kernel
theorem dX6_makeRequest_23 : decode cX6_makeRequest 23 = .ok (.iload_n 3, 1) := by decide +kernel
theorem dX6_makeRequest_24 : decode cX6_makeRequest 24 = .ok (.iconst 0, 1) := by decide +kernel
theorem dX6_makeRequest_25 : decode cX6_makeRequest 25 = .ok (.bipush 9, 2) := by decide +kernel
theorem dX6_makeRequest_27 : decode cX6_makeRequest 27 = .ok (.invokestatic 79, 3) := by decide +kernel
theorem dX6_makeRequest_30 : decode cX6_makeRequest 30 = .ok (.ifCond .ne 6, 3) := by decide +kernel
theorem dX6_makeRequest_33 : decode cX6_makeRequest 33 = .ok (.bipush (-2), 2) := by decide +kernel
theorem dX6_makeRequest_35 : decode cX6_makeRequest 35 = .ok (.ireturn, 1) := by decide +kernel
theorem dX6_makeRequest_36 : decode cX6_makeRequest 36 = .ok (.aload_n 0, 1) := by decide +kernel
theorem dX6_makeRequest_37 : decode cX6_makeRequest 37 = .ok (.getfield 51, 3) := by decide +kernel
theorem dX6_makeRequest_40 : decode cX6_makeRequest 40 = .ok (.getfield 159, 3) := by decide +kernel
theorem dX6_makeRequest_43 : decode cX6_makeRequest 43 = .ok (.bipush 20, 2) := by decide +kernel
theorem dX6_makeRequest_45 : decode cX6_makeRequest 45 = .ok (.if_icmp .lt 11, 3) := by decide +kernel
theorem dX6_makeRequest_48 : decode cX6_makeRequest 48 = .ok (.bipush 8, 2) := by decide +kernel
theorem dX6_makeRequest_50 : decode cX6_makeRequest 50 = .ok (.bipush 20, 2) := by decide +kernel
theorem dX6_makeRequest_52 : decode cX6_makeRequest 52 = .ok (.invokestatic 96, 3) := by decide +kernel
theorem dX6_makeRequest_55 : decode cX6_makeRequest 55 = .ok (.ireturn, 1) := by decide +kernel
theorem dX6_makeRequest_56 : decode cX6_makeRequest 56 = .ok (.aload_n 0, 1) := by decide +kernel
theorem dX6_makeRequest_57 : decode cX6_makeRequest 57 = .ok (.getfield 51, 3) := by decide +kernel
theorem dX6_makeRequest_60 : decode cX6_makeRequest 60 = .ok (.iload_n 1, 1) := by decide +kernel
theorem dX6_makeRequest_61 : decode cX6_makeRequest 61 = .ok (.iload_n 2, 1) := by decide +kernel
theorem dX6_makeRequest_62 : decode cX6_makeRequest 62 = .ok (.iload_n 3, 1) := by decide +kernel
theorem dX6_makeRequest_63 : decode cX6_makeRequest 63 = .ok (.invokevirtual 160, 3) := by decide +kernel
theorem dX6_makeRequest_66 : decode cX6_makeRequest 66 = .ok (.ireturn, 1) := by decide +kernel
theorem dX6_serveStage_0 : decode cX6_serveStage 0 = .ok (.iconst 0, 1) := by decide +kernel
theorem dX6_serveStage_1 : decode cX6_serveStage 1 = .ok (.istore_n 2, 1) := by decide +kernel
theorem dX6_serveStage_2 : decode cX6_serveStage 2 = .ok (.iload_n 2, 1) := by decide +kernel
theorem dX6_serveStage_3 : decode cX6_serveStage 3 = .ok (.aload_n 0, 1) := by decide +kernel
theorem dX6_serveStage_4 : decode cX6_serveStage 4 = .ok (.getfield 37, 3) := by decide +kernel
theorem dX6_serveStage_7 : decode cX6_serveStage 7 = .ok (.getfield 83, 3) := by decide +kernel
theorem dX6_serveStage_10 : decode cX6_serveStage 10 = .ok (.if_icmp .ge 29, 3) := by decide +kernel
theorem dX6_serveStage_13 : decode cX6_serveStage 13 = .ok (.aload_n 0, 1) := by decide +kernel
theorem dX6_serveStage_14 : decode cX6_serveStage 14 = .ok (.getfield 37, 3) := by decide +kernel
theorem dX6_serveStage_17 : decode cX6_serveStage 17 = .ok (.getfield 86, 3) := by decide +kernel
theorem dX6_serveStage_20 : decode cX6_serveStage 20 = .ok (.iload_n 2, 1) := by decide +kernel
theorem dX6_serveStage_21 : decode cX6_serveStage 21 = .ok (.invokevirtual 89, 3) := by decide +kernel
theorem dX6_serveStage_24 : decode cX6_serveStage 24 = .ok (.iload_n 1, 1) := by decide +kernel
theorem dX6_serveStage_25 : decode cX6_serveStage 25 = .ok (.if_icmp .ne 8, 3) := by decide +kernel
theorem dX6_serveStage_28 : decode cX6_serveStage 28 = .ok (.aload_n 0, 1) := by decide +kernel
theorem dX6_serveStage_29 : decode cX6_serveStage 29 = .ok (.iload_n 2, 1) := by decide +kernel
theorem dX6_serveStage_30 : decode cX6_serveStage 30 = .ok (.invokevirtual 156, 3) := by decide +kernel
theorem dX6_serveStage_33 : decode cX6_serveStage 33 = .ok (.iinc 2 1, 3) := by decide +kernel
theorem dX6_serveStage_36 : decode cX6_serveStage 36 = .ok (.goto (-34), 3) := by decide +kernel
theorem dX6_serveStage_39 : decode cX6_serveStage 39 = .ok (.return_, 1) := by decide +kernel
theorem dX6_serveRequests_0 : decode cX6_serveRequests 0 = .ok (.iconst 0, 1) := by decide +kernel
theorem dX6_serveRequests_1 : decode cX6_serveRequests 1 = .ok (.istore_n 2, 1) := by decide +kernel
theorem dX6_serveRequests_2 : decode cX6_serveRequests 2 = .ok (.iload_n 2, 1) := by decide +kernel
theorem dX6_serveRequests_3 : decode cX6_serveRequests 3 = .ok (.bipush 20, 2) := by decide +kernel
theorem dX6_serveRequests_5 : decode cX6_serveRequests 5 = .ok (.if_icmp .ge 75, 3) := by decide +kernel
theorem dX6_serveRequests_8 : decode cX6_serveRequests 8 = .ok (.aload_n 0, 1) := by decide +kernel
theorem dX6_serveRequests_9 : decode cX6_serveRequests 9 = .ok (.getfield 51, 3) := by decide +kernel
theorem dX6_serveRequests_12 : decode cX6_serveRequests 12 = .ok (.iload_n 1, 1) := by decide +kernel
theorem dX6_serveRequests_13 : decode cX6_serveRequests 13 = .ok (.iconst 0, 1) := by decide +kernel
theorem dX6_serveRequests_14 : decode cX6_serveRequests 14 = .ok (.invokevirtual 161, 3) := by decide +kernel
theorem dX6_serveRequests_17 : decode cX6_serveRequests 17 = .ok (.istore_n 3, 1) := by decide +kernel
theorem dX6_serveRequests_18 : decode cX6_serveRequests 18 = .ok (.iload_n 3, 1) := by decide +kernel
theorem dX6_serveRequests_19 : decode cX6_serveRequests 19 = .ok (.iconst (-1), 1) := by decide +kernel
theorem dX6_serveRequests_20 : decode cX6_serveRequests 20 = .ok (.if_icmp .eq 23, 3) := by decide +kernel
theorem dX6_serveRequests_23 : decode cX6_serveRequests 23 = .ok (.aload_n 0, 1) := by decide +kernel
theorem dX6_serveRequests_24 : decode cX6_serveRequests 24 = .ok (.getfield 51, 3) := by decide +kernel
theorem dX6_serveRequests_27 : decode cX6_serveRequests 27 = .ok (.getfield 164, 3) := by decide +kernel
theorem dX6_serveRequests_30 : decode cX6_serveRequests 30 = .ok (.iload_n 3, 1) := by decide +kernel
theorem dX6_serveRequests_31 : decode cX6_serveRequests 31 = .ok (.invokevirtual 89, 3) := by decide +kernel
theorem dX6_serveRequests_34 : decode cX6_serveRequests 34 = .ok (.aload_n 0, 1) := by decide +kernel
theorem dX6_serveRequests_35 : decode cX6_serveRequests 35 = .ok (.iload_n 1, 1) := by decide +kernel
theorem dX6_serveRequests_36 : decode cX6_serveRequests 36 = .ok (.iconst 2, 1) := by decide +kernel
theorem dX6_serveRequests_37 : decode cX6_serveRequests 37 = .ok (.invokevirtual 151, 3) := by decide +kernel
theorem dX6_serveRequests_40 : decode cX6_serveRequests 40 = .ok (.if_icmp .le 4, 3) := by decide +kernel
theorem dX6_serveRequests_43 : decode cX6_serveRequests 43 = .ok (.return_, 1) := by decide +kernel
theorem dX6_serveRequests_44 : decode cX6_serveRequests 44 = .ok (.aload_n 0, 1) := by decide +kernel
theorem dX6_serveRequests_45 : decode cX6_serveRequests 45 = .ok (.getfield 37, 3) := by decide +kernel
theorem dX6_serveRequests_48 : decode cX6_serveRequests 48 = .ok (.getfield 136, 3) := by decide +kernel
theorem dX6_serveRequests_51 : decode cX6_serveRequests 51 = .ok (.iload_n 1, 1) := by decide +kernel
theorem dX6_serveRequests_52 : decode cX6_serveRequests 52 = .ok (.aload_n 0, 1) := by decide +kernel
theorem dX6_serveRequests_53 : decode cX6_serveRequests 53 = .ok (.getfield 51, 3) := by decide +kernel
theorem dX6_serveRequests_56 : decode cX6_serveRequests 56 = .ok (.getfield 164, 3) := by decide +kernel
theorem dX6_serveRequests_59 : decode cX6_serveRequests 59 = .ok (.iload_n 3, 1) := by decide +kernel
theorem dX6_serveRequests_60 : decode cX6_serveRequests 60 = .ok (.invokevirtual 89, 3) := by decide +kernel
theorem dX6_serveRequests_63 : decode cX6_serveRequests 63 = .ok (.invokevirtual 154, 3) := by decide +kernel
theorem dX6_serveRequests_66 : decode cX6_serveRequests 66 = .ok (.aload_n 0, 1) := by decide +kernel
theorem dX6_serveRequests_67 : decode cX6_serveRequests 67 = .ok (.getfield 51, 3) := by decide +kernel
theorem dX6_serveRequests_70 : decode cX6_serveRequests 70 = .ok (.iload_n 3, 1) := by decide +kernel
theorem dX6_serveRequests_71 : decode cX6_serveRequests 71 = .ok (.invokevirtual 167, 3) := by decide +kernel
theorem dX6_serveRequests_74 : decode cX6_serveRequests 74 = .ok (.iinc 2 1, 3) := by decide +kernel
theorem dX6_serveRequests_77 : decode cX6_serveRequests 77 = .ok (.goto (-75), 3) := by decide +kernel
theorem dX6_serveRequests_80 : decode cX6_serveRequests 80 = .ok (.return_, 1) := by decide +kernel
theorem dX6_makeSubscription_0 : decode cX6_makeSubscription 0 = .ok (.iload_n 1, 1) := by decide +kernel
theorem dX6_makeSubscription_1 : decode cX6_makeSubscription 1 = .ok (.iconst 1, 1) := by decide +kernel
theorem dX6_makeSubscription_2 : decode cX6_makeSubscription 2 = .ok (.bipush 6, 2) := by decide +kernel
theorem dX6_makeSubscription_4 : decode cX6_makeSubscription 4 = .ok (.invokestatic 79, 3) := by decide +kernel
theorem dX6_makeSubscription_7 : decode cX6_makeSubscription 7 = .ok (.ifCond .ne 6, 3) := by decide +kernel
theorem dX6_makeSubscription_10 : decode cX6_makeSubscription 10 = .ok (.bipush (-2), 2) := by decide +kernel
theorem dX6_makeSubscription_12 : decode cX6_makeSubscription 12 = .ok (.ireturn, 1) := by decide +kernel
theorem dX6_makeSubscription_13 : decode cX6_makeSubscription 13 = .ok (.aload_n 0, 1) := by decide +kernel
theorem dX6_makeSubscription_14 : decode cX6_makeSubscription 14 = .ok (.getfield 44, 3) := by decide +kernel
theorem dX6_makeSubscription_17 : decode cX6_makeSubscription 17 = .ok (.getfield 168, 3) := by decide +kernel
theorem dX6_makeSubscription_20 : decode cX6_makeSubscription 20 = .ok (.bipush 10, 2) := by decide +kernel
theorem dX6_makeSubscription_22 : decode cX6_makeSubscription 22 = .ok (.if_icmp .ge 14, 3) := by decide +kernel
theorem dX6_makeSubscription_25 : decode cX6_makeSubscription 25 = .ok (.aload_n 0, 1) := by decide +kernel
theorem dX6_makeSubscription_26 : decode cX6_makeSubscription 26 = .ok (.getfield 44, 3) := by decide +kernel
theorem dX6_makeSubscription_29 : decode cX6_makeSubscription 29 = .ok (.iload_n 1, 1) := by decide +kernel
theorem dX6_makeSubscription_30 : decode cX6_makeSubscription 30 = .ok (.invokevirtual 169, 3) := by decide +kernel
theorem dX6_makeSubscription_33 : decode cX6_makeSubscription 33 = .ok (.goto 5, 3) := by decide +kernel
theorem dX6_makeSubscription_36 : decode cX6_makeSubscription 36 = .ok (.bipush (-3), 2) := by decide +kernel
theorem dX6_makeSubscription_38 : decode cX6_makeSubscription 38 = .ok (.ireturn, 1) := by decide +kernel
theorem dX6_holdSeats_0 : decode cX6_holdSeats 0 = .ok (.aload_n 0, 1) := by decide +kernel
theorem dX6_holdSeats_1 : decode cX6_holdSeats 1 = .ok (.getfield 44, 3) := by decide +kernel
theorem dX6_holdSeats_4 : decode cX6_holdSeats 4 = .ok (.iload_n 1, 1) := by decide +kernel
theorem dX6_holdSeats_5 : decode cX6_holdSeats 5 = .ok (.invokevirtual 171, 3) := by decide +kernel
theorem dX6_holdSeats_8 : decode cX6_holdSeats 8 = .ok (.ifCond .eq 14, 3) := by decide +kernel
theorem dX6_holdSeats_11 : decode cX6_holdSeats 11 = .ok (.aload_n 0, 1) := by decide +kernel
theorem dX6_holdSeats_12 : decode cX6_holdSeats 12 = .ok (.getfield 37, 3) := by decide +kernel
theorem dX6_holdSeats_15 : decode cX6_holdSeats 15 = .ok (.iload_n 2, 1) := by decide +kernel
theorem dX6_holdSeats_16 : decode cX6_holdSeats 16 = .ok (.invokevirtual 132, 3) := by decide +kernel
theorem dX6_holdSeats_19 : decode cX6_holdSeats 19 = .ok (.ifCond .ne 5, 3) := by decide +kernel
theorem dX6_holdSeats_22 : decode cX6_holdSeats 22 = .ok (.iconst (-1), 1) := by decide +kernel
theorem dX6_holdSeats_23 : decode cX6_holdSeats 23 = .ok (.ireturn, 1) := by decide +kernel
theorem dX6_holdSeats_24 : decode cX6_holdSeats 24 = .ok (.aload_n 0, 1) := by decide +kernel
theorem dX6_holdSeats_25 : decode cX6_holdSeats 25 = .ok (.getfield 44, 3) := by decide +kernel
theorem dX6_holdSeats_28 : decode cX6_holdSeats 28 = .ok (.getfield 172, 3) := by decide +kernel
theorem dX6_holdSeats_31 : decode cX6_holdSeats 31 = .ok (.iload_n 1, 1) := by decide +kernel
theorem dX6_holdSeats_32 : decode cX6_holdSeats 32 = .ok (.invokevirtual 89, 3) := by decide +kernel
theorem dX6_holdSeats_35 : decode cX6_holdSeats 35 = .ok (.istore_n 3, 1) := by decide +kernel
theorem dX6_holdSeats_36 : decode cX6_holdSeats 36 = .ok (.aload_n 0, 1) := by decide +kernel
theorem dX6_holdSeats_37 : decode cX6_holdSeats 37 = .ok (.iload_n 2, 1) := by decide +kernel
theorem dX6_holdSeats_38 : decode cX6_holdSeats 38 = .ok (.iconst 2, 1) := by decide +kernel
theorem dX6_holdSeats_39 : decode cX6_holdSeats 39 = .ok (.invokevirtual 151, 3) := by decide +kernel
theorem dX6_holdSeats_42 : decode cX6_holdSeats 42 = .ok (.istore 4, 2) := by decide +kernel
theorem dX6_holdSeats_44 : decode cX6_holdSeats 44 = .ok (.iload 4, 2) := by decide +kernel
theorem dX6_holdSeats_46 : decode cX6_holdSeats 46 = .ok (.iload_n 3, 1) := by decide +kernel
theorem dX6_holdSeats_47 : decode cX6_holdSeats 47 = .ok (.if_icmp .ge 10, 3) := by decide +kernel
theorem dX6_holdSeats_50 : decode cX6_holdSeats 50 = .ok (.iconst 4, 1) := by decide +kernel
theorem dX6_holdSeats_51 : decode cX6_holdSeats 51 = .ok (.iload 4, 2) := by decide +kernel
theorem dX6_holdSeats_53 : decode cX6_holdSeats 53 = .ok (.invokestatic 96, 3) := by decide +kernel
theorem dX6_holdSeats_56 : decode cX6_holdSeats 56 = .ok (.ireturn, 1) := by decide +kernel
theorem dX6_holdSeats_57 : decode cX6_holdSeats 57 = .ok (.aload_n 0, 1) := by decide +kernel
theorem dX6_holdSeats_58 : decode cX6_holdSeats 58 = .ok (.getfield 37, 3) := by decide +kernel
theorem dX6_holdSeats_61 : decode cX6_holdSeats 61 = .ok (.iload_n 1, 1) := by decide +kernel
theorem dX6_holdSeats_62 : decode cX6_holdSeats 62 = .ok (.iload_n 2, 1) := by decide +kernel
theorem dX6_holdSeats_63 : decode cX6_holdSeats 63 = .ok (.invokevirtual 173, 3) := by decide +kernel
theorem dX6_holdSeats_66 : decode cX6_holdSeats 66 = .ok (.ifCond .eq 9, 3) := by decide +kernel
theorem dX6_holdSeats_69 : decode cX6_holdSeats 69 = .ok (.iconst 5, 1) := by decide +kernel
theorem dX6_holdSeats_70 : decode cX6_holdSeats 70 = .ok (.iload_n 2, 1) := by decide +kernel
theorem dX6_holdSeats_71 : decode cX6_holdSeats 71 = .ok (.invokestatic 96, 3) := by decide +kernel
theorem dX6_holdSeats_74 : decode cX6_holdSeats 74 = .ok (.ireturn, 1) := by decide +kernel
theorem dX6_holdSeats_75 : decode cX6_holdSeats 75 = .ok (.aload_n 0, 1) := by decide +kernel
theorem dX6_holdSeats_76 : decode cX6_holdSeats 76 = .ok (.getfield 37, 3) := by decide +kernel
theorem dX6_holdSeats_79 : decode cX6_holdSeats 79 = .ok (.iload_n 1, 1) := by decide +kernel
theorem dX6_holdSeats_80 : decode cX6_holdSeats 80 = .ok (.iload_n 2, 1) := by decide +kernel
theorem dX6_holdSeats_81 : decode cX6_holdSeats 81 = .ok (.iload_n 3, 1) := by decide +kernel
theorem dX6_holdSeats_82 : decode cX6_holdSeats 82 = .ok (.invokevirtual 177, 3) := by decide +kernel
theorem dX6_holdSeats_85 : decode cX6_holdSeats 85 = .ok (.aload_n 0, 1) := by decide +kernel
theorem dX6_holdSeats_86 : decode cX6_holdSeats 86 = .ok (.getfield 37, 3) := by decide +kernel
theorem dX6_holdSeats_89 : decode cX6_holdSeats 89 = .ok (.iload_n 1, 1) := by decide +kernel
theorem dX6_holdSeats_90 : decode cX6_holdSeats 90 = .ok (.invokevirtual 181, 3) := by decide +kernel
theorem dX6_holdSeats_93 : decode cX6_holdSeats 93 = .ok (.invokestatic 184, 3) := by decide +kernel
theorem dX6_holdSeats_96 : decode cX6_holdSeats 96 = .ok (.ireturn, 1) := by decide +kernel
theorem dX6_releaseSeats_0 : decode cX6_releaseSeats 0 = .ok (.aload_n 0, 1) := by decide +kernel
theorem dX6_releaseSeats_1 : decode cX6_releaseSeats 1 = .ok (.getfield 44, 3) := by decide +kernel
theorem dX6_releaseSeats_4 : decode cX6_releaseSeats 4 = .ok (.iload_n 1, 1) := by decide +kernel
theorem dX6_releaseSeats_5 : decode cX6_releaseSeats 5 = .ok (.invokevirtual 171, 3) := by decide +kernel
theorem dX6_releaseSeats_8 : decode cX6_releaseSeats 8 = .ok (.ifCond .eq 14, 3) := by decide +kernel
theorem dX6_releaseSeats_11 : decode cX6_releaseSeats 11 = .ok (.aload_n 0, 1) := by decide +kernel
theorem dX6_releaseSeats_12 : decode cX6_releaseSeats 12 = .ok (.getfield 37, 3) := by decide +kernel
theorem dX6_releaseSeats_15 : decode cX6_releaseSeats 15 = .ok (.iload_n 2, 1) := by decide +kernel
theorem dX6_releaseSeats_16 : decode cX6_releaseSeats 16 = .ok (.invokevirtual 132, 3) := by decide +kernel
theorem dX6_releaseSeats_19 : decode cX6_releaseSeats 19 = .ok (.ifCond .ne 5, 3) := by decide +kernel
theorem dX6_releaseSeats_22 : decode cX6_releaseSeats 22 = .ok (.iconst (-1), 1) := by decide +kernel
theorem dX6_releaseSeats_23 : decode cX6_releaseSeats 23 = .ok (.ireturn, 1) := by decide +kernel
theorem dX6_releaseSeats_24 : decode cX6_releaseSeats 24 = .ok (.aload_n 0, 1) := by decide +kernel
theorem dX6_releaseSeats_25 : decode cX6_releaseSeats 25 = .ok (.getfield 37, 3) := by decide +kernel
theorem dX6_releaseSeats_28 : decode cX6_releaseSeats 28 = .ok (.iload_n 1, 1) := by decide +kernel
theorem dX6_releaseSeats_29 : decode cX6_releaseSeats 29 = .ok (.iload_n 2, 1) := by decide +kernel
theorem dX6_releaseSeats_30 : decode cX6_releaseSeats 30 = .ok (.invokevirtual 173, 3) := by decide +kernel
theorem dX6_releaseSeats_33 : decode cX6_releaseSeats 33 = .ok (.ifCond .ne 9, 3) := by decide +kernel
theorem dX6_releaseSeats_36 : decode cX6_releaseSeats 36 = .ok (.iconst 5, 1) := by decide +kernel
theorem dX6_releaseSeats_37 : decode cX6_releaseSeats 37 = .ok (.iload_n 2, 1) := by decide +kernel
theorem dX6_releaseSeats_38 : decode cX6_releaseSeats 38 = .ok (.invokestatic 96, 3) := by decide +kernel
theorem dX6_releaseSeats_41 : decode cX6_releaseSeats 41 = .ok (.ireturn, 1) := by decide +kernel
theorem dX6_releaseSeats_42 : decode cX6_releaseSeats 42 = .ok (.aload_n 0, 1) := by decide +kernel
theorem dX6_releaseSeats_43 : decode cX6_releaseSeats 43 = .ok (.getfield 37, 3) := by decide +kernel
theorem dX6_releaseSeats_46 : decode cX6_releaseSeats 46 = .ok (.iload_n 1, 1) := by decide +kernel
theorem dX6_releaseSeats_47 : decode cX6_releaseSeats 47 = .ok (.iload_n 2, 1) := by decide +kernel
theorem dX6_releaseSeats_48 : decode cX6_releaseSeats 48 = .ok (.aload_n 0, 1) := by decide +kernel
theorem dX6_releaseSeats_49 : decode cX6_releaseSeats 49 = .ok (.getfield 44, 3) := by decide +kernel
theorem dX6_releaseSeats_52 : decode cX6_releaseSeats 52 = .ok (.getfield 172, 3) := by decide +kernel
theorem dX6_releaseSeats_55 : decode cX6_releaseSeats 55 = .ok (.iload_n 1, 1) := by decide +kernel
theorem dX6_releaseSeats_56 : decode cX6_releaseSeats 56 = .ok (.invokevirtual 89, 3) := by decide +kernel
theorem dX6_releaseSeats_59 : decode cX6_releaseSeats 59 = .ok (.invokevirtual 189, 3) := by decide +kernel
theorem dX6_releaseSeats_62 : decode cX6_releaseSeats 62 = .ok (.aload_n 0, 1) := by decide +kernel
theorem dX6_releaseSeats_63 : decode cX6_releaseSeats 63 = .ok (.iload_n 2, 1) := by decide +kernel
theorem dX6_releaseSeats_64 : decode cX6_releaseSeats 64 = .ok (.invokevirtual 156, 3) := by decide +kernel
theorem dX6_releaseSeats_67 : decode cX6_releaseSeats 67 = .ok (.aload_n 0, 1) := by decide +kernel
theorem dX6_releaseSeats_68 : decode cX6_releaseSeats 68 = .ok (.getfield 37, 3) := by decide +kernel
theorem dX6_releaseSeats_71 : decode cX6_releaseSeats 71 = .ok (.iload_n 1, 1) := by decide +kernel
theorem dX6_releaseSeats_72 : decode cX6_releaseSeats 72 = .ok (.invokevirtual 181, 3) := by decide +kernel
theorem dX6_releaseSeats_75 : decode cX6_releaseSeats 75 = .ok (.invokestatic 184, 3) := by decide +kernel
theorem dX6_releaseSeats_78 : decode cX6_releaseSeats 78 = .ok (.ireturn, 1) := by decide +kernel
theorem dX6_exchangeSeats_0 : decode cX6_exchangeSeats 0 = .ok (.aload_n 0, 1) := by decide +kernel
theorem dX6_exchangeSeats_1 : decode cX6_exchangeSeats 1 = .ok (.getfield 44, 3) := by decide +kernel
theorem dX6_exchangeSeats_4 : decode cX6_exchangeSeats 4 = .ok (.iload_n 1, 1) := by decide +kernel
theorem dX6_exchangeSeats_5 : decode cX6_exchangeSeats 5 = .ok (.invokevirtual 171, 3) := by decide +kernel
theorem dX6_exchangeSeats_8 : decode cX6_exchangeSeats 8 = .ok (.ifCond .eq 25, 3) := by decide +kernel
theorem dX6_exchangeSeats_11 : decode cX6_exchangeSeats 11 = .ok (.aload_n 0, 1) := by decide +kernel
theorem dX6_exchangeSeats_12 : decode cX6_exchangeSeats 12 = .ok (.getfield 37, 3) := by decide +kernel
theorem dX6_exchangeSeats_15 : decode cX6_exchangeSeats 15 = .ok (.iload_n 2, 1) := by decide +kernel
theorem dX6_exchangeSeats_16 : decode cX6_exchangeSeats 16 = .ok (.invokevirtual 132, 3) := by decide +kernel
theorem dX6_exchangeSeats_19 : decode cX6_exchangeSeats 19 = .ok (.ifCond .eq 14, 3) := by decide +kernel
theorem dX6_exchangeSeats_22 : decode cX6_exchangeSeats 22 = .ok (.aload_n 0, 1) := by decide +kernel
theorem dX6_exchangeSeats_23 : decode cX6_exchangeSeats 23 = .ok (.getfield 37, 3) := by decide +kernel
theorem dX6_exchangeSeats_26 : decode cX6_exchangeSeats 26 = .ok (.iload_n 3, 1) := by decide +kernel
theorem dX6_exchangeSeats_27 : decode cX6_exchangeSeats 27 = .ok (.invokevirtual 132, 3) := by decide +kernel
theorem dX6_exchangeSeats_30 : decode cX6_exchangeSeats 30 = .ok (.ifCond .ne 5, 3) := by decide +kernel
theorem dX6_exchangeSeats_33 : decode cX6_exchangeSeats 33 = .ok (.iconst (-1), 1) := by decide +kernel
theorem dX6_exchangeSeats_34 : decode cX6_exchangeSeats 34 = .ok (.ireturn, 1) := by decide +kernel
theorem dX6_exchangeSeats_35 : decode cX6_exchangeSeats 35 = .ok (.aload_n 0, 1) := by decide +kernel
theorem dX6_exchangeSeats_36 : decode cX6_exchangeSeats 36 = .ok (.iload_n 1, 1) := by decide +kernel
theorem dX6_exchangeSeats_37 : decode cX6_exchangeSeats 37 = .ok (.iload_n 2, 1) := by decide +kernel
theorem dX6_exchangeSeats_38 : decode cX6_exchangeSeats 38 = .ok (.iload_n 3, 1) := by decide +kernel
theorem dX6_exchangeSeats_39 : decode cX6_exchangeSeats 39 = .ok (.invokevirtual 192, 3) := by decide +kernel
theorem dX6_exchangeSeats_42 : decode cX6_exchangeSeats 42 = .ok (.istore 4, 2) := by decide +kernel
theorem dX6_exchangeSeats_44 : decode cX6_exchangeSeats 44 = .ok (.iload 4, 2) := by decide +kernel
theorem dX6_exchangeSeats_46 : decode cX6_exchangeSeats 46 = .ok (.ifCond .eq 6, 3) := by decide +kernel
theorem dX6_exchangeSeats_49 : decode cX6_exchangeSeats 49 = .ok (.iload 4, 2) := by decide +kernel
theorem dX6_exchangeSeats_51 : decode cX6_exchangeSeats 51 = .ok (.ireturn, 1) := by decide +kernel
theorem dX6_exchangeSeats_52 : decode cX6_exchangeSeats 52 = .ok (.aload_n 0, 1) := by decide +kernel
theorem dX6_exchangeSeats_53 : decode cX6_exchangeSeats 53 = .ok (.getfield 44, 3) := by decide +kernel
theorem dX6_exchangeSeats_56 : decode cX6_exchangeSeats 56 = .ok (.getfield 172, 3) := by decide +kernel
theorem dX6_exchangeSeats_59 : decode cX6_exchangeSeats 59 = .ok (.iload_n 1, 1) := by decide +kernel
theorem dX6_exchangeSeats_60 : decode cX6_exchangeSeats 60 = .ok (.invokevirtual 89, 3) := by decide +kernel
theorem dX6_exchangeSeats_63 : decode cX6_exchangeSeats 63 = .ok (.istore 5, 2) := by decide +kernel
theorem dX6_exchangeSeats_65 : decode cX6_exchangeSeats 65 = .ok (.aload_n 0, 1) := by decide +kernel
theorem dX6_exchangeSeats_66 : decode cX6_exchangeSeats 66 = .ok (.getfield 37, 3) := by decide +kernel
theorem dX6_exchangeSeats_69 : decode cX6_exchangeSeats 69 = .ok (.iload_n 1, 1) := by decide +kernel
theorem dX6_exchangeSeats_70 : decode cX6_exchangeSeats 70 = .ok (.iload_n 2, 1) := by decide +kernel
theorem dX6_exchangeSeats_71 : decode cX6_exchangeSeats 71 = .ok (.iload 5, 2) := by decide +kernel
theorem dX6_exchangeSeats_73 : decode cX6_exchangeSeats 73 = .ok (.invokevirtual 189, 3) := by decide +kernel
theorem dX6_exchangeSeats_76 : decode cX6_exchangeSeats 76 = .ok (.aload_n 0, 1) := by decide +kernel
theorem dX6_exchangeSeats_77 : decode cX6_exchangeSeats 77 = .ok (.getfield 37, 3) := by decide +kernel
theorem dX6_exchangeSeats_80 : decode cX6_exchangeSeats 80 = .ok (.iload_n 1, 1) := by decide +kernel
theorem dX6_exchangeSeats_81 : decode cX6_exchangeSeats 81 = .ok (.iload_n 3, 1) := by decide +kernel
theorem dX6_exchangeSeats_82 : decode cX6_exchangeSeats 82 = .ok (.iload 5, 2) := by decide +kernel
theorem dX6_exchangeSeats_84 : decode cX6_exchangeSeats 84 = .ok (.invokevirtual 177, 3) := by decide +kernel
theorem dX6_exchangeSeats_87 : decode cX6_exchangeSeats 87 = .ok (.aload_n 0, 1) := by decide +kernel
theorem dX6_exchangeSeats_88 : decode cX6_exchangeSeats 88 = .ok (.getfield 44, 3) := by decide +kernel
theorem dX6_exchangeSeats_91 : decode cX6_exchangeSeats 91 = .ok (.getfield 195, 3) := by decide +kernel
theorem dX6_exchangeSeats_94 : decode cX6_exchangeSeats 94 = .ok (.iload_n 1, 1) := by decide +kernel
theorem dX6_exchangeSeats_95 : decode cX6_exchangeSeats 95 = .ok (.iconst 1, 1) := by decide +kernel
theorem dX6_exchangeSeats_96 : decode cX6_exchangeSeats 96 = .ok (.invokevirtual 154, 3) := by decide +kernel
theorem dX6_exchangeSeats_99 : decode cX6_exchangeSeats 99 = .ok (.aload_n 0, 1) := by decide +kernel
theorem dX6_exchangeSeats_100 : decode cX6_exchangeSeats 100 = .ok (.iload_n 2, 1) := by decide +kernel
theorem dX6_exchangeSeats_101 : decode cX6_exchangeSeats 101 = .ok (.invokevirtual 156, 3) := by decide +kernel
theorem dX6_exchangeSeats_104 : decode cX6_exchangeSeats 104 = .ok (.aload_n 0, 1) := by decide +kernel
theorem dX6_exchangeSeats_105 : decode cX6_exchangeSeats 105 = .ok (.getfield 44, 3) := by decide +kernel
theorem dX6_exchangeSeats_108 : decode cX6_exchangeSeats 108 = .ok (.getfield 195, 3) := by decide +kernel
theorem dX6_exchangeSeats_111 : decode cX6_exchangeSeats 111 = .ok (.iload_n 1, 1) := by decide +kernel
theorem dX6_exchangeSeats_112 : decode cX6_exchangeSeats 112 = .ok (.invokevirtual 89, 3) := by decide +kernel
theorem dX6_exchangeSeats_115 : decode cX6_exchangeSeats 115 = .ok (.ireturn, 1) := by decide +kernel
theorem dX6_exchangeRefusal_0 : decode cX6_exchangeRefusal 0 = .ok (.aload_n 0, 1) := by decide +kernel
theorem dX6_exchangeRefusal_1 : decode cX6_exchangeRefusal 1 = .ok (.getfield 37, 3) := by decide +kernel
theorem dX6_exchangeRefusal_4 : decode cX6_exchangeRefusal 4 = .ok (.iload_n 1, 1) := by decide +kernel
theorem dX6_exchangeRefusal_5 : decode cX6_exchangeRefusal 5 = .ok (.iload_n 2, 1) := by decide +kernel
theorem dX6_exchangeRefusal_6 : decode cX6_exchangeRefusal 6 = .ok (.invokevirtual 173, 3) := by decide +kernel
theorem dX6_exchangeRefusal_9 : decode cX6_exchangeRefusal 9 = .ok (.ifCond .ne 9, 3) := by decide +kernel
theorem dX6_exchangeRefusal_12 : decode cX6_exchangeRefusal 12 = .ok (.iconst 5, 1) := by decide +kernel
theorem dX6_exchangeRefusal_13 : decode cX6_exchangeRefusal 13 = .ok (.iload_n 2, 1) := by decide +kernel
theorem dX6_exchangeRefusal_14 : decode cX6_exchangeRefusal 14 = .ok (.invokestatic 96, 3) := by decide +kernel
theorem dX6_exchangeRefusal_17 : decode cX6_exchangeRefusal 17 = .ok (.ireturn, 1) := by decide +kernel
theorem dX6_exchangeRefusal_18 : decode cX6_exchangeRefusal 18 = .ok (.aload_n 0, 1) := by decide +kernel
theorem dX6_exchangeRefusal_19 : decode cX6_exchangeRefusal 19 = .ok (.getfield 37, 3) := by decide +kernel
theorem dX6_exchangeRefusal_22 : decode cX6_exchangeRefusal 22 = .ok (.iload_n 1, 1) := by decide +kernel
theorem dX6_exchangeRefusal_23 : decode cX6_exchangeRefusal 23 = .ok (.iload_n 3, 1) := by decide +kernel
theorem dX6_exchangeRefusal_24 : decode cX6_exchangeRefusal 24 = .ok (.invokevirtual 173, 3) := by decide +kernel
theorem dX6_exchangeRefusal_27 : decode cX6_exchangeRefusal 27 = .ok (.ifCond .eq 9, 3) := by decide +kernel
theorem dX6_exchangeRefusal_30 : decode cX6_exchangeRefusal 30 = .ok (.iconst 5, 1) := by decide +kernel
theorem dX6_exchangeRefusal_31 : decode cX6_exchangeRefusal 31 = .ok (.iload_n 3, 1) := by decide +kernel
theorem dX6_exchangeRefusal_32 : decode cX6_exchangeRefusal 32 = .ok (.invokestatic 96, 3) := by decide +kernel
theorem dX6_exchangeRefusal_35 : decode cX6_exchangeRefusal 35 = .ok (.ireturn, 1) := by decide +kernel
theorem dX6_exchangeRefusal_36 : decode cX6_exchangeRefusal 36 = .ok (.aload_n 0, 1) := by decide +kernel
theorem dX6_exchangeRefusal_37 : decode cX6_exchangeRefusal 37 = .ok (.getfield 44, 3) := by decide +kernel
theorem dX6_exchangeRefusal_40 : decode cX6_exchangeRefusal 40 = .ok (.getfield 195, 3) := by decide +kernel
theorem dX6_exchangeRefusal_43 : decode cX6_exchangeRefusal 43 = .ok (.iload_n 1, 1) := by decide +kernel
theorem dX6_exchangeRefusal_44 : decode cX6_exchangeRefusal 44 = .ok (.invokevirtual 89, 3) := by decide +kernel
theorem dX6_exchangeRefusal_47 : decode cX6_exchangeRefusal 47 = .ok (.iconst 2, 1) := by decide +kernel
theorem dX6_exchangeRefusal_48 : decode cX6_exchangeRefusal 48 = .ok (.if_icmp .lt 10, 3) := by decide +kernel
theorem dX6_exchangeRefusal_51 : decode cX6_exchangeRefusal 51 = .ok (.bipush 6, 2) := by decide +kernel
theorem dX6_exchangeRefusal_53 : decode cX6_exchangeRefusal 53 = .ok (.iconst 2, 1) := by decide +kernel
theorem dX6_exchangeRefusal_54 : decode cX6_exchangeRefusal 54 = .ok (.invokestatic 96, 3) := by decide +kernel
theorem dX6_exchangeRefusal_57 : decode cX6_exchangeRefusal 57 = .ok (.ireturn, 1) := by decide +kernel
theorem dX6_exchangeRefusal_58 : decode cX6_exchangeRefusal 58 = .ok (.aload_n 0, 1) := by decide +kernel
theorem dX6_exchangeRefusal_59 : decode cX6_exchangeRefusal 59 = .ok (.iload_n 3, 1) := by decide +kernel
theorem dX6_exchangeRefusal_60 : decode cX6_exchangeRefusal 60 = .ok (.iconst 2, 1) := by decide +kernel
theorem dX6_exchangeRefusal_61 : decode cX6_exchangeRefusal 61 = .ok (.invokevirtual 151, 3) := by decide +kernel
theorem dX6_exchangeRefusal_64 : decode cX6_exchangeRefusal 64 = .ok (.istore 4, 2) := by decide +kernel
theorem dX6_exchangeRefusal_66 : decode cX6_exchangeRefusal 66 = .ok (.iload 4, 2) := by decide +kernel
theorem dX6_exchangeRefusal_68 : decode cX6_exchangeRefusal 68 = .ok (.aload_n 0, 1) := by decide +kernel
theorem dX6_exchangeRefusal_69 : decode cX6_exchangeRefusal 69 = .ok (.getfield 44, 3) := by decide +kernel
theorem dX6_exchangeRefusal_72 : decode cX6_exchangeRefusal 72 = .ok (.getfield 172, 3) := by decide +kernel
theorem dX6_exchangeRefusal_75 : decode cX6_exchangeRefusal 75 = .ok (.iload_n 1, 1) := by decide +kernel
theorem dX6_exchangeRefusal_76 : decode cX6_exchangeRefusal 76 = .ok (.invokevirtual 89, 3) := by decide +kernel
theorem dX6_exchangeRefusal_79 : decode cX6_exchangeRefusal 79 = .ok (.if_icmp .ge 12, 3) := by decide +kernel
theorem dX6_exchangeRefusal_82 : decode cX6_exchangeRefusal 82 = .ok (.iconst 4, 1) := by decide +kernel
theorem dX6_exchangeRefusal_83 : decode cX6_exchangeRefusal 83 = .ok (.iload 4, 2) := by decide +kernel
theorem dX6_exchangeRefusal_85 : decode cX6_exchangeRefusal 85 = .ok (.invokestatic 96, 3) := by decide +kernel
theorem dX6_exchangeRefusal_88 : decode cX6_exchangeRefusal 88 = .ok (.goto 4, 3) := by decide +kernel
theorem dX6_exchangeRefusal_91 : decode cX6_exchangeRefusal 91 = .ok (.iconst 0, 1) := by decide +kernel
theorem dX6_exchangeRefusal_92 : decode cX6_exchangeRefusal 92 = .ok (.ireturn, 1) := by decide +kernel
theorem dX6_seatsAt_0 : decode cX6_seatsAt 0 = .ok (.iload_n 2, 1) := by decide +kernel
theorem dX6_seatsAt_1 : decode cX6_seatsAt 1 = .ok (.ifCond .ne 15, 3) := by decide +kernel
theorem dX6_seatsAt_4 : decode cX6_seatsAt 4 = .ok (.aload_n 0, 1) := by decide +kernel
theorem dX6_seatsAt_5 : decode cX6_seatsAt 5 = .ok (.getfield 37, 3) := by decide +kernel
theorem dX6_seatsAt_8 : decode cX6_seatsAt 8 = .ok (.getfield 136, 3) := by decide +kernel
theorem dX6_seatsAt_11 : decode cX6_seatsAt 11 = .ok (.iload_n 1, 1) := by decide +kernel
theorem dX6_seatsAt_12 : decode cX6_seatsAt 12 = .ok (.invokevirtual 89, 3) := by decide +kernel
theorem dX6_seatsAt_15 : decode cX6_seatsAt 15 = .ok (.ireturn, 1) := by decide +kernel
theorem dX6_seatsAt_16 : decode cX6_seatsAt 16 = .ok (.iload_n 2, 1) := by decide +kernel
theorem dX6_seatsAt_17 : decode cX6_seatsAt 17 = .ok (.iconst 1, 1) := by decide +kernel
theorem dX6_seatsAt_18 : decode cX6_seatsAt 18 = .ok (.if_icmp .ne 15, 3) := by decide +kernel
theorem dX6_seatsAt_21 : decode cX6_seatsAt 21 = .ok (.aload_n 0, 1) := by decide +kernel
theorem dX6_seatsAt_22 : decode cX6_seatsAt 22 = .ok (.getfield 37, 3) := by decide +kernel
theorem dX6_seatsAt_25 : decode cX6_seatsAt 25 = .ok (.getfield 198, 3) := by decide +kernel
theorem dX6_seatsAt_28 : decode cX6_seatsAt 28 = .ok (.iload_n 1, 1) := by decide +kernel
theorem dX6_seatsAt_29 : decode cX6_seatsAt 29 = .ok (.invokevirtual 89, 3) := by decide +kernel
theorem dX6_seatsAt_32 : decode cX6_seatsAt 32 = .ok (.ireturn, 1) := by decide +kernel
theorem dX6_seatsAt_33 : decode cX6_seatsAt 33 = .ok (.aload_n 0, 1) := by decide +kernel
theorem dX6_seatsAt_34 : decode cX6_seatsAt 34 = .ok (.getfield 14, 3) := by decide +kernel
theorem dX6_seatsAt_37 : decode cX6_seatsAt 37 = .ok (.aload_n 0, 1) := by decide +kernel
theorem dX6_seatsAt_38 : decode cX6_seatsAt 38 = .ok (.getfield 37, 3) := by decide +kernel
theorem dX6_seatsAt_41 : decode cX6_seatsAt 41 = .ok (.getfield 86, 3) := by decide +kernel
theorem dX6_seatsAt_44 : decode cX6_seatsAt 44 = .ok (.iload_n 1, 1) := by decide +kernel
theorem dX6_seatsAt_45 : decode cX6_seatsAt 45 = .ok (.invokevirtual 89, 3) := by decide +kernel
theorem dX6_seatsAt_48 : decode cX6_seatsAt 48 = .ok (.invokevirtual 89, 3) := by decide +kernel
theorem dX6_seatsAt_51 : decode cX6_seatsAt 51 = .ok (.aload_n 0, 1) := by decide +kernel
theorem dX6_seatsAt_52 : decode cX6_seatsAt 52 = .ok (.getfield 37, 3) := by decide +kernel
theorem dX6_seatsAt_55 : decode cX6_seatsAt 55 = .ok (.iload_n 1, 1) := by decide +kernel
theorem dX6_seatsAt_56 : decode cX6_seatsAt 56 = .ok (.invokevirtual 93, 3) := by decide +kernel
theorem dX6_seatsAt_59 : decode cX6_seatsAt 59 = .ok (.isub, 1) := by decide +kernel
theorem dX6_seatsAt_60 : decode cX6_seatsAt 60 = .ok (.ireturn, 1) := by decide +kernel
theorem dX6_seatsOfAll_0 : decode cX6_seatsOfAll 0 = .ok (.iconst 0, 1) := by decide +kernel
theorem dX6_seatsOfAll_1 : decode cX6_seatsOfAll 1 = .ok (.istore_n 2, 1) := by decide +kernel
theorem dX6_seatsOfAll_2 : decode cX6_seatsOfAll 2 = .ok (.iconst 0, 1) := by decide +kernel
theorem dX6_seatsOfAll_3 : decode cX6_seatsOfAll 3 = .ok (.istore_n 3, 1) := by decide +kernel
theorem dX6_seatsOfAll_4 : decode cX6_seatsOfAll 4 = .ok (.iload_n 3, 1) := by decide +kernel
theorem dX6_seatsOfAll_5 : decode cX6_seatsOfAll 5 = .ok (.aload_n 0, 1) := by decide +kernel
theorem dX6_seatsOfAll_6 : decode cX6_seatsOfAll 6 = .ok (.getfield 37, 3) := by decide +kernel
theorem dX6_seatsOfAll_9 : decode cX6_seatsOfAll 9 = .ok (.getfield 83, 3) := by decide +kernel
theorem dX6_seatsOfAll_12 : decode cX6_seatsOfAll 12 = .ok (.if_icmp .ge 18, 3) := by decide +kernel
theorem dX6_seatsOfAll_15 : decode cX6_seatsOfAll 15 = .ok (.iload_n 2, 1) := by decide +kernel
theorem dX6_seatsOfAll_16 : decode cX6_seatsOfAll 16 = .ok (.aload_n 0, 1) := by decide +kernel
theorem dX6_seatsOfAll_17 : decode cX6_seatsOfAll 17 = .ok (.iload_n 3, 1) := by decide +kernel
theorem dX6_seatsOfAll_18 : decode cX6_seatsOfAll 18 = .ok (.iload_n 1, 1) := by decide +kernel
theorem dX6_seatsOfAll_19 : decode cX6_seatsOfAll 19 = .ok (.invokevirtual 151, 3) := by decide +kernel
theorem dX6_seatsOfAll_22 : decode cX6_seatsOfAll 22 = .ok (.iadd, 1) := by decide +kernel
theorem dX6_seatsOfAll_23 : decode cX6_seatsOfAll 23 = .ok (.istore_n 2, 1) := by decide +kernel
theorem dX6_seatsOfAll_24 : decode cX6_seatsOfAll 24 = .ok (.iinc 3 1, 3) := by decide +kernel
theorem dX6_seatsOfAll_27 : decode cX6_seatsOfAll 27 = .ok (.goto (-23), 3) := by decide +kernel
theorem dX6_seatsOfAll_30 : decode cX6_seatsOfAll 30 = .ok (.iload_n 2, 1) := by decide +kernel
theorem dX6_seatsOfAll_31 : decode cX6_seatsOfAll 31 = .ok (.ireturn, 1) := by decide +kernel
theorem dX6_seatsOnStage_0 : decode cX6_seatsOnStage 0 = .ok (.aload_n 0, 1) := by decide +kernel
theorem dX6_seatsOnStage_1 : decode cX6_seatsOnStage 1 = .ok (.getfield 37, 3) := by decide +kernel
theorem dX6_seatsOnStage_4 : decode cX6_seatsOnStage 4 = .ok (.iload_n 1, 1) := by decide +kernel
theorem dX6_seatsOnStage_5 : decode cX6_seatsOnStage 5 = .ok (.iload_n 2, 1) := by decide +kernel
theorem dX6_seatsOnStage_6 : decode cX6_seatsOnStage 6 = .ok (.invokevirtual 201, 3) := by decide +kernel
theorem dX6_seatsOnStage_9 : decode cX6_seatsOnStage 9 = .ok (.istore 4, 2) := by decide +kernel
theorem dX6_seatsOnStage_11 : decode cX6_seatsOnStage 11 = .ok (.iload 4, 2) := by decide +kernel
theorem dX6_seatsOnStage_13 : decode cX6_seatsOnStage 13 = .ok (.iconst (-1), 1) := by decide +kernel
theorem dX6_seatsOnStage_14 : decode cX6_seatsOnStage 14 = .ok (.if_icmp .ne 5, 3) := by decide +kernel
theorem dX6_seatsOnStage_17 : decode cX6_seatsOnStage 17 = .ok (.iconst 0, 1) := by decide +kernel
theorem dX6_seatsOnStage_18 : decode cX6_seatsOnStage 18 = .ok (.ireturn, 1) := by decide +kernel
theorem dX6_seatsOnStage_19 : decode cX6_seatsOnStage 19 = .ok (.aload_n 0, 1) := by decide +kernel
theorem dX6_seatsOnStage_20 : decode cX6_seatsOnStage 20 = .ok (.getfield 37, 3) := by decide +kernel
theorem dX6_seatsOnStage_23 : decode cX6_seatsOnStage 23 = .ok (.getfield 136, 3) := by decide +kernel
theorem dX6_seatsOnStage_26 : decode cX6_seatsOnStage 26 = .ok (.iload 4, 2) := by decide +kernel
theorem dX6_seatsOnStage_28 : decode cX6_seatsOnStage 28 = .ok (.invokevirtual 89, 3) := by decide +kernel
theorem dX6_seatsOnStage_31 : decode cX6_seatsOnStage 31 = .ok (.istore 5, 2) := by decide +kernel
theorem dX6_seatsOnStage_33 : decode cX6_seatsOnStage 33 = .ok (.iload_n 3, 1) := by decide +kernel
theorem dX6_seatsOnStage_34 : decode cX6_seatsOnStage 34 = .ok (.ifCond .ne 6, 3) := by decide +kernel
theorem dX6_seatsOnStage_37 : decode cX6_seatsOnStage 37 = .ok (.iload 5, 2) := by decide +kernel
theorem dX6_seatsOnStage_39 : decode cX6_seatsOnStage 39 = .ok (.ireturn, 1) := by decide +kernel
theorem dX6_seatsOnStage_40 : decode cX6_seatsOnStage 40 = .ok (.iconst 0, 1) := by decide +kernel
theorem dX6_seatsOnStage_41 : decode cX6_seatsOnStage 41 = .ok (.istore 6, 2) := by decide +kernel
theorem dX6_seatsOnStage_43 : decode cX6_seatsOnStage 43 = .ok (.iconst 0, 1) := by decide +kernel
theorem dX6_seatsOnStage_44 : decode cX6_seatsOnStage 44 = .ok (.istore 7, 2) := by decide +kernel
theorem dX6_seatsOnStage_46 : decode cX6_seatsOnStage 46 = .ok (.iload 7, 2) := by decide +kernel
theorem dX6_seatsOnStage_48 : decode cX6_seatsOnStage 48 = .ok (.aload_n 0, 1) := by decide +kernel
theorem dX6_seatsOnStage_49 : decode cX6_seatsOnStage 49 = .ok (.getfield 44, 3) := by decide +kernel
theorem dX6_seatsOnStage_52 : decode cX6_seatsOnStage 52 = .ok (.getfield 168, 3) := by decide +kernel
theorem dX6_seatsOnStage_55 : decode cX6_seatsOnStage 55 = .ok (.if_icmp .ge 40, 3) := by decide +kernel
theorem dX6_seatsOnStage_58 : decode cX6_seatsOnStage 58 = .ok (.aload_n 0, 1) := by decide +kernel
theorem dX6_seatsOnStage_59 : decode cX6_seatsOnStage 59 = .ok (.getfield 37, 3) := by decide +kernel
theorem dX6_seatsOnStage_62 : decode cX6_seatsOnStage 62 = .ok (.iload 7, 2) := by decide +kernel
theorem dX6_seatsOnStage_64 : decode cX6_seatsOnStage 64 = .ok (.iload 4, 2) := by decide +kernel
theorem dX6_seatsOnStage_66 : decode cX6_seatsOnStage 66 = .ok (.invokevirtual 173, 3) := by decide +kernel
theorem dX6_seatsOnStage_69 : decode cX6_seatsOnStage 69 = .ok (.ifCond .eq 20, 3) := by decide +kernel
theorem dX6_seatsOnStage_72 : decode cX6_seatsOnStage 72 = .ok (.iload 6, 2) := by decide +kernel
theorem dX6_seatsOnStage_74 : decode cX6_seatsOnStage 74 = .ok (.aload_n 0, 1) := by decide +kernel
theorem dX6_seatsOnStage_75 : decode cX6_seatsOnStage 75 = .ok (.getfield 44, 3) := by decide +kernel
theorem dX6_seatsOnStage_78 : decode cX6_seatsOnStage 78 = .ok (.getfield 172, 3) := by decide +kernel
theorem dX6_seatsOnStage_81 : decode cX6_seatsOnStage 81 = .ok (.iload 7, 2) := by decide +kernel
theorem dX6_seatsOnStage_83 : decode cX6_seatsOnStage 83 = .ok (.invokevirtual 89, 3) := by decide +kernel
theorem dX6_seatsOnStage_86 : decode cX6_seatsOnStage 86 = .ok (.iadd, 1) := by decide +kernel
theorem dX6_seatsOnStage_87 : decode cX6_seatsOnStage 87 = .ok (.istore 6, 2) := by decide +kernel
theorem dX6_seatsOnStage_89 : decode cX6_seatsOnStage 89 = .ok (.iinc 7 1, 3) := by decide +kernel
theorem dX6_seatsOnStage_92 : decode cX6_seatsOnStage 92 = .ok (.goto (-46), 3) := by decide +kernel
theorem dX6_seatsOnStage_95 : decode cX6_seatsOnStage 95 = .ok (.iload_n 3, 1) := by decide +kernel
theorem dX6_seatsOnStage_96 : decode cX6_seatsOnStage 96 = .ok (.iconst 1, 1) := by decide +kernel
theorem dX6_seatsOnStage_97 : decode cX6_seatsOnStage 97 = .ok (.if_icmp .ne 8, 3) := by decide +kernel
theorem dX6_seatsOnStage_100 : decode cX6_seatsOnStage 100 = .ok (.iload 6, 2) := by decide +kernel
theorem dX6_seatsOnStage_102 : decode cX6_seatsOnStage 102 = .ok (.goto 17, 3) := by decide +kernel
theorem dX6_seatsOnStage_105 : decode cX6_seatsOnStage 105 = .ok (.aload_n 0, 1) := by decide +kernel
theorem dX6_seatsOnStage_106 : decode cX6_seatsOnStage 106 = .ok (.getfield 14, 3) := by decide +kernel
theorem dX6_seatsOnStage_109 : decode cX6_seatsOnStage 109 = .ok (.iload_n 1, 1) := by decide +kernel
theorem dX6_seatsOnStage_110 : decode cX6_seatsOnStage 110 = .ok (.invokevirtual 89, 3) := by decide +kernel
theorem dX6_seatsOnStage_113 : decode cX6_seatsOnStage 113 = .ok (.iload 5, 2) := by decide +kernel
theorem dX6_seatsOnStage_115 : decode cX6_seatsOnStage 115 = .ok (.isub, 1) := by decide +kernel
theorem dX6_seatsOnStage_116 : decode cX6_seatsOnStage 116 = .ok (.iload 6, 2) := by decide +kernel
theorem dX6_seatsOnStage_118 : decode cX6_seatsOnStage 118 = .ok (.isub, 1) := by decide +kernel
theorem dX6_seatsOnStage_119 : decode cX6_seatsOnStage 119 = .ok (.ireturn, 1) := by decide +kernel
theorem dX6_seatsOfProduction_0 : decode cX6_seatsOfProduction 0 = .ok (.iconst 0, 1) := by decide +kernel
theorem dX6_seatsOfProduction_1 : decode cX6_seatsOfProduction 1 = .ok (.istore_n 3, 1) := by decide +kernel
theorem dX6_seatsOfProduction_2 : decode cX6_seatsOfProduction 2 = .ok (.iconst 0, 1) := by decide +kernel
theorem dX6_seatsOfProduction_3 : decode cX6_seatsOfProduction 3 = .ok (.istore 4, 2) := by decide +kernel
theorem dX6_seatsOfProduction_5 : decode cX6_seatsOfProduction 5 = .ok (.iload 4, 2) := by decide +kernel
theorem dX6_seatsOfProduction_7 : decode cX6_seatsOfProduction 7 = .ok (.aload_n 0, 1) := by decide +kernel
theorem dX6_seatsOfProduction_8 : decode cX6_seatsOfProduction 8 = .ok (.getfield 37, 3) := by decide +kernel
theorem dX6_seatsOfProduction_11 : decode cX6_seatsOfProduction 11 = .ok (.getfield 83, 3) := by decide +kernel
theorem dX6_seatsOfProduction_14 : decode cX6_seatsOfProduction 14 = .ok (.if_icmp .ge 67, 3) := by decide +kernel
theorem dX6_seatsOfProduction_17 : decode cX6_seatsOfProduction 17 = .ok (.aload_n 0, 1) := by decide +kernel
theorem dX6_seatsOfProduction_18 : decode cX6_seatsOfProduction 18 = .ok (.getfield 37, 3) := by decide +kernel
theorem dX6_seatsOfProduction_21 : decode cX6_seatsOfProduction 21 = .ok (.getfield 133, 3) := by decide +kernel
theorem dX6_seatsOfProduction_24 : decode cX6_seatsOfProduction 24 = .ok (.iload 4, 2) := by decide +kernel
theorem dX6_seatsOfProduction_26 : decode cX6_seatsOfProduction 26 = .ok (.invokevirtual 89, 3) := by decide +kernel
theorem dX6_seatsOfProduction_29 : decode cX6_seatsOfProduction 29 = .ok (.iload_n 1, 1) := by decide +kernel
theorem dX6_seatsOfProduction_30 : decode cX6_seatsOfProduction 30 = .ok (.if_icmp .ne 45, 3) := by decide +kernel
theorem dX6_seatsOfProduction_33 : decode cX6_seatsOfProduction 33 = .ok (.aload_n 0, 1) := by decide +kernel
theorem dX6_seatsOfProduction_34 : decode cX6_seatsOfProduction 34 = .ok (.getfield 14, 3) := by decide +kernel
theorem dX6_seatsOfProduction_37 : decode cX6_seatsOfProduction 37 = .ok (.aload_n 0, 1) := by decide +kernel
theorem dX6_seatsOfProduction_38 : decode cX6_seatsOfProduction 38 = .ok (.getfield 37, 3) := by decide +kernel
theorem dX6_seatsOfProduction_41 : decode cX6_seatsOfProduction 41 = .ok (.getfield 86, 3) := by decide +kernel
theorem dX6_seatsOfProduction_44 : decode cX6_seatsOfProduction 44 = .ok (.iload 4, 2) := by decide +kernel
theorem dX6_seatsOfProduction_46 : decode cX6_seatsOfProduction 46 = .ok (.invokevirtual 89, 3) := by decide +kernel
theorem dX6_seatsOfProduction_49 : decode cX6_seatsOfProduction 49 = .ok (.invokevirtual 89, 3) := by decide +kernel
theorem dX6_seatsOfProduction_52 : decode cX6_seatsOfProduction 52 = .ok (.istore 5, 2) := by decide +kernel
theorem dX6_seatsOfProduction_54 : decode cX6_seatsOfProduction 54 = .ok (.iload_n 3, 1) := by decide +kernel
theorem dX6_seatsOfProduction_55 : decode cX6_seatsOfProduction 55 = .ok (.iload_n 2, 1) := by decide +kernel
theorem dX6_seatsOfProduction_56 : decode cX6_seatsOfProduction 56 = .ok (.ifCond .eq 8, 3) := by decide +kernel
theorem dX6_seatsOfProduction_59 : decode cX6_seatsOfProduction 59 = .ok (.iload 5, 2) := by decide +kernel
theorem dX6_seatsOfProduction_61 : decode cX6_seatsOfProduction 61 = .ok (.goto 12, 3) := by decide +kernel
theorem dX6_seatsOfProduction_64 : decode cX6_seatsOfProduction 64 = .ok (.aload_n 0, 1) := by decide +kernel
theorem dX6_seatsOfProduction_65 : decode cX6_seatsOfProduction 65 = .ok (.getfield 37, 3) := by decide +kernel
theorem dX6_seatsOfProduction_68 : decode cX6_seatsOfProduction 68 = .ok (.iload 4, 2) := by decide +kernel
theorem dX6_seatsOfProduction_70 : decode cX6_seatsOfProduction 70 = .ok (.invokevirtual 93, 3) := by decide +kernel
theorem dX6_seatsOfProduction_73 : decode cX6_seatsOfProduction 73 = .ok (.iadd, 1) := by decide +kernel
theorem dX6_seatsOfProduction_74 : decode cX6_seatsOfProduction 74 = .ok (.istore_n 3, 1) := by decide +kernel
theorem dX6_seatsOfProduction_75 : decode cX6_seatsOfProduction 75 = .ok (.iinc 4 1, 3) := by decide +kernel
theorem dX6_seatsOfProduction_78 : decode cX6_seatsOfProduction 78 = .ok (.goto (-73), 3) := by decide +kernel
theorem dX6_seatsOfProduction_81 : decode cX6_seatsOfProduction 81 = .ok (.iload_n 3, 1) := by decide +kernel
theorem dX6_seatsOfProduction_82 : decode cX6_seatsOfProduction 82 = .ok (.ireturn, 1) := by decide +kernel
theorem dX6_takingsOf_0 : decode cX6_takingsOf 0 = .ok (.aload_n 0, 1) := by decide +kernel
theorem dX6_takingsOf_1 : decode cX6_takingsOf 1 = .ok (.getfield 30, 3) := by decide +kernel
theorem dX6_takingsOf_4 : decode cX6_takingsOf 4 = .ok (.getfield 202, 3) := by decide +kernel
theorem dX6_takingsOf_7 : decode cX6_takingsOf 7 = .ok (.iload_n 1, 1) := by decide +kernel
theorem dX6_takingsOf_8 : decode cX6_takingsOf 8 = .ok (.invokevirtual 89, 3) := by decide +kernel
theorem dX6_takingsOf_11 : decode cX6_takingsOf 11 = .ok (.istore_n 2, 1) := by decide +kernel
theorem dX6_takingsOf_12 : decode cX6_takingsOf 12 = .ok (.iconst 0, 1) := by decide +kernel
theorem dX6_takingsOf_13 : decode cX6_takingsOf 13 = .ok (.istore_n 3, 1) := by decide +kernel
theorem dX6_takingsOf_14 : decode cX6_takingsOf 14 = .ok (.iconst 0, 1) := by decide +kernel
theorem dX6_takingsOf_15 : decode cX6_takingsOf 15 = .ok (.istore 4, 2) := by decide +kernel
theorem dX6_takingsOf_17 : decode cX6_takingsOf 17 = .ok (.iload 4, 2) := by decide +kernel
theorem dX6_takingsOf_19 : decode cX6_takingsOf 19 = .ok (.aload_n 0, 1) := by decide +kernel
theorem dX6_takingsOf_20 : decode cX6_takingsOf 20 = .ok (.getfield 37, 3) := by decide +kernel
theorem dX6_takingsOf_23 : decode cX6_takingsOf 23 = .ok (.getfield 83, 3) := by decide +kernel
theorem dX6_takingsOf_26 : decode cX6_takingsOf 26 = .ok (.if_icmp .ge 63, 3) := by decide +kernel
theorem dX6_takingsOf_29 : decode cX6_takingsOf 29 = .ok (.aload_n 0, 1) := by decide +kernel
theorem dX6_takingsOf_30 : decode cX6_takingsOf 30 = .ok (.getfield 37, 3) := by decide +kernel
theorem dX6_takingsOf_33 : decode cX6_takingsOf 33 = .ok (.getfield 133, 3) := by decide +kernel
theorem dX6_takingsOf_36 : decode cX6_takingsOf 36 = .ok (.iload 4, 2) := by decide +kernel
theorem dX6_takingsOf_38 : decode cX6_takingsOf 38 = .ok (.invokevirtual 89, 3) := by decide +kernel
theorem dX6_takingsOf_41 : decode cX6_takingsOf 41 = .ok (.iload_n 1, 1) := by decide +kernel
theorem dX6_takingsOf_42 : decode cX6_takingsOf 42 = .ok (.if_icmp .ne 41, 3) := by decide +kernel
theorem dX6_takingsOf_45 : decode cX6_takingsOf 45 = .ok (.iload_n 3, 1) := by decide +kernel
theorem dX6_takingsOf_46 : decode cX6_takingsOf 46 = .ok (.iload_n 2, 1) := by decide +kernel
theorem dX6_takingsOf_47 : decode cX6_takingsOf 47 = .ok (.aload_n 0, 1) := by decide +kernel
theorem dX6_takingsOf_48 : decode cX6_takingsOf 48 = .ok (.getfield 37, 3) := by decide +kernel
theorem dX6_takingsOf_51 : decode cX6_takingsOf 51 = .ok (.getfield 136, 3) := by decide +kernel
theorem dX6_takingsOf_54 : decode cX6_takingsOf 54 = .ok (.iload 4, 2) := by decide +kernel
theorem dX6_takingsOf_56 : decode cX6_takingsOf 56 = .ok (.invokevirtual 89, 3) := by decide +kernel
theorem dX6_takingsOf_59 : decode cX6_takingsOf 59 = .ok (.imul, 1) := by decide +kernel
theorem dX6_takingsOf_60 : decode cX6_takingsOf 60 = .ok (.iadd, 1) := by decide +kernel
theorem dX6_takingsOf_61 : decode cX6_takingsOf 61 = .ok (.istore_n 3, 1) := by decide +kernel
theorem dX6_takingsOf_62 : decode cX6_takingsOf 62 = .ok (.iload_n 3, 1) := by decide +kernel
theorem dX6_takingsOf_63 : decode cX6_takingsOf 63 = .ok (.iload_n 2, 1) := by decide +kernel
theorem dX6_takingsOf_64 : decode cX6_takingsOf 64 = .ok (.iconst 4, 1) := by decide +kernel
theorem dX6_takingsOf_65 : decode cX6_takingsOf 65 = .ok (.imul, 1) := by decide +kernel
theorem dX6_takingsOf_66 : decode cX6_takingsOf 66 = .ok (.iconst 5, 1) := by decide +kernel
theorem dX6_takingsOf_67 : decode cX6_takingsOf 67 = .ok (.idiv, 1) := by decide +kernel
theorem dX6_takingsOf_68 : decode cX6_takingsOf 68 = .ok (.aload_n 0, 1) := by decide +kernel
theorem dX6_takingsOf_69 : decode cX6_takingsOf 69 = .ok (.getfield 37, 3) := by decide +kernel
theorem dX6_takingsOf_72 : decode cX6_takingsOf 72 = .ok (.getfield 198, 3) := by decide +kernel
theorem dX6_takingsOf_75 : decode cX6_takingsOf 75 = .ok (.iload 4, 2) := by decide +kernel
theorem dX6_takingsOf_77 : decode cX6_takingsOf 77 = .ok (.invokevirtual 89, 3) := by decide +kernel
theorem dX6_takingsOf_80 : decode cX6_takingsOf 80 = .ok (.imul, 1) := by decide +kernel
theorem dX6_takingsOf_81 : decode cX6_takingsOf 81 = .ok (.iadd, 1) := by decide +kernel
theorem dX6_takingsOf_82 : decode cX6_takingsOf 82 = .ok (.istore_n 3, 1) := by decide +kernel
theorem dX6_takingsOf_83 : decode cX6_takingsOf 83 = .ok (.iinc 4 1, 3) := by decide +kernel
theorem dX6_takingsOf_86 : decode cX6_takingsOf 86 = .ok (.goto (-69), 3) := by decide +kernel
theorem dX6_takingsOf_89 : decode cX6_takingsOf 89 = .ok (.iload_n 3, 1) := by decide +kernel
theorem dX6_takingsOf_90 : decode cX6_takingsOf 90 = .ok (.ireturn, 1) := by decide +kernel
theorem dX6_takingsOfAll_0 : decode cX6_takingsOfAll 0 = .ok (.iconst 0, 1) := by decide +kernel
theorem dX6_takingsOfAll_1 : decode cX6_takingsOfAll 1 = .ok (.istore_n 1, 1) := by decide +kernel
theorem dX6_takingsOfAll_2 : decode cX6_takingsOfAll 2 = .ok (.iconst 0, 1) := by decide +kernel
theorem dX6_takingsOfAll_3 : decode cX6_takingsOfAll 3 = .ok (.istore_n 2, 1) := by decide +kernel
theorem dX6_takingsOfAll_4 : decode cX6_takingsOfAll 4 = .ok (.iload_n 2, 1) := by decide +kernel
theorem dX6_takingsOfAll_5 : decode cX6_takingsOfAll 5 = .ok (.aload_n 0, 1) := by decide +kernel
theorem dX6_takingsOfAll_6 : decode cX6_takingsOfAll 6 = .ok (.getfield 30, 3) := by decide +kernel
theorem dX6_takingsOfAll_9 : decode cX6_takingsOfAll 9 = .ok (.getfield 110, 3) := by decide +kernel
theorem dX6_takingsOfAll_12 : decode cX6_takingsOfAll 12 = .ok (.if_icmp .ge 17, 3) := by decide +kernel
theorem dX6_takingsOfAll_15 : decode cX6_takingsOfAll 15 = .ok (.iload_n 1, 1) := by decide +kernel
theorem dX6_takingsOfAll_16 : decode cX6_takingsOfAll 16 = .ok (.aload_n 0, 1) := by decide +kernel
theorem dX6_takingsOfAll_17 : decode cX6_takingsOfAll 17 = .ok (.iload_n 2, 1) := by decide +kernel
theorem dX6_takingsOfAll_18 : decode cX6_takingsOfAll 18 = .ok (.invokevirtual 205, 3) := by decide +kernel
theorem dX6_takingsOfAll_21 : decode cX6_takingsOfAll 21 = .ok (.iadd, 1) := by decide +kernel
theorem dX6_takingsOfAll_22 : decode cX6_takingsOfAll 22 = .ok (.istore_n 1, 1) := by decide +kernel
theorem dX6_takingsOfAll_23 : decode cX6_takingsOfAll 23 = .ok (.iinc 2 1, 3) := by decide +kernel
theorem dX6_takingsOfAll_26 : decode cX6_takingsOfAll 26 = .ok (.goto (-22), 3) := by decide +kernel
theorem dX6_takingsOfAll_29 : decode cX6_takingsOfAll 29 = .ok (.iload_n 1, 1) := by decide +kernel
theorem dX6_takingsOfAll_30 : decode cX6_takingsOfAll 30 = .ok (.ireturn, 1) := by decide +kernel
theorem dX7_init_0 : decode cX7_init 0 = .ok (.aload_n 0, 1) := by decide +kernel
theorem dX7_init_1 : decode cX7_init 1 = .ok (.invokespecial 3, 3) := by decide +kernel
theorem dX7_init_4 : decode cX7_init 4 = .ok (.aload_n 0, 1) := by decide +kernel
theorem dX7_init_5 : decode cX7_init 5 = .ok (.new 9, 3) := by decide +kernel
theorem dX7_init_8 : decode cX7_init 8 = .ok (.dup, 1) := by decide +kernel
theorem dX7_init_9 : decode cX7_init 9 = .ok (.bipush 10, 2) := by decide +kernel
theorem dX7_init_11 : decode cX7_init 11 = .ok (.invokespecial 11, 3) := by decide +kernel
theorem dX7_init_14 : decode cX7_init 14 = .ok (.putfield 14, 3) := by decide +kernel
theorem dX7_init_17 : decode cX7_init 17 = .ok (.aload_n 0, 1) := by decide +kernel
theorem dX7_init_18 : decode cX7_init 18 = .ok (.new 9, 3) := by decide +kernel
theorem dX7_init_21 : decode cX7_init 21 = .ok (.dup, 1) := by decide +kernel
theorem dX7_init_22 : decode cX7_init 22 = .ok (.bipush 10, 2) := by decide +kernel
theorem dX7_init_24 : decode cX7_init 24 = .ok (.invokespecial 11, 3) := by decide +kernel
theorem dX7_init_27 : decode cX7_init 27 = .ok (.putfield 20, 3) := by decide +kernel
theorem dX7_init_30 : decode cX7_init 30 = .ok (.return_, 1) := by decide +kernel
theorem dX7_has_0 : decode cX7_has 0 = .ok (.iload_n 1, 1) := by decide +kernel
theorem dX7_has_1 : decode cX7_has 1 = .ok (.iconst 0, 1) := by decide +kernel
theorem dX7_has_2 : decode cX7_has 2 = .ok (.aload_n 0, 1) := by decide +kernel
theorem dX7_has_3 : decode cX7_has 3 = .ok (.getfield 23, 3) := by decide +kernel
theorem dX7_has_6 : decode cX7_has 6 = .ok (.iconst 1, 1) := by decide +kernel
theorem dX7_has_7 : decode cX7_has 7 = .ok (.isub, 1) := by decide +kernel
theorem dX7_has_8 : decode cX7_has 8 = .ok (.invokestatic 27, 3) := by decide +kernel
theorem dX7_has_11 : decode cX7_has 11 = .ok (.ireturn, 1) := by decide +kernel
theorem dX7_add_0 : decode cX7_add 0 = .ok (.aload_n 0, 1) := by decide +kernel
theorem dX7_add_1 : decode cX7_add 1 = .ok (.getfield 23, 3) := by decide +kernel
theorem dX7_add_4 : decode cX7_add 4 = .ok (.istore_n 2, 1) := by decide +kernel
theorem dX7_add_5 : decode cX7_add 5 = .ok (.aload_n 0, 1) := by decide +kernel
theorem dX7_add_6 : decode cX7_add 6 = .ok (.getfield 14, 3) := by decide +kernel
theorem dX7_add_9 : decode cX7_add 9 = .ok (.iload_n 2, 1) := by decide +kernel
theorem dX7_add_10 : decode cX7_add 10 = .ok (.iload_n 1, 1) := by decide +kernel
theorem dX7_add_11 : decode cX7_add 11 = .ok (.invokevirtual 31, 3) := by decide +kernel
theorem dX7_add_14 : decode cX7_add 14 = .ok (.aload_n 0, 1) := by decide +kernel
theorem dX7_add_15 : decode cX7_add 15 = .ok (.getfield 20, 3) := by decide +kernel
theorem dX7_add_18 : decode cX7_add 18 = .ok (.iload_n 2, 1) := by decide +kernel
theorem dX7_add_19 : decode cX7_add 19 = .ok (.iconst 0, 1) := by decide +kernel
theorem dX7_add_20 : decode cX7_add 20 = .ok (.invokevirtual 31, 3) := by decide +kernel
theorem dX7_add_23 : decode cX7_add 23 = .ok (.aload_n 0, 1) := by decide +kernel
theorem dX7_add_24 : decode cX7_add 24 = .ok (.dup, 1) := by decide +kernel
theorem dX7_add_25 : decode cX7_add 25 = .ok (.getfield 23, 3) := by decide +kernel
theorem dX7_add_28 : decode cX7_add 28 = .ok (.iconst 1, 1) := by decide +kernel
theorem dX7_add_29 : decode cX7_add 29 = .ok (.iadd, 1) := by decide +kernel
theorem dX7_add_30 : decode cX7_add 30 = .ok (.putfield 23, 3) := by decide +kernel
theorem dX7_add_33 : decode cX7_add 33 = .ok (.iload_n 2, 1) := by decide +kernel
theorem dX7_add_34 : decode cX7_add 34 = .ok (.ireturn, 1) := by decide +kernel
theorem dX7_copyFrom_0 : decode cX7_copyFrom 0 = .ok (.aload_n 0, 1) := by decide +kernel
theorem dX7_copyFrom_1 : decode cX7_copyFrom 1 = .ok (.aload_n 1, 1) := by decide +kernel
theorem dX7_copyFrom_2 : decode cX7_copyFrom 2 = .ok (.getfield 23, 3) := by decide +kernel
theorem dX7_copyFrom_5 : decode cX7_copyFrom 5 = .ok (.putfield 23, 3) := by decide +kernel
theorem dX7_copyFrom_8 : decode cX7_copyFrom 8 = .ok (.aload_n 0, 1) := by decide +kernel
theorem dX7_copyFrom_9 : decode cX7_copyFrom 9 = .ok (.getfield 14, 3) := by decide +kernel
theorem dX7_copyFrom_12 : decode cX7_copyFrom 12 = .ok (.aload_n 1, 1) := by decide +kernel
theorem dX7_copyFrom_13 : decode cX7_copyFrom 13 = .ok (.getfield 14, 3) := by decide +kernel
theorem dX7_copyFrom_16 : decode cX7_copyFrom 16 = .ok (.invokevirtual 35, 3) := by decide +kernel
theorem dX7_copyFrom_19 : decode cX7_copyFrom 19 = .ok (.aload_n 0, 1) := by decide +kernel
theorem dX7_copyFrom_20 : decode cX7_copyFrom 20 = .ok (.getfield 20, 3) := by decide +kernel
theorem dX7_copyFrom_23 : decode cX7_copyFrom 23 = .ok (.aload_n 1, 1) := by decide +kernel
theorem dX7_copyFrom_24 : decode cX7_copyFrom 24 = .ok (.getfield 20, 3) := by decide +kernel
theorem dX7_copyFrom_27 : decode cX7_copyFrom 27 = .ok (.invokevirtual 35, 3) := by decide +kernel
theorem dX7_copyFrom_30 : decode cX7_copyFrom 30 = .ok (.return_, 1) := by decide +kernel
theorem dX8_init_0 : decode cX8_init 0 = .ok (.aload_n 0, 1) := by decide +kernel
theorem dX8_init_1 : decode cX8_init 1 = .ok (.invokespecial 1, 3) := by decide +kernel
theorem dX8_init_4 : decode cX8_init 4 = .ok (.aload_n 0, 1) := by decide +kernel
theorem dX8_init_5 : decode cX8_init 5 = .ok (.new 7, 3) := by decide +kernel
theorem dX8_init_8 : decode cX8_init 8 = .ok (.dup, 1) := by decide +kernel
theorem dX8_init_9 : decode cX8_init 9 = .ok (.invokespecial 9, 3) := by decide +kernel
theorem dX8_init_12 : decode cX8_init 12 = .ok (.putfield 10, 3) := by decide +kernel
theorem dX8_init_15 : decode cX8_init 15 = .ok (.aload_n 0, 1) := by decide +kernel
theorem dX8_init_16 : decode cX8_init 16 = .ok (.new 7, 3) := by decide +kernel
theorem dX8_init_19 : decode cX8_init 19 = .ok (.dup, 1) := by decide +kernel
theorem dX8_init_20 : decode cX8_init 20 = .ok (.invokespecial 9, 3) := by decide +kernel
theorem dX8_init_23 : decode cX8_init 23 = .ok (.putfield 16, 3) := by decide +kernel
theorem dX8_init_26 : decode cX8_init 26 = .ok (.aload_n 0, 1) := by decide +kernel
theorem dX8_init_27 : decode cX8_init 27 = .ok (.new 19, 3) := by decide +kernel
theorem dX8_init_30 : decode cX8_init 30 = .ok (.dup, 1) := by decide +kernel
theorem dX8_init_31 : decode cX8_init 31 = .ok (.invokespecial 21, 3) := by decide +kernel
theorem dX8_init_34 : decode cX8_init 34 = .ok (.putfield 22, 3) := by decide +kernel
theorem dX8_init_37 : decode cX8_init 37 = .ok (.aload_n 0, 1) := by decide +kernel
theorem dX8_init_38 : decode cX8_init 38 = .ok (.new 26, 3) := by decide +kernel
theorem dX8_init_41 : decode cX8_init 41 = .ok (.dup, 1) := by decide +kernel
theorem dX8_init_42 : decode cX8_init 42 = .ok (.invokespecial 28, 3) := by decide +kernel
theorem dX8_init_45 : decode cX8_init 45 = .ok (.putfield 29, 3) := by decide +kernel
theorem dX8_init_48 : decode cX8_init 48 = .ok (.aload_n 0, 1) := by decide +kernel
theorem dX8_init_49 : decode cX8_init 49 = .ok (.iconst (-1), 1) := by decide +kernel
theorem dX8_init_50 : decode cX8_init 50 = .ok (.putfield 33, 3) := by decide +kernel
theorem dX8_init_53 : decode cX8_init 53 = .ok (.aload_n 0, 1) := by decide +kernel
theorem dX8_init_54 : decode cX8_init 54 = .ok (.iconst (-1), 1) := by decide +kernel
theorem dX8_init_55 : decode cX8_init 55 = .ok (.putfield 37, 3) := by decide +kernel
theorem dX8_init_58 : decode cX8_init 58 = .ok (.aload_n 0, 1) := by decide +kernel
theorem dX8_init_59 : decode cX8_init 59 = .ok (.iconst (-1), 1) := by decide +kernel
theorem dX8_init_60 : decode cX8_init 60 = .ok (.putfield 40, 3) := by decide +kernel
theorem dX8_init_63 : decode cX8_init 63 = .ok (.return_, 1) := by decide +kernel
theorem dX8_setSeats_0 : decode cX8_setSeats 0 = .ok (.aload_n 0, 1) := by decide +kernel
theorem dX8_setSeats_1 : decode cX8_setSeats 1 = .ok (.getfield 22, 3) := by decide +kernel
theorem dX8_setSeats_4 : decode cX8_setSeats 4 = .ok (.aload_n 0, 1) := by decide +kernel
theorem dX8_setSeats_5 : decode cX8_setSeats 5 = .ok (.getfield 10, 3) := by decide +kernel
theorem dX8_setSeats_8 : decode cX8_setSeats 8 = .ok (.invokevirtual 43, 3) := by decide +kernel
theorem dX8_setSeats_11 : decode cX8_setSeats 11 = .ok (.aload_n 0, 1) := by decide +kernel
theorem dX8_setSeats_12 : decode cX8_setSeats 12 = .ok (.aload_n 0, 1) := by decide +kernel
theorem dX8_setSeats_13 : decode cX8_setSeats 13 = .ok (.getfield 10, 3) := by decide +kernel
theorem dX8_setSeats_16 : decode cX8_setSeats 16 = .ok (.iload_n 1, 1) := by decide +kernel
theorem dX8_setSeats_17 : decode cX8_setSeats 17 = .ok (.iload_n 2, 1) := by decide +kernel
theorem dX8_setSeats_18 : decode cX8_setSeats 18 = .ok (.invokevirtual 47, 3) := by decide +kernel
theorem dX8_setSeats_21 : decode cX8_setSeats 21 = .ok (.invokevirtual 51, 3) := by decide +kernel
theorem dX8_setSeats_24 : decode cX8_setSeats 24 = .ok (.ireturn, 1) := by decide +kernel
theorem dX8_setStaff_0 : decode cX8_setStaff 0 = .ok (.aload_n 0, 1) := by decide +kernel
theorem dX8_setStaff_1 : decode cX8_setStaff 1 = .ok (.getfield 22, 3) := by decide +kernel
theorem dX8_setStaff_4 : decode cX8_setStaff 4 = .ok (.aload_n 0, 1) := by decide +kernel
theorem dX8_setStaff_5 : decode cX8_setStaff 5 = .ok (.getfield 10, 3) := by decide +kernel
theorem dX8_setStaff_8 : decode cX8_setStaff 8 = .ok (.invokevirtual 43, 3) := by decide +kernel
theorem dX8_setStaff_11 : decode cX8_setStaff 11 = .ok (.aload_n 0, 1) := by decide +kernel
theorem dX8_setStaff_12 : decode cX8_setStaff 12 = .ok (.aload_n 0, 1) := by decide +kernel
theorem dX8_setStaff_13 : decode cX8_setStaff 13 = .ok (.getfield 10, 3) := by decide +kernel
theorem dX8_setStaff_16 : decode cX8_setStaff 16 = .ok (.iload_n 1, 1) := by decide +kernel
theorem dX8_setStaff_17 : decode cX8_setStaff 17 = .ok (.invokevirtual 55, 3) := by decide +kernel
theorem dX8_setStaff_20 : decode cX8_setStaff 20 = .ok (.invokevirtual 51, 3) := by decide +kernel
theorem dX8_setStaff_23 : decode cX8_setStaff 23 = .ok (.ireturn, 1) := by decide +kernel
theorem dX8_setRoom_0 : decode cX8_setRoom 0 = .ok (.aload_n 0, 1) := by decide +kernel
theorem dX8_setRoom_1 : decode cX8_setRoom 1 = .ok (.getfield 22, 3) := by decide +kernel
theorem dX8_setRoom_4 : decode cX8_setRoom 4 = .ok (.aload_n 0, 1) := by decide +kernel
theorem dX8_setRoom_5 : decode cX8_setRoom 5 = .ok (.getfield 10, 3) := by decide +kernel
theorem dX8_setRoom_8 : decode cX8_setRoom 8 = .ok (.invokevirtual 43, 3) := by decide +kernel
theorem dX8_setRoom_11 : decode cX8_setRoom 11 = .ok (.aload_n 0, 1) := by decide +kernel
theorem dX8_setRoom_12 : decode cX8_setRoom 12 = .ok (.aload_n 0, 1) := by decide +kernel
theorem dX8_setRoom_13 : decode cX8_setRoom 13 = .ok (.getfield 10, 3) := by decide +kernel
theorem dX8_setRoom_16 : decode cX8_setRoom 16 = .ok (.iload_n 1, 1) := by decide +kernel
theorem dX8_setRoom_17 : decode cX8_setRoom 17 = .ok (.invokevirtual 58, 3) := by decide +kernel
theorem dX8_setRoom_20 : decode cX8_setRoom 20 = .ok (.invokevirtual 51, 3) := by decide +kernel
theorem dX8_setRoom_23 : decode cX8_setRoom 23 = .ok (.ireturn, 1) := by decide +kernel
theorem dX8_addProduction_0 : decode cX8_addProduction 0 = .ok (.aload_n 0, 1) := by decide +kernel
theorem dX8_addProduction_1 : decode cX8_addProduction 1 = .ok (.getfield 22, 3) := by decide +kernel
theorem dX8_addProduction_4 : decode cX8_addProduction 4 = .ok (.aload_n 0, 1) := by decide +kernel
theorem dX8_addProduction_5 : decode cX8_addProduction 5 = .ok (.getfield 10, 3) := by decide +kernel
theorem dX8_addProduction_8 : decode cX8_addProduction 8 = .ok (.invokevirtual 43, 3) := by decide +kernel
theorem dX8_addProduction_11 : decode cX8_addProduction 11 = .ok (.aload_n 0, 1) := by decide +kernel
theorem dX8_addProduction_12 : decode cX8_addProduction 12 = .ok (.aload_n 0, 1) := by decide +kernel
theorem dX8_addProduction_13 : decode cX8_addProduction 13 = .ok (.getfield 10, 3) := by decide +kernel
theorem dX8_addProduction_16 : decode cX8_addProduction 16 = .ok (.iload_n 1, 1) := by decide +kernel
theorem dX8_addProduction_17 : decode cX8_addProduction 17 = .ok (.iload_n 2, 1) := by decide +kernel
theorem dX8_addProduction_18 : decode cX8_addProduction 18 = .ok (.iload_n 3, 1) := by decide +kernel
theorem dX8_addProduction_19 : decode cX8_addProduction 19 = .ok (.iload 4, 2) := by decide +kernel
theorem dX8_addProduction_21 : decode cX8_addProduction 21 = .ok (.invokevirtual 61, 3) := by decide +kernel
theorem dX8_addProduction_24 : decode cX8_addProduction 24 = .ok (.invokevirtual 51, 3) := by decide +kernel
theorem dX8_addProduction_27 : decode cX8_addProduction 27 = .ok (.ireturn, 1) := by decide +kernel
theorem dX8_production_0 : decode cX8_production 0 = .ok (.aload_n 0, 1) := by decide +kernel
theorem dX8_production_1 : decode cX8_production 1 = .ok (.getfield 10, 3) := by decide +kernel
theorem dX8_production_4 : decode cX8_production 4 = .ok (.getfield 65, 3) := by decide +kernel
theorem dX8_production_7 : decode cX8_production 7 = .ok (.iload_n 1, 1) := by decide +kernel
theorem dX8_production_8 : decode cX8_production 8 = .ok (.invokevirtual 69, 3) := by decide +kernel
theorem dX8_production_11 : decode cX8_production 11 = .ok (.invokestatic 75, 3) := by decide +kernel
theorem dX8_production_14 : decode cX8_production 14 = .ok (.aload_n 0, 1) := by decide +kernel
theorem dX8_production_15 : decode cX8_production 15 = .ok (.getfield 10, 3) := by decide +kernel
theorem dX8_production_18 : decode cX8_production 18 = .ok (.getfield 65, 3) := by decide +kernel
theorem dX8_production_21 : decode cX8_production 21 = .ok (.astore_n 3, 1) := by decide +kernel
theorem dX8_production_22 : decode cX8_production 22 = .ok (.aload_n 3, 1) := by decide +kernel
theorem dX8_production_23 : decode cX8_production 23 = .ok (.getfield 79, 3) := by decide +kernel
theorem dX8_production_26 : decode cX8_production 26 = .ok (.iload_n 1, 1) := by decide +kernel
theorem dX8_production_27 : decode cX8_production 27 = .ok (.invokevirtual 83, 3) := by decide +kernel
theorem dX8_production_30 : decode cX8_production 30 = .ok (.istore 4, 2) := by decide +kernel
theorem dX8_production_32 : decode cX8_production 32 = .ok (.iload_n 2, 1) := by decide +kernel
theorem dX8_production_33 : decode cX8_production 33 = .ok (.tableswitch 110 0 7 #[47, 56, 65, 74, 83, 89, 95, 101], 47) := by decide +kernel
theorem dX8_production_80 : decode cX8_production 80 = .ok (.aload_n 3, 1) := by decide +kernel
theorem dX8_production_81 : decode cX8_production 81 = .ok (.getfield 88, 3) := by decide +kernel
theorem dX8_production_84 : decode cX8_production 84 = .ok (.iload_n 1, 1) := by decide +kernel
theorem dX8_production_85 : decode cX8_production 85 = .ok (.invokevirtual 83, 3) := by decide +kernel
theorem dX8_production_88 : decode cX8_production 88 = .ok (.ireturn, 1) := by decide +kernel
theorem dX8_production_89 : decode cX8_production 89 = .ok (.aload_n 3, 1) := by decide +kernel
theorem dX8_production_90 : decode cX8_production 90 = .ok (.getfield 91, 3) := by decide +kernel
theorem dX8_production_93 : decode cX8_production 93 = .ok (.iload_n 1, 1) := by decide +kernel
theorem dX8_production_94 : decode cX8_production 94 = .ok (.invokevirtual 83, 3) := by decide +kernel
theorem dX8_production_97 : decode cX8_production 97 = .ok (.ireturn, 1) := by decide +kernel
theorem dX8_production_98 : decode cX8_production 98 = .ok (.aload_n 3, 1) := by decide +kernel
theorem dX8_production_99 : decode cX8_production 99 = .ok (.getfield 94, 3) := by decide +kernel
theorem dX8_production_102 : decode cX8_production 102 = .ok (.iload_n 1, 1) := by decide +kernel
theorem dX8_production_103 : decode cX8_production 103 = .ok (.invokevirtual 83, 3) := by decide +kernel
theorem dX8_production_106 : decode cX8_production 106 = .ok (.ireturn, 1) := by decide +kernel
theorem dX8_production_107 : decode cX8_production 107 = .ok (.aload_n 3, 1) := by decide +kernel
theorem dX8_production_108 : decode cX8_production 108 = .ok (.getfield 97, 3) := by decide +kernel
theorem dX8_production_111 : decode cX8_production 111 = .ok (.iload_n 1, 1) := by decide +kernel
theorem dX8_production_112 : decode cX8_production 112 = .ok (.invokevirtual 83, 3) := by decide +kernel
theorem dX8_production_115 : decode cX8_production 115 = .ok (.ireturn, 1) := by decide +kernel
theorem dX8_production_116 : decode cX8_production 116 = .ok (.iload 4, 2) := by decide +kernel
theorem dX8_production_118 : decode cX8_production 118 = .ok (.invokestatic 100, 3) := by decide +kernel
theorem dX8_production_121 : decode cX8_production 121 = .ok (.ireturn, 1) := by decide +kernel
theorem dX8_production_122 : decode cX8_production 122 = .ok (.iload 4, 2) := by decide +kernel
theorem dX8_production_124 : decode cX8_production 124 = .ok (.invokestatic 105, 3) := by decide +kernel
theorem dX8_production_127 : decode cX8_production 127 = .ok (.ireturn, 1) := by decide +kernel
theorem dX8_production_128 : decode cX8_production 128 = .ok (.iload 4, 2) := by decide +kernel
theorem dX8_production_130 : decode cX8_production 130 = .ok (.invokestatic 108, 3) := by decide +kernel
theorem dX8_production_133 : decode cX8_production 133 = .ok (.ireturn, 1) := by decide +kernel
theorem dX8_production_134 : decode cX8_production 134 = .ok (.aload_n 0, 1) := by decide +kernel
theorem dX8_production_135 : decode cX8_production 135 = .ok (.getfield 10, 3) := by decide +kernel
theorem dX8_production_138 : decode cX8_production 138 = .ok (.iload_n 1, 1) := by decide +kernel
theorem dX8_production_139 : decode cX8_production 139 = .ok (.invokevirtual 111, 3) := by decide +kernel
theorem dX8_production_142 : decode cX8_production 142 = .ok (.ireturn, 1) := by decide +kernel
theorem dX8_production_143 : decode cX8_production 143 = .ok (.new 114, 3) := by decide +kernel
theorem dX8_production_146 : decode cX8_production 146 = .ok (.dup, 1) := by decide +kernel
theorem dX8_production_147 : decode cX8_production 147 = .ok (.ldc 116, 2) := by decide +kernel
theorem dX8_production_149 : decode cX8_production 149 = .ok (.invokespecial 118, 3) := by decide +kernel
theorem dX8_production_152 : decode cX8_production 152 = .ok (.athrow, 1) := by decide +kernel
theorem dX8_perform_0 : decode cX8_perform 0 = .ok (.aload_n 0, 1) := by decide +kernel
theorem dX8_perform_1 : decode cX8_perform 1 = .ok (.getfield 22, 3) := by decide +kernel
theorem dX8_perform_4 : decode cX8_perform 4 = .ok (.aload_n 0, 1) := by decide +kernel
theorem dX8_perform_5 : decode cX8_perform 5 = .ok (.getfield 10, 3) := by decide +kernel
theorem dX8_perform_8 : decode cX8_perform 8 = .ok (.invokevirtual 43, 3) := by decide +kernel
theorem dX8_perform_11 : decode cX8_perform 11 = .ok (.aload_n 0, 1) := by decide +kernel
theorem dX8_perform_12 : decode cX8_perform 12 = .ok (.aload_n 0, 1) := by decide +kernel
theorem dX8_perform_13 : decode cX8_perform 13 = .ok (.getfield 10, 3) := by decide +kernel
theorem dX8_perform_16 : decode cX8_perform 16 = .ok (.iload_n 1, 1) := by decide +kernel
theorem dX8_perform_17 : decode cX8_perform 17 = .ok (.iload_n 2, 1) := by decide +kernel
theorem dX8_perform_18 : decode cX8_perform 18 = .ok (.iload_n 3, 1) := by decide +kernel
theorem dX8_perform_19 : decode cX8_perform 19 = .ok (.invokevirtual 121, 3) := by decide +kernel
theorem dX8_perform_22 : decode cX8_perform 22 = .ok (.invokevirtual 51, 3) := by decide +kernel
theorem dX8_perform_25 : decode cX8_perform 25 = .ok (.ireturn, 1) := by decide +kernel
theorem dX8_cancel_0 : decode cX8_cancel 0 = .ok (.aload_n 0, 1) := by decide +kernel
theorem dX8_cancel_1 : decode cX8_cancel 1 = .ok (.getfield 22, 3) := by decide +kernel
theorem dX8_cancel_4 : decode cX8_cancel 4 = .ok (.aload_n 0, 1) := by decide +kernel
theorem dX8_cancel_5 : decode cX8_cancel 5 = .ok (.getfield 10, 3) := by decide +kernel
theorem dX8_cancel_8 : decode cX8_cancel 8 = .ok (.invokevirtual 43, 3) := by decide +kernel
theorem dX8_cancel_11 : decode cX8_cancel 11 = .ok (.aload_n 0, 1) := by decide +kernel
theorem dX8_cancel_12 : decode cX8_cancel 12 = .ok (.aload_n 0, 1) := by decide +kernel
theorem dX8_cancel_13 : decode cX8_cancel 13 = .ok (.getfield 10, 3) := by decide +kernel
theorem dX8_cancel_16 : decode cX8_cancel 16 = .ok (.iload_n 1, 1) := by decide +kernel
theorem dX8_cancel_17 : decode cX8_cancel 17 = .ok (.invokevirtual 125, 3) := by decide +kernel
theorem dX8_cancel_20 : decode cX8_cancel 20 = .ok (.invokevirtual 51, 3) := by decide +kernel
theorem dX8_cancel_23 : decode cX8_cancel 23 = .ok (.ireturn, 1) := by decide +kernel
theorem dX8_move_0 : decode cX8_move 0 = .ok (.aload_n 0, 1) := by decide +kernel
theorem dX8_move_1 : decode cX8_move 1 = .ok (.getfield 22, 3) := by decide +kernel
theorem dX8_move_4 : decode cX8_move 4 = .ok (.aload_n 0, 1) := by decide +kernel
theorem dX8_move_5 : decode cX8_move 5 = .ok (.getfield 10, 3) := by decide +kernel
theorem dX8_move_8 : decode cX8_move 8 = .ok (.invokevirtual 43, 3) := by decide +kernel
theorem dX8_move_11 : decode cX8_move 11 = .ok (.aload_n 0, 1) := by decide +kernel
theorem dX8_move_12 : decode cX8_move 12 = .ok (.aload_n 0, 1) := by decide +kernel
theorem dX8_move_13 : decode cX8_move 13 = .ok (.getfield 10, 3) := by decide +kernel
theorem dX8_move_16 : decode cX8_move 16 = .ok (.iload_n 1, 1) := by decide +kernel
theorem dX8_move_17 : decode cX8_move 17 = .ok (.iload_n 2, 1) := by decide +kernel
theorem dX8_move_18 : decode cX8_move 18 = .ok (.invokevirtual 128, 3) := by decide +kernel
theorem dX8_move_21 : decode cX8_move 21 = .ok (.invokevirtual 51, 3) := by decide +kernel
theorem dX8_move_24 : decode cX8_move 24 = .ok (.ireturn, 1) := by decide +kernel
theorem dX8_performance_0 : decode cX8_performance 0 = .ok (.aload_n 0, 1) := by decide +kernel
theorem dX8_performance_1 : decode cX8_performance 1 = .ok (.getfield 10, 3) := by decide +kernel
theorem dX8_performance_4 : decode cX8_performance 4 = .ok (.getfield 131, 3) := by decide +kernel
theorem dX8_performance_7 : decode cX8_performance 7 = .ok (.iload_n 1, 1) := by decide +kernel
theorem dX8_performance_8 : decode cX8_performance 8 = .ok (.invokevirtual 135, 3) := by decide +kernel
theorem dX8_performance_11 : decode cX8_performance 11 = .ok (.invokestatic 75, 3) := by decide +kernel
theorem dX8_performance_14 : decode cX8_performance 14 = .ok (.aload_n 0, 1) := by decide +kernel
theorem dX8_performance_15 : decode cX8_performance 15 = .ok (.getfield 10, 3) := by decide +kernel
theorem dX8_performance_18 : decode cX8_performance 18 = .ok (.getfield 131, 3) := by decide +kernel
theorem dX8_performance_21 : decode cX8_performance 21 = .ok (.astore_n 3, 1) := by decide +kernel
theorem dX8_performance_22 : decode cX8_performance 22 = .ok (.iload_n 2, 1) := by decide +kernel
theorem dX8_performance_23 : decode cX8_performance 23 = .ok (.tableswitch 123 0 7 #[45, 54, 63, 72, 82, 92, 102, 114], 45) := by decide +kernel
theorem dX8_performance_68 : decode cX8_performance 68 = .ok (.aload_n 3, 1) := by decide +kernel
theorem dX8_performance_69 : decode cX8_performance 69 = .ok (.getfield 138, 3) := by decide +kernel
theorem dX8_performance_72 : decode cX8_performance 72 = .ok (.iload_n 1, 1) := by decide +kernel
theorem dX8_performance_73 : decode cX8_performance 73 = .ok (.invokevirtual 83, 3) := by decide +kernel
theorem dX8_performance_76 : decode cX8_performance 76 = .ok (.ireturn, 1) := by decide +kernel
theorem dX8_performance_77 : decode cX8_performance 77 = .ok (.aload_n 3, 1) := by decide +kernel
theorem dX8_performance_78 : decode cX8_performance 78 = .ok (.getfield 140, 3) := by decide +kernel
theorem dX8_performance_81 : decode cX8_performance 81 = .ok (.iload_n 1, 1) := by decide +kernel
theorem dX8_performance_82 : decode cX8_performance 82 = .ok (.invokevirtual 83, 3) := by decide +kernel
theorem dX8_performance_85 : decode cX8_performance 85 = .ok (.ireturn, 1) := by decide +kernel
theorem dX8_performance_86 : decode cX8_performance 86 = .ok (.aload_n 3, 1) := by decide +kernel
theorem dX8_performance_87 : decode cX8_performance 87 = .ok (.getfield 143, 3) := by decide +kernel
theorem dX8_performance_90 : decode cX8_performance 90 = .ok (.iload_n 1, 1) := by decide +kernel
theorem dX8_performance_91 : decode cX8_performance 91 = .ok (.invokevirtual 83, 3) := by decide +kernel
theorem dX8_performance_94 : decode cX8_performance 94 = .ok (.ireturn, 1) := by decide +kernel
theorem dX8_performance_95 : decode cX8_performance 95 = .ok (.aload_n 0, 1) := by decide +kernel
theorem dX8_performance_96 : decode cX8_performance 96 = .ok (.getfield 10, 3) := by decide +kernel
theorem dX8_performance_99 : decode cX8_performance 99 = .ok (.iload_n 1, 1) := by decide +kernel
theorem dX8_performance_100 : decode cX8_performance 100 = .ok (.iconst 0, 1) := by decide +kernel
theorem dX8_performance_101 : decode cX8_performance 101 = .ok (.invokevirtual 144, 3) := by decide +kernel
theorem dX8_performance_104 : decode cX8_performance 104 = .ok (.ireturn, 1) := by decide +kernel
theorem dX8_performance_105 : decode cX8_performance 105 = .ok (.aload_n 0, 1) := by decide +kernel
theorem dX8_performance_106 : decode cX8_performance 106 = .ok (.getfield 10, 3) := by decide +kernel
theorem dX8_performance_109 : decode cX8_performance 109 = .ok (.iload_n 1, 1) := by decide +kernel
theorem dX8_performance_110 : decode cX8_performance 110 = .ok (.iconst 1, 1) := by decide +kernel
theorem dX8_performance_111 : decode cX8_performance 111 = .ok (.invokevirtual 144, 3) := by decide +kernel
theorem dX8_performance_114 : decode cX8_performance 114 = .ok (.ireturn, 1) := by decide +kernel
theorem dX8_performance_115 : decode cX8_performance 115 = .ok (.aload_n 0, 1) := by decide +kernel
theorem dX8_performance_116 : decode cX8_performance 116 = .ok (.getfield 10, 3) := by decide +kernel
theorem dX8_performance_119 : decode cX8_performance 119 = .ok (.iload_n 1, 1) := by decide +kernel
theorem dX8_performance_120 : decode cX8_performance 120 = .ok (.iconst 2, 1) := by decide +kernel
theorem dX8_performance_121 : decode cX8_performance 121 = .ok (.invokevirtual 144, 3) := by decide +kernel
theorem dX8_performance_124 : decode cX8_performance 124 = .ok (.ireturn, 1) := by decide +kernel
theorem dX8_performance_125 : decode cX8_performance 125 = .ok (.aload_n 0, 1) := by decide +kernel
theorem dX8_performance_126 : decode cX8_performance 126 = .ok (.getfield 10, 3) := by decide +kernel
theorem dX8_performance_129 : decode cX8_performance 129 = .ok (.getfield 147, 3) := by decide +kernel
theorem dX8_performance_132 : decode cX8_performance 132 = .ok (.iload_n 1, 1) := by decide +kernel
theorem dX8_performance_133 : decode cX8_performance 133 = .ok (.invokevirtual 151, 3) := by decide +kernel
theorem dX8_performance_136 : decode cX8_performance 136 = .ok (.ireturn, 1) := by decide +kernel
theorem dX8_performance_137 : decode cX8_performance 137 = .ok (.aload_n 3, 1) := by decide +kernel
theorem dX8_performance_138 : decode cX8_performance 138 = .ok (.getfield 156, 3) := by decide +kernel
theorem dX8_performance_141 : decode cX8_performance 141 = .ok (.iload_n 1, 1) := by decide +kernel
theorem dX8_performance_142 : decode cX8_performance 142 = .ok (.invokevirtual 83, 3) := by decide +kernel
theorem dX8_performance_145 : decode cX8_performance 145 = .ok (.ireturn, 1) := by decide +kernel
theorem dX8_performance_146 : decode cX8_performance 146 = .ok (.new 114, 3) := by decide +kernel
theorem dX8_performance_149 : decode cX8_performance 149 = .ok (.dup, 1) := by decide +kernel
theorem dX8_performance_150 : decode cX8_performance 150 = .ok (.ldc 116, 2) := by decide +kernel
theorem dX8_performance_152 : decode cX8_performance 152 = .ok (.invokespecial 118, 3) := by decide +kernel
theorem dX8_performance_155 : decode cX8_performance 155 = .ok (.athrow, 1) := by decide +kernel
theorem dX8_on_0 : decode cX8_on 0 = .ok (.iload_n 1, 1) := by decide +kernel
theorem dX8_on_1 : decode cX8_on 1 = .ok (.invokestatic 159, 3) := by decide +kernel
theorem dX8_on_4 : decode cX8_on 4 = .ok (.invokestatic 75, 3) := by decide +kernel
theorem dX8_on_7 : decode cX8_on 7 = .ok (.iload_n 2, 1) := by decide +kernel
theorem dX8_on_8 : decode cX8_on 8 = .ok (.invokestatic 162, 3) := by decide +kernel
theorem dX8_on_11 : decode cX8_on 11 = .ok (.invokestatic 165, 3) := by decide +kernel
theorem dX8_on_14 : decode cX8_on 14 = .ok (.aload_n 0, 1) := by decide +kernel
theorem dX8_on_15 : decode cX8_on 15 = .ok (.getfield 10, 3) := by decide +kernel
theorem dX8_on_18 : decode cX8_on 18 = .ok (.getfield 131, 3) := by decide +kernel
theorem dX8_on_21 : decode cX8_on 21 = .ok (.iload_n 1, 1) := by decide +kernel
theorem dX8_on_22 : decode cX8_on 22 = .ok (.iload_n 2, 1) := by decide +kernel
theorem dX8_on_23 : decode cX8_on 23 = .ok (.invokevirtual 168, 3) := by decide +kernel
theorem dX8_on_26 : decode cX8_on 26 = .ok (.istore_n 3, 1) := by decide +kernel
theorem dX8_on_27 : decode cX8_on 27 = .ok (.iload_n 3, 1) := by decide +kernel
theorem dX8_on_28 : decode cX8_on 28 = .ok (.iconst (-1), 1) := by decide +kernel
theorem dX8_on_29 : decode cX8_on 29 = .ok (.if_icmp .ne 13, 3) := by decide +kernel
theorem dX8_on_32 : decode cX8_on 32 = .ok (.new 171, 3) := by decide +kernel
theorem dX8_on_35 : decode cX8_on 35 = .ok (.dup, 1) := by decide +kernel
theorem dX8_on_36 : decode cX8_on 36 = .ok (.ldc 173, 2) := by decide +kernel
theorem dX8_on_38 : decode cX8_on 38 = .ok (.invokespecial 175, 3) := by decide +kernel
theorem dX8_on_41 : decode cX8_on 41 = .ok (.athrow, 1) := by decide +kernel
theorem dX8_on_42 : decode cX8_on 42 = .ok (.iload_n 3, 1) := by decide +kernel
theorem dX8_on_43 : decode cX8_on 43 = .ok (.ireturn, 1) := by decide +kernel
theorem dX8_nextDate_0 : decode cX8_nextDate 0 = .ok (.aload_n 0, 1) := by decide +kernel
theorem dX8_nextDate_1 : decode cX8_nextDate 1 = .ok (.getfield 10, 3) := by decide +kernel
theorem dX8_nextDate_4 : decode cX8_nextDate 4 = .ok (.getfield 65, 3) := by decide +kernel
theorem dX8_nextDate_7 : decode cX8_nextDate 7 = .ok (.iload_n 1, 1) := by decide +kernel
theorem dX8_nextDate_8 : decode cX8_nextDate 8 = .ok (.invokevirtual 69, 3) := by decide +kernel
theorem dX8_nextDate_11 : decode cX8_nextDate 11 = .ok (.ifCond .eq 14, 3) := by decide +kernel
theorem dX8_nextDate_14 : decode cX8_nextDate 14 = .ok (.iload_n 2, 1) := by decide +kernel
theorem dX8_nextDate_15 : decode cX8_nextDate 15 = .ok (.invokestatic 159, 3) := by decide +kernel
theorem dX8_nextDate_18 : decode cX8_nextDate 18 = .ok (.ifCond .eq 7, 3) := by decide +kernel
theorem dX8_nextDate_21 : decode cX8_nextDate 21 = .ok (.iconst 1, 1) := by decide +kernel
theorem dX8_nextDate_22 : decode cX8_nextDate 22 = .ok (.goto 4, 3) := by decide +kernel
theorem dX8_nextDate_25 : decode cX8_nextDate 25 = .ok (.iconst 0, 1) := by decide +kernel
theorem dX8_nextDate_26 : decode cX8_nextDate 26 = .ok (.invokestatic 75, 3) := by decide +kernel
theorem dX8_nextDate_29 : decode cX8_nextDate 29 = .ok (.iload_n 3, 1) := by decide +kernel
theorem dX8_nextDate_30 : decode cX8_nextDate 30 = .ok (.invokestatic 162, 3) := by decide +kernel
theorem dX8_nextDate_33 : decode cX8_nextDate 33 = .ok (.invokestatic 165, 3) := by decide +kernel
theorem dX8_nextDate_36 : decode cX8_nextDate 36 = .ok (.iload_n 3, 1) := by decide +kernel
theorem dX8_nextDate_37 : decode cX8_nextDate 37 = .ok (.istore 4, 2) := by decide +kernel
theorem dX8_nextDate_39 : decode cX8_nextDate 39 = .ok (.iload 4, 2) := by decide +kernel
theorem dX8_nextDate_41 : decode cX8_nextDate 41 = .ok (.bipush 30, 2) := by decide +kernel
theorem dX8_nextDate_43 : decode cX8_nextDate 43 = .ok (.if_icmp .ge 27, 3) := by decide +kernel
theorem dX8_nextDate_46 : decode cX8_nextDate 46 = .ok (.aload_n 0, 1) := by decide +kernel
theorem dX8_nextDate_47 : decode cX8_nextDate 47 = .ok (.getfield 10, 3) := by decide +kernel
theorem dX8_nextDate_50 : decode cX8_nextDate 50 = .ok (.iconst (-1), 1) := by decide +kernel
theorem dX8_nextDate_51 : decode cX8_nextDate 51 = .ok (.iload_n 1, 1) := by decide +kernel
theorem dX8_nextDate_52 : decode cX8_nextDate 52 = .ok (.iload_n 2, 1) := by decide +kernel
theorem dX8_nextDate_53 : decode cX8_nextDate 53 = .ok (.iload 4, 2) := by decide +kernel
theorem dX8_nextDate_55 : decode cX8_nextDate 55 = .ok (.invokevirtual 176, 3) := by decide +kernel
theorem dX8_nextDate_58 : decode cX8_nextDate 58 = .ok (.ifCond .ne 6, 3) := by decide +kernel
theorem dX8_nextDate_61 : decode cX8_nextDate 61 = .ok (.iload 4, 2) := by decide +kernel
theorem dX8_nextDate_63 : decode cX8_nextDate 63 = .ok (.ireturn, 1) := by decide +kernel
theorem dX8_nextDate_64 : decode cX8_nextDate 64 = .ok (.iinc 4 1, 3) := by decide +kernel
theorem dX8_nextDate_67 : decode cX8_nextDate 67 = .ok (.goto (-28), 3) := by decide +kernel
theorem dX8_nextDate_70 : decode cX8_nextDate 70 = .ok (.new 171, 3) := by decide +kernel
theorem dX8_nextDate_73 : decode cX8_nextDate 73 = .ok (.dup, 1) := by decide +kernel
theorem dX8_nextDate_74 : decode cX8_nextDate 74 = .ok (.ldc 179, 2) := by decide +kernel
theorem dX8_nextDate_76 : decode cX8_nextDate 76 = .ok (.invokespecial 175, 3) := by decide +kernel
theorem dX8_nextDate_79 : decode cX8_nextDate 79 = .ok (.athrow, 1) := by decide +kernel
theorem dX8_bestMove_0 : decode cX8_bestMove 0 = .ok (.aload_n 0, 1) := by decide +kernel
theorem dX8_bestMove_1 : decode cX8_bestMove 1 = .ok (.getfield 10, 3) := by decide +kernel
theorem dX8_bestMove_4 : decode cX8_bestMove 4 = .ok (.getfield 131, 3) := by decide +kernel
theorem dX8_bestMove_7 : decode cX8_bestMove 7 = .ok (.iload_n 1, 1) := by decide +kernel
theorem dX8_bestMove_8 : decode cX8_bestMove 8 = .ok (.invokevirtual 135, 3) := by decide +kernel
theorem dX8_bestMove_11 : decode cX8_bestMove 11 = .ok (.invokestatic 75, 3) := by decide +kernel
theorem dX8_bestMove_14 : decode cX8_bestMove 14 = .ok (.aload_n 0, 1) := by decide +kernel
theorem dX8_bestMove_15 : decode cX8_bestMove 15 = .ok (.getfield 10, 3) := by decide +kernel
theorem dX8_bestMove_18 : decode cX8_bestMove 18 = .ok (.iload_n 1, 1) := by decide +kernel
theorem dX8_bestMove_19 : decode cX8_bestMove 19 = .ok (.invokevirtual 181, 3) := by decide +kernel
theorem dX8_bestMove_22 : decode cX8_bestMove 22 = .ok (.istore_n 2, 1) := by decide +kernel
theorem dX8_bestMove_23 : decode cX8_bestMove 23 = .ok (.iload_n 2, 1) := by decide +kernel
theorem dX8_bestMove_24 : decode cX8_bestMove 24 = .ok (.iconst (-1), 1) := by decide +kernel
theorem dX8_bestMove_25 : decode cX8_bestMove 25 = .ok (.if_icmp .ne 13, 3) := by decide +kernel
theorem dX8_bestMove_28 : decode cX8_bestMove 28 = .ok (.new 171, 3) := by decide +kernel
theorem dX8_bestMove_31 : decode cX8_bestMove 31 = .ok (.dup, 1) := by decide +kernel
theorem dX8_bestMove_32 : decode cX8_bestMove 32 = .ok (.ldc 184, 2) := by decide +kernel
theorem dX8_bestMove_34 : decode cX8_bestMove 34 = .ok (.invokespecial 175, 3) := by decide +kernel
theorem dX8_bestMove_37 : decode cX8_bestMove 37 = .ok (.athrow, 1) := by decide +kernel
theorem dX8_bestMove_38 : decode cX8_bestMove 38 = .ok (.iload_n 2, 1) := by decide +kernel
theorem dX8_bestMove_39 : decode cX8_bestMove 39 = .ok (.ireturn, 1) := by decide +kernel
theorem dX8_load_0 : decode cX8_load 0 = .ok (.iload_n 1, 1) := by decide +kernel
theorem dX8_load_1 : decode cX8_load 1 = .ok (.invokestatic 162, 3) := by decide +kernel
theorem dX8_load_4 : decode cX8_load 4 = .ok (.invokestatic 165, 3) := by decide +kernel
theorem dX8_load_7 : decode cX8_load 7 = .ok (.aload_n 0, 1) := by decide +kernel
theorem dX8_load_8 : decode cX8_load 8 = .ok (.getfield 10, 3) := by decide +kernel
theorem dX8_load_11 : decode cX8_load 11 = .ok (.getfield 65, 3) := by decide +kernel
theorem dX8_load_14 : decode cX8_load 14 = .ok (.iload_n 1, 1) := by decide +kernel
theorem dX8_load_15 : decode cX8_load 15 = .ok (.iconst (-1), 1) := by decide +kernel
theorem dX8_load_16 : decode cX8_load 16 = .ok (.iconst 0, 1) := by decide +kernel
theorem dX8_load_17 : decode cX8_load 17 = .ok (.invokevirtual 186, 3) := by decide +kernel
theorem dX8_load_20 : decode cX8_load 20 = .ok (.ireturn, 1) := by decide +kernel
theorem dX8_peak_0 : decode cX8_peak 0 = .ok (.aload_n 0, 1) := by decide +kernel
theorem dX8_peak_1 : decode cX8_peak 1 = .ok (.getfield 10, 3) := by decide +kernel
theorem dX8_peak_4 : decode cX8_peak 4 = .ok (.getfield 65, 3) := by decide +kernel
theorem dX8_peak_7 : decode cX8_peak 7 = .ok (.iconst (-1), 1) := by decide +kernel
theorem dX8_peak_8 : decode cX8_peak 8 = .ok (.iconst 0, 1) := by decide +kernel
theorem dX8_peak_9 : decode cX8_peak 9 = .ok (.invokevirtual 189, 3) := by decide +kernel
theorem dX8_peak_12 : decode cX8_peak 12 = .ok (.ireturn, 1) := by decide +kernel
theorem dX8_sell_0 : decode cX8_sell 0 = .ok (.aload_n 0, 1) := by decide +kernel
theorem dX8_sell_1 : decode cX8_sell 1 = .ok (.getfield 22, 3) := by decide +kernel
theorem dX8_sell_4 : decode cX8_sell 4 = .ok (.aload_n 0, 1) := by decide +kernel
theorem dX8_sell_5 : decode cX8_sell 5 = .ok (.getfield 10, 3) := by decide +kernel
theorem dX8_sell_8 : decode cX8_sell 8 = .ok (.invokevirtual 43, 3) := by decide +kernel
theorem dX8_sell_11 : decode cX8_sell 11 = .ok (.aload_n 0, 1) := by decide +kernel
theorem dX8_sell_12 : decode cX8_sell 12 = .ok (.aload_n 0, 1) := by decide +kernel
theorem dX8_sell_13 : decode cX8_sell 13 = .ok (.getfield 10, 3) := by decide +kernel
theorem dX8_sell_16 : decode cX8_sell 16 = .ok (.iload_n 1, 1) := by decide +kernel
theorem dX8_sell_17 : decode cX8_sell 17 = .ok (.iload_n 2, 1) := by decide +kernel
theorem dX8_sell_18 : decode cX8_sell 18 = .ok (.invokevirtual 192, 3) := by decide +kernel
theorem dX8_sell_21 : decode cX8_sell 21 = .ok (.invokevirtual 51, 3) := by decide +kernel
theorem dX8_sell_24 : decode cX8_sell 24 = .ok (.ireturn, 1) := by decide +kernel
theorem dX8_refund_0 : decode cX8_refund 0 = .ok (.aload_n 0, 1) := by decide +kernel
theorem dX8_refund_1 : decode cX8_refund 1 = .ok (.getfield 22, 3) := by decide +kernel
theorem dX8_refund_4 : decode cX8_refund 4 = .ok (.aload_n 0, 1) := by decide +kernel
theorem dX8_refund_5 : decode cX8_refund 5 = .ok (.getfield 10, 3) := by decide +kernel
theorem dX8_refund_8 : decode cX8_refund 8 = .ok (.invokevirtual 43, 3) := by decide +kernel
theorem dX8_refund_11 : decode cX8_refund 11 = .ok (.aload_n 0, 1) := by decide +kernel
theorem dX8_refund_12 : decode cX8_refund 12 = .ok (.aload_n 0, 1) := by decide +kernel
theorem dX8_refund_13 : decode cX8_refund 13 = .ok (.getfield 10, 3) := by decide +kernel
theorem dX8_refund_16 : decode cX8_refund 16 = .ok (.iload_n 1, 1) := by decide +kernel
theorem dX8_refund_17 : decode cX8_refund 17 = .ok (.iload_n 2, 1) := by decide +kernel
theorem dX8_refund_18 : decode cX8_refund 18 = .ok (.invokevirtual 195, 3) := by decide +kernel
theorem dX8_refund_21 : decode cX8_refund 21 = .ok (.invokevirtual 51, 3) := by decide +kernel
theorem dX8_refund_24 : decode cX8_refund 24 = .ok (.ireturn, 1) := by decide +kernel
theorem dX8_request_0 : decode cX8_request 0 = .ok (.aload_n 0, 1) := by decide +kernel
theorem dX8_request_1 : decode cX8_request 1 = .ok (.getfield 22, 3) := by decide +kernel
theorem dX8_request_4 : decode cX8_request 4 = .ok (.aload_n 0, 1) := by decide +kernel
theorem dX8_request_5 : decode cX8_request 5 = .ok (.getfield 10, 3) := by decide +kernel
theorem dX8_request_8 : decode cX8_request 8 = .ok (.invokevirtual 43, 3) := by decide +kernel
theorem dX8_request_11 : decode cX8_request 11 = .ok (.aload_n 0, 1) := by decide +kernel
theorem dX8_request_12 : decode cX8_request 12 = .ok (.aload_n 0, 1) := by decide +kernel
theorem dX8_request_13 : decode cX8_request 13 = .ok (.getfield 10, 3) := by decide +kernel
theorem dX8_request_16 : decode cX8_request 16 = .ok (.iload_n 1, 1) := by decide +kernel
theorem dX8_request_17 : decode cX8_request 17 = .ok (.iload_n 2, 1) := by decide +kernel
theorem dX8_request_18 : decode cX8_request 18 = .ok (.iload_n 3, 1) := by decide +kernel
theorem dX8_request_19 : decode cX8_request 19 = .ok (.invokevirtual 198, 3) := by decide +kernel
theorem dX8_request_22 : decode cX8_request 22 = .ok (.invokevirtual 51, 3) := by decide +kernel
theorem dX8_request_25 : decode cX8_request 25 = .ok (.ireturn, 1) := by decide +kernel
theorem dX8_waiting_0 : decode cX8_waiting 0 = .ok (.aload_n 0, 1) := by decide +kernel
theorem dX8_waiting_1 : decode cX8_waiting 1 = .ok (.getfield 10, 3) := by decide +kernel
theorem dX8_waiting_4 : decode cX8_waiting 4 = .ok (.getfield 131, 3) := by decide +kernel
theorem dX8_waiting_7 : decode cX8_waiting 7 = .ok (.iload_n 1, 1) := by decide +kernel
theorem dX8_waiting_8 : decode cX8_waiting 8 = .ok (.invokevirtual 135, 3) := by decide +kernel
theorem dX8_waiting_11 : decode cX8_waiting 11 = .ok (.invokestatic 75, 3) := by decide +kernel
theorem dX8_waiting_14 : decode cX8_waiting 14 = .ok (.aload_n 0, 1) := by decide +kernel
theorem dX8_waiting_15 : decode cX8_waiting 15 = .ok (.getfield 10, 3) := by decide +kernel
theorem dX8_waiting_18 : decode cX8_waiting 18 = .ok (.getfield 147, 3) := by decide +kernel
theorem dX8_waiting_21 : decode cX8_waiting 21 = .ok (.iload_n 1, 1) := by decide +kernel
theorem dX8_waiting_22 : decode cX8_waiting 22 = .ok (.iload_n 2, 1) := by decide +kernel
theorem dX8_waiting_23 : decode cX8_waiting 23 = .ok (.invokevirtual 201, 3) := by decide +kernel
theorem dX8_waiting_26 : decode cX8_waiting 26 = .ok (.istore 4, 2) := by decide +kernel
theorem dX8_waiting_28 : decode cX8_waiting 28 = .ok (.iload 4, 2) := by decide +kernel
theorem dX8_waiting_30 : decode cX8_waiting 30 = .ok (.iconst (-1), 1) := by decide +kernel
theorem dX8_waiting_31 : decode cX8_waiting 31 = .ok (.if_icmp .ne 13, 3) := by decide +kernel
theorem dX8_waiting_34 : decode cX8_waiting 34 = .ok (.new 171, 3) := by decide +kernel
theorem dX8_waiting_37 : decode cX8_waiting 37 = .ok (.dup, 1) := by decide +kernel
theorem dX8_waiting_38 : decode cX8_waiting 38 = .ok (.ldc 202, 2) := by decide +kernel
theorem dX8_waiting_40 : decode cX8_waiting 40 = .ok (.invokespecial 175, 3) := by decide +kernel
theorem dX8_waiting_43 : decode cX8_waiting 43 = .ok (.athrow, 1) := by decide +kernel
theorem dX8_waiting_44 : decode cX8_waiting 44 = .ok (.iload_n 3, 1) := by decide +kernel
theorem dX8_waiting_45 : decode cX8_waiting 45 = .ok (.ifCond .eq 21, 3) := by decide +kernel
theorem dX8_waiting_48 : decode cX8_waiting 48 = .ok (.aload_n 0, 1) := by decide +kernel
theorem dX8_waiting_49 : decode cX8_waiting 49 = .ok (.getfield 10, 3) := by decide +kernel
theorem dX8_waiting_52 : decode cX8_waiting 52 = .ok (.getfield 147, 3) := by decide +kernel
theorem dX8_waiting_55 : decode cX8_waiting 55 = .ok (.getfield 204, 3) := by decide +kernel
theorem dX8_waiting_58 : decode cX8_waiting 58 = .ok (.iload 4, 2) := by decide +kernel
theorem dX8_waiting_60 : decode cX8_waiting 60 = .ok (.invokevirtual 83, 3) := by decide +kernel
theorem dX8_waiting_63 : decode cX8_waiting 63 = .ok (.goto 18, 3) := by decide +kernel
theorem dX8_waiting_66 : decode cX8_waiting 66 = .ok (.aload_n 0, 1) := by decide +kernel
theorem dX8_waiting_67 : decode cX8_waiting 67 = .ok (.getfield 10, 3) := by decide +kernel
theorem dX8_waiting_70 : decode cX8_waiting 70 = .ok (.getfield 147, 3) := by decide +kernel
theorem dX8_waiting_73 : decode cX8_waiting 73 = .ok (.getfield 207, 3) := by decide +kernel
theorem dX8_waiting_76 : decode cX8_waiting 76 = .ok (.iload 4, 2) := by decide +kernel
theorem dX8_waiting_78 : decode cX8_waiting 78 = .ok (.invokevirtual 83, 3) := by decide +kernel
theorem dX8_waiting_81 : decode cX8_waiting 81 = .ok (.ireturn, 1) := by decide +kernel
theorem dX8_seats_0 : decode cX8_seats 0 = .ok (.iload_n 1, 1) := by decide +kernel
theorem dX8_seats_1 : decode cX8_seats 1 = .ok (.invokestatic 162, 3) := by decide +kernel
theorem dX8_seats_4 : decode cX8_seats 4 = .ok (.ifCond .eq 14, 3) := by decide +kernel
theorem dX8_seats_7 : decode cX8_seats 7 = .ok (.iload_n 2, 1) := by decide +kernel
theorem dX8_seats_8 : decode cX8_seats 8 = .ok (.invokestatic 210, 3) := by decide +kernel
theorem dX8_seats_11 : decode cX8_seats 11 = .ok (.ifCond .eq 7, 3) := by decide +kernel
theorem dX8_seats_14 : decode cX8_seats 14 = .ok (.iconst 1, 1) := by decide +kernel
theorem dX8_seats_15 : decode cX8_seats 15 = .ok (.goto 4, 3) := by decide +kernel
theorem dX8_seats_18 : decode cX8_seats 18 = .ok (.iconst 0, 1) := by decide +kernel
theorem dX8_seats_19 : decode cX8_seats 19 = .ok (.invokestatic 165, 3) := by decide +kernel
theorem dX8_seats_22 : decode cX8_seats 22 = .ok (.iconst 0, 1) := by decide +kernel
theorem dX8_seats_23 : decode cX8_seats 23 = .ok (.istore_n 3, 1) := by decide +kernel
theorem dX8_seats_24 : decode cX8_seats 24 = .ok (.iconst 0, 1) := by decide +kernel
theorem dX8_seats_25 : decode cX8_seats 25 = .ok (.istore 4, 2) := by decide +kernel
theorem dX8_seats_27 : decode cX8_seats 27 = .ok (.iload 4, 2) := by decide +kernel
theorem dX8_seats_29 : decode cX8_seats 29 = .ok (.aload_n 0, 1) := by decide +kernel
theorem dX8_seats_30 : decode cX8_seats 30 = .ok (.getfield 10, 3) := by decide +kernel
theorem dX8_seats_33 : decode cX8_seats 33 = .ok (.getfield 131, 3) := by decide +kernel
theorem dX8_seats_36 : decode cX8_seats 36 = .ok (.getfield 213, 3) := by decide +kernel
theorem dX8_seats_39 : decode cX8_seats 39 = .ok (.if_icmp .ge 41, 3) := by decide +kernel
theorem dX8_seats_42 : decode cX8_seats 42 = .ok (.aload_n 0, 1) := by decide +kernel
theorem dX8_seats_43 : decode cX8_seats 43 = .ok (.getfield 10, 3) := by decide +kernel
theorem dX8_seats_46 : decode cX8_seats 46 = .ok (.getfield 131, 3) := by decide +kernel
theorem dX8_seats_49 : decode cX8_seats 49 = .ok (.getfield 143, 3) := by decide +kernel
theorem dX8_seats_52 : decode cX8_seats 52 = .ok (.iload 4, 2) := by decide +kernel
theorem dX8_seats_54 : decode cX8_seats 54 = .ok (.invokevirtual 83, 3) := by decide +kernel
theorem dX8_seats_57 : decode cX8_seats 57 = .ok (.iload_n 1, 1) := by decide +kernel
theorem dX8_seats_58 : decode cX8_seats 58 = .ok (.if_icmp .ne 16, 3) := by decide +kernel
theorem dX8_seats_61 : decode cX8_seats 61 = .ok (.iload_n 3, 1) := by decide +kernel
theorem dX8_seats_62 : decode cX8_seats 62 = .ok (.aload_n 0, 1) := by decide +kernel
theorem dX8_seats_63 : decode cX8_seats 63 = .ok (.getfield 10, 3) := by decide +kernel
theorem dX8_seats_66 : decode cX8_seats 66 = .ok (.iload 4, 2) := by decide +kernel
theorem dX8_seats_68 : decode cX8_seats 68 = .ok (.iload_n 2, 1) := by decide +kernel
theorem dX8_seats_69 : decode cX8_seats 69 = .ok (.invokevirtual 144, 3) := by decide +kernel
theorem dX8_seats_72 : decode cX8_seats 72 = .ok (.iadd, 1) := by decide +kernel
theorem dX8_seats_73 : decode cX8_seats 73 = .ok (.istore_n 3, 1) := by decide +kernel
theorem dX8_seats_74 : decode cX8_seats 74 = .ok (.iinc 4 1, 3) := by decide +kernel
theorem dX8_seats_77 : decode cX8_seats 77 = .ok (.goto (-50), 3) := by decide +kernel
theorem dX8_seats_80 : decode cX8_seats 80 = .ok (.iload_n 3, 1) := by decide +kernel
theorem dX8_seats_81 : decode cX8_seats 81 = .ok (.ireturn, 1) := by decide +kernel
theorem dX8_seatsAgain_0 : decode cX8_seatsAgain 0 = .ok (.iload_n 1, 1) := by decide +kernel
theorem dX8_seatsAgain_1 : decode cX8_seatsAgain 1 = .ok (.invokestatic 162, 3) := by decide +kernel
theorem dX8_seatsAgain_4 : decode cX8_seatsAgain 4 = .ok (.ifCond .eq 14, 3) := by decide +kernel
theorem dX8_seatsAgain_7 : decode cX8_seatsAgain 7 = .ok (.iload_n 2, 1) := by decide +kernel
theorem dX8_seatsAgain_8 : decode cX8_seatsAgain 8 = .ok (.invokestatic 210, 3) := by decide +kernel
theorem dX8_seatsAgain_11 : decode cX8_seatsAgain 11 = .ok (.ifCond .eq 7, 3) := by decide +kernel
theorem dX8_seatsAgain_14 : decode cX8_seatsAgain 14 = .ok (.iconst 1, 1) := by decide +kernel
theorem dX8_seatsAgain_15 : decode cX8_seatsAgain 15 = .ok (.goto 4, 3) := by decide +kernel
theorem dX8_seatsAgain_18 : decode cX8_seatsAgain 18 = .ok (.iconst 0, 1) := by decide +kernel
theorem dX8_seatsAgain_19 : decode cX8_seatsAgain 19 = .ok (.invokestatic 165, 3) := by decide +kernel
theorem dX8_seatsAgain_22 : decode cX8_seatsAgain 22 = .ok (.iconst 0, 1) := by decide +kernel
theorem dX8_seatsAgain_23 : decode cX8_seatsAgain 23 = .ok (.istore_n 3, 1) := by decide +kernel
theorem dX8_seatsAgain_24 : decode cX8_seatsAgain 24 = .ok (.iconst 0, 1) := by decide +kernel
theorem dX8_seatsAgain_25 : decode cX8_seatsAgain 25 = .ok (.istore 4, 2) := by decide +kernel
theorem dX8_seatsAgain_27 : decode cX8_seatsAgain 27 = .ok (.iload 4, 2) := by decide +kernel
theorem dX8_seatsAgain_29 : decode cX8_seatsAgain 29 = .ok (.iconst 3, 1) := by decide +kernel
theorem dX8_seatsAgain_30 : decode cX8_seatsAgain 30 = .ok (.if_icmp .ge 23, 3) := by decide +kernel
theorem dX8_seatsAgain_33 : decode cX8_seatsAgain 33 = .ok (.iload_n 3, 1) := by decide +kernel
theorem dX8_seatsAgain_34 : decode cX8_seatsAgain 34 = .ok (.aload_n 0, 1) := by decide +kernel
theorem dX8_seatsAgain_35 : decode cX8_seatsAgain 35 = .ok (.getfield 10, 3) := by decide +kernel
theorem dX8_seatsAgain_38 : decode cX8_seatsAgain 38 = .ok (.iload 4, 2) := by decide +kernel
theorem dX8_seatsAgain_40 : decode cX8_seatsAgain 40 = .ok (.iload_n 1, 1) := by decide +kernel
theorem dX8_seatsAgain_41 : decode cX8_seatsAgain 41 = .ok (.iload_n 2, 1) := by decide +kernel
theorem dX8_seatsAgain_42 : decode cX8_seatsAgain 42 = .ok (.invokevirtual 216, 3) := by decide +kernel
theorem dX8_seatsAgain_45 : decode cX8_seatsAgain 45 = .ok (.iadd, 1) := by decide +kernel
theorem dX8_seatsAgain_46 : decode cX8_seatsAgain 46 = .ok (.istore_n 3, 1) := by decide +kernel
theorem dX8_seatsAgain_47 : decode cX8_seatsAgain 47 = .ok (.iinc 4 1, 3) := by decide +kernel
theorem dX8_seatsAgain_50 : decode cX8_seatsAgain 50 = .ok (.goto (-23), 3) := by decide +kernel
theorem dX8_seatsAgain_53 : decode cX8_seatsAgain 53 = .ok (.iload_n 3, 1) := by decide +kernel
theorem dX8_seatsAgain_54 : decode cX8_seatsAgain 54 = .ok (.ireturn, 1) := by decide +kernel
theorem dX8_subscribe_0 : decode cX8_subscribe 0 = .ok (.aload_n 0, 1) := by decide +kernel
theorem dX8_subscribe_1 : decode cX8_subscribe 1 = .ok (.getfield 22, 3) := by decide +kernel
theorem dX8_subscribe_4 : decode cX8_subscribe 4 = .ok (.aload_n 0, 1) := by decide +kernel
theorem dX8_subscribe_5 : decode cX8_subscribe 5 = .ok (.getfield 10, 3) := by decide +kernel
theorem dX8_subscribe_8 : decode cX8_subscribe 8 = .ok (.invokevirtual 43, 3) := by decide +kernel
theorem dX8_subscribe_11 : decode cX8_subscribe 11 = .ok (.aload_n 0, 1) := by decide +kernel
theorem dX8_subscribe_12 : decode cX8_subscribe 12 = .ok (.aload_n 0, 1) := by decide +kernel
theorem dX8_subscribe_13 : decode cX8_subscribe 13 = .ok (.getfield 10, 3) := by decide +kernel
theorem dX8_subscribe_16 : decode cX8_subscribe 16 = .ok (.iload_n 1, 1) := by decide +kernel
theorem dX8_subscribe_17 : decode cX8_subscribe 17 = .ok (.invokevirtual 219, 3) := by decide +kernel
theorem dX8_subscribe_20 : decode cX8_subscribe 20 = .ok (.invokevirtual 51, 3) := by decide +kernel
theorem dX8_subscribe_23 : decode cX8_subscribe 23 = .ok (.ireturn, 1) := by decide +kernel
theorem dX8_hold_0 : decode cX8_hold 0 = .ok (.aload_n 0, 1) := by decide +kernel
theorem dX8_hold_1 : decode cX8_hold 1 = .ok (.getfield 22, 3) := by decide +kernel
theorem dX8_hold_4 : decode cX8_hold 4 = .ok (.aload_n 0, 1) := by decide +kernel
theorem dX8_hold_5 : decode cX8_hold 5 = .ok (.getfield 10, 3) := by decide +kernel
theorem dX8_hold_8 : decode cX8_hold 8 = .ok (.invokevirtual 43, 3) := by decide +kernel
theorem dX8_hold_11 : decode cX8_hold 11 = .ok (.aload_n 0, 1) := by decide +kernel
theorem dX8_hold_12 : decode cX8_hold 12 = .ok (.aload_n 0, 1) := by decide +kernel
theorem dX8_hold_13 : decode cX8_hold 13 = .ok (.getfield 10, 3) := by decide +kernel
theorem dX8_hold_16 : decode cX8_hold 16 = .ok (.iload_n 1, 1) := by decide +kernel
theorem dX8_hold_17 : decode cX8_hold 17 = .ok (.iload_n 2, 1) := by decide +kernel
theorem dX8_hold_18 : decode cX8_hold 18 = .ok (.invokevirtual 222, 3) := by decide +kernel
theorem dX8_hold_21 : decode cX8_hold 21 = .ok (.invokevirtual 51, 3) := by decide +kernel
theorem dX8_hold_24 : decode cX8_hold 24 = .ok (.ireturn, 1) := by decide +kernel
theorem dX8_release_0 : decode cX8_release 0 = .ok (.aload_n 0, 1) := by decide +kernel
theorem dX8_release_1 : decode cX8_release 1 = .ok (.getfield 22, 3) := by decide +kernel
theorem dX8_release_4 : decode cX8_release 4 = .ok (.aload_n 0, 1) := by decide +kernel
theorem dX8_release_5 : decode cX8_release 5 = .ok (.getfield 10, 3) := by decide +kernel
theorem dX8_release_8 : decode cX8_release 8 = .ok (.invokevirtual 43, 3) := by decide +kernel
theorem dX8_release_11 : decode cX8_release 11 = .ok (.aload_n 0, 1) := by decide +kernel
theorem dX8_release_12 : decode cX8_release 12 = .ok (.aload_n 0, 1) := by decide +kernel
theorem dX8_release_13 : decode cX8_release 13 = .ok (.getfield 10, 3) := by decide +kernel
theorem dX8_release_16 : decode cX8_release 16 = .ok (.iload_n 1, 1) := by decide +kernel
theorem dX8_release_17 : decode cX8_release 17 = .ok (.iload_n 2, 1) := by decide +kernel
theorem dX8_release_18 : decode cX8_release 18 = .ok (.invokevirtual 225, 3) := by decide +kernel
theorem dX8_release_21 : decode cX8_release 21 = .ok (.invokevirtual 51, 3) := by decide +kernel
theorem dX8_release_24 : decode cX8_release 24 = .ok (.ireturn, 1) := by decide +kernel
theorem dX8_exchange_0 : decode cX8_exchange 0 = .ok (.aload_n 0, 1) := by decide +kernel
theorem dX8_exchange_1 : decode cX8_exchange 1 = .ok (.getfield 22, 3) := by decide +kernel
theorem dX8_exchange_4 : decode cX8_exchange 4 = .ok (.aload_n 0, 1) := by decide +kernel
theorem dX8_exchange_5 : decode cX8_exchange 5 = .ok (.getfield 10, 3) := by decide +kernel
theorem dX8_exchange_8 : decode cX8_exchange 8 = .ok (.invokevirtual 43, 3) := by decide +kernel
theorem dX8_exchange_11 : decode cX8_exchange 11 = .ok (.aload_n 0, 1) := by decide +kernel
theorem dX8_exchange_12 : decode cX8_exchange 12 = .ok (.aload_n 0, 1) := by decide +kernel
theorem dX8_exchange_13 : decode cX8_exchange 13 = .ok (.getfield 10, 3) := by decide +kernel
theorem dX8_exchange_16 : decode cX8_exchange 16 = .ok (.iload_n 1, 1) := by decide +kernel
theorem dX8_exchange_17 : decode cX8_exchange 17 = .ok (.iload_n 2, 1) := by decide +kernel
theorem dX8_exchange_18 : decode cX8_exchange 18 = .ok (.iload_n 3, 1) := by decide +kernel
theorem dX8_exchange_19 : decode cX8_exchange 19 = .ok (.invokevirtual 228, 3) := by decide +kernel
theorem dX8_exchange_22 : decode cX8_exchange 22 = .ok (.invokevirtual 51, 3) := by decide +kernel
theorem dX8_exchange_25 : decode cX8_exchange 25 = .ok (.ireturn, 1) := by decide +kernel
theorem dX8_subscription_0 : decode cX8_subscription 0 = .ok (.aload_n 0, 1) := by decide +kernel
theorem dX8_subscription_1 : decode cX8_subscription 1 = .ok (.getfield 10, 3) := by decide +kernel
theorem dX8_subscription_4 : decode cX8_subscription 4 = .ok (.getfield 231, 3) := by decide +kernel
theorem dX8_subscription_7 : decode cX8_subscription 7 = .ok (.iload_n 1, 1) := by decide +kernel
theorem dX8_subscription_8 : decode cX8_subscription 8 = .ok (.invokevirtual 235, 3) := by decide +kernel
theorem dX8_subscription_11 : decode cX8_subscription 11 = .ok (.invokestatic 75, 3) := by decide +kernel
theorem dX8_subscription_14 : decode cX8_subscription 14 = .ok (.aload_n 0, 1) := by decide +kernel
theorem dX8_subscription_15 : decode cX8_subscription 15 = .ok (.getfield 10, 3) := by decide +kernel
theorem dX8_subscription_18 : decode cX8_subscription 18 = .ok (.getfield 131, 3) := by decide +kernel
theorem dX8_subscription_21 : decode cX8_subscription 21 = .ok (.iload_n 1, 1) := by decide +kernel
theorem dX8_subscription_22 : decode cX8_subscription 22 = .ok (.invokevirtual 238, 3) := by decide +kernel
theorem dX8_subscription_25 : decode cX8_subscription 25 = .ok (.istore_n 3, 1) := by decide +kernel
theorem dX8_subscription_26 : decode cX8_subscription 26 = .ok (.iload_n 2, 1) := by decide +kernel
theorem dX8_subscription_27 : decode cX8_subscription 27 = .ok (.tableswitch 66 0 3 #[29, 44, 49, 64], 29) := by decide +kernel
theorem dX8_subscription_56 : decode cX8_subscription 56 = .ok (.aload_n 0, 1) := by decide +kernel
theorem dX8_subscription_57 : decode cX8_subscription 57 = .ok (.getfield 10, 3) := by decide +kernel
theorem dX8_subscription_60 : decode cX8_subscription 60 = .ok (.getfield 231, 3) := by decide +kernel
theorem dX8_subscription_63 : decode cX8_subscription 63 = .ok (.getfield 241, 3) := by decide +kernel
theorem dX8_subscription_66 : decode cX8_subscription 66 = .ok (.iload_n 1, 1) := by decide +kernel
theorem dX8_subscription_67 : decode cX8_subscription 67 = .ok (.invokevirtual 83, 3) := by decide +kernel
theorem dX8_subscription_70 : decode cX8_subscription 70 = .ok (.ireturn, 1) := by decide +kernel
theorem dX8_subscription_71 : decode cX8_subscription 71 = .ok (.iload_n 3, 1) := by decide +kernel
theorem dX8_subscription_72 : decode cX8_subscription 72 = .ok (.invokestatic 100, 3) := by decide +kernel
theorem dX8_subscription_75 : decode cX8_subscription 75 = .ok (.ireturn, 1) := by decide +kernel
theorem dX8_subscription_76 : decode cX8_subscription 76 = .ok (.aload_n 0, 1) := by decide +kernel
theorem dX8_subscription_77 : decode cX8_subscription 77 = .ok (.getfield 10, 3) := by decide +kernel
theorem dX8_subscription_80 : decode cX8_subscription 80 = .ok (.getfield 231, 3) := by decide +kernel
theorem dX8_subscription_83 : decode cX8_subscription 83 = .ok (.getfield 242, 3) := by decide +kernel
theorem dX8_subscription_86 : decode cX8_subscription 86 = .ok (.iload_n 1, 1) := by decide +kernel
theorem dX8_subscription_87 : decode cX8_subscription 87 = .ok (.invokevirtual 83, 3) := by decide +kernel
theorem dX8_subscription_90 : decode cX8_subscription 90 = .ok (.ireturn, 1) := by decide +kernel
theorem dX8_subscription_91 : decode cX8_subscription 91 = .ok (.iload_n 3, 1) := by decide +kernel
theorem dX8_subscription_92 : decode cX8_subscription 92 = .ok (.ireturn, 1) := by decide +kernel
theorem dX8_subscription_93 : decode cX8_subscription 93 = .ok (.new 114, 3) := by decide +kernel
theorem dX8_subscription_96 : decode cX8_subscription 96 = .ok (.dup, 1) := by decide +kernel
theorem dX8_subscription_97 : decode cX8_subscription 97 = .ok (.ldc 245, 2) := by decide +kernel
theorem dX8_subscription_99 : decode cX8_subscription 99 = .ok (.invokespecial 118, 3) := by decide +kernel
theorem dX8_subscription_102 : decode cX8_subscription 102 = .ok (.athrow, 1) := by decide +kernel
theorem dX8_partner_0 : decode cX8_partner 0 = .ok (.aload_n 0, 1) := by decide +kernel
theorem dX8_partner_1 : decode cX8_partner 1 = .ok (.getfield 10, 3) := by decide +kernel
theorem dX8_partner_4 : decode cX8_partner 4 = .ok (.getfield 65, 3) := by decide +kernel
theorem dX8_partner_7 : decode cX8_partner 7 = .ok (.iload_n 1, 1) := by decide +kernel
theorem dX8_partner_8 : decode cX8_partner 8 = .ok (.invokevirtual 69, 3) := by decide +kernel
theorem dX8_partner_11 : decode cX8_partner 11 = .ok (.invokestatic 75, 3) := by decide +kernel
theorem dX8_partner_14 : decode cX8_partner 14 = .ok (.aload_n 0, 1) := by decide +kernel
theorem dX8_partner_15 : decode cX8_partner 15 = .ok (.getfield 10, 3) := by decide +kernel
theorem dX8_partner_18 : decode cX8_partner 18 = .ok (.getfield 65, 3) := by decide +kernel
theorem dX8_partner_21 : decode cX8_partner 21 = .ok (.getfield 97, 3) := by decide +kernel
theorem dX8_partner_24 : decode cX8_partner 24 = .ok (.iload_n 1, 1) := by decide +kernel
theorem dX8_partner_25 : decode cX8_partner 25 = .ok (.invokevirtual 83, 3) := by decide +kernel
theorem dX8_partner_28 : decode cX8_partner 28 = .ok (.istore_n 2, 1) := by decide +kernel
theorem dX8_partner_29 : decode cX8_partner 29 = .ok (.aload_n 0, 1) := by decide +kernel
theorem dX8_partner_30 : decode cX8_partner 30 = .ok (.getfield 10, 3) := by decide +kernel
theorem dX8_partner_33 : decode cX8_partner 33 = .ok (.iload_n 1, 1) := by decide +kernel
theorem dX8_partner_34 : decode cX8_partner 34 = .ok (.invokevirtual 111, 3) := by decide +kernel
theorem dX8_partner_37 : decode cX8_partner 37 = .ok (.i2f, 1) := by decide +kernel
theorem dX8_partner_38 : decode cX8_partner 38 = .ok (.iload_n 2, 1) := by decide +kernel
theorem dX8_partner_39 : decode cX8_partner 39 = .ok (.i2f, 1) := by decide +kernel
theorem dX8_partner_40 : decode cX8_partner 40 = .ok (.fmul, 1) := by decide +kernel
theorem dX8_partner_41 : decode cX8_partner 41 = .ok (.ldc 247, 2) := by decide +kernel
theorem dX8_partner_43 : decode cX8_partner 43 = .ok (.fdiv, 1) := by decide +kernel
theorem dX8_partner_44 : decode cX8_partner 44 = .ok (.freturn, 1) := by decide +kernel
theorem dX8_fullness_0 : decode cX8_fullness 0 = .ok (.aload_n 0, 1) := by decide +kernel
theorem dX8_fullness_1 : decode cX8_fullness 1 = .ok (.getfield 10, 3) := by decide +kernel
theorem dX8_fullness_4 : decode cX8_fullness 4 = .ok (.getfield 65, 3) := by decide +kernel
theorem dX8_fullness_7 : decode cX8_fullness 7 = .ok (.iload_n 1, 1) := by decide +kernel
theorem dX8_fullness_8 : decode cX8_fullness 8 = .ok (.invokevirtual 69, 3) := by decide +kernel
theorem dX8_fullness_11 : decode cX8_fullness 11 = .ok (.invokestatic 75, 3) := by decide +kernel
theorem dX8_fullness_14 : decode cX8_fullness 14 = .ok (.aload_n 0, 1) := by decide +kernel
theorem dX8_fullness_15 : decode cX8_fullness 15 = .ok (.getfield 10, 3) := by decide +kernel
theorem dX8_fullness_18 : decode cX8_fullness 18 = .ok (.iload_n 1, 1) := by decide +kernel
theorem dX8_fullness_19 : decode cX8_fullness 19 = .ok (.iconst 1, 1) := by decide +kernel
theorem dX8_fullness_20 : decode cX8_fullness 20 = .ok (.invokevirtual 248, 3) := by decide +kernel
theorem dX8_fullness_23 : decode cX8_fullness 23 = .ok (.istore_n 2, 1) := by decide +kernel
theorem dX8_fullness_24 : decode cX8_fullness 24 = .ok (.iload_n 2, 1) := by decide +kernel
theorem dX8_fullness_25 : decode cX8_fullness 25 = .ok (.ifCond .gt 13, 3) := by decide +kernel
theorem dX8_fullness_28 : decode cX8_fullness 28 = .ok (.new 252, 3) := by decide +kernel
theorem dX8_fullness_31 : decode cX8_fullness 31 = .ok (.dup, 1) := by decide +kernel
theorem dX8_fullness_32 : decode cX8_fullness 32 = .ok (.ldc 254, 2) := by decide +kernel
theorem dX8_fullness_34 : decode cX8_fullness 34 = .ok (.invokespecial 256, 3) := by decide +kernel
theorem dX8_fullness_37 : decode cX8_fullness 37 = .ok (.athrow, 1) := by decide +kernel
theorem dX8_fullness_38 : decode cX8_fullness 38 = .ok (.aload_n 0, 1) := by decide +kernel
theorem dX8_fullness_39 : decode cX8_fullness 39 = .ok (.getfield 10, 3) := by decide +kernel
theorem dX8_fullness_42 : decode cX8_fullness 42 = .ok (.iload_n 1, 1) := by decide +kernel
theorem dX8_fullness_43 : decode cX8_fullness 43 = .ok (.iconst 0, 1) := by decide +kernel
theorem dX8_fullness_44 : decode cX8_fullness 44 = .ok (.invokevirtual 248, 3) := by decide +kernel
theorem dX8_fullness_47 : decode cX8_fullness 47 = .ok (.i2d, 1) := by decide +kernel
theorem dX8_fullness_48 : decode cX8_fullness 48 = .ok (.iload_n 2, 1) := by decide +kernel
theorem dX8_fullness_49 : decode cX8_fullness 49 = .ok (.i2d, 1) := by decide +kernel
theorem dX8_fullness_50 : decode cX8_fullness 50 = .ok (.ddiv, 1) := by decide +kernel
theorem dX8_fullness_51 : decode cX8_fullness 51 = .ok (.dreturn, 1) := by decide +kernel
theorem dX8_reason_0 : decode cX8_reason 0 = .ok (.aload_n 0, 1) := by decide +kernel
theorem dX8_reason_1 : decode cX8_reason 1 = .ok (.getfield 33, 3) := by decide +kernel
theorem dX8_reason_4 : decode cX8_reason 4 = .ok (.iconst (-1), 1) := by decide +kernel
theorem dX8_reason_5 : decode cX8_reason 5 = .ok (.if_icmp .ne 14, 3) := by decide +kernel
theorem dX8_reason_8 : decode cX8_reason 8 = .ok (.new 171, 3) := by decide +kernel
theorem dX8_reason_11 : decode cX8_reason 11 = .ok (.dup, 1) := by decide +kernel
theorem dX8_reason_12 : decode cX8_reason 12 = .ok (.ldc_w 257, 3) := by decide +kernel
theorem dX8_reason_15 : decode cX8_reason 15 = .ok (.invokespecial 175, 3) := by decide +kernel
theorem dX8_reason_18 : decode cX8_reason 18 = .ok (.athrow, 1) := by decide +kernel
theorem dX8_reason_19 : decode cX8_reason 19 = .ok (.iload_n 1, 1) := by decide +kernel
theorem dX8_reason_20 : decode cX8_reason 20 = .ok (.ifCond .eq 10, 3) := by decide +kernel
theorem dX8_reason_23 : decode cX8_reason 23 = .ok (.aload_n 0, 1) := by decide +kernel
theorem dX8_reason_24 : decode cX8_reason 24 = .ok (.getfield 37, 3) := by decide +kernel
theorem dX8_reason_27 : decode cX8_reason 27 = .ok (.goto 7, 3) := by decide +kernel
theorem dX8_reason_30 : decode cX8_reason 30 = .ok (.aload_n 0, 1) := by decide +kernel
theorem dX8_reason_31 : decode cX8_reason 31 = .ok (.getfield 33, 3) := by decide +kernel
theorem dX8_reason_34 : decode cX8_reason 34 = .ok (.ireturn, 1) := by decide +kernel
theorem dX8_account_0 : decode cX8_account 0 = .ok (.iload_n 1, 1) := by decide +kernel
theorem dX8_account_1 : decode cX8_account 1 = .ok (.tableswitch 222 0 14 #[75, 86, 97, 108, 119, 128, 137, 146, 154, 162, 170, 182, 194, 206, 214], 75) := by decide +kernel
theorem dX8_account_76 : decode cX8_account 76 = .ok (.aload_n 0, 1) := by decide +kernel
theorem dX8_account_77 : decode cX8_account 77 = .ok (.getfield 10, 3) := by decide +kernel
theorem dX8_account_80 : decode cX8_account 80 = .ok (.getfield 65, 3) := by decide +kernel
theorem dX8_account_83 : decode cX8_account 83 = .ok (.getfield 259, 3) := by decide +kernel
theorem dX8_account_86 : decode cX8_account 86 = .ok (.ireturn, 1) := by decide +kernel
theorem dX8_account_87 : decode cX8_account 87 = .ok (.aload_n 0, 1) := by decide +kernel
theorem dX8_account_88 : decode cX8_account 88 = .ok (.getfield 10, 3) := by decide +kernel
theorem dX8_account_91 : decode cX8_account 91 = .ok (.getfield 131, 3) := by decide +kernel
theorem dX8_account_94 : decode cX8_account 94 = .ok (.getfield 213, 3) := by decide +kernel
theorem dX8_account_97 : decode cX8_account 97 = .ok (.ireturn, 1) := by decide +kernel
theorem dX8_account_98 : decode cX8_account 98 = .ok (.aload_n 0, 1) := by decide +kernel
theorem dX8_account_99 : decode cX8_account 99 = .ok (.getfield 10, 3) := by decide +kernel
theorem dX8_account_102 : decode cX8_account 102 = .ok (.getfield 231, 3) := by decide +kernel
theorem dX8_account_105 : decode cX8_account 105 = .ok (.getfield 260, 3) := by decide +kernel
theorem dX8_account_108 : decode cX8_account 108 = .ok (.ireturn, 1) := by decide +kernel
theorem dX8_account_109 : decode cX8_account 109 = .ok (.aload_n 0, 1) := by decide +kernel
theorem dX8_account_110 : decode cX8_account 110 = .ok (.getfield 10, 3) := by decide +kernel
theorem dX8_account_113 : decode cX8_account 113 = .ok (.getfield 147, 3) := by decide +kernel
theorem dX8_account_116 : decode cX8_account 116 = .ok (.getfield 261, 3) := by decide +kernel
theorem dX8_account_119 : decode cX8_account 119 = .ok (.ireturn, 1) := by decide +kernel
theorem dX8_account_120 : decode cX8_account 120 = .ok (.aload_n 0, 1) := by decide +kernel
theorem dX8_account_121 : decode cX8_account 121 = .ok (.getfield 10, 3) := by decide +kernel
theorem dX8_account_124 : decode cX8_account 124 = .ok (.iconst 0, 1) := by decide +kernel
theorem dX8_account_125 : decode cX8_account 125 = .ok (.invokevirtual 262, 3) := by decide +kernel
theorem dX8_account_128 : decode cX8_account 128 = .ok (.ireturn, 1) := by decide +kernel
theorem dX8_account_129 : decode cX8_account 129 = .ok (.aload_n 0, 1) := by decide +kernel
theorem dX8_account_130 : decode cX8_account 130 = .ok (.getfield 10, 3) := by decide +kernel
theorem dX8_account_133 : decode cX8_account 133 = .ok (.iconst 1, 1) := by decide +kernel
theorem dX8_account_134 : decode cX8_account 134 = .ok (.invokevirtual 262, 3) := by decide +kernel
theorem dX8_account_137 : decode cX8_account 137 = .ok (.ireturn, 1) := by decide +kernel
theorem dX8_account_138 : decode cX8_account 138 = .ok (.aload_n 0, 1) := by decide +kernel
theorem dX8_account_139 : decode cX8_account 139 = .ok (.getfield 10, 3) := by decide +kernel
theorem dX8_account_142 : decode cX8_account 142 = .ok (.iconst 2, 1) := by decide +kernel
theorem dX8_account_143 : decode cX8_account 143 = .ok (.invokevirtual 262, 3) := by decide +kernel
theorem dX8_account_146 : decode cX8_account 146 = .ok (.ireturn, 1) := by decide +kernel
theorem dX8_account_147 : decode cX8_account 147 = .ok (.aload_n 0, 1) := by decide +kernel
theorem dX8_account_148 : decode cX8_account 148 = .ok (.getfield 10, 3) := by decide +kernel
theorem dX8_account_151 : decode cX8_account 151 = .ok (.getfield 265, 3) := by decide +kernel
theorem dX8_account_154 : decode cX8_account 154 = .ok (.ireturn, 1) := by decide +kernel
theorem dX8_account_155 : decode cX8_account 155 = .ok (.aload_n 0, 1) := by decide +kernel
theorem dX8_account_156 : decode cX8_account 156 = .ok (.getfield 10, 3) := by decide +kernel
theorem dX8_account_159 : decode cX8_account 159 = .ok (.getfield 268, 3) := by decide +kernel
theorem dX8_account_162 : decode cX8_account 162 = .ok (.ireturn, 1) := by decide +kernel
theorem dX8_account_163 : decode cX8_account 163 = .ok (.aload_n 0, 1) := by decide +kernel
theorem dX8_account_164 : decode cX8_account 164 = .ok (.getfield 10, 3) := by decide +kernel
theorem dX8_account_167 : decode cX8_account 167 = .ok (.invokevirtual 271, 3) := by decide +kernel
theorem dX8_account_170 : decode cX8_account 170 = .ok (.ireturn, 1) := by decide +kernel
theorem dX8_account_171 : decode cX8_account 171 = .ok (.aload_n 0, 1) := by decide +kernel
theorem dX8_account_172 : decode cX8_account 172 = .ok (.getfield 10, 3) := by decide +kernel
theorem dX8_account_175 : decode cX8_account 175 = .ok (.getfield 275, 3) := by decide +kernel
theorem dX8_account_178 : decode cX8_account 178 = .ok (.iconst 0, 1) := by decide +kernel
theorem dX8_account_179 : decode cX8_account 179 = .ok (.invokevirtual 83, 3) := by decide +kernel
theorem dX8_account_182 : decode cX8_account 182 = .ok (.ireturn, 1) := by decide +kernel
theorem dX8_account_183 : decode cX8_account 183 = .ok (.aload_n 0, 1) := by decide +kernel
theorem dX8_account_184 : decode cX8_account 184 = .ok (.getfield 10, 3) := by decide +kernel
theorem dX8_account_187 : decode cX8_account 187 = .ok (.getfield 275, 3) := by decide +kernel
theorem dX8_account_190 : decode cX8_account 190 = .ok (.iconst 1, 1) := by decide +kernel
theorem dX8_account_191 : decode cX8_account 191 = .ok (.invokevirtual 83, 3) := by decide +kernel
theorem dX8_account_194 : decode cX8_account 194 = .ok (.ireturn, 1) := by decide +kernel
theorem dX8_account_195 : decode cX8_account 195 = .ok (.aload_n 0, 1) := by decide +kernel
theorem dX8_account_196 : decode cX8_account 196 = .ok (.getfield 10, 3) := by decide +kernel
theorem dX8_account_199 : decode cX8_account 199 = .ok (.getfield 275, 3) := by decide +kernel
theorem dX8_account_202 : decode cX8_account 202 = .ok (.iconst 2, 1) := by decide +kernel
theorem dX8_account_203 : decode cX8_account 203 = .ok (.invokevirtual 83, 3) := by decide +kernel
theorem dX8_account_206 : decode cX8_account 206 = .ok (.ireturn, 1) := by decide +kernel
theorem dX8_account_207 : decode cX8_account 207 = .ok (.aload_n 0, 1) := by decide +kernel
theorem dX8_account_208 : decode cX8_account 208 = .ok (.getfield 29, 3) := by decide +kernel
theorem dX8_account_211 : decode cX8_account 211 = .ok (.getfield 278, 3) := by decide +kernel
theorem dX8_account_214 : decode cX8_account 214 = .ok (.ireturn, 1) := by decide +kernel
theorem dX8_account_215 : decode cX8_account 215 = .ok (.aload_n 0, 1) := by decide +kernel
theorem dX8_account_216 : decode cX8_account 216 = .ok (.getfield 22, 3) := by decide +kernel
theorem dX8_account_219 : decode cX8_account 219 = .ok (.getfield 281, 3) := by decide +kernel
theorem dX8_account_222 : decode cX8_account 222 = .ok (.ireturn, 1) := by decide +kernel
theorem dX8_account_223 : decode cX8_account 223 = .ok (.new 114, 3) := by decide +kernel
theorem dX8_account_226 : decode cX8_account 226 = .ok (.dup, 1) := by decide +kernel
theorem dX8_account_227 : decode cX8_account 227 = .ok (.ldc_w 282, 3) := by decide +kernel
theorem dX8_account_230 : decode cX8_account 230 = .ok (.invokespecial 118, 3) := by decide +kernel
theorem dX8_account_233 : decode cX8_account 233 = .ok (.athrow, 1) := by decide +kernel
theorem dX8_append_0 : decode cX8_append 0 = .ok (.iload_n 1, 1) := by decide +kernel
theorem dX8_append_1 : decode cX8_append 1 = .ok (.bipush 32, 2) := by decide +kernel
theorem dX8_append_3 : decode cX8_append 3 = .ok (.bipush 126, 2) := by decide +kernel
theorem dX8_append_5 : decode cX8_append 5 = .ok (.invokestatic 284, 3) := by decide +kernel
theorem dX8_append_8 : decode cX8_append 8 = .ok (.invokestatic 165, 3) := by decide +kernel
theorem dX8_append_11 : decode cX8_append 11 = .ok (.aload_n 0, 1) := by decide +kernel
theorem dX8_append_12 : decode cX8_append 12 = .ok (.getfield 29, 3) := by decide +kernel
theorem dX8_append_15 : decode cX8_append 15 = .ok (.iload_n 1, 1) := by decide +kernel
theorem dX8_append_16 : decode cX8_append 16 = .ok (.invokevirtual 288, 3) := by decide +kernel
theorem dX8_append_19 : decode cX8_append 19 = .ok (.ifCond .ne 14, 3) := by decide +kernel
theorem dX8_append_22 : decode cX8_append 22 = .ok (.new 292, 3) := by decide +kernel
theorem dX8_append_25 : decode cX8_append 25 = .ok (.dup, 1) := by decide +kernel
theorem dX8_append_26 : decode cX8_append 26 = .ok (.ldc_w 294, 3) := by decide +kernel
theorem dX8_append_29 : decode cX8_append 29 = .ok (.invokespecial 296, 3) := by decide +kernel
theorem dX8_append_32 : decode cX8_append 32 = .ok (.athrow, 1) := by decide +kernel
theorem dX8_append_33 : decode cX8_append 33 = .ok (.aload_n 0, 1) := by decide +kernel
theorem dX8_append_34 : decode cX8_append 34 = .ok (.getfield 29, 3) := by decide +kernel
theorem dX8_append_37 : decode cX8_append 37 = .ok (.getfield 278, 3) := by decide +kernel
theorem dX8_append_40 : decode cX8_append 40 = .ok (.ireturn, 1) := by decide +kernel
theorem dX8_read_0 : decode cX8_read 0 = .ok (.aload_n 0, 1) := by decide +kernel
theorem dX8_read_1 : decode cX8_read 1 = .ok (.getfield 29, 3) := by decide +kernel
theorem dX8_read_4 : decode cX8_read 4 = .ok (.invokevirtual 297, 3) := by decide +kernel
theorem dX8_read_7 : decode cX8_read 7 = .ok (.istore_n 1, 1) := by decide +kernel
theorem dX8_read_8 : decode cX8_read 8 = .ok (.iload_n 1, 1) := by decide +kernel
theorem dX8_read_9 : decode cX8_read 9 = .ok (.iconst (-1), 1) := by decide +kernel
theorem dX8_read_10 : decode cX8_read 10 = .ok (.if_icmp .eq 26, 3) := by decide +kernel
theorem dX8_read_13 : decode cX8_read 13 = .ok (.aload_n 0, 1) := by decide +kernel
theorem dX8_read_14 : decode cX8_read 14 = .ok (.iload_n 1, 1) := by decide +kernel
theorem dX8_read_15 : decode cX8_read 15 = .ok (.putfield 40, 3) := by decide +kernel
theorem dX8_read_18 : decode cX8_read 18 = .ok (.aload_n 0, 1) := by decide +kernel
theorem dX8_read_19 : decode cX8_read 19 = .ok (.getfield 29, 3) := by decide +kernel
theorem dX8_read_22 : decode cX8_read 22 = .ok (.invokevirtual 300, 3) := by decide +kernel
theorem dX8_read_25 : decode cX8_read 25 = .ok (.new 114, 3) := by decide +kernel
theorem dX8_read_28 : decode cX8_read 28 = .ok (.dup, 1) := by decide +kernel
theorem dX8_read_29 : decode cX8_read 29 = .ok (.ldc_w 303, 3) := by decide +kernel
theorem dX8_read_32 : decode cX8_read 32 = .ok (.invokespecial 118, 3) := by decide +kernel
theorem dX8_read_35 : decode cX8_read 35 = .ok (.athrow, 1) := by decide +kernel
theorem dX8_read_36 : decode cX8_read 36 = .ok (.aload_n 0, 1) := by decide +kernel
theorem dX8_read_37 : decode cX8_read 37 = .ok (.getfield 22, 3) := by decide +kernel
theorem dX8_read_40 : decode cX8_read 40 = .ok (.aload_n 0, 1) := by decide +kernel
theorem dX8_read_41 : decode cX8_read 41 = .ok (.getfield 10, 3) := by decide +kernel
theorem dX8_read_44 : decode cX8_read 44 = .ok (.invokevirtual 43, 3) := by decide +kernel
theorem dX8_read_47 : decode cX8_read 47 = .ok (.aload_n 0, 1) := by decide +kernel
theorem dX8_read_48 : decode cX8_read 48 = .ok (.invokevirtual 305, 3) := by decide +kernel
theorem dX8_read_51 : decode cX8_read 51 = .ok (.istore_n 2, 1) := by decide +kernel
theorem dX8_read_52 : decode cX8_read 52 = .ok (.aload_n 0, 1) := by decide +kernel
theorem dX8_read_53 : decode cX8_read 53 = .ok (.getfield 29, 3) := by decide +kernel
theorem dX8_read_56 : decode cX8_read 56 = .ok (.invokevirtual 300, 3) := by decide +kernel
theorem dX8_read_59 : decode cX8_read 59 = .ok (.iload_n 2, 1) := by decide +kernel
theorem dX8_read_60 : decode cX8_read 60 = .ok (.ifCond .ge 30, 3) := by decide +kernel
theorem dX8_read_63 : decode cX8_read 63 = .ok (.aload_n 0, 1) := by decide +kernel
theorem dX8_read_64 : decode cX8_read 64 = .ok (.getfield 22, 3) := by decide +kernel
theorem dX8_read_67 : decode cX8_read 67 = .ok (.aload_n 0, 1) := by decide +kernel
theorem dX8_read_68 : decode cX8_read 68 = .ok (.getfield 10, 3) := by decide +kernel
theorem dX8_read_71 : decode cX8_read 71 = .ok (.invokevirtual 308, 3) := by decide +kernel
theorem dX8_read_74 : decode cX8_read 74 = .ok (.aload_n 0, 1) := by decide +kernel
theorem dX8_read_75 : decode cX8_read 75 = .ok (.iload_n 2, 1) := by decide +kernel
theorem dX8_read_76 : decode cX8_read 76 = .ok (.invokevirtual 311, 3) := by decide +kernel
theorem dX8_read_79 : decode cX8_read 79 = .ok (.new 292, 3) := by decide +kernel
theorem dX8_read_82 : decode cX8_read 82 = .ok (.dup, 1) := by decide +kernel
theorem dX8_read_83 : decode cX8_read 83 = .ok (.ldc_w 315, 3) := by decide +kernel
theorem dX8_read_86 : decode cX8_read 86 = .ok (.invokespecial 296, 3) := by decide +kernel
theorem dX8_read_89 : decode cX8_read 89 = .ok (.athrow, 1) := by decide +kernel
theorem dX8_read_90 : decode cX8_read 90 = .ok (.aload_n 0, 1) := by decide +kernel
theorem dX8_read_91 : decode cX8_read 91 = .ok (.getfield 22, 3) := by decide +kernel
theorem dX8_read_94 : decode cX8_read 94 = .ok (.invokevirtual 317, 3) := by decide +kernel
theorem dX8_read_97 : decode cX8_read 97 = .ok (.iload_n 2, 1) := by decide +kernel
theorem dX8_read_98 : decode cX8_read 98 = .ok (.ireturn, 1) := by decide +kernel
theorem dX8_errorPosition_0 : decode cX8_errorPosition 0 = .ok (.aload_n 0, 1) := by decide +kernel
theorem dX8_errorPosition_1 : decode cX8_errorPosition 1 = .ok (.getfield 40, 3) := by decide +kernel
theorem dX8_errorPosition_4 : decode cX8_errorPosition 4 = .ok (.iconst (-1), 1) := by decide +kernel
theorem dX8_errorPosition_5 : decode cX8_errorPosition 5 = .ok (.if_icmp .ne 14, 3) := by decide +kernel
theorem dX8_errorPosition_8 : decode cX8_errorPosition 8 = .ok (.new 171, 3) := by decide +kernel
theorem dX8_errorPosition_11 : decode cX8_errorPosition 11 = .ok (.dup, 1) := by decide +kernel
theorem dX8_errorPosition_12 : decode cX8_errorPosition 12 = .ok (.ldc_w 320, 3) := by decide +kernel
theorem dX8_errorPosition_15 : decode cX8_errorPosition 15 = .ok (.invokespecial 175, 3) := by decide +kernel
theorem dX8_errorPosition_18 : decode cX8_errorPosition 18 = .ok (.athrow, 1) := by decide +kernel
theorem dX8_errorPosition_19 : decode cX8_errorPosition 19 = .ok (.aload_n 0, 1) := by decide +kernel
theorem dX8_errorPosition_20 : decode cX8_errorPosition 20 = .ok (.getfield 40, 3) := by decide +kernel
theorem dX8_errorPosition_23 : decode cX8_errorPosition 23 = .ok (.ireturn, 1) := by decide +kernel
theorem dX8_undo_0 : decode cX8_undo 0 = .ok (.aload_n 0, 1) := by decide +kernel
theorem dX8_undo_1 : decode cX8_undo 1 = .ok (.getfield 22, 3) := by decide +kernel
theorem dX8_undo_4 : decode cX8_undo 4 = .ok (.getfield 281, 3) := by decide +kernel
theorem dX8_undo_7 : decode cX8_undo 7 = .ok (.ifCond .gt 14, 3) := by decide +kernel
theorem dX8_undo_10 : decode cX8_undo 10 = .ok (.new 171, 3) := by decide +kernel
theorem dX8_undo_13 : decode cX8_undo 13 = .ok (.dup, 1) := by decide +kernel
theorem dX8_undo_14 : decode cX8_undo 14 = .ok (.ldc_w 322, 3) := by decide +kernel
theorem dX8_undo_17 : decode cX8_undo 17 = .ok (.invokespecial 175, 3) := by decide +kernel
theorem dX8_undo_20 : decode cX8_undo 20 = .ok (.athrow, 1) := by decide +kernel
theorem dX8_undo_21 : decode cX8_undo 21 = .ok (.aload_n 0, 1) := by decide +kernel
theorem dX8_undo_22 : decode cX8_undo 22 = .ok (.getfield 22, 3) := by decide +kernel
theorem dX8_undo_25 : decode cX8_undo 25 = .ok (.aload_n 0, 1) := by decide +kernel
theorem dX8_undo_26 : decode cX8_undo 26 = .ok (.getfield 10, 3) := by decide +kernel
theorem dX8_undo_29 : decode cX8_undo 29 = .ok (.invokevirtual 324, 3) := by decide +kernel
theorem dX8_undo_32 : decode cX8_undo 32 = .ok (.aload_n 0, 1) := by decide +kernel
theorem dX8_undo_33 : decode cX8_undo 33 = .ok (.getfield 22, 3) := by decide +kernel
theorem dX8_undo_36 : decode cX8_undo 36 = .ok (.getfield 281, 3) := by decide +kernel
theorem dX8_undo_39 : decode cX8_undo 39 = .ok (.ireturn, 1) := by decide +kernel
theorem dX8_save_0 : decode cX8_save 0 = .ok (.aload_n 0, 1) := by decide +kernel
theorem dX8_save_1 : decode cX8_save 1 = .ok (.getfield 16, 3) := by decide +kernel
theorem dX8_save_4 : decode cX8_save 4 = .ok (.aload_n 0, 1) := by decide +kernel
theorem dX8_save_5 : decode cX8_save 5 = .ok (.getfield 10, 3) := by decide +kernel
theorem dX8_save_8 : decode cX8_save 8 = .ok (.invokevirtual 327, 3) := by decide +kernel
theorem dX8_save_11 : decode cX8_save 11 = .ok (.aload_n 0, 1) := by decide +kernel
theorem dX8_save_12 : decode cX8_save 12 = .ok (.iconst 1, 1) := by decide +kernel
theorem dX8_save_13 : decode cX8_save 13 = .ok (.putfield 330, 3) := by decide +kernel
theorem dX8_save_16 : decode cX8_save 16 = .ok (.aload_n 0, 1) := by decide +kernel
theorem dX8_save_17 : decode cX8_save 17 = .ok (.getfield 10, 3) := by decide +kernel
theorem dX8_save_20 : decode cX8_save 20 = .ok (.getfield 131, 3) := by decide +kernel
theorem dX8_save_23 : decode cX8_save 23 = .ok (.getfield 213, 3) := by decide +kernel
theorem dX8_save_26 : decode cX8_save 26 = .ok (.ireturn, 1) := by decide +kernel
theorem dX8_restore_0 : decode cX8_restore 0 = .ok (.aload_n 0, 1) := by decide +kernel
theorem dX8_restore_1 : decode cX8_restore 1 = .ok (.getfield 330, 3) := by decide +kernel
theorem dX8_restore_4 : decode cX8_restore 4 = .ok (.ifCond .ne 14, 3) := by decide +kernel
theorem dX8_restore_7 : decode cX8_restore 7 = .ok (.new 292, 3) := by decide +kernel
theorem dX8_restore_10 : decode cX8_restore 10 = .ok (.dup, 1) := by decide +kernel
theorem dX8_restore_11 : decode cX8_restore 11 = .ok (.ldc_w 334, 3) := by decide +kernel
theorem dX8_restore_14 : decode cX8_restore 14 = .ok (.invokespecial 296, 3) := by decide +kernel
theorem dX8_restore_17 : decode cX8_restore 17 = .ok (.athrow, 1) := by decide +kernel
theorem dX8_restore_18 : decode cX8_restore 18 = .ok (.aload_n 0, 1) := by decide +kernel
theorem dX8_restore_19 : decode cX8_restore 19 = .ok (.getfield 10, 3) := by decide +kernel
theorem dX8_restore_22 : decode cX8_restore 22 = .ok (.aload_n 0, 1) := by decide +kernel
theorem dX8_restore_23 : decode cX8_restore 23 = .ok (.getfield 16, 3) := by decide +kernel
theorem dX8_restore_26 : decode cX8_restore 26 = .ok (.invokevirtual 327, 3) := by decide +kernel
theorem dX8_restore_29 : decode cX8_restore 29 = .ok (.aload_n 0, 1) := by decide +kernel
theorem dX8_restore_30 : decode cX8_restore 30 = .ok (.getfield 22, 3) := by decide +kernel
theorem dX8_restore_33 : decode cX8_restore 33 = .ok (.invokevirtual 336, 3) := by decide +kernel
theorem dX8_restore_36 : decode cX8_restore 36 = .ok (.aload_n 0, 1) := by decide +kernel
theorem dX8_restore_37 : decode cX8_restore 37 = .ok (.getfield 10, 3) := by decide +kernel
theorem dX8_restore_40 : decode cX8_restore 40 = .ok (.getfield 131, 3) := by decide +kernel
theorem dX8_restore_43 : decode cX8_restore 43 = .ok (.getfield 213, 3) := by decide +kernel
theorem dX8_restore_46 : decode cX8_restore 46 = .ok (.ireturn, 1) := by decide +kernel
theorem dX8_closeChange_0 : decode cX8_closeChange 0 = .ok (.iload_n 1, 1) := by decide +kernel
theorem dX8_closeChange_1 : decode cX8_closeChange 1 = .ok (.ifCond .lt 12, 3) := by decide +kernel
theorem dX8_closeChange_4 : decode cX8_closeChange 4 = .ok (.aload_n 0, 1) := by decide +kernel
theorem dX8_closeChange_5 : decode cX8_closeChange 5 = .ok (.getfield 22, 3) := by decide +kernel
theorem dX8_closeChange_8 : decode cX8_closeChange 8 = .ok (.invokevirtual 317, 3) := by decide +kernel
theorem dX8_closeChange_11 : decode cX8_closeChange 11 = .ok (.iload_n 1, 1) := by decide +kernel
theorem dX8_closeChange_12 : decode cX8_closeChange 12 = .ok (.ireturn, 1) := by decide +kernel
theorem dX8_closeChange_13 : decode cX8_closeChange 13 = .ok (.iload_n 1, 1) := by decide +kernel
theorem dX8_closeChange_14 : decode cX8_closeChange 14 = .ok (.iconst (-1), 1) := by decide +kernel
theorem dX8_closeChange_15 : decode cX8_closeChange 15 = .ok (.if_icmp .eq 7, 3) := by decide +kernel
theorem dX8_closeChange_18 : decode cX8_closeChange 18 = .ok (.iconst 1, 1) := by decide +kernel
theorem dX8_closeChange_19 : decode cX8_closeChange 19 = .ok (.goto 4, 3) := by decide +kernel
theorem dX8_closeChange_22 : decode cX8_closeChange 22 = .ok (.iconst 0, 1) := by decide +kernel
theorem dX8_closeChange_23 : decode cX8_closeChange 23 = .ok (.invokestatic 75, 3) := by decide +kernel
theorem dX8_closeChange_26 : decode cX8_closeChange 26 = .ok (.iload_n 1, 1) := by decide +kernel
theorem dX8_closeChange_27 : decode cX8_closeChange 27 = .ok (.bipush (-2), 2) := by decide +kernel
theorem dX8_closeChange_29 : decode cX8_closeChange 29 = .ok (.if_icmp .eq 7, 3) := by decide +kernel
theorem dX8_closeChange_32 : decode cX8_closeChange 32 = .ok (.iconst 1, 1) := by decide +kernel
theorem dX8_closeChange_33 : decode cX8_closeChange 33 = .ok (.goto 4, 3) := by decide +kernel
theorem dX8_closeChange_36 : decode cX8_closeChange 36 = .ok (.iconst 0, 1) := by decide +kernel
theorem dX8_closeChange_37 : decode cX8_closeChange 37 = .ok (.invokestatic 165, 3) := by decide +kernel
theorem dX8_closeChange_40 : decode cX8_closeChange 40 = .ok (.iload_n 1, 1) := by decide +kernel
theorem dX8_closeChange_41 : decode cX8_closeChange 41 = .ok (.bipush (-3), 2) := by decide +kernel
theorem dX8_closeChange_43 : decode cX8_closeChange 43 = .ok (.if_icmp .ne 14, 3) := by decide +kernel
theorem dX8_closeChange_46 : decode cX8_closeChange 46 = .ok (.new 292, 3) := by decide +kernel
theorem dX8_closeChange_49 : decode cX8_closeChange 49 = .ok (.dup, 1) := by decide +kernel
theorem dX8_closeChange_50 : decode cX8_closeChange 50 = .ok (.ldc_w 339, 3) := by decide +kernel
theorem dX8_closeChange_53 : decode cX8_closeChange 53 = .ok (.invokespecial 296, 3) := by decide +kernel
theorem dX8_closeChange_56 : decode cX8_closeChange 56 = .ok (.athrow, 1) := by decide +kernel
theorem dX8_closeChange_57 : decode cX8_closeChange 57 = .ok (.aload_n 0, 1) := by decide +kernel
theorem dX8_closeChange_58 : decode cX8_closeChange 58 = .ok (.iload_n 1, 1) := by decide +kernel
theorem dX8_closeChange_59 : decode cX8_closeChange 59 = .ok (.invokevirtual 311, 3) := by decide +kernel
theorem dX8_closeChange_62 : decode cX8_closeChange 62 = .ok (.new 341, 3) := by decide +kernel
theorem dX8_closeChange_65 : decode cX8_closeChange 65 = .ok (.dup, 1) := by decide +kernel
theorem dX8_closeChange_66 : decode cX8_closeChange 66 = .ok (.ldc_w 343, 3) := by decide +kernel
theorem dX8_closeChange_69 : decode cX8_closeChange 69 = .ok (.invokespecial 345, 3) := by decide +kernel
theorem dX8_closeChange_72 : decode cX8_closeChange 72 = .ok (.athrow, 1) := by decide +kernel
theorem dX8_keepRefusal_0 : decode cX8_keepRefusal 0 = .ok (.iload_n 1, 1) := by decide +kernel
theorem dX8_keepRefusal_1 : decode cX8_keepRefusal 1 = .ok (.sipush (-1000), 3) := by decide +kernel
theorem dX8_keepRefusal_4 : decode cX8_keepRefusal 4 = .ok (.if_icmp .gt 23, 3) := by decide +kernel
theorem dX8_keepRefusal_7 : decode cX8_keepRefusal 7 = .ok (.aload_n 0, 1) := by decide +kernel
theorem dX8_keepRefusal_8 : decode cX8_keepRefusal 8 = .ok (.iload_n 1, 1) := by decide +kernel
theorem dX8_keepRefusal_9 : decode cX8_keepRefusal 9 = .ok (.ineg, 1) := by decide +kernel
theorem dX8_keepRefusal_10 : decode cX8_keepRefusal 10 = .ok (.sipush 1000, 3) := by decide +kernel
theorem dX8_keepRefusal_13 : decode cX8_keepRefusal 13 = .ok (.idiv, 1) := by decide +kernel
theorem dX8_keepRefusal_14 : decode cX8_keepRefusal 14 = .ok (.putfield 33, 3) := by decide +kernel
theorem dX8_keepRefusal_17 : decode cX8_keepRefusal 17 = .ok (.aload_n 0, 1) := by decide +kernel
theorem dX8_keepRefusal_18 : decode cX8_keepRefusal 18 = .ok (.iload_n 1, 1) := by decide +kernel
theorem dX8_keepRefusal_19 : decode cX8_keepRefusal 19 = .ok (.ineg, 1) := by decide +kernel
theorem dX8_keepRefusal_20 : decode cX8_keepRefusal 20 = .ok (.sipush 1000, 3) := by decide +kernel
theorem dX8_keepRefusal_23 : decode cX8_keepRefusal 23 = .ok (.irem, 1) := by decide +kernel
theorem dX8_keepRefusal_24 : decode cX8_keepRefusal 24 = .ok (.putfield 37, 3) := by decide +kernel
theorem dX8_keepRefusal_27 : decode cX8_keepRefusal 27 = .ok (.return_, 1) := by decide +kernel
theorem dX8_checkIndex_0 : decode cX8_checkIndex 0 = .ok (.iload_n 0, 1) := by decide +kernel
theorem dX8_checkIndex_1 : decode cX8_checkIndex 1 = .ok (.ifCond .ne 14, 3) := by decide +kernel
theorem dX8_checkIndex_4 : decode cX8_checkIndex 4 = .ok (.new 346, 3) := by decide +kernel
theorem dX8_checkIndex_7 : decode cX8_checkIndex 7 = .ok (.dup, 1) := by decide +kernel
theorem dX8_checkIndex_8 : decode cX8_checkIndex 8 = .ok (.ldc_w 348, 3) := by decide +kernel
theorem dX8_checkIndex_11 : decode cX8_checkIndex 11 = .ok (.invokespecial 350, 3) := by decide +kernel
theorem dX8_checkIndex_14 : decode cX8_checkIndex 14 = .ok (.athrow, 1) := by decide +kernel
theorem dX8_checkIndex_15 : decode cX8_checkIndex 15 = .ok (.return_, 1) := by decide +kernel
theorem dX8_checkArgument_0 : decode cX8_checkArgument 0 = .ok (.iload_n 0, 1) := by decide +kernel
theorem dX8_checkArgument_1 : decode cX8_checkArgument 1 = .ok (.ifCond .ne 14, 3) := by decide +kernel
theorem dX8_checkArgument_4 : decode cX8_checkArgument 4 = .ok (.new 114, 3) := by decide +kernel
theorem dX8_checkArgument_7 : decode cX8_checkArgument 7 = .ok (.dup, 1) := by decide +kernel
theorem dX8_checkArgument_8 : decode cX8_checkArgument 8 = .ok (.ldc_w 351, 3) := by decide +kernel
theorem dX8_checkArgument_11 : decode cX8_checkArgument 11 = .ok (.invokespecial 118, 3) := by decide +kernel
theorem dX8_checkArgument_14 : decode cX8_checkArgument 14 = .ok (.athrow, 1) := by decide +kernel
theorem dX8_checkArgument_15 : decode cX8_checkArgument 15 = .ok (.return_, 1) := by decide +kernel
theorem dX8_runCommands_0 : decode cX8_runCommands 0 = .ok (.aload_n 0, 1) := by decide +kernel
theorem dX8_runCommands_1 : decode cX8_runCommands 1 = .ok (.getfield 29, 3) := by decide +kernel
theorem dX8_runCommands_4 : decode cX8_runCommands 4 = .ok (.invokevirtual 353, 3) := by decide +kernel
theorem dX8_runCommands_7 : decode cX8_runCommands 7 = .ok (.iconst 0, 1) := by decide +kernel
theorem dX8_runCommands_8 : decode cX8_runCommands 8 = .ok (.istore_n 1, 1) := by decide +kernel
theorem dX8_runCommands_9 : decode cX8_runCommands 9 = .ok (.iload_n 1, 1) := by decide +kernel
theorem dX8_runCommands_10 : decode cX8_runCommands 10 = .ok (.bipush 60, 2) := by decide +kernel
theorem dX8_runCommands_12 : decode cX8_runCommands 12 = .ok (.if_icmp .ge 44, 3) := by decide +kernel
theorem dX8_runCommands_15 : decode cX8_runCommands 15 = .ok (.aload_n 0, 1) := by decide +kernel
theorem dX8_runCommands_16 : decode cX8_runCommands 16 = .ok (.getfield 29, 3) := by decide +kernel
theorem dX8_runCommands_19 : decode cX8_runCommands 19 = .ok (.invokevirtual 356, 3) := by decide +kernel
theorem dX8_runCommands_22 : decode cX8_runCommands 22 = .ok (.ifCond .eq 34, 3) := by decide +kernel
theorem dX8_runCommands_25 : decode cX8_runCommands 25 = .ok (.aload_n 0, 1) := by decide +kernel
theorem dX8_runCommands_26 : decode cX8_runCommands 26 = .ok (.aload_n 0, 1) := by decide +kernel
theorem dX8_runCommands_27 : decode cX8_runCommands 27 = .ok (.getfield 29, 3) := by decide +kernel
theorem dX8_runCommands_30 : decode cX8_runCommands 30 = .ok (.getfield 360, 3) := by decide +kernel
theorem dX8_runCommands_33 : decode cX8_runCommands 33 = .ok (.aload_n 0, 1) := by decide +kernel
theorem dX8_runCommands_34 : decode cX8_runCommands 34 = .ok (.getfield 29, 3) := by decide +kernel
theorem dX8_runCommands_37 : decode cX8_runCommands 37 = .ok (.getfield 364, 3) := by decide +kernel
theorem dX8_runCommands_40 : decode cX8_runCommands 40 = .ok (.invokevirtual 367, 3) := by decide +kernel
theorem dX8_runCommands_43 : decode cX8_runCommands 43 = .ok (.istore_n 2, 1) := by decide +kernel
theorem dX8_runCommands_44 : decode cX8_runCommands 44 = .ok (.iload_n 2, 1) := by decide +kernel
theorem dX8_runCommands_45 : decode cX8_runCommands 45 = .ok (.ifCond .ge 5, 3) := by decide +kernel
theorem dX8_runCommands_48 : decode cX8_runCommands 48 = .ok (.iload_n 2, 1) := by decide +kernel
theorem dX8_runCommands_49 : decode cX8_runCommands 49 = .ok (.ireturn, 1) := by decide +kernel
theorem dX8_runCommands_50 : decode cX8_runCommands 50 = .ok (.iinc 1 1, 3) := by decide +kernel
theorem dX8_runCommands_53 : decode cX8_runCommands 53 = .ok (.goto (-44), 3) := by decide +kernel
theorem dX8_runCommands_56 : decode cX8_runCommands 56 = .ok (.iload_n 1, 1) := by decide +kernel
theorem dX8_runCommands_57 : decode cX8_runCommands 57 = .ok (.ireturn, 1) := by decide +kernel
theorem dX8_runCommand_0 : decode cX8_runCommand 0 = .ok (.aload_n 2, 1) := by decide +kernel
theorem dX8_runCommand_1 : decode cX8_runCommand 1 = .ok (.iconst 0, 1) := by decide +kernel
theorem dX8_runCommand_2 : decode cX8_runCommand 2 = .ok (.invokevirtual 83, 3) := by decide +kernel
theorem dX8_runCommand_5 : decode cX8_runCommand 5 = .ok (.istore_n 3, 1) := by decide +kernel
theorem dX8_runCommand_6 : decode cX8_runCommand 6 = .ok (.aload_n 2, 1) := by decide +kernel
theorem dX8_runCommand_7 : decode cX8_runCommand 7 = .ok (.iconst 1, 1) := by decide +kernel
theorem dX8_runCommand_8 : decode cX8_runCommand 8 = .ok (.invokevirtual 83, 3) := by decide +kernel
theorem dX8_runCommand_11 : decode cX8_runCommand 11 = .ok (.istore 4, 2) := by decide +kernel
theorem dX8_runCommand_13 : decode cX8_runCommand 13 = .ok (.aload_n 2, 1) := by decide +kernel
theorem dX8_runCommand_14 : decode cX8_runCommand 14 = .ok (.iconst 2, 1) := by decide +kernel
theorem dX8_runCommand_15 : decode cX8_runCommand 15 = .ok (.invokevirtual 83, 3) := by decide +kernel
theorem dX8_runCommand_18 : decode cX8_runCommand 18 = .ok (.istore 5, 2) := by decide +kernel
theorem dX8_runCommand_20 : decode cX8_runCommand 20 = .ok (.iload_n 1, 1) := by decide +kernel
theorem dX8_runCommand_21 : decode cX8_runCommand 21 = .ok (.tableswitch 161 101 119 #[148, 161, 161, 126, 161, 161, 161, 137, 161, 161, 161, 161, 161, 102, 91, 161, 161, 161, 113], 91) := by decide +kernel
theorem dX8_runCommand_112 : decode cX8_runCommand 112 = .ok (.aload_n 0, 1) := by decide +kernel
theorem dX8_runCommand_113 : decode cX8_runCommand 113 = .ok (.getfield 10, 3) := by decide +kernel
theorem dX8_runCommand_116 : decode cX8_runCommand 116 = .ok (.iload_n 3, 1) := by decide +kernel
theorem dX8_runCommand_117 : decode cX8_runCommand 117 = .ok (.iload 4, 2) := by decide +kernel
theorem dX8_runCommand_119 : decode cX8_runCommand 119 = .ok (.invokevirtual 192, 3) := by decide +kernel
theorem dX8_runCommand_122 : decode cX8_runCommand 122 = .ok (.ireturn, 1) := by decide +kernel
theorem dX8_runCommand_123 : decode cX8_runCommand 123 = .ok (.aload_n 0, 1) := by decide +kernel
theorem dX8_runCommand_124 : decode cX8_runCommand 124 = .ok (.getfield 10, 3) := by decide +kernel
theorem dX8_runCommand_127 : decode cX8_runCommand 127 = .ok (.iload_n 3, 1) := by decide +kernel
theorem dX8_runCommand_128 : decode cX8_runCommand 128 = .ok (.iload 4, 2) := by decide +kernel
theorem dX8_runCommand_130 : decode cX8_runCommand 130 = .ok (.invokevirtual 195, 3) := by decide +kernel
theorem dX8_runCommand_133 : decode cX8_runCommand 133 = .ok (.ireturn, 1) := by decide +kernel
theorem dX8_runCommand_134 : decode cX8_runCommand 134 = .ok (.aload_n 0, 1) := by decide +kernel
theorem dX8_runCommand_135 : decode cX8_runCommand 135 = .ok (.getfield 10, 3) := by decide +kernel
theorem dX8_runCommand_138 : decode cX8_runCommand 138 = .ok (.iload_n 3, 1) := by decide +kernel
theorem dX8_runCommand_139 : decode cX8_runCommand 139 = .ok (.iload 4, 2) := by decide +kernel
theorem dX8_runCommand_141 : decode cX8_runCommand 141 = .ok (.iload 5, 2) := by decide +kernel
theorem dX8_runCommand_143 : decode cX8_runCommand 143 = .ok (.invokevirtual 198, 3) := by decide +kernel
theorem dX8_runCommand_146 : decode cX8_runCommand 146 = .ok (.ireturn, 1) := by decide +kernel
theorem dX8_runCommand_147 : decode cX8_runCommand 147 = .ok (.aload_n 0, 1) := by decide +kernel
theorem dX8_runCommand_148 : decode cX8_runCommand 148 = .ok (.getfield 10, 3) := by decide +kernel
theorem dX8_runCommand_151 : decode cX8_runCommand 151 = .ok (.iload_n 3, 1) := by decide +kernel
theorem dX8_runCommand_152 : decode cX8_runCommand 152 = .ok (.iload 4, 2) := by decide +kernel
theorem dX8_runCommand_154 : decode cX8_runCommand 154 = .ok (.invokevirtual 222, 3) := by decide +kernel
theorem dX8_runCommand_157 : decode cX8_runCommand 157 = .ok (.ireturn, 1) := by decide +kernel
theorem dX8_runCommand_158 : decode cX8_runCommand 158 = .ok (.aload_n 0, 1) := by decide +kernel
theorem dX8_runCommand_159 : decode cX8_runCommand 159 = .ok (.getfield 10, 3) := by decide +kernel
theorem dX8_runCommand_162 : decode cX8_runCommand 162 = .ok (.iload_n 3, 1) := by decide +kernel
theorem dX8_runCommand_163 : decode cX8_runCommand 163 = .ok (.iload 4, 2) := by decide +kernel
theorem dX8_runCommand_165 : decode cX8_runCommand 165 = .ok (.invokevirtual 225, 3) := by decide +kernel
theorem dX8_runCommand_168 : decode cX8_runCommand 168 = .ok (.ireturn, 1) := by decide +kernel
theorem dX8_runCommand_169 : decode cX8_runCommand 169 = .ok (.aload_n 0, 1) := by decide +kernel
theorem dX8_runCommand_170 : decode cX8_runCommand 170 = .ok (.getfield 10, 3) := by decide +kernel
theorem dX8_runCommand_173 : decode cX8_runCommand 173 = .ok (.iload_n 3, 1) := by decide +kernel
theorem dX8_runCommand_174 : decode cX8_runCommand 174 = .ok (.iload 4, 2) := by decide +kernel
theorem dX8_runCommand_176 : decode cX8_runCommand 176 = .ok (.iload 5, 2) := by decide +kernel
theorem dX8_runCommand_178 : decode cX8_runCommand 178 = .ok (.invokevirtual 228, 3) := by decide +kernel
theorem dX8_runCommand_181 : decode cX8_runCommand 181 = .ok (.ireturn, 1) := by decide +kernel
theorem dX8_runCommand_182 : decode cX8_runCommand 182 = .ok (.aload_n 0, 1) := by decide +kernel
theorem dX8_runCommand_183 : decode cX8_runCommand 183 = .ok (.getfield 10, 3) := by decide +kernel
theorem dX8_runCommand_186 : decode cX8_runCommand 186 = .ok (.iload_n 3, 1) := by decide +kernel
theorem dX8_runCommand_187 : decode cX8_runCommand 187 = .ok (.iload 4, 2) := by decide +kernel
theorem dX8_runCommand_189 : decode cX8_runCommand 189 = .ok (.invokevirtual 128, 3) := by decide +kernel
theorem dX8_runCommand_192 : decode cX8_runCommand 192 = .ok (.ireturn, 1) := by decide +kernel
theorem dX8_isWithin_0 : decode cX8_isWithin 0 = .ok (.iload_n 0, 1) := by decide +kernel
theorem dX8_isWithin_1 : decode cX8_isWithin 1 = .ok (.iload_n 1, 1) := by decide +kernel
theorem dX8_isWithin_2 : decode cX8_isWithin 2 = .ok (.if_icmp .lt 12, 3) := by decide +kernel
theorem dX8_isWithin_5 : decode cX8_isWithin 5 = .ok (.iload_n 0, 1) := by decide +kernel
theorem dX8_isWithin_6 : decode cX8_isWithin 6 = .ok (.iload_n 2, 1) := by decide +kernel
theorem dX8_isWithin_7 : decode cX8_isWithin 7 = .ok (.if_icmp .gt 7, 3) := by decide +kernel
theorem dX8_isWithin_10 : decode cX8_isWithin 10 = .ok (.iconst 1, 1) := by decide +kernel
theorem dX8_isWithin_11 : decode cX8_isWithin 11 = .ok (.goto 4, 3) := by decide +kernel
theorem dX8_isWithin_14 : decode cX8_isWithin 14 = .ok (.iconst 0, 1) := by decide +kernel
theorem dX8_isWithin_15 : decode cX8_isWithin 15 = .ok (.ireturn, 1) := by decide +kernel
theorem dX8_isStage_0 : decode cX8_isStage 0 = .ok (.iload_n 0, 1) := by decide +kernel
theorem dX8_isStage_1 : decode cX8_isStage 1 = .ok (.iconst 0, 1) := by decide +kernel
theorem dX8_isStage_2 : decode cX8_isStage 2 = .ok (.iconst 2, 1) := by decide +kernel
theorem dX8_isStage_3 : decode cX8_isStage 3 = .ok (.invokestatic 284, 3) := by decide +kernel
theorem dX8_isStage_6 : decode cX8_isStage 6 = .ok (.ireturn, 1) := by decide +kernel
theorem dX8_isDate_0 : decode cX8_isDate 0 = .ok (.iload_n 0, 1) := by decide +kernel
theorem dX8_isDate_1 : decode cX8_isDate 1 = .ok (.iconst 0, 1) := by decide +kernel
theorem dX8_isDate_2 : decode cX8_isDate 2 = .ok (.bipush 29, 2) := by decide +kernel
theorem dX8_isDate_4 : decode cX8_isDate 4 = .ok (.invokestatic 284, 3) := by decide +kernel
theorem dX8_isDate_7 : decode cX8_isDate 7 = .ok (.ireturn, 1) := by decide +kernel
theorem dX8_isSeatKind_0 : decode cX8_isSeatKind 0 = .ok (.iload_n 0, 1) := by decide +kernel
theorem dX8_isSeatKind_1 : decode cX8_isSeatKind 1 = .ok (.iconst 0, 1) := by decide +kernel
theorem dX8_isSeatKind_2 : decode cX8_isSeatKind 2 = .ok (.iconst 2, 1) := by decide +kernel
theorem dX8_isSeatKind_3 : decode cX8_isSeatKind 3 = .ok (.invokestatic 284, 3) := by decide +kernel
theorem dX8_isSeatKind_6 : decode cX8_isSeatKind 6 = .ok (.ireturn, 1) := by decide +kernel
theorem dX8_refusal_0 : decode cX8_refusal 0 = .ok (.iload_n 0, 1) := by decide +kernel
theorem dX8_refusal_1 : decode cX8_refusal 1 = .ok (.sipush 1000, 3) := by decide +kernel
theorem dX8_refusal_4 : decode cX8_refusal 4 = .ok (.imul, 1) := by decide +kernel
theorem dX8_refusal_5 : decode cX8_refusal 5 = .ok (.iload_n 1, 1) := by decide +kernel
theorem dX8_refusal_6 : decode cX8_refusal 6 = .ok (.iadd, 1) := by decide +kernel
theorem dX8_refusal_7 : decode cX8_refusal 7 = .ok (.ineg, 1) := by decide +kernel
theorem dX8_refusal_8 : decode cX8_refusal 8 = .ok (.ireturn, 1) := by decide +kernel
theorem dX8_isInSet_0 : decode cX8_isInSet 0 = .ok (.iload_n 0, 1) := by decide +kernel
theorem dX8_isInSet_1 : decode cX8_isInSet 1 = .ok (.iload_n 1, 1) := by decide +kernel
theorem dX8_isInSet_2 : decode cX8_isInSet 2 = .ok (.ishr, 1) := by decide +kernel
theorem dX8_isInSet_3 : decode cX8_isInSet 3 = .ok (.iconst 1, 1) := by decide +kernel
theorem dX8_isInSet_4 : decode cX8_isInSet 4 = .ok (.iand, 1) := by decide +kernel
theorem dX8_isInSet_5 : decode cX8_isInSet 5 = .ok (.ifCond .eq 7, 3) := by decide +kernel
theorem dX8_isInSet_8 : decode cX8_isInSet 8 = .ok (.iconst 1, 1) := by decide +kernel
theorem dX8_isInSet_9 : decode cX8_isInSet 9 = .ok (.goto 4, 3) := by decide +kernel
theorem dX8_isInSet_12 : decode cX8_isInSet 12 = .ok (.iconst 0, 1) := by decide +kernel
theorem dX8_isInSet_13 : decode cX8_isInSet 13 = .ok (.ireturn, 1) := by decide +kernel
theorem dX8_firstDate_0 : decode cX8_firstDate 0 = .ok (.iconst 0, 1) := by decide +kernel
theorem dX8_firstDate_1 : decode cX8_firstDate 1 = .ok (.istore_n 1, 1) := by decide +kernel
theorem dX8_firstDate_2 : decode cX8_firstDate 2 = .ok (.iload_n 1, 1) := by decide +kernel
theorem dX8_firstDate_3 : decode cX8_firstDate 3 = .ok (.bipush 30, 2) := by decide +kernel
theorem dX8_firstDate_5 : decode cX8_firstDate 5 = .ok (.if_icmp .ge 19, 3) := by decide +kernel
theorem dX8_firstDate_8 : decode cX8_firstDate 8 = .ok (.iload_n 0, 1) := by decide +kernel
theorem dX8_firstDate_9 : decode cX8_firstDate 9 = .ok (.iload_n 1, 1) := by decide +kernel
theorem dX8_firstDate_10 : decode cX8_firstDate 10 = .ok (.invokestatic 371, 3) := by decide +kernel
theorem dX8_firstDate_13 : decode cX8_firstDate 13 = .ok (.ifCond .eq 5, 3) := by decide +kernel
theorem dX8_firstDate_16 : decode cX8_firstDate 16 = .ok (.iload_n 1, 1) := by decide +kernel
theorem dX8_firstDate_17 : decode cX8_firstDate 17 = .ok (.ireturn, 1) := by decide +kernel
theorem dX8_firstDate_18 : decode cX8_firstDate 18 = .ok (.iinc 1 1, 3) := by decide +kernel
theorem dX8_firstDate_21 : decode cX8_firstDate 21 = .ok (.goto (-19), 3) := by decide +kernel
theorem dX8_firstDate_24 : decode cX8_firstDate 24 = .ok (.iconst (-1), 1) := by decide +kernel
theorem dX8_firstDate_25 : decode cX8_firstDate 25 = .ok (.ireturn, 1) := by decide +kernel
theorem dX8_lastDate_0 : decode cX8_lastDate 0 = .ok (.bipush 29, 2) := by decide +kernel
theorem dX8_lastDate_2 : decode cX8_lastDate 2 = .ok (.istore_n 1, 1) := by decide +kernel
theorem dX8_lastDate_3 : decode cX8_lastDate 3 = .ok (.iload_n 1, 1) := by decide +kernel
theorem dX8_lastDate_4 : decode cX8_lastDate 4 = .ok (.ifCond .lt 19, 3) := by decide +kernel
theorem dX8_lastDate_7 : decode cX8_lastDate 7 = .ok (.iload_n 0, 1) := by decide +kernel
theorem dX8_lastDate_8 : decode cX8_lastDate 8 = .ok (.iload_n 1, 1) := by decide +kernel
theorem dX8_lastDate_9 : decode cX8_lastDate 9 = .ok (.invokestatic 371, 3) := by decide +kernel
theorem dX8_lastDate_12 : decode cX8_lastDate 12 = .ok (.ifCond .eq 5, 3) := by decide +kernel
theorem dX8_lastDate_15 : decode cX8_lastDate 15 = .ok (.iload_n 1, 1) := by decide +kernel
theorem dX8_lastDate_16 : decode cX8_lastDate 16 = .ok (.ireturn, 1) := by decide +kernel
theorem dX8_lastDate_17 : decode cX8_lastDate 17 = .ok (.iinc 1 (-1), 3) := by decide +kernel
theorem dX8_lastDate_20 : decode cX8_lastDate 20 = .ok (.goto (-17), 3) := by decide +kernel
theorem dX8_lastDate_23 : decode cX8_lastDate 23 = .ok (.iconst (-1), 1) := by decide +kernel
theorem dX8_lastDate_24 : decode cX8_lastDate 24 = .ok (.ireturn, 1) := by decide +kernel
theorem dX9_init_0 : decode cX9_init 0 = .ok (.aload_n 0, 1) := by decide +kernel
theorem dX9_init_1 : decode cX9_init 1 = .ok (.invokespecial 1, 3) := by decide +kernel
theorem dX9_init_4 : decode cX9_init 4 = .ok (.aload_n 0, 1) := by decide +kernel
theorem dX9_init_5 : decode cX9_init 5 = .ok (.sipush 2169, 3) := by decide +kernel
theorem dX9_init_8 : decode cX9_init 8 = .ok (.newarray .int, 2) := by decide +kernel
theorem dX9_init_10 : decode cX9_init 10 = .ok (.putfield 9, 3) := by decide +kernel
theorem dX9_init_13 : decode cX9_init 13 = .ok (.aload_n 0, 1) := by decide +kernel
theorem dX9_init_14 : decode cX9_init 14 = .ok (.bipush 60, 2) := by decide +kernel
theorem dX9_init_16 : decode cX9_init 16 = .ok (.newarray .char, 2) := by decide +kernel
theorem dX9_init_18 : decode cX9_init 18 = .ok (.putfield 13, 3) := by decide +kernel
theorem dX9_init_21 : decode cX9_init 21 = .ok (.aload_n 0, 1) := by decide +kernel
theorem dX9_init_22 : decode cX9_init 22 = .ok (.iconst (-1), 1) := by decide +kernel
theorem dX9_init_23 : decode cX9_init 23 = .ok (.putfield 17, 3) := by decide +kernel
theorem dX9_init_26 : decode cX9_init 26 = .ok (.aload_n 0, 1) := by decide +kernel
theorem dX9_init_27 : decode cX9_init 27 = .ok (.sipush 244, 3) := by decide +kernel
theorem dX9_init_30 : decode cX9_init 30 = .ok (.newarray .int, 2) := by decide +kernel
theorem dX9_init_32 : decode cX9_init 32 = .ok (.putfield 21, 3) := by decide +kernel
theorem dX9_init_35 : decode cX9_init 35 = .ok (.iconst 0, 1) := by decide +kernel
theorem dX9_init_36 : decode cX9_init 36 = .ok (.istore_n 1, 1) := by decide +kernel
theorem dX9_init_37 : decode cX9_init 37 = .ok (.iload_n 1, 1) := by decide +kernel
theorem dX9_init_38 : decode cX9_init 38 = .ok (.iconst 3, 1) := by decide +kernel
theorem dX9_init_39 : decode cX9_init 39 = .ok (.if_icmp .ge 24, 3) := by decide +kernel
theorem dX9_init_42 : decode cX9_init 42 = .ok (.aload_n 0, 1) := by decide +kernel
theorem dX9_init_43 : decode cX9_init 43 = .ok (.getfield 9, 3) := by decide +kernel
theorem dX9_init_46 : decode cX9_init 46 = .ok (.iconst 0, 1) := by decide +kernel
theorem dX9_init_47 : decode cX9_init 47 = .ok (.iload_n 1, 1) := by decide +kernel
theorem dX9_init_48 : decode cX9_init 48 = .ok (.iadd, 1) := by decide +kernel
theorem dX9_init_49 : decode cX9_init 49 = .ok (.bipush 40, 2) := by decide +kernel
theorem dX9_init_51 : decode cX9_init 51 = .ok (.bipush 20, 2) := by decide +kernel
theorem dX9_init_53 : decode cX9_init 53 = .ok (.iload_n 1, 1) := by decide +kernel
theorem dX9_init_54 : decode cX9_init 54 = .ok (.imul, 1) := by decide +kernel
theorem dX9_init_55 : decode cX9_init 55 = .ok (.iadd, 1) := by decide +kernel
theorem dX9_init_56 : decode cX9_init 56 = .ok (.iastore, 1) := by decide +kernel
theorem dX9_init_57 : decode cX9_init 57 = .ok (.iinc 1 1, 3) := by decide +kernel
theorem dX9_init_60 : decode cX9_init 60 = .ok (.goto (-23), 3) := by decide +kernel
theorem dX9_init_63 : decode cX9_init 63 = .ok (.aload_n 0, 1) := by decide +kernel
theorem dX9_init_64 : decode cX9_init 64 = .ok (.getfield 9, 3) := by decide +kernel
theorem dX9_init_67 : decode cX9_init 67 = .ok (.iconst 3, 1) := by decide +kernel
theorem dX9_init_68 : decode cX9_init 68 = .ok (.bipush 6, 2) := by decide +kernel
theorem dX9_init_70 : decode cX9_init 70 = .ok (.iastore, 1) := by decide +kernel
theorem dX9_init_71 : decode cX9_init 71 = .ok (.aload_n 0, 1) := by decide +kernel
theorem dX9_init_72 : decode cX9_init 72 = .ok (.getfield 9, 3) := by decide +kernel
theorem dX9_init_75 : decode cX9_init 75 = .ok (.iconst 4, 1) := by decide +kernel
theorem dX9_init_76 : decode cX9_init 76 = .ok (.bipush 20, 2) := by decide +kernel
theorem dX9_init_78 : decode cX9_init 78 = .ok (.iastore, 1) := by decide +kernel
theorem dX9_init_79 : decode cX9_init 79 = .ok (.return_, 1) := by decide +kernel
theorem dX9_thrown_0 : decode cX9_thrown 0 = .ok (.aload_n 0, 1) := by decide +kernel
theorem dX9_thrown_1 : decode cX9_thrown 1 = .ok (.getfield 24, 3) := by decide +kernel
theorem dX9_thrown_4 : decode cX9_thrown 4 = .ok (.ireturn, 1) := by decide +kernel
theorem dX9_in_0 : decode cX9_in 0 = .ok (.iload_n 0, 1) := by decide +kernel
theorem dX9_in_1 : decode cX9_in 1 = .ok (.iload_n 1, 1) := by decide +kernel
theorem dX9_in_2 : decode cX9_in 2 = .ok (.if_icmp .lt 12, 3) := by decide +kernel
theorem dX9_in_5 : decode cX9_in 5 = .ok (.iload_n 0, 1) := by decide +kernel
theorem dX9_in_6 : decode cX9_in 6 = .ok (.iload_n 2, 1) := by decide +kernel
theorem dX9_in_7 : decode cX9_in 7 = .ok (.if_icmp .gt 7, 3) := by decide +kernel
theorem dX9_in_10 : decode cX9_in 10 = .ok (.iconst 1, 1) := by decide +kernel
theorem dX9_in_11 : decode cX9_in 11 = .ok (.goto 4, 3) := by decide +kernel
theorem dX9_in_14 : decode cX9_in 14 = .ok (.iconst 0, 1) := by decide +kernel
theorem dX9_in_15 : decode cX9_in 15 = .ok (.ireturn, 1) := by decide +kernel
theorem dX9_copies_0 : decode cX9_copies 0 = .ok (.iconst 0, 1) := by decide +kernel
theorem dX9_copies_1 : decode cX9_copies 1 = .ok (.istore_n 3, 1) := by decide +kernel
theorem dX9_copies_2 : decode cX9_copies 2 = .ok (.iload_n 3, 1) := by decide +kernel
theorem dX9_copies_3 : decode cX9_copies 3 = .ok (.sipush 241, 3) := by decide +kernel
theorem dX9_copies_6 : decode cX9_copies 6 = .ok (.if_icmp .ge 33, 3) := by decide +kernel
theorem dX9_copies_9 : decode cX9_copies 9 = .ok (.aload_n 0, 1) := by decide +kernel
theorem dX9_copies_10 : decode cX9_copies 10 = .ok (.getfield 9, 3) := by decide +kernel
theorem dX9_copies_13 : decode cX9_copies 13 = .ok (.sipush 241, 3) := by decide +kernel
theorem dX9_copies_16 : decode cX9_copies 16 = .ok (.iload_n 2, 1) := by decide +kernel
theorem dX9_copies_17 : decode cX9_copies 17 = .ok (.imul, 1) := by decide +kernel
theorem dX9_copies_18 : decode cX9_copies 18 = .ok (.iload_n 3, 1) := by decide +kernel
theorem dX9_copies_19 : decode cX9_copies 19 = .ok (.iadd, 1) := by decide +kernel
theorem dX9_copies_20 : decode cX9_copies 20 = .ok (.aload_n 0, 1) := by decide +kernel
theorem dX9_copies_21 : decode cX9_copies 21 = .ok (.getfield 9, 3) := by decide +kernel
theorem dX9_copies_24 : decode cX9_copies 24 = .ok (.sipush 241, 3) := by decide +kernel
theorem dX9_copies_27 : decode cX9_copies 27 = .ok (.iload_n 1, 1) := by decide +kernel
theorem dX9_copies_28 : decode cX9_copies 28 = .ok (.imul, 1) := by decide +kernel
theorem dX9_copies_29 : decode cX9_copies 29 = .ok (.iload_n 3, 1) := by decide +kernel
theorem dX9_copies_30 : decode cX9_copies 30 = .ok (.iadd, 1) := by decide +kernel
theorem dX9_copies_31 : decode cX9_copies 31 = .ok (.iaload, 1) := by decide +kernel
theorem dX9_copies_32 : decode cX9_copies 32 = .ok (.iastore, 1) := by decide +kernel
theorem dX9_copies_33 : decode cX9_copies 33 = .ok (.iinc 3 1, 3) := by decide +kernel
theorem dX9_copies_36 : decode cX9_copies 36 = .ok (.goto (-34), 3) := by decide +kernel
theorem dX9_copies_39 : decode cX9_copies 39 = .ok (.return_, 1) := by decide +kernel
theorem dX9_begins_0 : decode cX9_begins 0 = .ok (.aload_n 0, 1) := by decide +kernel
theorem dX9_begins_1 : decode cX9_begins 1 = .ok (.iconst 0, 1) := by decide +kernel
theorem dX9_begins_2 : decode cX9_begins 2 = .ok (.bipush 8, 2) := by decide +kernel
theorem dX9_begins_4 : decode cX9_begins 4 = .ok (.invokevirtual 27, 3) := by decide +kernel
theorem dX9_begins_7 : decode cX9_begins 7 = .ok (.return_, 1) := by decide +kernel
theorem dX9_keeps_0 : decode cX9_keeps 0 = .ok (.aload_n 0, 1) := by decide +kernel
theorem dX9_keeps_1 : decode cX9_keeps 1 = .ok (.getfield 31, 3) := by decide +kernel
theorem dX9_keeps_4 : decode cX9_keeps 4 = .ok (.bipush 6, 2) := by decide +kernel
theorem dX9_keeps_6 : decode cX9_keeps 6 = .ok (.if_icmp .ne 35, 3) := by decide +kernel
theorem dX9_keeps_9 : decode cX9_keeps 9 = .ok (.iconst 1, 1) := by decide +kernel
theorem dX9_keeps_10 : decode cX9_keeps 10 = .ok (.istore_n 1, 1) := by decide +kernel
theorem dX9_keeps_11 : decode cX9_keeps 11 = .ok (.iload_n 1, 1) := by decide +kernel
theorem dX9_keeps_12 : decode cX9_keeps 12 = .ok (.bipush 6, 2) := by decide +kernel
theorem dX9_keeps_14 : decode cX9_keeps 14 = .ok (.if_icmp .ge 17, 3) := by decide +kernel
theorem dX9_keeps_17 : decode cX9_keeps 17 = .ok (.aload_n 0, 1) := by decide +kernel
theorem dX9_keeps_18 : decode cX9_keeps 18 = .ok (.iload_n 1, 1) := by decide +kernel
theorem dX9_keeps_19 : decode cX9_keeps 19 = .ok (.iconst 1, 1) := by decide +kernel
theorem dX9_keeps_20 : decode cX9_keeps 20 = .ok (.iadd, 1) := by decide +kernel
theorem dX9_keeps_21 : decode cX9_keeps 21 = .ok (.iload_n 1, 1) := by decide +kernel
theorem dX9_keeps_22 : decode cX9_keeps 22 = .ok (.invokevirtual 27, 3) := by decide +kernel
theorem dX9_keeps_25 : decode cX9_keeps 25 = .ok (.iinc 1 1, 3) := by decide +kernel
theorem dX9_keeps_28 : decode cX9_keeps 28 = .ok (.goto (-17), 3) := by decide +kernel
theorem dX9_keeps_31 : decode cX9_keeps 31 = .ok (.aload_n 0, 1) := by decide +kernel
theorem dX9_keeps_32 : decode cX9_keeps 32 = .ok (.dup, 1) := by decide +kernel
theorem dX9_keeps_33 : decode cX9_keeps 33 = .ok (.getfield 31, 3) := by decide +kernel
theorem dX9_keeps_36 : decode cX9_keeps 36 = .ok (.iconst 1, 1) := by decide +kernel
theorem dX9_keeps_37 : decode cX9_keeps 37 = .ok (.isub, 1) := by decide +kernel
theorem dX9_keeps_38 : decode cX9_keeps 38 = .ok (.putfield 31, 3) := by decide +kernel
theorem dX9_keeps_41 : decode cX9_keeps 41 = .ok (.aload_n 0, 1) := by decide +kernel
theorem dX9_keeps_42 : decode cX9_keeps 42 = .ok (.dup, 1) := by decide +kernel
theorem dX9_keeps_43 : decode cX9_keeps 43 = .ok (.getfield 31, 3) := by decide +kernel
theorem dX9_keeps_46 : decode cX9_keeps 46 = .ok (.iconst 1, 1) := by decide +kernel
theorem dX9_keeps_47 : decode cX9_keeps 47 = .ok (.iadd, 1) := by decide +kernel
theorem dX9_keeps_48 : decode cX9_keeps 48 = .ok (.putfield 31, 3) := by decide +kernel
theorem dX9_keeps_51 : decode cX9_keeps 51 = .ok (.aload_n 0, 1) := by decide +kernel
theorem dX9_keeps_52 : decode cX9_keeps 52 = .ok (.bipush 8, 2) := by decide +kernel
theorem dX9_keeps_54 : decode cX9_keeps 54 = .ok (.aload_n 0, 1) := by decide +kernel
theorem dX9_keeps_55 : decode cX9_keeps 55 = .ok (.getfield 31, 3) := by decide +kernel
theorem dX9_keeps_58 : decode cX9_keeps 58 = .ok (.invokevirtual 27, 3) := by decide +kernel
theorem dX9_keeps_61 : decode cX9_keeps 61 = .ok (.return_, 1) := by decide +kernel
theorem dX9_isRefused_0 : decode cX9_isRefused 0 = .ok (.iload_n 1, 1) := by decide +kernel
theorem dX9_isRefused_1 : decode cX9_isRefused 1 = .ok (.ifCond .eq 13, 3) := by decide +kernel
theorem dX9_isRefused_4 : decode cX9_isRefused 4 = .ok (.aload_n 0, 1) := by decide +kernel
theorem dX9_isRefused_5 : decode cX9_isRefused 5 = .ok (.iload_n 2, 1) := by decide +kernel
theorem dX9_isRefused_6 : decode cX9_isRefused 6 = .ok (.putfield 34, 3) := by decide +kernel
theorem dX9_isRefused_9 : decode cX9_isRefused 9 = .ok (.aload_n 0, 1) := by decide +kernel
theorem dX9_isRefused_10 : decode cX9_isRefused 10 = .ok (.iload_n 3, 1) := by decide +kernel
theorem dX9_isRefused_11 : decode cX9_isRefused 11 = .ok (.putfield 37, 3) := by decide +kernel
theorem dX9_isRefused_14 : decode cX9_isRefused 14 = .ok (.iload_n 1, 1) := by decide +kernel
theorem dX9_isRefused_15 : decode cX9_isRefused 15 = .ok (.ireturn, 1) := by decide +kernel
theorem dX9_ends_0 : decode cX9_ends 0 = .ok (.aload_n 0, 1) := by decide +kernel
theorem dX9_ends_1 : decode cX9_ends 1 = .ok (.iload_n 1, 1) := by decide +kernel
theorem dX9_ends_2 : decode cX9_ends 2 = .ok (.ifCond .ne 7, 3) := by decide +kernel
theorem dX9_ends_5 : decode cX9_ends 5 = .ok (.iconst 0, 1) := by decide +kernel
theorem dX9_ends_6 : decode cX9_ends 6 = .ok (.goto 32, 3) := by decide +kernel
theorem dX9_ends_9 : decode cX9_ends 9 = .ok (.iload_n 1, 1) := by decide +kernel
theorem dX9_ends_10 : decode cX9_ends 10 = .ok (.iconst 1, 1) := by decide +kernel
theorem dX9_ends_11 : decode cX9_ends 11 = .ok (.if_icmp .ne 7, 3) := by decide +kernel
theorem dX9_ends_14 : decode cX9_ends 14 = .ok (.iconst 1, 1) := by decide +kernel
theorem dX9_ends_15 : decode cX9_ends 15 = .ok (.goto 23, 3) := by decide +kernel
theorem dX9_ends_18 : decode cX9_ends 18 = .ok (.iload_n 1, 1) := by decide +kernel
theorem dX9_ends_19 : decode cX9_ends 19 = .ok (.iconst 2, 1) := by decide +kernel
theorem dX9_ends_20 : decode cX9_ends 20 = .ok (.if_icmp .ne 7, 3) := by decide +kernel
theorem dX9_ends_23 : decode cX9_ends 23 = .ok (.iload_n 2, 1) := by decide +kernel
theorem dX9_ends_24 : decode cX9_ends 24 = .ok (.goto 14, 3) := by decide +kernel
theorem dX9_ends_27 : decode cX9_ends 27 = .ok (.iload_n 1, 1) := by decide +kernel
theorem dX9_ends_28 : decode cX9_ends 28 = .ok (.iconst 3, 1) := by decide +kernel
theorem dX9_ends_29 : decode cX9_ends 29 = .ok (.if_icmp .ne 7, 3) := by decide +kernel
theorem dX9_ends_32 : decode cX9_ends 32 = .ok (.iload_n 3, 1) := by decide +kernel
theorem dX9_ends_33 : decode cX9_ends 33 = .ok (.goto 5, 3) := by decide +kernel
theorem dX9_ends_36 : decode cX9_ends 36 = .ok (.iload 4, 2) := by decide +kernel
theorem dX9_ends_38 : decode cX9_ends 38 = .ok (.putfield 24, 3) := by decide +kernel
theorem dX9_ends_41 : decode cX9_ends 41 = .ok (.iload_n 1, 1) := by decide +kernel
theorem dX9_ends_42 : decode cX9_ends 42 = .ok (.ifCond .eq 12, 3) := by decide +kernel
theorem dX9_ends_45 : decode cX9_ends 45 = .ok (.aload_n 0, 1) := by decide +kernel
theorem dX9_ends_46 : decode cX9_ends 46 = .ok (.bipush 8, 2) := by decide +kernel
theorem dX9_ends_48 : decode cX9_ends 48 = .ok (.iconst 0, 1) := by decide +kernel
theorem dX9_ends_49 : decode cX9_ends 49 = .ok (.invokevirtual 27, 3) := by decide +kernel
theorem dX9_ends_52 : decode cX9_ends 52 = .ok (.iconst 0, 1) := by decide +kernel
theorem dX9_ends_53 : decode cX9_ends 53 = .ok (.ireturn, 1) := by decide +kernel
theorem dX9_ends_54 : decode cX9_ends 54 = .ok (.aload_n 0, 1) := by decide +kernel
theorem dX9_ends_55 : decode cX9_ends 55 = .ok (.invokevirtual 40, 3) := by decide +kernel
theorem dX9_ends_58 : decode cX9_ends 58 = .ok (.aload_n 0, 1) := by decide +kernel
theorem dX9_ends_59 : decode cX9_ends 59 = .ok (.getfield 43, 3) := by decide +kernel
theorem dX9_ends_62 : decode cX9_ends 62 = .ok (.ireturn, 1) := by decide +kernel
theorem dX9_isStage_0 : decode cX9_isStage 0 = .ok (.iload_n 0, 1) := by decide +kernel
theorem dX9_isStage_1 : decode cX9_isStage 1 = .ok (.iconst 0, 1) := by decide +kernel
theorem dX9_isStage_2 : decode cX9_isStage 2 = .ok (.iconst 2, 1) := by decide +kernel
theorem dX9_isStage_3 : decode cX9_isStage 3 = .ok (.invokestatic 46, 3) := by decide +kernel
theorem dX9_isStage_6 : decode cX9_isStage 6 = .ok (.ireturn, 1) := by decide +kernel
theorem dX9_isDate_0 : decode cX9_isDate 0 = .ok (.iload_n 0, 1) := by decide +kernel
theorem dX9_isDate_1 : decode cX9_isDate 1 = .ok (.iconst 0, 1) := by decide +kernel
theorem dX9_isDate_2 : decode cX9_isDate 2 = .ok (.bipush 29, 2) := by decide +kernel
theorem dX9_isDate_4 : decode cX9_isDate 4 = .ok (.invokestatic 46, 3) := by decide +kernel
theorem dX9_isDate_7 : decode cX9_isDate 7 = .ok (.ireturn, 1) := by decide +kernel
theorem dX9_isProduction_0 : decode cX9_isProduction 0 = .ok (.iload_n 1, 1) := by decide +kernel
theorem dX9_isProduction_1 : decode cX9_isProduction 1 = .ok (.iconst 0, 1) := by decide +kernel
theorem dX9_isProduction_2 : decode cX9_isProduction 2 = .ok (.aload_n 0, 1) := by decide +kernel
theorem dX9_isProduction_3 : decode cX9_isProduction 3 = .ok (.getfield 9, 3) := by decide +kernel
theorem dX9_isProduction_6 : decode cX9_isProduction 6 = .ok (.iconst 5, 1) := by decide +kernel
theorem dX9_isProduction_7 : decode cX9_isProduction 7 = .ok (.iaload, 1) := by decide +kernel
theorem dX9_isProduction_8 : decode cX9_isProduction 8 = .ok (.iconst 1, 1) := by decide +kernel
theorem dX9_isProduction_9 : decode cX9_isProduction 9 = .ok (.isub, 1) := by decide +kernel
theorem dX9_isProduction_10 : decode cX9_isProduction 10 = .ok (.invokestatic 46, 3) := by decide +kernel
theorem dX9_isProduction_13 : decode cX9_isProduction 13 = .ok (.ireturn, 1) := by decide +kernel
theorem dX9_isPerformance_0 : decode cX9_isPerformance 0 = .ok (.iload_n 1, 1) := by decide +kernel
theorem dX9_isPerformance_1 : decode cX9_isPerformance 1 = .ok (.iconst 0, 1) := by decide +kernel
theorem dX9_isPerformance_2 : decode cX9_isPerformance 2 = .ok (.aload_n 0, 1) := by decide +kernel
theorem dX9_isPerformance_3 : decode cX9_isPerformance 3 = .ok (.getfield 9, 3) := by decide +kernel
theorem dX9_isPerformance_6 : decode cX9_isPerformance 6 = .ok (.bipush 38, 2) := by decide +kernel
theorem dX9_isPerformance_8 : decode cX9_isPerformance 8 = .ok (.iaload, 1) := by decide +kernel
theorem dX9_isPerformance_9 : decode cX9_isPerformance 9 = .ok (.iconst 1, 1) := by decide +kernel
theorem dX9_isPerformance_10 : decode cX9_isPerformance 10 = .ok (.isub, 1) := by decide +kernel
theorem dX9_isPerformance_11 : decode cX9_isPerformance 11 = .ok (.invokestatic 46, 3) := by decide +kernel
theorem dX9_isPerformance_14 : decode cX9_isPerformance 14 = .ok (.ireturn, 1) := by decide +kernel
theorem dX9_isSubscription_0 : decode cX9_isSubscription 0 = .ok (.iload_n 1, 1) := by decide +kernel
theorem dX9_isSubscription_1 : decode cX9_isSubscription 1 = .ok (.iconst 0, 1) := by decide +kernel
theorem dX9_isSubscription_2 : decode cX9_isSubscription 2 = .ok (.aload_n 0, 1) := by decide +kernel
theorem dX9_isSubscription_3 : decode cX9_isSubscription 3 = .ok (.getfield 9, 3) := by decide +kernel
theorem dX9_isSubscription_6 : decode cX9_isSubscription 6 = .ok (.sipush 159, 3) := by decide +kernel
theorem dX9_isSubscription_9 : decode cX9_isSubscription 9 = .ok (.iaload, 1) := by decide +kernel
theorem dX9_isSubscription_10 : decode cX9_isSubscription 10 = .ok (.iconst 1, 1) := by decide +kernel
theorem dX9_isSubscription_11 : decode cX9_isSubscription 11 = .ok (.isub, 1) := by decide +kernel
theorem dX9_isSubscription_12 : decode cX9_isSubscription 12 = .ok (.invokestatic 46, 3) := by decide +kernel
theorem dX9_isSubscription_15 : decode cX9_isSubscription 15 = .ok (.ireturn, 1) := by decide +kernel
theorem dX9_d_0 : decode cX9_d 0 = .ok (.aload_n 0, 1) := by decide +kernel
theorem dX9_d_1 : decode cX9_d 1 = .ok (.getfield 9, 3) := by decide +kernel
theorem dX9_d_4 : decode cX9_d 4 = .ok (.bipush 6, 2) := by decide +kernel
theorem dX9_d_6 : decode cX9_d 6 = .ok (.iconst 4, 1) := by decide +kernel
theorem dX9_d_7 : decode cX9_d 7 = .ok (.iload_n 1, 1) := by decide +kernel
theorem dX9_d_8 : decode cX9_d 8 = .ok (.imul, 1) := by decide +kernel
theorem dX9_d_9 : decode cX9_d 9 = .ok (.iadd, 1) := by decide +kernel
theorem dX9_d_10 : decode cX9_d 10 = .ok (.iload_n 2, 1) := by decide +kernel
theorem dX9_d_11 : decode cX9_d 11 = .ok (.iadd, 1) := by decide +kernel
theorem dX9_d_12 : decode cX9_d 12 = .ok (.iaload, 1) := by decide +kernel
theorem dX9_d_13 : decode cX9_d 13 = .ok (.ireturn, 1) := by decide +kernel
theorem dX9_p_0 : decode cX9_p 0 = .ok (.aload_n 0, 1) := by decide +kernel
theorem dX9_p_1 : decode cX9_p 1 = .ok (.getfield 9, 3) := by decide +kernel
theorem dX9_p_4 : decode cX9_p 4 = .ok (.bipush 39, 2) := by decide +kernel
theorem dX9_p_6 : decode cX9_p 6 = .ok (.iconst 4, 1) := by decide +kernel
theorem dX9_p_7 : decode cX9_p 7 = .ok (.iload_n 1, 1) := by decide +kernel
theorem dX9_p_8 : decode cX9_p 8 = .ok (.imul, 1) := by decide +kernel
theorem dX9_p_9 : decode cX9_p 9 = .ok (.iadd, 1) := by decide +kernel
theorem dX9_p_10 : decode cX9_p 10 = .ok (.iload_n 2, 1) := by decide +kernel
theorem dX9_p_11 : decode cX9_p 11 = .ok (.iadd, 1) := by decide +kernel
theorem dX9_p_12 : decode cX9_p 12 = .ok (.iaload, 1) := by decide +kernel
theorem dX9_p_13 : decode cX9_p 13 = .ok (.ireturn, 1) := by decide +kernel
theorem dX9_u_0 : decode cX9_u 0 = .ok (.aload_n 0, 1) := by decide +kernel
theorem dX9_u_1 : decode cX9_u 1 = .ok (.getfield 9, 3) := by decide +kernel
theorem dX9_u_4 : decode cX9_u 4 = .ok (.sipush 160, 3) := by decide +kernel
theorem dX9_u_7 : decode cX9_u 7 = .ok (.iconst 2, 1) := by decide +kernel
theorem dX9_u_8 : decode cX9_u 8 = .ok (.iload_n 1, 1) := by decide +kernel
theorem dX9_u_9 : decode cX9_u 9 = .ok (.imul, 1) := by decide +kernel
theorem dX9_u_10 : decode cX9_u 10 = .ok (.iadd, 1) := by decide +kernel
theorem dX9_u_11 : decode cX9_u 11 = .ok (.iload_n 2, 1) := by decide +kernel
theorem dX9_u_12 : decode cX9_u 12 = .ok (.iadd, 1) := by decide +kernel
theorem dX9_u_13 : decode cX9_u 13 = .ok (.iaload, 1) := by decide +kernel
theorem dX9_u_14 : decode cX9_u 14 = .ok (.ireturn, 1) := by decide +kernel
theorem dX9_r_0 : decode cX9_r 0 = .ok (.aload_n 0, 1) := by decide +kernel
theorem dX9_r_1 : decode cX9_r 1 = .ok (.getfield 9, 3) := by decide +kernel
theorem dX9_r_4 : decode cX9_r 4 = .ok (.sipush 181, 3) := by decide +kernel
theorem dX9_r_7 : decode cX9_r 7 = .ok (.iconst 3, 1) := by decide +kernel
theorem dX9_r_8 : decode cX9_r 8 = .ok (.iload_n 1, 1) := by decide +kernel
theorem dX9_r_9 : decode cX9_r 9 = .ok (.imul, 1) := by decide +kernel
theorem dX9_r_10 : decode cX9_r 10 = .ok (.iadd, 1) := by decide +kernel
theorem dX9_r_11 : decode cX9_r 11 = .ok (.iload_n 2, 1) := by decide +kernel
theorem dX9_r_12 : decode cX9_r 12 = .ok (.iadd, 1) := by decide +kernel
theorem dX9_r_13 : decode cX9_r 13 = .ok (.iaload, 1) := by decide +kernel
theorem dX9_r_14 : decode cX9_r 14 = .ok (.ireturn, 1) := by decide +kernel
theorem dX9_firstOf_0 : decode cX9_firstOf 0 = .ok (.iconst (-1), 1) := by decide +kernel
theorem dX9_firstOf_1 : decode cX9_firstOf 1 = .ok (.istore_n 2, 1) := by decide +kernel
theorem dX9_firstOf_2 : decode cX9_firstOf 2 = .ok (.iconst 0, 1) := by decide +kernel
theorem dX9_firstOf_3 : decode cX9_firstOf 3 = .ok (.istore_n 3, 1) := by decide +kernel
theorem dX9_firstOf_4 : decode cX9_firstOf 4 = .ok (.iload_n 3, 1) := by decide +kernel
theorem dX9_firstOf_5 : decode cX9_firstOf 5 = .ok (.aload_n 0, 1) := by decide +kernel
theorem dX9_firstOf_6 : decode cX9_firstOf 6 = .ok (.getfield 9, 3) := by decide +kernel
theorem dX9_firstOf_9 : decode cX9_firstOf 9 = .ok (.bipush 38, 2) := by decide +kernel
theorem dX9_firstOf_11 : decode cX9_firstOf 11 = .ok (.iaload, 1) := by decide +kernel
theorem dX9_firstOf_12 : decode cX9_firstOf 12 = .ok (.if_icmp .ge 45, 3) := by decide +kernel
theorem dX9_firstOf_15 : decode cX9_firstOf 15 = .ok (.aload_n 0, 1) := by decide +kernel
theorem dX9_firstOf_16 : decode cX9_firstOf 16 = .ok (.iload_n 3, 1) := by decide +kernel
theorem dX9_firstOf_17 : decode cX9_firstOf 17 = .ok (.iconst 0, 1) := by decide +kernel
theorem dX9_firstOf_18 : decode cX9_firstOf 18 = .ok (.invokevirtual 50, 3) := by decide +kernel
theorem dX9_firstOf_21 : decode cX9_firstOf 21 = .ok (.iload_n 1, 1) := by decide +kernel
theorem dX9_firstOf_22 : decode cX9_firstOf 22 = .ok (.if_icmp .ne 27, 3) := by decide +kernel
theorem dX9_firstOf_25 : decode cX9_firstOf 25 = .ok (.iload_n 2, 1) := by decide +kernel
theorem dX9_firstOf_26 : decode cX9_firstOf 26 = .ok (.iconst (-1), 1) := by decide +kernel
theorem dX9_firstOf_27 : decode cX9_firstOf 27 = .ok (.if_icmp .eq 13, 3) := by decide +kernel
theorem dX9_firstOf_30 : decode cX9_firstOf 30 = .ok (.aload_n 0, 1) := by decide +kernel
theorem dX9_firstOf_31 : decode cX9_firstOf 31 = .ok (.iload_n 3, 1) := by decide +kernel
theorem dX9_firstOf_32 : decode cX9_firstOf 32 = .ok (.iconst 2, 1) := by decide +kernel
theorem dX9_firstOf_33 : decode cX9_firstOf 33 = .ok (.invokevirtual 50, 3) := by decide +kernel
theorem dX9_firstOf_36 : decode cX9_firstOf 36 = .ok (.iload_n 2, 1) := by decide +kernel
theorem dX9_firstOf_37 : decode cX9_firstOf 37 = .ok (.if_icmp .ge 12, 3) := by decide +kernel
theorem dX9_firstOf_40 : decode cX9_firstOf 40 = .ok (.aload_n 0, 1) := by decide +kernel
theorem dX9_firstOf_41 : decode cX9_firstOf 41 = .ok (.iload_n 3, 1) := by decide +kernel
theorem dX9_firstOf_42 : decode cX9_firstOf 42 = .ok (.iconst 2, 1) := by decide +kernel
theorem dX9_firstOf_43 : decode cX9_firstOf 43 = .ok (.invokevirtual 50, 3) := by decide +kernel
theorem dX9_firstOf_46 : decode cX9_firstOf 46 = .ok (.goto 4, 3) := by decide +kernel
theorem dX9_firstOf_49 : decode cX9_firstOf 49 = .ok (.iload_n 2, 1) := by decide +kernel
theorem dX9_firstOf_50 : decode cX9_firstOf 50 = .ok (.istore_n 2, 1) := by decide +kernel
theorem dX9_firstOf_51 : decode cX9_firstOf 51 = .ok (.iinc 3 1, 3) := by decide +kernel
theorem dX9_firstOf_54 : decode cX9_firstOf 54 = .ok (.goto (-50), 3) := by decide +kernel
theorem dX9_firstOf_57 : decode cX9_firstOf 57 = .ok (.iload_n 2, 1) := by decide +kernel
theorem dX9_firstOf_58 : decode cX9_firstOf 58 = .ok (.ireturn, 1) := by decide +kernel
theorem dX9_lastOf_0 : decode cX9_lastOf 0 = .ok (.iconst (-1), 1) := by decide +kernel
theorem dX9_lastOf_1 : decode cX9_lastOf 1 = .ok (.istore_n 2, 1) := by decide +kernel
theorem dX9_lastOf_2 : decode cX9_lastOf 2 = .ok (.iconst 0, 1) := by decide +kernel
theorem dX9_lastOf_3 : decode cX9_lastOf 3 = .ok (.istore_n 3, 1) := by decide +kernel
theorem dX9_lastOf_4 : decode cX9_lastOf 4 = .ok (.iload_n 3, 1) := by decide +kernel
theorem dX9_lastOf_5 : decode cX9_lastOf 5 = .ok (.aload_n 0, 1) := by decide +kernel
theorem dX9_lastOf_6 : decode cX9_lastOf 6 = .ok (.getfield 9, 3) := by decide +kernel
theorem dX9_lastOf_9 : decode cX9_lastOf 9 = .ok (.bipush 38, 2) := by decide +kernel
theorem dX9_lastOf_11 : decode cX9_lastOf 11 = .ok (.iaload, 1) := by decide +kernel
theorem dX9_lastOf_12 : decode cX9_lastOf 12 = .ok (.if_icmp .ge 40, 3) := by decide +kernel
theorem dX9_lastOf_15 : decode cX9_lastOf 15 = .ok (.aload_n 0, 1) := by decide +kernel
theorem dX9_lastOf_16 : decode cX9_lastOf 16 = .ok (.iload_n 3, 1) := by decide +kernel
theorem dX9_lastOf_17 : decode cX9_lastOf 17 = .ok (.iconst 0, 1) := by decide +kernel
theorem dX9_lastOf_18 : decode cX9_lastOf 18 = .ok (.invokevirtual 50, 3) := by decide +kernel
theorem dX9_lastOf_21 : decode cX9_lastOf 21 = .ok (.iload_n 1, 1) := by decide +kernel
theorem dX9_lastOf_22 : decode cX9_lastOf 22 = .ok (.if_icmp .ne 22, 3) := by decide +kernel
theorem dX9_lastOf_25 : decode cX9_lastOf 25 = .ok (.aload_n 0, 1) := by decide +kernel
theorem dX9_lastOf_26 : decode cX9_lastOf 26 = .ok (.iload_n 3, 1) := by decide +kernel
theorem dX9_lastOf_27 : decode cX9_lastOf 27 = .ok (.iconst 2, 1) := by decide +kernel
theorem dX9_lastOf_28 : decode cX9_lastOf 28 = .ok (.invokevirtual 50, 3) := by decide +kernel
theorem dX9_lastOf_31 : decode cX9_lastOf 31 = .ok (.iload_n 2, 1) := by decide +kernel
theorem dX9_lastOf_32 : decode cX9_lastOf 32 = .ok (.if_icmp .le 12, 3) := by decide +kernel
theorem dX9_lastOf_35 : decode cX9_lastOf 35 = .ok (.aload_n 0, 1) := by decide +kernel
theorem dX9_lastOf_36 : decode cX9_lastOf 36 = .ok (.iload_n 3, 1) := by decide +kernel
theorem dX9_lastOf_37 : decode cX9_lastOf 37 = .ok (.iconst 2, 1) := by decide +kernel
theorem dX9_lastOf_38 : decode cX9_lastOf 38 = .ok (.invokevirtual 50, 3) := by decide +kernel
theorem dX9_lastOf_41 : decode cX9_lastOf 41 = .ok (.goto 4, 3) := by decide +kernel
theorem dX9_lastOf_44 : decode cX9_lastOf 44 = .ok (.iload_n 2, 1) := by decide +kernel
theorem dX9_lastOf_45 : decode cX9_lastOf 45 = .ok (.istore_n 2, 1) := by decide +kernel
theorem dX9_lastOf_46 : decode cX9_lastOf 46 = .ok (.iinc 3 1, 3) := by decide +kernel
theorem dX9_lastOf_49 : decode cX9_lastOf 49 = .ok (.goto (-45), 3) := by decide +kernel
theorem dX9_lastOf_52 : decode cX9_lastOf 52 = .ok (.iload_n 2, 1) := by decide +kernel
theorem dX9_lastOf_53 : decode cX9_lastOf 53 = .ok (.ireturn, 1) := by decide +kernel
theorem dX9_isOn_0 : decode cX9_isOn 0 = .ok (.iconst 0, 1) := by decide +kernel
theorem dX9_isOn_1 : decode cX9_isOn 1 = .ok (.istore_n 3, 1) := by decide +kernel
theorem dX9_isOn_2 : decode cX9_isOn 2 = .ok (.iload_n 3, 1) := by decide +kernel
theorem dX9_isOn_3 : decode cX9_isOn 3 = .ok (.aload_n 0, 1) := by decide +kernel
theorem dX9_isOn_4 : decode cX9_isOn 4 = .ok (.getfield 9, 3) := by decide +kernel
theorem dX9_isOn_7 : decode cX9_isOn 7 = .ok (.bipush 38, 2) := by decide +kernel
theorem dX9_isOn_9 : decode cX9_isOn 9 = .ok (.iaload, 1) := by decide +kernel
theorem dX9_isOn_10 : decode cX9_isOn 10 = .ok (.if_icmp .ge 31, 3) := by decide +kernel
theorem dX9_isOn_13 : decode cX9_isOn 13 = .ok (.aload_n 0, 1) := by decide +kernel
theorem dX9_isOn_14 : decode cX9_isOn 14 = .ok (.iload_n 3, 1) := by decide +kernel
theorem dX9_isOn_15 : decode cX9_isOn 15 = .ok (.iconst 0, 1) := by decide +kernel
theorem dX9_isOn_16 : decode cX9_isOn 16 = .ok (.invokevirtual 50, 3) := by decide +kernel
theorem dX9_isOn_19 : decode cX9_isOn 19 = .ok (.iload_n 1, 1) := by decide +kernel
theorem dX9_isOn_20 : decode cX9_isOn 20 = .ok (.if_icmp .ne 15, 3) := by decide +kernel
theorem dX9_isOn_23 : decode cX9_isOn 23 = .ok (.aload_n 0, 1) := by decide +kernel
theorem dX9_isOn_24 : decode cX9_isOn 24 = .ok (.iload_n 3, 1) := by decide +kernel
theorem dX9_isOn_25 : decode cX9_isOn 25 = .ok (.iconst 2, 1) := by decide +kernel
theorem dX9_isOn_26 : decode cX9_isOn 26 = .ok (.invokevirtual 50, 3) := by decide +kernel
theorem dX9_isOn_29 : decode cX9_isOn 29 = .ok (.iload_n 2, 1) := by decide +kernel
theorem dX9_isOn_30 : decode cX9_isOn 30 = .ok (.if_icmp .ne 5, 3) := by decide +kernel
theorem dX9_isOn_33 : decode cX9_isOn 33 = .ok (.iconst 1, 1) := by decide +kernel
theorem dX9_isOn_34 : decode cX9_isOn 34 = .ok (.ireturn, 1) := by decide +kernel
theorem dX9_isOn_35 : decode cX9_isOn 35 = .ok (.iinc 3 1, 3) := by decide +kernel
theorem dX9_isOn_38 : decode cX9_isOn 38 = .ok (.goto (-36), 3) := by decide +kernel
theorem dX9_isOn_41 : decode cX9_isOn 41 = .ok (.iconst 0, 1) := by decide +kernel
theorem dX9_isOn_42 : decode cX9_isOn 42 = .ok (.ireturn, 1) := by decide +kernel
theorem dX9_crews_0 : decode cX9_crews 0 = .ok (.iconst 0, 1) := by decide +kernel
theorem dX9_crews_1 : decode cX9_crews 1 = .ok (.istore_n 2, 1) := by decide +kernel
theorem dX9_crews_2 : decode cX9_crews 2 = .ok (.iconst 0, 1) := by decide +kernel
theorem dX9_crews_3 : decode cX9_crews 3 = .ok (.istore_n 3, 1) := by decide +kernel
theorem dX9_crews_4 : decode cX9_crews 4 = .ok (.iload_n 3, 1) := by decide +kernel
theorem dX9_crews_5 : decode cX9_crews 5 = .ok (.aload_n 0, 1) := by decide +kernel
theorem dX9_crews_6 : decode cX9_crews 6 = .ok (.getfield 9, 3) := by decide +kernel
theorem dX9_crews_9 : decode cX9_crews 9 = .ok (.bipush 38, 2) := by decide +kernel
theorem dX9_crews_11 : decode cX9_crews 11 = .ok (.iaload, 1) := by decide +kernel
theorem dX9_crews_12 : decode cX9_crews 12 = .ok (.if_icmp .ge 37, 3) := by decide +kernel
theorem dX9_crews_15 : decode cX9_crews 15 = .ok (.iload_n 2, 1) := by decide +kernel
theorem dX9_crews_16 : decode cX9_crews 16 = .ok (.aload_n 0, 1) := by decide +kernel
theorem dX9_crews_17 : decode cX9_crews 17 = .ok (.iload_n 3, 1) := by decide +kernel
theorem dX9_crews_18 : decode cX9_crews 18 = .ok (.iconst 2, 1) := by decide +kernel
theorem dX9_crews_19 : decode cX9_crews 19 = .ok (.invokevirtual 50, 3) := by decide +kernel
theorem dX9_crews_22 : decode cX9_crews 22 = .ok (.iload_n 1, 1) := by decide +kernel
theorem dX9_crews_23 : decode cX9_crews 23 = .ok (.if_icmp .ne 17, 3) := by decide +kernel
theorem dX9_crews_26 : decode cX9_crews 26 = .ok (.aload_n 0, 1) := by decide +kernel
theorem dX9_crews_27 : decode cX9_crews 27 = .ok (.aload_n 0, 1) := by decide +kernel
theorem dX9_crews_28 : decode cX9_crews 28 = .ok (.iload_n 3, 1) := by decide +kernel
theorem dX9_crews_29 : decode cX9_crews 29 = .ok (.iconst 0, 1) := by decide +kernel
theorem dX9_crews_30 : decode cX9_crews 30 = .ok (.invokevirtual 50, 3) := by decide +kernel
theorem dX9_crews_33 : decode cX9_crews 33 = .ok (.iconst 1, 1) := by decide +kernel
theorem dX9_crews_34 : decode cX9_crews 34 = .ok (.invokevirtual 54, 3) := by decide +kernel
theorem dX9_crews_37 : decode cX9_crews 37 = .ok (.goto 4, 3) := by decide +kernel
theorem dX9_crews_40 : decode cX9_crews 40 = .ok (.iconst 0, 1) := by decide +kernel
theorem dX9_crews_41 : decode cX9_crews 41 = .ok (.iadd, 1) := by decide +kernel
theorem dX9_crews_42 : decode cX9_crews 42 = .ok (.istore_n 2, 1) := by decide +kernel
theorem dX9_crews_43 : decode cX9_crews 43 = .ok (.iinc 3 1, 3) := by decide +kernel
theorem dX9_crews_46 : decode cX9_crews 46 = .ok (.goto (-42), 3) := by decide +kernel
theorem dX9_crews_49 : decode cX9_crews 49 = .ok (.iload_n 2, 1) := by decide +kernel
theorem dX9_crews_50 : decode cX9_crews 50 = .ok (.ireturn, 1) := by decide +kernel
theorem dX9_loadOf_0 : decode cX9_loadOf 0 = .ok (.iconst 0, 1) := by decide +kernel
theorem dX9_loadOf_1 : decode cX9_loadOf 1 = .ok (.istore_n 2, 1) := by decide +kernel
theorem dX9_loadOf_2 : decode cX9_loadOf 2 = .ok (.iconst 0, 1) := by decide +kernel
theorem dX9_loadOf_3 : decode cX9_loadOf 3 = .ok (.istore_n 3, 1) := by decide +kernel
theorem dX9_loadOf_4 : decode cX9_loadOf 4 = .ok (.iload_n 3, 1) := by decide +kernel
theorem dX9_loadOf_5 : decode cX9_loadOf 5 = .ok (.aload_n 0, 1) := by decide +kernel
theorem dX9_loadOf_6 : decode cX9_loadOf 6 = .ok (.getfield 9, 3) := by decide +kernel
theorem dX9_loadOf_9 : decode cX9_loadOf 9 = .ok (.iconst 5, 1) := by decide +kernel
theorem dX9_loadOf_10 : decode cX9_loadOf 10 = .ok (.iaload, 1) := by decide +kernel
theorem dX9_loadOf_11 : decode cX9_loadOf 11 = .ok (.if_icmp .ge 59, 3) := by decide +kernel
theorem dX9_loadOf_14 : decode cX9_loadOf 14 = .ok (.aload_n 0, 1) := by decide +kernel
theorem dX9_loadOf_15 : decode cX9_loadOf 15 = .ok (.iload_n 3, 1) := by decide +kernel
theorem dX9_loadOf_16 : decode cX9_loadOf 16 = .ok (.invokevirtual 57, 3) := by decide +kernel
theorem dX9_loadOf_19 : decode cX9_loadOf 19 = .ok (.istore 4, 2) := by decide +kernel
theorem dX9_loadOf_21 : decode cX9_loadOf 21 = .ok (.iload_n 2, 1) := by decide +kernel
theorem dX9_loadOf_22 : decode cX9_loadOf 22 = .ok (.iload 4, 2) := by decide +kernel
theorem dX9_loadOf_24 : decode cX9_loadOf 24 = .ok (.iconst (-1), 1) := by decide +kernel
theorem dX9_loadOf_25 : decode cX9_loadOf 25 = .ok (.if_icmp .eq 36, 3) := by decide +kernel
theorem dX9_loadOf_28 : decode cX9_loadOf 28 = .ok (.iload_n 1, 1) := by decide +kernel
theorem dX9_loadOf_29 : decode cX9_loadOf 29 = .ok (.iload 4, 2) := by decide +kernel
theorem dX9_loadOf_31 : decode cX9_loadOf 31 = .ok (.if_icmp .lt 30, 3) := by decide +kernel
theorem dX9_loadOf_34 : decode cX9_loadOf 34 = .ok (.iload_n 1, 1) := by decide +kernel
theorem dX9_loadOf_35 : decode cX9_loadOf 35 = .ok (.aload_n 0, 1) := by decide +kernel
theorem dX9_loadOf_36 : decode cX9_loadOf 36 = .ok (.iload_n 3, 1) := by decide +kernel
theorem dX9_loadOf_37 : decode cX9_loadOf 37 = .ok (.invokevirtual 61, 3) := by decide +kernel
theorem dX9_loadOf_40 : decode cX9_loadOf 40 = .ok (.if_icmp .gt 21, 3) := by decide +kernel
theorem dX9_loadOf_43 : decode cX9_loadOf 43 = .ok (.aload_n 0, 1) := by decide +kernel
theorem dX9_loadOf_44 : decode cX9_loadOf 44 = .ok (.iload_n 3, 1) := by decide +kernel
theorem dX9_loadOf_45 : decode cX9_loadOf 45 = .ok (.iload_n 1, 1) := by decide +kernel
theorem dX9_loadOf_46 : decode cX9_loadOf 46 = .ok (.invokevirtual 64, 3) := by decide +kernel
theorem dX9_loadOf_49 : decode cX9_loadOf 49 = .ok (.ifCond .ne 12, 3) := by decide +kernel
theorem dX9_loadOf_52 : decode cX9_loadOf 52 = .ok (.aload_n 0, 1) := by decide +kernel
theorem dX9_loadOf_53 : decode cX9_loadOf 53 = .ok (.iload_n 3, 1) := by decide +kernel
theorem dX9_loadOf_54 : decode cX9_loadOf 54 = .ok (.iconst 0, 1) := by decide +kernel
theorem dX9_loadOf_55 : decode cX9_loadOf 55 = .ok (.invokevirtual 54, 3) := by decide +kernel
theorem dX9_loadOf_58 : decode cX9_loadOf 58 = .ok (.goto 4, 3) := by decide +kernel
theorem dX9_loadOf_61 : decode cX9_loadOf 61 = .ok (.iconst 0, 1) := by decide +kernel
theorem dX9_loadOf_62 : decode cX9_loadOf 62 = .ok (.iadd, 1) := by decide +kernel
theorem dX9_loadOf_63 : decode cX9_loadOf 63 = .ok (.istore_n 2, 1) := by decide +kernel
theorem dX9_loadOf_64 : decode cX9_loadOf 64 = .ok (.iinc 3 1, 3) := by decide +kernel
theorem dX9_loadOf_67 : decode cX9_loadOf 67 = .ok (.goto (-63), 3) := by decide +kernel
theorem dX9_loadOf_70 : decode cX9_loadOf 70 = .ok (.iload_n 2, 1) := by decide +kernel
theorem dX9_loadOf_71 : decode cX9_loadOf 71 = .ok (.ireturn, 1) := by decide +kernel
theorem dX9_peakNow_0 : decode cX9_peakNow 0 = .ok (.iconst 0, 1) := by decide +kernel
theorem dX9_peakNow_1 : decode cX9_peakNow 1 = .ok (.istore_n 1, 1) := by decide +kernel
theorem dX9_peakNow_2 : decode cX9_peakNow 2 = .ok (.iconst 0, 1) := by decide +kernel
theorem dX9_peakNow_3 : decode cX9_peakNow 3 = .ok (.istore_n 2, 1) := by decide +kernel
theorem dX9_peakNow_4 : decode cX9_peakNow 4 = .ok (.iload_n 2, 1) := by decide +kernel
theorem dX9_peakNow_5 : decode cX9_peakNow 5 = .ok (.bipush 30, 2) := by decide +kernel
theorem dX9_peakNow_7 : decode cX9_peakNow 7 = .ok (.if_icmp .ge 26, 3) := by decide +kernel
theorem dX9_peakNow_10 : decode cX9_peakNow 10 = .ok (.aload_n 0, 1) := by decide +kernel
theorem dX9_peakNow_11 : decode cX9_peakNow 11 = .ok (.iload_n 2, 1) := by decide +kernel
theorem dX9_peakNow_12 : decode cX9_peakNow 12 = .ok (.invokevirtual 68, 3) := by decide +kernel
theorem dX9_peakNow_15 : decode cX9_peakNow 15 = .ok (.istore_n 3, 1) := by decide +kernel
theorem dX9_peakNow_16 : decode cX9_peakNow 16 = .ok (.iload_n 3, 1) := by decide +kernel
theorem dX9_peakNow_17 : decode cX9_peakNow 17 = .ok (.iload_n 1, 1) := by decide +kernel
theorem dX9_peakNow_18 : decode cX9_peakNow 18 = .ok (.if_icmp .le 7, 3) := by decide +kernel
theorem dX9_peakNow_21 : decode cX9_peakNow 21 = .ok (.iload_n 3, 1) := by decide +kernel
theorem dX9_peakNow_22 : decode cX9_peakNow 22 = .ok (.goto 4, 3) := by decide +kernel
theorem dX9_peakNow_25 : decode cX9_peakNow 25 = .ok (.iload_n 1, 1) := by decide +kernel
theorem dX9_peakNow_26 : decode cX9_peakNow 26 = .ok (.istore_n 1, 1) := by decide +kernel
theorem dX9_peakNow_27 : decode cX9_peakNow 27 = .ok (.iinc 2 1, 3) := by decide +kernel
theorem dX9_peakNow_30 : decode cX9_peakNow 30 = .ok (.goto (-26), 3) := by decide +kernel
theorem dX9_peakNow_33 : decode cX9_peakNow 33 = .ok (.iload_n 1, 1) := by decide +kernel
theorem dX9_peakNow_34 : decode cX9_peakNow 34 = .ok (.ireturn, 1) := by decide +kernel
theorem dX9_isWhy_0 : decode cX9_isWhy 0 = .ok (.iload_n 1, 1) := by decide +kernel
theorem dX9_isWhy_1 : decode cX9_isWhy 1 = .ok (.ifCond .eq 13, 3) := by decide +kernel
theorem dX9_isWhy_4 : decode cX9_isWhy 4 = .ok (.aload_n 0, 1) := by decide +kernel
theorem dX9_isWhy_5 : decode cX9_isWhy 5 = .ok (.iload_n 2, 1) := by decide +kernel
theorem dX9_isWhy_6 : decode cX9_isWhy 6 = .ok (.putfield 71, 3) := by decide +kernel
theorem dX9_isWhy_9 : decode cX9_isWhy 9 = .ok (.aload_n 0, 1) := by decide +kernel
theorem dX9_isWhy_10 : decode cX9_isWhy 10 = .ok (.iload_n 3, 1) := by decide +kernel
theorem dX9_isWhy_11 : decode cX9_isWhy 11 = .ok (.putfield 74, 3) := by decide +kernel
theorem dX9_isWhy_14 : decode cX9_isWhy 14 = .ok (.iload_n 1, 1) := by decide +kernel
theorem dX9_isWhy_15 : decode cX9_isWhy 15 = .ok (.ireturn, 1) := by decide +kernel
theorem dX9_lacksStaff_0 : decode cX9_lacksStaff 0 = .ok (.iconst 0, 1) := by decide +kernel
theorem dX9_lacksStaff_1 : decode cX9_lacksStaff 1 = .ok (.istore_n 1, 1) := by decide +kernel
theorem dX9_lacksStaff_2 : decode cX9_lacksStaff 2 = .ok (.iload_n 1, 1) := by decide +kernel
theorem dX9_lacksStaff_3 : decode cX9_lacksStaff 3 = .ok (.bipush 30, 2) := by decide +kernel
theorem dX9_lacksStaff_5 : decode cX9_lacksStaff 5 = .ok (.if_icmp .ge 42, 3) := by decide +kernel
theorem dX9_lacksStaff_8 : decode cX9_lacksStaff 8 = .ok (.aload_n 0, 1) := by decide +kernel
theorem dX9_lacksStaff_9 : decode cX9_lacksStaff 9 = .ok (.iload_n 1, 1) := by decide +kernel
theorem dX9_lacksStaff_10 : decode cX9_lacksStaff 10 = .ok (.invokevirtual 77, 3) := by decide +kernel
theorem dX9_lacksStaff_13 : decode cX9_lacksStaff 13 = .ok (.aload_n 0, 1) := by decide +kernel
theorem dX9_lacksStaff_14 : decode cX9_lacksStaff 14 = .ok (.getfield 9, 3) := by decide +kernel
theorem dX9_lacksStaff_17 : decode cX9_lacksStaff 17 = .ok (.iconst 3, 1) := by decide +kernel
theorem dX9_lacksStaff_18 : decode cX9_lacksStaff 18 = .ok (.iaload, 1) := by decide +kernel
theorem dX9_lacksStaff_19 : decode cX9_lacksStaff 19 = .ok (.isub, 1) := by decide +kernel
theorem dX9_lacksStaff_20 : decode cX9_lacksStaff 20 = .ok (.istore_n 2, 1) := by decide +kernel
theorem dX9_lacksStaff_21 : decode cX9_lacksStaff 21 = .ok (.aload_n 0, 1) := by decide +kernel
theorem dX9_lacksStaff_22 : decode cX9_lacksStaff 22 = .ok (.iload_n 2, 1) := by decide +kernel
theorem dX9_lacksStaff_23 : decode cX9_lacksStaff 23 = .ok (.ifCond .le 7, 3) := by decide +kernel
theorem dX9_lacksStaff_26 : decode cX9_lacksStaff 26 = .ok (.iconst 1, 1) := by decide +kernel
theorem dX9_lacksStaff_27 : decode cX9_lacksStaff 27 = .ok (.goto 4, 3) := by decide +kernel
theorem dX9_lacksStaff_30 : decode cX9_lacksStaff 30 = .ok (.iconst 0, 1) := by decide +kernel
theorem dX9_lacksStaff_31 : decode cX9_lacksStaff 31 = .ok (.iconst 2, 1) := by decide +kernel
theorem dX9_lacksStaff_32 : decode cX9_lacksStaff 32 = .ok (.iload_n 2, 1) := by decide +kernel
theorem dX9_lacksStaff_33 : decode cX9_lacksStaff 33 = .ok (.invokevirtual 80, 3) := by decide +kernel
theorem dX9_lacksStaff_36 : decode cX9_lacksStaff 36 = .ok (.ifCond .eq 5, 3) := by decide +kernel
theorem dX9_lacksStaff_39 : decode cX9_lacksStaff 39 = .ok (.iconst 1, 1) := by decide +kernel
theorem dX9_lacksStaff_40 : decode cX9_lacksStaff 40 = .ok (.ireturn, 1) := by decide +kernel
theorem dX9_lacksStaff_41 : decode cX9_lacksStaff 41 = .ok (.iinc 1 1, 3) := by decide +kernel
theorem dX9_lacksStaff_44 : decode cX9_lacksStaff 44 = .ok (.goto (-42), 3) := by decide +kernel
theorem dX9_lacksStaff_47 : decode cX9_lacksStaff 47 = .ok (.iconst 0, 1) := by decide +kernel
theorem dX9_lacksStaff_48 : decode cX9_lacksStaff 48 = .ok (.ireturn, 1) := by decide +kernel
theorem dX9_lacksRoom_0 : decode cX9_lacksRoom 0 = .ok (.iconst 0, 1) := by decide +kernel
theorem dX9_lacksRoom_1 : decode cX9_lacksRoom 1 = .ok (.istore_n 1, 1) := by decide +kernel
theorem dX9_lacksRoom_2 : decode cX9_lacksRoom 2 = .ok (.iload_n 1, 1) := by decide +kernel
theorem dX9_lacksRoom_3 : decode cX9_lacksRoom 3 = .ok (.bipush 30, 2) := by decide +kernel
theorem dX9_lacksRoom_5 : decode cX9_lacksRoom 5 = .ok (.if_icmp .ge 39, 3) := by decide +kernel
theorem dX9_lacksRoom_8 : decode cX9_lacksRoom 8 = .ok (.aload_n 0, 1) := by decide +kernel
theorem dX9_lacksRoom_9 : decode cX9_lacksRoom 9 = .ok (.aload_n 0, 1) := by decide +kernel
theorem dX9_lacksRoom_10 : decode cX9_lacksRoom 10 = .ok (.iload_n 1, 1) := by decide +kernel
theorem dX9_lacksRoom_11 : decode cX9_lacksRoom 11 = .ok (.invokevirtual 68, 3) := by decide +kernel
theorem dX9_lacksRoom_14 : decode cX9_lacksRoom 14 = .ok (.aload_n 0, 1) := by decide +kernel
theorem dX9_lacksRoom_15 : decode cX9_lacksRoom 15 = .ok (.getfield 9, 3) := by decide +kernel
theorem dX9_lacksRoom_18 : decode cX9_lacksRoom 18 = .ok (.iconst 4, 1) := by decide +kernel
theorem dX9_lacksRoom_19 : decode cX9_lacksRoom 19 = .ok (.iaload, 1) := by decide +kernel
theorem dX9_lacksRoom_20 : decode cX9_lacksRoom 20 = .ok (.if_icmp .le 7, 3) := by decide +kernel
theorem dX9_lacksRoom_23 : decode cX9_lacksRoom 23 = .ok (.iconst 1, 1) := by decide +kernel
theorem dX9_lacksRoom_24 : decode cX9_lacksRoom 24 = .ok (.goto 4, 3) := by decide +kernel
theorem dX9_lacksRoom_27 : decode cX9_lacksRoom 27 = .ok (.iconst 0, 1) := by decide +kernel
theorem dX9_lacksRoom_28 : decode cX9_lacksRoom 28 = .ok (.iconst 3, 1) := by decide +kernel
theorem dX9_lacksRoom_29 : decode cX9_lacksRoom 29 = .ok (.iload_n 1, 1) := by decide +kernel
theorem dX9_lacksRoom_30 : decode cX9_lacksRoom 30 = .ok (.invokevirtual 80, 3) := by decide +kernel
theorem dX9_lacksRoom_33 : decode cX9_lacksRoom 33 = .ok (.ifCond .eq 5, 3) := by decide +kernel
theorem dX9_lacksRoom_36 : decode cX9_lacksRoom 36 = .ok (.iconst 1, 1) := by decide +kernel
theorem dX9_lacksRoom_37 : decode cX9_lacksRoom 37 = .ok (.ireturn, 1) := by decide +kernel
theorem dX9_lacksRoom_38 : decode cX9_lacksRoom 38 = .ok (.iinc 1 1, 3) := by decide +kernel
theorem dX9_lacksRoom_41 : decode cX9_lacksRoom 41 = .ok (.goto (-39), 3) := by decide +kernel
theorem dX9_lacksRoom_44 : decode cX9_lacksRoom 44 = .ok (.iconst 0, 1) := by decide +kernel
theorem dX9_lacksRoom_45 : decode cX9_lacksRoom 45 = .ok (.ireturn, 1) := by decide +kernel
theorem dX9_hinders_0 : decode cX9_hinders 0 = .ok (.aload_n 0, 1) := by decide +kernel
theorem dX9_hinders_1 : decode cX9_hinders 1 = .ok (.iconst 0, 1) := by decide +kernel
theorem dX9_hinders_2 : decode cX9_hinders 2 = .ok (.putfield 71, 3) := by decide +kernel
theorem dX9_hinders_5 : decode cX9_hinders 5 = .ok (.iconst 0, 1) := by decide +kernel
theorem dX9_hinders_6 : decode cX9_hinders 6 = .ok (.istore_n 2, 1) := by decide +kernel
theorem dX9_hinders_7 : decode cX9_hinders 7 = .ok (.iload_n 2, 1) := by decide +kernel
theorem dX9_hinders_8 : decode cX9_hinders 8 = .ok (.aload_n 0, 1) := by decide +kernel
theorem dX9_hinders_9 : decode cX9_hinders 9 = .ok (.getfield 9, 3) := by decide +kernel
theorem dX9_hinders_12 : decode cX9_hinders 12 = .ok (.bipush 38, 2) := by decide +kernel
theorem dX9_hinders_14 : decode cX9_hinders 14 = .ok (.iaload, 1) := by decide +kernel
theorem dX9_hinders_15 : decode cX9_hinders 15 = .ok (.if_icmp .ge 80, 3) := by decide +kernel
theorem dX9_hinders_18 : decode cX9_hinders 18 = .ok (.iload_n 2, 1) := by decide +kernel
theorem dX9_hinders_19 : decode cX9_hinders 19 = .ok (.iload_n 1, 1) := by decide +kernel
theorem dX9_hinders_20 : decode cX9_hinders 20 = .ok (.if_icmp .eq 52, 3) := by decide +kernel
theorem dX9_hinders_23 : decode cX9_hinders 23 = .ok (.aload_n 0, 1) := by decide +kernel
theorem dX9_hinders_24 : decode cX9_hinders 24 = .ok (.iload_n 2, 1) := by decide +kernel
theorem dX9_hinders_25 : decode cX9_hinders 25 = .ok (.iconst 2, 1) := by decide +kernel
theorem dX9_hinders_26 : decode cX9_hinders 26 = .ok (.invokevirtual 50, 3) := by decide +kernel
theorem dX9_hinders_29 : decode cX9_hinders 29 = .ok (.aload_n 0, 1) := by decide +kernel
theorem dX9_hinders_30 : decode cX9_hinders 30 = .ok (.iload_n 1, 1) := by decide +kernel
theorem dX9_hinders_31 : decode cX9_hinders 31 = .ok (.iconst 2, 1) := by decide +kernel
theorem dX9_hinders_32 : decode cX9_hinders 32 = .ok (.invokevirtual 50, 3) := by decide +kernel
theorem dX9_hinders_35 : decode cX9_hinders 35 = .ok (.if_icmp .ne 37, 3) := by decide +kernel
theorem dX9_hinders_38 : decode cX9_hinders 38 = .ok (.aload_n 0, 1) := by decide +kernel
theorem dX9_hinders_39 : decode cX9_hinders 39 = .ok (.iload_n 2, 1) := by decide +kernel
theorem dX9_hinders_40 : decode cX9_hinders 40 = .ok (.iconst 1, 1) := by decide +kernel
theorem dX9_hinders_41 : decode cX9_hinders 41 = .ok (.invokevirtual 50, 3) := by decide +kernel
theorem dX9_hinders_44 : decode cX9_hinders 44 = .ok (.aload_n 0, 1) := by decide +kernel
theorem dX9_hinders_45 : decode cX9_hinders 45 = .ok (.iload_n 1, 1) := by decide +kernel
theorem dX9_hinders_46 : decode cX9_hinders 46 = .ok (.iconst 1, 1) := by decide +kernel
theorem dX9_hinders_47 : decode cX9_hinders 47 = .ok (.invokevirtual 50, 3) := by decide +kernel
theorem dX9_hinders_50 : decode cX9_hinders 50 = .ok (.if_icmp .eq 18, 3) := by decide +kernel
theorem dX9_hinders_53 : decode cX9_hinders 53 = .ok (.aload_n 0, 1) := by decide +kernel
theorem dX9_hinders_54 : decode cX9_hinders 54 = .ok (.iload_n 2, 1) := by decide +kernel
theorem dX9_hinders_55 : decode cX9_hinders 55 = .ok (.iconst 0, 1) := by decide +kernel
theorem dX9_hinders_56 : decode cX9_hinders 56 = .ok (.invokevirtual 50, 3) := by decide +kernel
theorem dX9_hinders_59 : decode cX9_hinders 59 = .ok (.aload_n 0, 1) := by decide +kernel
theorem dX9_hinders_60 : decode cX9_hinders 60 = .ok (.iload_n 1, 1) := by decide +kernel
theorem dX9_hinders_61 : decode cX9_hinders 61 = .ok (.iconst 0, 1) := by decide +kernel
theorem dX9_hinders_62 : decode cX9_hinders 62 = .ok (.invokevirtual 50, 3) := by decide +kernel
theorem dX9_hinders_65 : decode cX9_hinders 65 = .ok (.if_icmp .ne 7, 3) := by decide +kernel
theorem dX9_hinders_68 : decode cX9_hinders 68 = .ok (.iconst 1, 1) := by decide +kernel
theorem dX9_hinders_69 : decode cX9_hinders 69 = .ok (.goto 4, 3) := by decide +kernel
theorem dX9_hinders_72 : decode cX9_hinders 72 = .ok (.iconst 0, 1) := by decide +kernel
theorem dX9_hinders_73 : decode cX9_hinders 73 = .ok (.istore_n 3, 1) := by decide +kernel
theorem dX9_hinders_74 : decode cX9_hinders 74 = .ok (.aload_n 0, 1) := by decide +kernel
theorem dX9_hinders_75 : decode cX9_hinders 75 = .ok (.iload_n 3, 1) := by decide +kernel
theorem dX9_hinders_76 : decode cX9_hinders 76 = .ok (.iconst 1, 1) := by decide +kernel
theorem dX9_hinders_77 : decode cX9_hinders 77 = .ok (.iload_n 2, 1) := by decide +kernel
theorem dX9_hinders_78 : decode cX9_hinders 78 = .ok (.invokevirtual 80, 3) := by decide +kernel
theorem dX9_hinders_81 : decode cX9_hinders 81 = .ok (.ifCond .eq 8, 3) := by decide +kernel
theorem dX9_hinders_84 : decode cX9_hinders 84 = .ok (.aload_n 0, 1) := by decide +kernel
theorem dX9_hinders_85 : decode cX9_hinders 85 = .ok (.getfield 71, 3) := by decide +kernel
theorem dX9_hinders_88 : decode cX9_hinders 88 = .ok (.ireturn, 1) := by decide +kernel
theorem dX9_hinders_89 : decode cX9_hinders 89 = .ok (.iinc 2 1, 3) := by decide +kernel
theorem dX9_hinders_92 : decode cX9_hinders 92 = .ok (.goto (-85), 3) := by decide +kernel
theorem dX9_hinders_95 : decode cX9_hinders 95 = .ok (.aload_n 0, 1) := by decide +kernel
theorem dX9_hinders_96 : decode cX9_hinders 96 = .ok (.invokevirtual 84, 3) := by decide +kernel
theorem dX9_hinders_99 : decode cX9_hinders 99 = .ok (.ifCond .ne 10, 3) := by decide +kernel
theorem dX9_hinders_102 : decode cX9_hinders 102 = .ok (.aload_n 0, 1) := by decide +kernel
theorem dX9_hinders_103 : decode cX9_hinders 103 = .ok (.invokevirtual 88, 3) := by decide +kernel
theorem dX9_hinders_106 : decode cX9_hinders 106 = .ok (.ifCond .eq 7, 3) := by decide +kernel
theorem dX9_hinders_109 : decode cX9_hinders 109 = .ok (.iconst 1, 1) := by decide +kernel
theorem dX9_hinders_110 : decode cX9_hinders 110 = .ok (.goto 4, 3) := by decide +kernel
theorem dX9_hinders_113 : decode cX9_hinders 113 = .ok (.iconst 0, 1) := by decide +kernel
theorem dX9_hinders_114 : decode cX9_hinders 114 = .ok (.istore_n 2, 1) := by decide +kernel
theorem dX9_hinders_115 : decode cX9_hinders 115 = .ok (.aload_n 0, 1) := by decide +kernel
theorem dX9_hinders_116 : decode cX9_hinders 116 = .ok (.getfield 71, 3) := by decide +kernel
theorem dX9_hinders_119 : decode cX9_hinders 119 = .ok (.ireturn, 1) := by decide +kernel
theorem dX9_isHindered_0 : decode cX9_isHindered 0 = .ok (.aload_n 0, 1) := by decide +kernel
theorem dX9_isHindered_1 : decode cX9_isHindered 1 = .ok (.iload_n 1, 1) := by decide +kernel
theorem dX9_isHindered_2 : decode cX9_isHindered 2 = .ok (.aload_n 0, 1) := by decide +kernel
theorem dX9_isHindered_3 : decode cX9_isHindered 3 = .ok (.getfield 71, 3) := by decide +kernel
theorem dX9_isHindered_6 : decode cX9_isHindered 6 = .ok (.aload_n 0, 1) := by decide +kernel
theorem dX9_isHindered_7 : decode cX9_isHindered 7 = .ok (.getfield 74, 3) := by decide +kernel
theorem dX9_isHindered_10 : decode cX9_isHindered 10 = .ok (.invokevirtual 91, 3) := by decide +kernel
theorem dX9_isHindered_13 : decode cX9_isHindered 13 = .ok (.ireturn, 1) := by decide +kernel
theorem dX9_heldAt_0 : decode cX9_heldAt 0 = .ok (.iconst 0, 1) := by decide +kernel
theorem dX9_heldAt_1 : decode cX9_heldAt 1 = .ok (.istore_n 2, 1) := by decide +kernel
theorem dX9_heldAt_2 : decode cX9_heldAt 2 = .ok (.iconst 0, 1) := by decide +kernel
theorem dX9_heldAt_3 : decode cX9_heldAt 3 = .ok (.istore_n 3, 1) := by decide +kernel
theorem dX9_heldAt_4 : decode cX9_heldAt 4 = .ok (.iload_n 3, 1) := by decide +kernel
theorem dX9_heldAt_5 : decode cX9_heldAt 5 = .ok (.aload_n 0, 1) := by decide +kernel
theorem dX9_heldAt_6 : decode cX9_heldAt 6 = .ok (.getfield 9, 3) := by decide +kernel
theorem dX9_heldAt_9 : decode cX9_heldAt 9 = .ok (.sipush 159, 3) := by decide +kernel
theorem dX9_heldAt_12 : decode cX9_heldAt 12 = .ok (.iaload, 1) := by decide +kernel
theorem dX9_heldAt_13 : decode cX9_heldAt 13 = .ok (.if_icmp .ge 31, 3) := by decide +kernel
theorem dX9_heldAt_16 : decode cX9_heldAt 16 = .ok (.iload_n 2, 1) := by decide +kernel
theorem dX9_heldAt_17 : decode cX9_heldAt 17 = .ok (.aload_n 0, 1) := by decide +kernel
theorem dX9_heldAt_18 : decode cX9_heldAt 18 = .ok (.iload_n 3, 1) := by decide +kernel
theorem dX9_heldAt_19 : decode cX9_heldAt 19 = .ok (.iload_n 1, 1) := by decide +kernel
theorem dX9_heldAt_20 : decode cX9_heldAt 20 = .ok (.invokevirtual 94, 3) := by decide +kernel
theorem dX9_heldAt_23 : decode cX9_heldAt 23 = .ok (.ifCond .eq 12, 3) := by decide +kernel
theorem dX9_heldAt_26 : decode cX9_heldAt 26 = .ok (.aload_n 0, 1) := by decide +kernel
theorem dX9_heldAt_27 : decode cX9_heldAt 27 = .ok (.iload_n 3, 1) := by decide +kernel
theorem dX9_heldAt_28 : decode cX9_heldAt 28 = .ok (.iconst 0, 1) := by decide +kernel
theorem dX9_heldAt_29 : decode cX9_heldAt 29 = .ok (.invokevirtual 97, 3) := by decide +kernel
theorem dX9_heldAt_32 : decode cX9_heldAt 32 = .ok (.goto 4, 3) := by decide +kernel
theorem dX9_heldAt_35 : decode cX9_heldAt 35 = .ok (.iconst 0, 1) := by decide +kernel
theorem dX9_heldAt_36 : decode cX9_heldAt 36 = .ok (.iadd, 1) := by decide +kernel
theorem dX9_heldAt_37 : decode cX9_heldAt 37 = .ok (.istore_n 2, 1) := by decide +kernel
theorem dX9_heldAt_38 : decode cX9_heldAt 38 = .ok (.iinc 3 1, 3) := by decide +kernel
theorem dX9_heldAt_41 : decode cX9_heldAt 41 = .ok (.goto (-37), 3) := by decide +kernel
theorem dX9_heldAt_44 : decode cX9_heldAt 44 = .ok (.iload_n 2, 1) := by decide +kernel
theorem dX9_heldAt_45 : decode cX9_heldAt 45 = .ok (.ireturn, 1) := by decide +kernel
theorem dX9_holds_0 : decode cX9_holds 0 = .ok (.aload_n 0, 1) := by decide +kernel
theorem dX9_holds_1 : decode cX9_holds 1 = .ok (.getfield 9, 3) := by decide +kernel
theorem dX9_holds_4 : decode cX9_holds 4 = .ok (.sipush 135, 3) := by decide +kernel
theorem dX9_holds_7 : decode cX9_holds 7 = .ok (.iload_n 2, 1) := by decide +kernel
theorem dX9_holds_8 : decode cX9_holds 8 = .ok (.iadd, 1) := by decide +kernel
theorem dX9_holds_9 : decode cX9_holds 9 = .ok (.iaload, 1) := by decide +kernel
theorem dX9_holds_10 : decode cX9_holds 10 = .ok (.iload_n 1, 1) := by decide +kernel
theorem dX9_holds_11 : decode cX9_holds 11 = .ok (.ishr, 1) := by decide +kernel
theorem dX9_holds_12 : decode cX9_holds 12 = .ok (.iconst 1, 1) := by decide +kernel
theorem dX9_holds_13 : decode cX9_holds 13 = .ok (.iand, 1) := by decide +kernel
theorem dX9_holds_14 : decode cX9_holds 14 = .ok (.iconst 1, 1) := by decide +kernel
theorem dX9_holds_15 : decode cX9_holds 15 = .ok (.if_icmp .ne 7, 3) := by decide +kernel
theorem dX9_holds_18 : decode cX9_holds 18 = .ok (.iconst 1, 1) := by decide +kernel
theorem dX9_holds_19 : decode cX9_holds 19 = .ok (.goto 4, 3) := by decide +kernel
theorem dX9_holds_22 : decode cX9_holds 22 = .ok (.iconst 0, 1) := by decide +kernel
theorem dX9_holds_23 : decode cX9_holds 23 = .ok (.ireturn, 1) := by decide +kernel
theorem dX9_freeAt_0 : decode cX9_freeAt 0 = .ok (.aload_n 0, 1) := by decide +kernel
theorem dX9_freeAt_1 : decode cX9_freeAt 1 = .ok (.getfield 9, 3) := by decide +kernel
theorem dX9_freeAt_4 : decode cX9_freeAt 4 = .ok (.iconst 0, 1) := by decide +kernel
theorem dX9_freeAt_5 : decode cX9_freeAt 5 = .ok (.aload_n 0, 1) := by decide +kernel
theorem dX9_freeAt_6 : decode cX9_freeAt 6 = .ok (.iload_n 1, 1) := by decide +kernel
theorem dX9_freeAt_7 : decode cX9_freeAt 7 = .ok (.iconst 1, 1) := by decide +kernel
theorem dX9_freeAt_8 : decode cX9_freeAt 8 = .ok (.invokevirtual 50, 3) := by decide +kernel
theorem dX9_freeAt_11 : decode cX9_freeAt 11 = .ok (.iadd, 1) := by decide +kernel
theorem dX9_freeAt_12 : decode cX9_freeAt 12 = .ok (.iaload, 1) := by decide +kernel
theorem dX9_freeAt_13 : decode cX9_freeAt 13 = .ok (.aload_n 0, 1) := by decide +kernel
theorem dX9_freeAt_14 : decode cX9_freeAt 14 = .ok (.iload_n 1, 1) := by decide +kernel
theorem dX9_freeAt_15 : decode cX9_freeAt 15 = .ok (.iconst 3, 1) := by decide +kernel
theorem dX9_freeAt_16 : decode cX9_freeAt 16 = .ok (.invokevirtual 50, 3) := by decide +kernel
theorem dX9_freeAt_19 : decode cX9_freeAt 19 = .ok (.isub, 1) := by decide +kernel
theorem dX9_freeAt_20 : decode cX9_freeAt 20 = .ok (.aload_n 0, 1) := by decide +kernel
theorem dX9_freeAt_21 : decode cX9_freeAt 21 = .ok (.iload_n 1, 1) := by decide +kernel
theorem dX9_freeAt_22 : decode cX9_freeAt 22 = .ok (.invokevirtual 100, 3) := by decide +kernel
theorem dX9_freeAt_25 : decode cX9_freeAt 25 = .ok (.isub, 1) := by decide +kernel
theorem dX9_freeAt_26 : decode cX9_freeAt 26 = .ok (.ireturn, 1) := by decide +kernel
theorem dX9_requestAt_0 : decode cX9_requestAt 0 = .ok (.iload_n 2, 1) := by decide +kernel
theorem dX9_requestAt_1 : decode cX9_requestAt 1 = .ok (.istore_n 3, 1) := by decide +kernel
theorem dX9_requestAt_2 : decode cX9_requestAt 2 = .ok (.bipush 9, 2) := by decide +kernel
theorem dX9_requestAt_4 : decode cX9_requestAt 4 = .ok (.istore 4, 2) := by decide +kernel
theorem dX9_requestAt_6 : decode cX9_requestAt 6 = .ok (.iload 4, 2) := by decide +kernel
theorem dX9_requestAt_8 : decode cX9_requestAt 8 = .ok (.ifCond .lt 71, 3) := by decide +kernel
theorem dX9_requestAt_11 : decode cX9_requestAt 11 = .ok (.iload_n 2, 1) := by decide +kernel
theorem dX9_requestAt_12 : decode cX9_requestAt 12 = .ok (.ifCond .lt 67, 3) := by decide +kernel
theorem dX9_requestAt_15 : decode cX9_requestAt 15 = .ok (.iconst 0, 1) := by decide +kernel
theorem dX9_requestAt_16 : decode cX9_requestAt 16 = .ok (.istore 5, 2) := by decide +kernel
theorem dX9_requestAt_18 : decode cX9_requestAt 18 = .ok (.iload 5, 2) := by decide +kernel
theorem dX9_requestAt_20 : decode cX9_requestAt 20 = .ok (.aload_n 0, 1) := by decide +kernel
theorem dX9_requestAt_21 : decode cX9_requestAt 21 = .ok (.getfield 9, 3) := by decide +kernel
theorem dX9_requestAt_24 : decode cX9_requestAt 24 = .ok (.sipush 180, 3) := by decide +kernel
theorem dX9_requestAt_27 : decode cX9_requestAt 27 = .ok (.iaload, 1) := by decide +kernel
theorem dX9_requestAt_28 : decode cX9_requestAt 28 = .ok (.if_icmp .ge 45, 3) := by decide +kernel
theorem dX9_requestAt_31 : decode cX9_requestAt 31 = .ok (.aload_n 0, 1) := by decide +kernel
theorem dX9_requestAt_32 : decode cX9_requestAt 32 = .ok (.iload 5, 2) := by decide +kernel
theorem dX9_requestAt_34 : decode cX9_requestAt 34 = .ok (.iconst 0, 1) := by decide +kernel
theorem dX9_requestAt_35 : decode cX9_requestAt 35 = .ok (.invokevirtual 103, 3) := by decide +kernel
theorem dX9_requestAt_38 : decode cX9_requestAt 38 = .ok (.iload_n 1, 1) := by decide +kernel
theorem dX9_requestAt_39 : decode cX9_requestAt 39 = .ok (.if_icmp .ne 28, 3) := by decide +kernel
theorem dX9_requestAt_42 : decode cX9_requestAt 42 = .ok (.aload_n 0, 1) := by decide +kernel
theorem dX9_requestAt_43 : decode cX9_requestAt 43 = .ok (.iload 5, 2) := by decide +kernel
theorem dX9_requestAt_45 : decode cX9_requestAt 45 = .ok (.iconst 2, 1) := by decide +kernel
theorem dX9_requestAt_46 : decode cX9_requestAt 46 = .ok (.invokevirtual 103, 3) := by decide +kernel
theorem dX9_requestAt_49 : decode cX9_requestAt 49 = .ok (.iload 4, 2) := by decide +kernel
theorem dX9_requestAt_51 : decode cX9_requestAt 51 = .ok (.if_icmp .eq 6, 3) := by decide +kernel
theorem dX9_requestAt_54 : decode cX9_requestAt 54 = .ok (.goto 13, 3) := by decide +kernel
theorem dX9_requestAt_57 : decode cX9_requestAt 57 = .ok (.iload_n 3, 1) := by decide +kernel
theorem dX9_requestAt_58 : decode cX9_requestAt 58 = .ok (.ifCond .ne 6, 3) := by decide +kernel
theorem dX9_requestAt_61 : decode cX9_requestAt 61 = .ok (.iload 5, 2) := by decide +kernel
theorem dX9_requestAt_63 : decode cX9_requestAt 63 = .ok (.ireturn, 1) := by decide +kernel
theorem dX9_requestAt_64 : decode cX9_requestAt 64 = .ok (.iinc 3 (-1), 3) := by decide +kernel
theorem dX9_requestAt_67 : decode cX9_requestAt 67 = .ok (.iinc 5 1, 3) := by decide +kernel
theorem dX9_requestAt_70 : decode cX9_requestAt 70 = .ok (.goto (-52), 3) := by decide +kernel
theorem dX9_requestAt_73 : decode cX9_requestAt 73 = .ok (.iinc 4 (-1), 3) := by decide +kernel
theorem dX9_requestAt_76 : decode cX9_requestAt 76 = .ok (.goto (-70), 3) := by decide +kernel
theorem dX9_requestAt_79 : decode cX9_requestAt 79 = .ok (.iconst (-1), 1) := by decide +kernel
theorem dX9_requestAt_80 : decode cX9_requestAt 80 = .ok (.ireturn, 1) := by decide +kernel
theorem dX9_takesOut_0 : decode cX9_takesOut 0 = .ok (.aload_n 0, 1) := by decide +kernel
theorem dX9_takesOut_1 : decode cX9_takesOut 1 = .ok (.getfield 9, 3) := by decide +kernel
theorem dX9_takesOut_4 : decode cX9_takesOut 4 = .ok (.sipush 180, 3) := by decide +kernel
theorem dX9_takesOut_7 : decode cX9_takesOut 7 = .ok (.dup2, 1) := by decide +kernel
theorem dX9_takesOut_8 : decode cX9_takesOut 8 = .ok (.iaload, 1) := by decide +kernel
theorem dX9_takesOut_9 : decode cX9_takesOut 9 = .ok (.iconst 1, 1) := by decide +kernel
theorem dX9_takesOut_10 : decode cX9_takesOut 10 = .ok (.isub, 1) := by decide +kernel
theorem dX9_takesOut_11 : decode cX9_takesOut 11 = .ok (.iastore, 1) := by decide +kernel
theorem dX9_takesOut_12 : decode cX9_takesOut 12 = .ok (.iconst 3, 1) := by decide +kernel
theorem dX9_takesOut_13 : decode cX9_takesOut 13 = .ok (.iload_n 1, 1) := by decide +kernel
theorem dX9_takesOut_14 : decode cX9_takesOut 14 = .ok (.imul, 1) := by decide +kernel
theorem dX9_takesOut_15 : decode cX9_takesOut 15 = .ok (.istore_n 2, 1) := by decide +kernel
theorem dX9_takesOut_16 : decode cX9_takesOut 16 = .ok (.iload_n 2, 1) := by decide +kernel
theorem dX9_takesOut_17 : decode cX9_takesOut 17 = .ok (.iconst 3, 1) := by decide +kernel
theorem dX9_takesOut_18 : decode cX9_takesOut 18 = .ok (.aload_n 0, 1) := by decide +kernel
theorem dX9_takesOut_19 : decode cX9_takesOut 19 = .ok (.getfield 9, 3) := by decide +kernel
theorem dX9_takesOut_22 : decode cX9_takesOut 22 = .ok (.sipush 180, 3) := by decide +kernel
theorem dX9_takesOut_25 : decode cX9_takesOut 25 = .ok (.iaload, 1) := by decide +kernel
theorem dX9_takesOut_26 : decode cX9_takesOut 26 = .ok (.imul, 1) := by decide +kernel
theorem dX9_takesOut_27 : decode cX9_takesOut 27 = .ok (.if_icmp .ge 31, 3) := by decide +kernel
theorem dX9_takesOut_30 : decode cX9_takesOut 30 = .ok (.aload_n 0, 1) := by decide +kernel
theorem dX9_takesOut_31 : decode cX9_takesOut 31 = .ok (.getfield 9, 3) := by decide +kernel
theorem dX9_takesOut_34 : decode cX9_takesOut 34 = .ok (.sipush 181, 3) := by decide +kernel
theorem dX9_takesOut_37 : decode cX9_takesOut 37 = .ok (.iload_n 2, 1) := by decide +kernel
theorem dX9_takesOut_38 : decode cX9_takesOut 38 = .ok (.iadd, 1) := by decide +kernel
theorem dX9_takesOut_39 : decode cX9_takesOut 39 = .ok (.aload_n 0, 1) := by decide +kernel
theorem dX9_takesOut_40 : decode cX9_takesOut 40 = .ok (.getfield 9, 3) := by decide +kernel
theorem dX9_takesOut_43 : decode cX9_takesOut 43 = .ok (.sipush 181, 3) := by decide +kernel
theorem dX9_takesOut_46 : decode cX9_takesOut 46 = .ok (.iload_n 2, 1) := by decide +kernel
theorem dX9_takesOut_47 : decode cX9_takesOut 47 = .ok (.iadd, 1) := by decide +kernel
theorem dX9_takesOut_48 : decode cX9_takesOut 48 = .ok (.iconst 3, 1) := by decide +kernel
theorem dX9_takesOut_49 : decode cX9_takesOut 49 = .ok (.iadd, 1) := by decide +kernel
theorem dX9_takesOut_50 : decode cX9_takesOut 50 = .ok (.iaload, 1) := by decide +kernel
theorem dX9_takesOut_51 : decode cX9_takesOut 51 = .ok (.iastore, 1) := by decide +kernel
theorem dX9_takesOut_52 : decode cX9_takesOut 52 = .ok (.iinc 2 1, 3) := by decide +kernel
theorem dX9_takesOut_55 : decode cX9_takesOut 55 = .ok (.goto (-39), 3) := by decide +kernel
theorem dX9_takesOut_58 : decode cX9_takesOut 58 = .ok (.return_, 1) := by decide +kernel
theorem dX9_serves_0 : decode cX9_serves 0 = .ok (.aload_n 0, 1) := by decide +kernel
theorem dX9_serves_1 : decode cX9_serves 1 = .ok (.iload_n 1, 1) := by decide +kernel
theorem dX9_serves_2 : decode cX9_serves 2 = .ok (.iconst 0, 1) := by decide +kernel
theorem dX9_serves_3 : decode cX9_serves 3 = .ok (.invokevirtual 106, 3) := by decide +kernel
theorem dX9_serves_6 : decode cX9_serves 6 = .ok (.istore_n 2, 1) := by decide +kernel
theorem dX9_serves_7 : decode cX9_serves 7 = .ok (.iload_n 2, 1) := by decide +kernel
theorem dX9_serves_8 : decode cX9_serves 8 = .ok (.iconst (-1), 1) := by decide +kernel
theorem dX9_serves_9 : decode cX9_serves 9 = .ok (.if_icmp .eq 54, 3) := by decide +kernel
theorem dX9_serves_12 : decode cX9_serves 12 = .ok (.aload_n 0, 1) := by decide +kernel
theorem dX9_serves_13 : decode cX9_serves 13 = .ok (.iload_n 2, 1) := by decide +kernel
theorem dX9_serves_14 : decode cX9_serves 14 = .ok (.iconst 1, 1) := by decide +kernel
theorem dX9_serves_15 : decode cX9_serves 15 = .ok (.invokevirtual 103, 3) := by decide +kernel
theorem dX9_serves_18 : decode cX9_serves 18 = .ok (.aload_n 0, 1) := by decide +kernel
theorem dX9_serves_19 : decode cX9_serves 19 = .ok (.iload_n 1, 1) := by decide +kernel
theorem dX9_serves_20 : decode cX9_serves 20 = .ok (.invokevirtual 109, 3) := by decide +kernel
theorem dX9_serves_23 : decode cX9_serves 23 = .ok (.if_icmp .gt 40, 3) := by decide +kernel
theorem dX9_serves_26 : decode cX9_serves 26 = .ok (.aload_n 0, 1) := by decide +kernel
theorem dX9_serves_27 : decode cX9_serves 27 = .ok (.getfield 9, 3) := by decide +kernel
theorem dX9_serves_30 : decode cX9_serves 30 = .ok (.bipush 39, 2) := by decide +kernel
theorem dX9_serves_32 : decode cX9_serves 32 = .ok (.iconst 4, 1) := by decide +kernel
theorem dX9_serves_33 : decode cX9_serves 33 = .ok (.iload_n 1, 1) := by decide +kernel
theorem dX9_serves_34 : decode cX9_serves 34 = .ok (.imul, 1) := by decide +kernel
theorem dX9_serves_35 : decode cX9_serves 35 = .ok (.iadd, 1) := by decide +kernel
theorem dX9_serves_36 : decode cX9_serves 36 = .ok (.iconst 3, 1) := by decide +kernel
theorem dX9_serves_37 : decode cX9_serves 37 = .ok (.iadd, 1) := by decide +kernel
theorem dX9_serves_38 : decode cX9_serves 38 = .ok (.dup2, 1) := by decide +kernel
theorem dX9_serves_39 : decode cX9_serves 39 = .ok (.iaload, 1) := by decide +kernel
theorem dX9_serves_40 : decode cX9_serves 40 = .ok (.aload_n 0, 1) := by decide +kernel
theorem dX9_serves_41 : decode cX9_serves 41 = .ok (.iload_n 2, 1) := by decide +kernel
theorem dX9_serves_42 : decode cX9_serves 42 = .ok (.iconst 1, 1) := by decide +kernel
theorem dX9_serves_43 : decode cX9_serves 43 = .ok (.invokevirtual 103, 3) := by decide +kernel
theorem dX9_serves_46 : decode cX9_serves 46 = .ok (.iadd, 1) := by decide +kernel
theorem dX9_serves_47 : decode cX9_serves 47 = .ok (.iastore, 1) := by decide +kernel
theorem dX9_serves_48 : decode cX9_serves 48 = .ok (.aload_n 0, 1) := by decide +kernel
theorem dX9_serves_49 : decode cX9_serves 49 = .ok (.iload_n 2, 1) := by decide +kernel
theorem dX9_serves_50 : decode cX9_serves 50 = .ok (.invokevirtual 112, 3) := by decide +kernel
theorem dX9_serves_53 : decode cX9_serves 53 = .ok (.aload_n 0, 1) := by decide +kernel
theorem dX9_serves_54 : decode cX9_serves 54 = .ok (.iload_n 1, 1) := by decide +kernel
theorem dX9_serves_55 : decode cX9_serves 55 = .ok (.iconst 0, 1) := by decide +kernel
theorem dX9_serves_56 : decode cX9_serves 56 = .ok (.invokevirtual 106, 3) := by decide +kernel
theorem dX9_serves_59 : decode cX9_serves 59 = .ok (.istore_n 2, 1) := by decide +kernel
theorem dX9_serves_60 : decode cX9_serves 60 = .ok (.goto (-53), 3) := by decide +kernel
theorem dX9_serves_63 : decode cX9_serves 63 = .ok (.return_, 1) := by decide +kernel
theorem dX9_setsSeats_0 : decode cX9_setsSeats 0 = .ok (.iload_n 1, 1) := by decide +kernel
theorem dX9_setsSeats_1 : decode cX9_setsSeats 1 = .ok (.invokestatic 116, 3) := by decide +kernel
theorem dX9_setsSeats_4 : decode cX9_setsSeats 4 = .ok (.ifCond .ne 5, 3) := by decide +kernel
theorem dX9_setsSeats_7 : decode cX9_setsSeats 7 = .ok (.iconst 1, 1) := by decide +kernel
theorem dX9_setsSeats_8 : decode cX9_setsSeats 8 = .ok (.ireturn, 1) := by decide +kernel
theorem dX9_setsSeats_9 : decode cX9_setsSeats 9 = .ok (.iload_n 2, 1) := by decide +kernel
theorem dX9_setsSeats_10 : decode cX9_setsSeats 10 = .ok (.bipush 10, 2) := by decide +kernel
theorem dX9_setsSeats_12 : decode cX9_setsSeats 12 = .ok (.bipush 99, 2) := by decide +kernel
theorem dX9_setsSeats_14 : decode cX9_setsSeats 14 = .ok (.invokestatic 46, 3) := by decide +kernel
theorem dX9_setsSeats_17 : decode cX9_setsSeats 17 = .ok (.ifCond .ne 5, 3) := by decide +kernel
theorem dX9_setsSeats_20 : decode cX9_setsSeats 20 = .ok (.iconst 2, 1) := by decide +kernel
theorem dX9_setsSeats_21 : decode cX9_setsSeats 21 = .ok (.ireturn, 1) := by decide +kernel
theorem dX9_setsSeats_22 : decode cX9_setsSeats 22 = .ok (.iconst 0, 1) := by decide +kernel
theorem dX9_setsSeats_23 : decode cX9_setsSeats 23 = .ok (.istore_n 3, 1) := by decide +kernel
theorem dX9_setsSeats_24 : decode cX9_setsSeats 24 = .ok (.iload_n 3, 1) := by decide +kernel
theorem dX9_setsSeats_25 : decode cX9_setsSeats 25 = .ok (.aload_n 0, 1) := by decide +kernel
theorem dX9_setsSeats_26 : decode cX9_setsSeats 26 = .ok (.getfield 9, 3) := by decide +kernel
theorem dX9_setsSeats_29 : decode cX9_setsSeats 29 = .ok (.bipush 38, 2) := by decide +kernel
theorem dX9_setsSeats_31 : decode cX9_setsSeats 31 = .ok (.iaload, 1) := by decide +kernel
theorem dX9_setsSeats_32 : decode cX9_setsSeats 32 = .ok (.if_icmp .ge 52, 3) := by decide +kernel
theorem dX9_setsSeats_35 : decode cX9_setsSeats 35 = .ok (.aload_n 0, 1) := by decide +kernel
theorem dX9_setsSeats_36 : decode cX9_setsSeats 36 = .ok (.aload_n 0, 1) := by decide +kernel
theorem dX9_setsSeats_37 : decode cX9_setsSeats 37 = .ok (.iload_n 3, 1) := by decide +kernel
theorem dX9_setsSeats_38 : decode cX9_setsSeats 38 = .ok (.iconst 1, 1) := by decide +kernel
theorem dX9_setsSeats_39 : decode cX9_setsSeats 39 = .ok (.invokevirtual 50, 3) := by decide +kernel
theorem dX9_setsSeats_42 : decode cX9_setsSeats 42 = .ok (.iload_n 1, 1) := by decide +kernel
theorem dX9_setsSeats_43 : decode cX9_setsSeats 43 = .ok (.if_icmp .ne 23, 3) := by decide +kernel
theorem dX9_setsSeats_46 : decode cX9_setsSeats 46 = .ok (.aload_n 0, 1) := by decide +kernel
theorem dX9_setsSeats_47 : decode cX9_setsSeats 47 = .ok (.iload_n 3, 1) := by decide +kernel
theorem dX9_setsSeats_48 : decode cX9_setsSeats 48 = .ok (.iconst 3, 1) := by decide +kernel
theorem dX9_setsSeats_49 : decode cX9_setsSeats 49 = .ok (.invokevirtual 50, 3) := by decide +kernel
theorem dX9_setsSeats_52 : decode cX9_setsSeats 52 = .ok (.aload_n 0, 1) := by decide +kernel
theorem dX9_setsSeats_53 : decode cX9_setsSeats 53 = .ok (.iload_n 3, 1) := by decide +kernel
theorem dX9_setsSeats_54 : decode cX9_setsSeats 54 = .ok (.invokevirtual 100, 3) := by decide +kernel
theorem dX9_setsSeats_57 : decode cX9_setsSeats 57 = .ok (.iadd, 1) := by decide +kernel
theorem dX9_setsSeats_58 : decode cX9_setsSeats 58 = .ok (.iload_n 2, 1) := by decide +kernel
theorem dX9_setsSeats_59 : decode cX9_setsSeats 59 = .ok (.if_icmp .le 7, 3) := by decide +kernel
theorem dX9_setsSeats_62 : decode cX9_setsSeats 62 = .ok (.iconst 1, 1) := by decide +kernel
theorem dX9_setsSeats_63 : decode cX9_setsSeats 63 = .ok (.goto 4, 3) := by decide +kernel
theorem dX9_setsSeats_66 : decode cX9_setsSeats 66 = .ok (.iconst 0, 1) := by decide +kernel
theorem dX9_setsSeats_67 : decode cX9_setsSeats 67 = .ok (.bipush 9, 2) := by decide +kernel
theorem dX9_setsSeats_69 : decode cX9_setsSeats 69 = .ok (.iload_n 3, 1) := by decide +kernel
theorem dX9_setsSeats_70 : decode cX9_setsSeats 70 = .ok (.invokevirtual 91, 3) := by decide +kernel
theorem dX9_setsSeats_73 : decode cX9_setsSeats 73 = .ok (.ifCond .eq 5, 3) := by decide +kernel
theorem dX9_setsSeats_76 : decode cX9_setsSeats 76 = .ok (.iconst 4, 1) := by decide +kernel
theorem dX9_setsSeats_77 : decode cX9_setsSeats 77 = .ok (.ireturn, 1) := by decide +kernel
theorem dX9_setsSeats_78 : decode cX9_setsSeats 78 = .ok (.iinc 3 1, 3) := by decide +kernel
theorem dX9_setsSeats_81 : decode cX9_setsSeats 81 = .ok (.goto (-57), 3) := by decide +kernel
theorem dX9_setsSeats_84 : decode cX9_setsSeats 84 = .ok (.aload_n 0, 1) := by decide +kernel
theorem dX9_setsSeats_85 : decode cX9_setsSeats 85 = .ok (.aload_n 0, 1) := by decide +kernel
theorem dX9_setsSeats_86 : decode cX9_setsSeats 86 = .ok (.getfield 9, 3) := by decide +kernel
theorem dX9_setsSeats_89 : decode cX9_setsSeats 89 = .ok (.iconst 0, 1) := by decide +kernel
theorem dX9_setsSeats_90 : decode cX9_setsSeats 90 = .ok (.iload_n 1, 1) := by decide +kernel
theorem dX9_setsSeats_91 : decode cX9_setsSeats 91 = .ok (.iadd, 1) := by decide +kernel
theorem dX9_setsSeats_92 : decode cX9_setsSeats 92 = .ok (.iaload, 1) := by decide +kernel
theorem dX9_setsSeats_93 : decode cX9_setsSeats 93 = .ok (.putfield 43, 3) := by decide +kernel
theorem dX9_setsSeats_96 : decode cX9_setsSeats 96 = .ok (.aload_n 0, 1) := by decide +kernel
theorem dX9_setsSeats_97 : decode cX9_setsSeats 97 = .ok (.getfield 9, 3) := by decide +kernel
theorem dX9_setsSeats_100 : decode cX9_setsSeats 100 = .ok (.iconst 0, 1) := by decide +kernel
theorem dX9_setsSeats_101 : decode cX9_setsSeats 101 = .ok (.iload_n 1, 1) := by decide +kernel
theorem dX9_setsSeats_102 : decode cX9_setsSeats 102 = .ok (.iadd, 1) := by decide +kernel
theorem dX9_setsSeats_103 : decode cX9_setsSeats 103 = .ok (.iload_n 2, 1) := by decide +kernel
theorem dX9_setsSeats_104 : decode cX9_setsSeats 104 = .ok (.iastore, 1) := by decide +kernel
theorem dX9_setsSeats_105 : decode cX9_setsSeats 105 = .ok (.iconst 0, 1) := by decide +kernel
theorem dX9_setsSeats_106 : decode cX9_setsSeats 106 = .ok (.istore_n 3, 1) := by decide +kernel
theorem dX9_setsSeats_107 : decode cX9_setsSeats 107 = .ok (.iload_n 3, 1) := by decide +kernel
theorem dX9_setsSeats_108 : decode cX9_setsSeats 108 = .ok (.aload_n 0, 1) := by decide +kernel
theorem dX9_setsSeats_109 : decode cX9_setsSeats 109 = .ok (.getfield 9, 3) := by decide +kernel
theorem dX9_setsSeats_112 : decode cX9_setsSeats 112 = .ok (.bipush 38, 2) := by decide +kernel
theorem dX9_setsSeats_114 : decode cX9_setsSeats 114 = .ok (.iaload, 1) := by decide +kernel
theorem dX9_setsSeats_115 : decode cX9_setsSeats 115 = .ok (.if_icmp .ge 24, 3) := by decide +kernel
theorem dX9_setsSeats_118 : decode cX9_setsSeats 118 = .ok (.aload_n 0, 1) := by decide +kernel
theorem dX9_setsSeats_119 : decode cX9_setsSeats 119 = .ok (.iload_n 3, 1) := by decide +kernel
theorem dX9_setsSeats_120 : decode cX9_setsSeats 120 = .ok (.iconst 1, 1) := by decide +kernel
theorem dX9_setsSeats_121 : decode cX9_setsSeats 121 = .ok (.invokevirtual 50, 3) := by decide +kernel
theorem dX9_setsSeats_124 : decode cX9_setsSeats 124 = .ok (.iload_n 1, 1) := by decide +kernel
theorem dX9_setsSeats_125 : decode cX9_setsSeats 125 = .ok (.if_icmp .ne 8, 3) := by decide +kernel
theorem dX9_setsSeats_128 : decode cX9_setsSeats 128 = .ok (.aload_n 0, 1) := by decide +kernel
theorem dX9_setsSeats_129 : decode cX9_setsSeats 129 = .ok (.iload_n 3, 1) := by decide +kernel
theorem dX9_setsSeats_130 : decode cX9_setsSeats 130 = .ok (.invokevirtual 120, 3) := by decide +kernel
theorem dX9_setsSeats_133 : decode cX9_setsSeats 133 = .ok (.iinc 3 1, 3) := by decide +kernel
theorem dX9_setsSeats_136 : decode cX9_setsSeats 136 = .ok (.goto (-29), 3) := by decide +kernel
theorem dX9_setsSeats_139 : decode cX9_setsSeats 139 = .ok (.iconst 0, 1) := by decide +kernel
theorem dX9_setsSeats_140 : decode cX9_setsSeats 140 = .ok (.ireturn, 1) := by decide +kernel
theorem dX9_setSeats_0 : decode cX9_setSeats 0 = .ok (.aload_n 0, 1) := by decide +kernel
theorem dX9_setSeats_1 : decode cX9_setSeats 1 = .ok (.invokevirtual 123, 3) := by decide +kernel
theorem dX9_setSeats_4 : decode cX9_setSeats 4 = .ok (.aload_n 0, 1) := by decide +kernel
theorem dX9_setSeats_5 : decode cX9_setSeats 5 = .ok (.aload_n 0, 1) := by decide +kernel
theorem dX9_setSeats_6 : decode cX9_setSeats 6 = .ok (.iload_n 1, 1) := by decide +kernel
theorem dX9_setSeats_7 : decode cX9_setSeats 7 = .ok (.iload_n 2, 1) := by decide +kernel
theorem dX9_setSeats_8 : decode cX9_setSeats 8 = .ok (.invokevirtual 126, 3) := by decide +kernel
theorem dX9_setSeats_11 : decode cX9_setSeats 11 = .ok (.iconst 2, 1) := by decide +kernel
theorem dX9_setSeats_12 : decode cX9_setSeats 12 = .ok (.iconst 0, 1) := by decide +kernel
theorem dX9_setSeats_13 : decode cX9_setSeats 13 = .ok (.iconst 3, 1) := by decide +kernel
theorem dX9_setSeats_14 : decode cX9_setSeats 14 = .ok (.invokevirtual 129, 3) := by decide +kernel
theorem dX9_setSeats_17 : decode cX9_setSeats 17 = .ok (.ireturn, 1) := by decide +kernel
theorem dX9_sets_0 : decode cX9_sets 0 = .ok (.iload_n 2, 1) := by decide +kernel
theorem dX9_sets_1 : decode cX9_sets 1 = .ok (.iload_n 3, 1) := by decide +kernel
theorem dX9_sets_2 : decode cX9_sets 2 = .ok (.iload 4, 2) := by decide +kernel
theorem dX9_sets_4 : decode cX9_sets 4 = .ok (.invokestatic 46, 3) := by decide +kernel
theorem dX9_sets_7 : decode cX9_sets 7 = .ok (.ifCond .ne 5, 3) := by decide +kernel
theorem dX9_sets_10 : decode cX9_sets 10 = .ok (.iconst 2, 1) := by decide +kernel
theorem dX9_sets_11 : decode cX9_sets 11 = .ok (.ireturn, 1) := by decide +kernel
theorem dX9_sets_12 : decode cX9_sets 12 = .ok (.aload_n 0, 1) := by decide +kernel
theorem dX9_sets_13 : decode cX9_sets 13 = .ok (.aload_n 0, 1) := by decide +kernel
theorem dX9_sets_14 : decode cX9_sets 14 = .ok (.getfield 9, 3) := by decide +kernel
theorem dX9_sets_17 : decode cX9_sets 17 = .ok (.iload_n 1, 1) := by decide +kernel
theorem dX9_sets_18 : decode cX9_sets 18 = .ok (.iaload, 1) := by decide +kernel
theorem dX9_sets_19 : decode cX9_sets 19 = .ok (.putfield 43, 3) := by decide +kernel
theorem dX9_sets_22 : decode cX9_sets 22 = .ok (.aload_n 0, 1) := by decide +kernel
theorem dX9_sets_23 : decode cX9_sets 23 = .ok (.getfield 9, 3) := by decide +kernel
theorem dX9_sets_26 : decode cX9_sets 26 = .ok (.iload_n 1, 1) := by decide +kernel
theorem dX9_sets_27 : decode cX9_sets 27 = .ok (.iload_n 2, 1) := by decide +kernel
theorem dX9_sets_28 : decode cX9_sets 28 = .ok (.iastore, 1) := by decide +kernel
theorem dX9_sets_29 : decode cX9_sets 29 = .ok (.aload_n 0, 1) := by decide +kernel
theorem dX9_sets_30 : decode cX9_sets 30 = .ok (.iload_n 1, 1) := by decide +kernel
theorem dX9_sets_31 : decode cX9_sets 31 = .ok (.iconst 3, 1) := by decide +kernel
theorem dX9_sets_32 : decode cX9_sets 32 = .ok (.if_icmp .ne 10, 3) := by decide +kernel
theorem dX9_sets_35 : decode cX9_sets 35 = .ok (.aload_n 0, 1) := by decide +kernel
theorem dX9_sets_36 : decode cX9_sets 36 = .ok (.invokevirtual 84, 3) := by decide +kernel
theorem dX9_sets_39 : decode cX9_sets 39 = .ok (.goto 7, 3) := by decide +kernel
theorem dX9_sets_42 : decode cX9_sets 42 = .ok (.aload_n 0, 1) := by decide +kernel
theorem dX9_sets_43 : decode cX9_sets 43 = .ok (.invokevirtual 88, 3) := by decide +kernel
theorem dX9_sets_46 : decode cX9_sets 46 = .ok (.invokevirtual 133, 3) := by decide +kernel
theorem dX9_sets_49 : decode cX9_sets 49 = .ok (.ifCond .eq 7, 3) := by decide +kernel
theorem dX9_sets_52 : decode cX9_sets 52 = .ok (.iconst 4, 1) := by decide +kernel
theorem dX9_sets_53 : decode cX9_sets 53 = .ok (.goto 4, 3) := by decide +kernel
theorem dX9_sets_56 : decode cX9_sets 56 = .ok (.iconst 0, 1) := by decide +kernel
theorem dX9_sets_57 : decode cX9_sets 57 = .ok (.ireturn, 1) := by decide +kernel
theorem dX9_setStaff_0 : decode cX9_setStaff 0 = .ok (.aload_n 0, 1) := by decide +kernel
theorem dX9_setStaff_1 : decode cX9_setStaff 1 = .ok (.invokevirtual 123, 3) := by decide +kernel
theorem dX9_setStaff_4 : decode cX9_setStaff 4 = .ok (.aload_n 0, 1) := by decide +kernel
theorem dX9_setStaff_5 : decode cX9_setStaff 5 = .ok (.aload_n 0, 1) := by decide +kernel
theorem dX9_setStaff_6 : decode cX9_setStaff 6 = .ok (.iconst 3, 1) := by decide +kernel
theorem dX9_setStaff_7 : decode cX9_setStaff 7 = .ok (.iload_n 1, 1) := by decide +kernel
theorem dX9_setStaff_8 : decode cX9_setStaff 8 = .ok (.iconst 1, 1) := by decide +kernel
theorem dX9_setStaff_9 : decode cX9_setStaff 9 = .ok (.bipush 20, 2) := by decide +kernel
theorem dX9_setStaff_11 : decode cX9_setStaff 11 = .ok (.invokevirtual 137, 3) := by decide +kernel
theorem dX9_setStaff_14 : decode cX9_setStaff 14 = .ok (.iconst 1, 1) := by decide +kernel
theorem dX9_setStaff_15 : decode cX9_setStaff 15 = .ok (.iconst 0, 1) := by decide +kernel
theorem dX9_setStaff_16 : decode cX9_setStaff 16 = .ok (.iconst 2, 1) := by decide +kernel
theorem dX9_setStaff_17 : decode cX9_setStaff 17 = .ok (.invokevirtual 129, 3) := by decide +kernel
theorem dX9_setStaff_20 : decode cX9_setStaff 20 = .ok (.ireturn, 1) := by decide +kernel
theorem dX9_setRoom_0 : decode cX9_setRoom 0 = .ok (.aload_n 0, 1) := by decide +kernel
theorem dX9_setRoom_1 : decode cX9_setRoom 1 = .ok (.invokevirtual 123, 3) := by decide +kernel
theorem dX9_setRoom_4 : decode cX9_setRoom 4 = .ok (.aload_n 0, 1) := by decide +kernel
theorem dX9_setRoom_5 : decode cX9_setRoom 5 = .ok (.aload_n 0, 1) := by decide +kernel
theorem dX9_setRoom_6 : decode cX9_setRoom 6 = .ok (.iconst 4, 1) := by decide +kernel
theorem dX9_setRoom_7 : decode cX9_setRoom 7 = .ok (.iload_n 1, 1) := by decide +kernel
theorem dX9_setRoom_8 : decode cX9_setRoom 8 = .ok (.iconst 0, 1) := by decide +kernel
theorem dX9_setRoom_9 : decode cX9_setRoom 9 = .ok (.bipush 99, 2) := by decide +kernel
theorem dX9_setRoom_11 : decode cX9_setRoom 11 = .ok (.invokevirtual 137, 3) := by decide +kernel
theorem dX9_setRoom_14 : decode cX9_setRoom 14 = .ok (.iconst 1, 1) := by decide +kernel
theorem dX9_setRoom_15 : decode cX9_setRoom 15 = .ok (.iconst 0, 1) := by decide +kernel
theorem dX9_setRoom_16 : decode cX9_setRoom 16 = .ok (.iconst 2, 1) := by decide +kernel
theorem dX9_setRoom_17 : decode cX9_setRoom 17 = .ok (.invokevirtual 129, 3) := by decide +kernel
theorem dX9_setRoom_20 : decode cX9_setRoom 20 = .ok (.ireturn, 1) := by decide +kernel
theorem dX9_addsProduction_0 : decode cX9_addsProduction 0 = .ok (.iload_n 1, 1) := by decide +kernel
theorem dX9_addsProduction_1 : decode cX9_addsProduction 1 = .ok (.iconst 1, 1) := by decide +kernel
theorem dX9_addsProduction_2 : decode cX9_addsProduction 2 = .ok (.bipush 9, 2) := by decide +kernel
theorem dX9_addsProduction_4 : decode cX9_addsProduction 4 = .ok (.invokestatic 46, 3) := by decide +kernel
theorem dX9_addsProduction_7 : decode cX9_addsProduction 7 = .ok (.ifCond .eq 34, 3) := by decide +kernel
theorem dX9_addsProduction_10 : decode cX9_addsProduction 10 = .ok (.iload_n 2, 1) := by decide +kernel
theorem dX9_addsProduction_11 : decode cX9_addsProduction 11 = .ok (.iconst 1, 1) := by decide +kernel
theorem dX9_addsProduction_12 : decode cX9_addsProduction 12 = .ok (.bipush 6, 2) := by decide +kernel
theorem dX9_addsProduction_14 : decode cX9_addsProduction 14 = .ok (.invokestatic 46, 3) := by decide +kernel
theorem dX9_addsProduction_17 : decode cX9_addsProduction 17 = .ok (.ifCond .eq 24, 3) := by decide +kernel
theorem dX9_addsProduction_20 : decode cX9_addsProduction 20 = .ok (.iload_n 3, 1) := by decide +kernel
theorem dX9_addsProduction_21 : decode cX9_addsProduction 21 = .ok (.iconst 1, 1) := by decide +kernel
theorem dX9_addsProduction_22 : decode cX9_addsProduction 22 = .ok (.bipush 50, 2) := by decide +kernel
theorem dX9_addsProduction_24 : decode cX9_addsProduction 24 = .ok (.invokestatic 46, 3) := by decide +kernel
theorem dX9_addsProduction_27 : decode cX9_addsProduction 27 = .ok (.ifCond .eq 14, 3) := by decide +kernel
theorem dX9_addsProduction_30 : decode cX9_addsProduction 30 = .ok (.iload 4, 2) := by decide +kernel
theorem dX9_addsProduction_32 : decode cX9_addsProduction 32 = .ok (.iconst 0, 1) := by decide +kernel
theorem dX9_addsProduction_33 : decode cX9_addsProduction 33 = .ok (.bipush 100, 2) := by decide +kernel
theorem dX9_addsProduction_35 : decode cX9_addsProduction 35 = .ok (.invokestatic 46, 3) := by decide +kernel
theorem dX9_addsProduction_38 : decode cX9_addsProduction 38 = .ok (.ifCond .ne 5, 3) := by decide +kernel
theorem dX9_addsProduction_41 : decode cX9_addsProduction 41 = .ok (.iconst 2, 1) := by decide +kernel
theorem dX9_addsProduction_42 : decode cX9_addsProduction 42 = .ok (.ireturn, 1) := by decide +kernel
theorem dX9_addsProduction_43 : decode cX9_addsProduction 43 = .ok (.aload_n 0, 1) := by decide +kernel
theorem dX9_addsProduction_44 : decode cX9_addsProduction 44 = .ok (.getfield 9, 3) := by decide +kernel
theorem dX9_addsProduction_47 : decode cX9_addsProduction 47 = .ok (.iconst 5, 1) := by decide +kernel
theorem dX9_addsProduction_48 : decode cX9_addsProduction 48 = .ok (.iaload, 1) := by decide +kernel
theorem dX9_addsProduction_49 : decode cX9_addsProduction 49 = .ok (.istore 5, 2) := by decide +kernel
theorem dX9_addsProduction_51 : decode cX9_addsProduction 51 = .ok (.iload 5, 2) := by decide +kernel
theorem dX9_addsProduction_53 : decode cX9_addsProduction 53 = .ok (.bipush 8, 2) := by decide +kernel
theorem dX9_addsProduction_55 : decode cX9_addsProduction 55 = .ok (.if_icmp .ne 5, 3) := by decide +kernel
theorem dX9_addsProduction_58 : decode cX9_addsProduction 58 = .ok (.iconst 3, 1) := by decide +kernel
theorem dX9_addsProduction_59 : decode cX9_addsProduction 59 = .ok (.ireturn, 1) := by decide +kernel
theorem dX9_addsProduction_60 : decode cX9_addsProduction 60 = .ok (.aload_n 0, 1) := by decide +kernel
theorem dX9_addsProduction_61 : decode cX9_addsProduction 61 = .ok (.getfield 9, 3) := by decide +kernel
theorem dX9_addsProduction_64 : decode cX9_addsProduction 64 = .ok (.bipush 6, 2) := by decide +kernel
theorem dX9_addsProduction_66 : decode cX9_addsProduction 66 = .ok (.iconst 4, 1) := by decide +kernel
theorem dX9_addsProduction_67 : decode cX9_addsProduction 67 = .ok (.iload 5, 2) := by decide +kernel
theorem dX9_addsProduction_69 : decode cX9_addsProduction 69 = .ok (.imul, 1) := by decide +kernel
theorem dX9_addsProduction_70 : decode cX9_addsProduction 70 = .ok (.iadd, 1) := by decide +kernel
theorem dX9_addsProduction_71 : decode cX9_addsProduction 71 = .ok (.iconst 0, 1) := by decide +kernel
theorem dX9_addsProduction_72 : decode cX9_addsProduction 72 = .ok (.iadd, 1) := by decide +kernel
theorem dX9_addsProduction_73 : decode cX9_addsProduction 73 = .ok (.iload_n 1, 1) := by decide +kernel
theorem dX9_addsProduction_74 : decode cX9_addsProduction 74 = .ok (.iastore, 1) := by decide +kernel
theorem dX9_addsProduction_75 : decode cX9_addsProduction 75 = .ok (.aload_n 0, 1) := by decide +kernel
theorem dX9_addsProduction_76 : decode cX9_addsProduction 76 = .ok (.getfield 9, 3) := by decide +kernel
theorem dX9_addsProduction_79 : decode cX9_addsProduction 79 = .ok (.bipush 6, 2) := by decide +kernel
theorem dX9_addsProduction_81 : decode cX9_addsProduction 81 = .ok (.iconst 4, 1) := by decide +kernel
theorem dX9_addsProduction_82 : decode cX9_addsProduction 82 = .ok (.iload 5, 2) := by decide +kernel
theorem dX9_addsProduction_84 : decode cX9_addsProduction 84 = .ok (.imul, 1) := by decide +kernel
theorem dX9_addsProduction_85 : decode cX9_addsProduction 85 = .ok (.iadd, 1) := by decide +kernel
theorem dX9_addsProduction_86 : decode cX9_addsProduction 86 = .ok (.iconst 1, 1) := by decide +kernel
theorem dX9_addsProduction_87 : decode cX9_addsProduction 87 = .ok (.iadd, 1) := by decide +kernel
theorem dX9_addsProduction_88 : decode cX9_addsProduction 88 = .ok (.iload_n 2, 1) := by decide +kernel
theorem dX9_addsProduction_89 : decode cX9_addsProduction 89 = .ok (.iastore, 1) := by decide +kernel
theorem dX9_addsProduction_90 : decode cX9_addsProduction 90 = .ok (.aload_n 0, 1) := by decide +kernel
theorem dX9_addsProduction_91 : decode cX9_addsProduction 91 = .ok (.getfield 9, 3) := by decide +kernel
theorem dX9_addsProduction_94 : decode cX9_addsProduction 94 = .ok (.bipush 6, 2) := by decide +kernel
theorem dX9_addsProduction_96 : decode cX9_addsProduction 96 = .ok (.iconst 4, 1) := by decide +kernel
theorem dX9_addsProduction_97 : decode cX9_addsProduction 97 = .ok (.iload 5, 2) := by decide +kernel
theorem dX9_addsProduction_99 : decode cX9_addsProduction 99 = .ok (.imul, 1) := by decide +kernel
theorem dX9_addsProduction_100 : decode cX9_addsProduction 100 = .ok (.iadd, 1) := by decide +kernel
theorem dX9_addsProduction_101 : decode cX9_addsProduction 101 = .ok (.iconst 2, 1) := by decide +kernel
theorem dX9_addsProduction_102 : decode cX9_addsProduction 102 = .ok (.iadd, 1) := by decide +kernel
theorem dX9_addsProduction_103 : decode cX9_addsProduction 103 = .ok (.iload_n 3, 1) := by decide +kernel
theorem dX9_addsProduction_104 : decode cX9_addsProduction 104 = .ok (.iastore, 1) := by decide +kernel
theorem dX9_addsProduction_105 : decode cX9_addsProduction 105 = .ok (.aload_n 0, 1) := by decide +kernel
theorem dX9_addsProduction_106 : decode cX9_addsProduction 106 = .ok (.getfield 9, 3) := by decide +kernel
theorem dX9_addsProduction_109 : decode cX9_addsProduction 109 = .ok (.bipush 6, 2) := by decide +kernel
theorem dX9_addsProduction_111 : decode cX9_addsProduction 111 = .ok (.iconst 4, 1) := by decide +kernel
theorem dX9_addsProduction_112 : decode cX9_addsProduction 112 = .ok (.iload 5, 2) := by decide +kernel
theorem dX9_addsProduction_114 : decode cX9_addsProduction 114 = .ok (.imul, 1) := by decide +kernel
theorem dX9_addsProduction_115 : decode cX9_addsProduction 115 = .ok (.iadd, 1) := by decide +kernel
theorem dX9_addsProduction_116 : decode cX9_addsProduction 116 = .ok (.iconst 3, 1) := by decide +kernel
theorem dX9_addsProduction_117 : decode cX9_addsProduction 117 = .ok (.iadd, 1) := by decide +kernel
theorem dX9_addsProduction_118 : decode cX9_addsProduction 118 = .ok (.iload 4, 2) := by decide +kernel
theorem dX9_addsProduction_120 : decode cX9_addsProduction 120 = .ok (.iastore, 1) := by decide +kernel
theorem dX9_addsProduction_121 : decode cX9_addsProduction 121 = .ok (.aload_n 0, 1) := by decide +kernel
theorem dX9_addsProduction_122 : decode cX9_addsProduction 122 = .ok (.getfield 9, 3) := by decide +kernel
theorem dX9_addsProduction_125 : decode cX9_addsProduction 125 = .ok (.iconst 5, 1) := by decide +kernel
theorem dX9_addsProduction_126 : decode cX9_addsProduction 126 = .ok (.dup2, 1) := by decide +kernel
theorem dX9_addsProduction_127 : decode cX9_addsProduction 127 = .ok (.iaload, 1) := by decide +kernel
theorem dX9_addsProduction_128 : decode cX9_addsProduction 128 = .ok (.iconst 1, 1) := by decide +kernel
theorem dX9_addsProduction_129 : decode cX9_addsProduction 129 = .ok (.iadd, 1) := by decide +kernel
theorem dX9_addsProduction_130 : decode cX9_addsProduction 130 = .ok (.iastore, 1) := by decide +kernel
theorem dX9_addsProduction_131 : decode cX9_addsProduction 131 = .ok (.aload_n 0, 1) := by decide +kernel
theorem dX9_addsProduction_132 : decode cX9_addsProduction 132 = .ok (.iload 5, 2) := by decide +kernel
theorem dX9_addsProduction_134 : decode cX9_addsProduction 134 = .ok (.putfield 43, 3) := by decide +kernel
theorem dX9_addsProduction_137 : decode cX9_addsProduction 137 = .ok (.iconst 0, 1) := by decide +kernel
theorem dX9_addsProduction_138 : decode cX9_addsProduction 138 = .ok (.ireturn, 1) := by decide +kernel
theorem dX9_addProduction_0 : decode cX9_addProduction 0 = .ok (.aload_n 0, 1) := by decide +kernel
theorem dX9_addProduction_1 : decode cX9_addProduction 1 = .ok (.invokevirtual 123, 3) := by decide +kernel
theorem dX9_addProduction_4 : decode cX9_addProduction 4 = .ok (.aload_n 0, 1) := by decide +kernel
theorem dX9_addProduction_5 : decode cX9_addProduction 5 = .ok (.aload_n 0, 1) := by decide +kernel
theorem dX9_addProduction_6 : decode cX9_addProduction 6 = .ok (.iload_n 1, 1) := by decide +kernel
theorem dX9_addProduction_7 : decode cX9_addProduction 7 = .ok (.iload_n 2, 1) := by decide +kernel
theorem dX9_addProduction_8 : decode cX9_addProduction 8 = .ok (.iload_n 3, 1) := by decide +kernel
theorem dX9_addProduction_9 : decode cX9_addProduction 9 = .ok (.iload 4, 2) := by decide +kernel
theorem dX9_addProduction_11 : decode cX9_addProduction 11 = .ok (.invokevirtual 140, 3) := by decide +kernel
theorem dX9_addProduction_14 : decode cX9_addProduction 14 = .ok (.iconst 1, 1) := by decide +kernel
theorem dX9_addProduction_15 : decode cX9_addProduction 15 = .ok (.iconst 2, 1) := by decide +kernel
theorem dX9_addProduction_16 : decode cX9_addProduction 16 = .ok (.iconst 0, 1) := by decide +kernel
theorem dX9_addProduction_17 : decode cX9_addProduction 17 = .ok (.invokevirtual 129, 3) := by decide +kernel
theorem dX9_addProduction_20 : decode cX9_addProduction 20 = .ok (.ireturn, 1) := by decide +kernel
theorem dX9_takings_0 : decode cX9_takings 0 = .ok (.iconst 0, 1) := by decide +kernel
theorem dX9_takings_1 : decode cX9_takings 1 = .ok (.istore_n 2, 1) := by decide +kernel
theorem dX9_takings_2 : decode cX9_takings 2 = .ok (.aload_n 0, 1) := by decide +kernel
theorem dX9_takings_3 : decode cX9_takings 3 = .ok (.iload_n 1, 1) := by decide +kernel
theorem dX9_takings_4 : decode cX9_takings 4 = .ok (.iconst 2, 1) := by decide +kernel
theorem dX9_takings_5 : decode cX9_takings 5 = .ok (.invokevirtual 54, 3) := by decide +kernel
theorem dX9_takings_8 : decode cX9_takings 8 = .ok (.istore_n 3, 1) := by decide +kernel
theorem dX9_takings_9 : decode cX9_takings 9 = .ok (.iconst 0, 1) := by decide +kernel
theorem dX9_takings_10 : decode cX9_takings 10 = .ok (.istore 4, 2) := by decide +kernel
theorem dX9_takings_12 : decode cX9_takings 12 = .ok (.iload 4, 2) := by decide +kernel
theorem dX9_takings_14 : decode cX9_takings 14 = .ok (.aload_n 0, 1) := by decide +kernel
theorem dX9_takings_15 : decode cX9_takings 15 = .ok (.getfield 9, 3) := by decide +kernel
theorem dX9_takings_18 : decode cX9_takings 18 = .ok (.bipush 38, 2) := by decide +kernel
theorem dX9_takings_20 : decode cX9_takings 20 = .ok (.iaload, 1) := by decide +kernel
theorem dX9_takings_21 : decode cX9_takings 21 = .ok (.if_icmp .ge 49, 3) := by decide +kernel
theorem dX9_takings_24 : decode cX9_takings 24 = .ok (.iload_n 2, 1) := by decide +kernel
theorem dX9_takings_25 : decode cX9_takings 25 = .ok (.aload_n 0, 1) := by decide +kernel
theorem dX9_takings_26 : decode cX9_takings 26 = .ok (.iload 4, 2) := by decide +kernel
theorem dX9_takings_28 : decode cX9_takings 28 = .ok (.iconst 0, 1) := by decide +kernel
theorem dX9_takings_29 : decode cX9_takings 29 = .ok (.invokevirtual 50, 3) := by decide +kernel
theorem dX9_takings_32 : decode cX9_takings 32 = .ok (.iload_n 1, 1) := by decide +kernel
theorem dX9_takings_33 : decode cX9_takings 33 = .ok (.if_icmp .ne 28, 3) := by decide +kernel
theorem dX9_takings_36 : decode cX9_takings 36 = .ok (.iload_n 3, 1) := by decide +kernel
theorem dX9_takings_37 : decode cX9_takings 37 = .ok (.aload_n 0, 1) := by decide +kernel
theorem dX9_takings_38 : decode cX9_takings 38 = .ok (.iload 4, 2) := by decide +kernel
theorem dX9_takings_40 : decode cX9_takings 40 = .ok (.iconst 3, 1) := by decide +kernel
theorem dX9_takings_41 : decode cX9_takings 41 = .ok (.invokevirtual 50, 3) := by decide +kernel
theorem dX9_takings_44 : decode cX9_takings 44 = .ok (.imul, 1) := by decide +kernel
theorem dX9_takings_45 : decode cX9_takings 45 = .ok (.iconst 4, 1) := by decide +kernel
theorem dX9_takings_46 : decode cX9_takings 46 = .ok (.iload_n 3, 1) := by decide +kernel
theorem dX9_takings_47 : decode cX9_takings 47 = .ok (.imul, 1) := by decide +kernel
theorem dX9_takings_48 : decode cX9_takings 48 = .ok (.iconst 5, 1) := by decide +kernel
theorem dX9_takings_49 : decode cX9_takings 49 = .ok (.idiv, 1) := by decide +kernel
theorem dX9_takings_50 : decode cX9_takings 50 = .ok (.aload_n 0, 1) := by decide +kernel
theorem dX9_takings_51 : decode cX9_takings 51 = .ok (.iload 4, 2) := by decide +kernel
theorem dX9_takings_53 : decode cX9_takings 53 = .ok (.invokevirtual 100, 3) := by decide +kernel
theorem dX9_takings_56 : decode cX9_takings 56 = .ok (.imul, 1) := by decide +kernel
theorem dX9_takings_57 : decode cX9_takings 57 = .ok (.iadd, 1) := by decide +kernel
theorem dX9_takings_58 : decode cX9_takings 58 = .ok (.goto 4, 3) := by decide +kernel
theorem dX9_takings_61 : decode cX9_takings 61 = .ok (.iconst 0, 1) := by decide +kernel
theorem dX9_takings_62 : decode cX9_takings 62 = .ok (.iadd, 1) := by decide +kernel
theorem dX9_takings_63 : decode cX9_takings 63 = .ok (.istore_n 2, 1) := by decide +kernel
theorem dX9_takings_64 : decode cX9_takings 64 = .ok (.iinc 4 1, 3) := by decide +kernel
theorem dX9_takings_67 : decode cX9_takings 67 = .ok (.goto (-55), 3) := by decide +kernel
theorem dX9_takings_70 : decode cX9_takings 70 = .ok (.iload_n 2, 1) := by decide +kernel
theorem dX9_takings_71 : decode cX9_takings 71 = .ok (.ireturn, 1) := by decide +kernel
theorem dX9_performancesOf_0 : decode cX9_performancesOf 0 = .ok (.iconst 0, 1) := by decide +kernel
theorem dX9_performancesOf_1 : decode cX9_performancesOf 1 = .ok (.istore_n 2, 1) := by decide +kernel
theorem dX9_performancesOf_2 : decode cX9_performancesOf 2 = .ok (.iconst 0, 1) := by decide +kernel
theorem dX9_performancesOf_3 : decode cX9_performancesOf 3 = .ok (.istore_n 3, 1) := by decide +kernel
theorem dX9_performancesOf_4 : decode cX9_performancesOf 4 = .ok (.iload_n 3, 1) := by decide +kernel
theorem dX9_performancesOf_5 : decode cX9_performancesOf 5 = .ok (.aload_n 0, 1) := by decide +kernel
theorem dX9_performancesOf_6 : decode cX9_performancesOf 6 = .ok (.getfield 9, 3) := by decide +kernel
theorem dX9_performancesOf_9 : decode cX9_performancesOf 9 = .ok (.bipush 38, 2) := by decide +kernel
theorem dX9_performancesOf_11 : decode cX9_performancesOf 11 = .ok (.iaload, 1) := by decide +kernel
theorem dX9_performancesOf_12 : decode cX9_performancesOf 12 = .ok (.if_icmp .ge 27, 3) := by decide +kernel
theorem dX9_performancesOf_15 : decode cX9_performancesOf 15 = .ok (.iload_n 2, 1) := by decide +kernel
theorem dX9_performancesOf_16 : decode cX9_performancesOf 16 = .ok (.aload_n 0, 1) := by decide +kernel
theorem dX9_performancesOf_17 : decode cX9_performancesOf 17 = .ok (.iload_n 3, 1) := by decide +kernel
theorem dX9_performancesOf_18 : decode cX9_performancesOf 18 = .ok (.iconst 0, 1) := by decide +kernel
theorem dX9_performancesOf_19 : decode cX9_performancesOf 19 = .ok (.invokevirtual 50, 3) := by decide +kernel
theorem dX9_performancesOf_22 : decode cX9_performancesOf 22 = .ok (.iload_n 1, 1) := by decide +kernel
theorem dX9_performancesOf_23 : decode cX9_performancesOf 23 = .ok (.if_icmp .ne 7, 3) := by decide +kernel
theorem dX9_performancesOf_26 : decode cX9_performancesOf 26 = .ok (.iconst 1, 1) := by decide +kernel
theorem dX9_performancesOf_27 : decode cX9_performancesOf 27 = .ok (.goto 4, 3) := by decide +kernel
theorem dX9_performancesOf_30 : decode cX9_performancesOf 30 = .ok (.iconst 0, 1) := by decide +kernel
theorem dX9_performancesOf_31 : decode cX9_performancesOf 31 = .ok (.iadd, 1) := by decide +kernel
theorem dX9_performancesOf_32 : decode cX9_performancesOf 32 = .ok (.istore_n 2, 1) := by decide +kernel
theorem dX9_performancesOf_33 : decode cX9_performancesOf 33 = .ok (.iinc 3 1, 3) := by decide +kernel
theorem dX9_performancesOf_36 : decode cX9_performancesOf 36 = .ok (.goto (-32), 3) := by decide +kernel
theorem dX9_performancesOf_39 : decode cX9_performancesOf 39 = .ok (.iload_n 2, 1) := by decide +kernel
theorem dX9_performancesOf_40 : decode cX9_performancesOf 40 = .ok (.ireturn, 1) := by decide +kernel
theorem dX9_production_0 : decode cX9_production 0 = .ok (.aload_n 0, 1) := by decide +kernel
theorem dX9_production_1 : decode cX9_production 1 = .ok (.aload_n 0, 1) := by decide +kernel
theorem dX9_production_2 : decode cX9_production 2 = .ok (.iload_n 1, 1) := by decide +kernel
theorem dX9_production_3 : decode cX9_production 3 = .ok (.invokevirtual 143, 3) := by decide +kernel
theorem dX9_production_6 : decode cX9_production 6 = .ok (.ifCond .ne 7, 3) := by decide +kernel
theorem dX9_production_9 : decode cX9_production 9 = .ok (.iconst 1, 1) := by decide +kernel
theorem dX9_production_10 : decode cX9_production 10 = .ok (.goto 18, 3) := by decide +kernel
theorem dX9_production_13 : decode cX9_production 13 = .ok (.iload_n 2, 1) := by decide +kernel
theorem dX9_production_14 : decode cX9_production 14 = .ok (.iconst 0, 1) := by decide +kernel
theorem dX9_production_15 : decode cX9_production 15 = .ok (.bipush 7, 2) := by decide +kernel
theorem dX9_production_17 : decode cX9_production 17 = .ok (.invokestatic 46, 3) := by decide +kernel
theorem dX9_production_20 : decode cX9_production 20 = .ok (.ifCond .eq 7, 3) := by decide +kernel
theorem dX9_production_23 : decode cX9_production 23 = .ok (.iconst 0, 1) := by decide +kernel
theorem dX9_production_24 : decode cX9_production 24 = .ok (.goto 4, 3) := by decide +kernel
theorem dX9_production_27 : decode cX9_production 27 = .ok (.iconst 2, 1) := by decide +kernel
theorem dX9_production_28 : decode cX9_production 28 = .ok (.putfield 24, 3) := by decide +kernel
theorem dX9_production_31 : decode cX9_production 31 = .ok (.aload_n 0, 1) := by decide +kernel
theorem dX9_production_32 : decode cX9_production 32 = .ok (.getfield 24, 3) := by decide +kernel
theorem dX9_production_35 : decode cX9_production 35 = .ok (.ifCond .eq 5, 3) := by decide +kernel
theorem dX9_production_38 : decode cX9_production 38 = .ok (.iconst 0, 1) := by decide +kernel
theorem dX9_production_39 : decode cX9_production 39 = .ok (.ireturn, 1) := by decide +kernel
theorem dX9_production_40 : decode cX9_production 40 = .ok (.iload_n 2, 1) := by decide +kernel
theorem dX9_production_41 : decode cX9_production 41 = .ok (.tableswitch 55 4 7 #[31, 37, 43, 49], 31) := by decide +kernel
theorem dX9_production_72 : decode cX9_production 72 = .ok (.aload_n 0, 1) := by decide +kernel
theorem dX9_production_73 : decode cX9_production 73 = .ok (.iload_n 1, 1) := by decide +kernel
theorem dX9_production_74 : decode cX9_production 74 = .ok (.invokevirtual 146, 3) := by decide +kernel
theorem dX9_production_77 : decode cX9_production 77 = .ok (.ireturn, 1) := by decide +kernel
theorem dX9_production_78 : decode cX9_production 78 = .ok (.aload_n 0, 1) := by decide +kernel
theorem dX9_production_79 : decode cX9_production 79 = .ok (.iload_n 1, 1) := by decide +kernel
theorem dX9_production_80 : decode cX9_production 80 = .ok (.invokevirtual 57, 3) := by decide +kernel
theorem dX9_production_83 : decode cX9_production 83 = .ok (.ireturn, 1) := by decide +kernel
theorem dX9_production_84 : decode cX9_production 84 = .ok (.aload_n 0, 1) := by decide +kernel
theorem dX9_production_85 : decode cX9_production 85 = .ok (.iload_n 1, 1) := by decide +kernel
theorem dX9_production_86 : decode cX9_production 86 = .ok (.invokevirtual 61, 3) := by decide +kernel
theorem dX9_production_89 : decode cX9_production 89 = .ok (.ireturn, 1) := by decide +kernel
theorem dX9_production_90 : decode cX9_production 90 = .ok (.aload_n 0, 1) := by decide +kernel
theorem dX9_production_91 : decode cX9_production 91 = .ok (.iload_n 1, 1) := by decide +kernel
theorem dX9_production_92 : decode cX9_production 92 = .ok (.invokevirtual 149, 3) := by decide +kernel
theorem dX9_production_95 : decode cX9_production 95 = .ok (.ireturn, 1) := by decide +kernel
theorem dX9_production_96 : decode cX9_production 96 = .ok (.aload_n 0, 1) := by decide +kernel
theorem dX9_production_97 : decode cX9_production 97 = .ok (.iload_n 1, 1) := by decide +kernel
theorem dX9_production_98 : decode cX9_production 98 = .ok (.iload_n 2, 1) := by decide +kernel
theorem dX9_production_99 : decode cX9_production 99 = .ok (.invokevirtual 54, 3) := by decide +kernel
theorem dX9_production_102 : decode cX9_production 102 = .ok (.ireturn, 1) := by decide +kernel
theorem dX9_lays_0 : decode cX9_lays 0 = .ok (.aload_n 0, 1) := by decide +kernel
theorem dX9_lays_1 : decode cX9_lays 1 = .ok (.getfield 9, 3) := by decide +kernel
theorem dX9_lays_4 : decode cX9_lays 4 = .ok (.bipush 39, 2) := by decide +kernel
theorem dX9_lays_6 : decode cX9_lays 6 = .ok (.iconst 4, 1) := by decide +kernel
theorem dX9_lays_7 : decode cX9_lays 7 = .ok (.iload_n 1, 1) := by decide +kernel
theorem dX9_lays_8 : decode cX9_lays 8 = .ok (.imul, 1) := by decide +kernel
theorem dX9_lays_9 : decode cX9_lays 9 = .ok (.iadd, 1) := by decide +kernel
theorem dX9_lays_10 : decode cX9_lays 10 = .ok (.iconst 0, 1) := by decide +kernel
theorem dX9_lays_11 : decode cX9_lays 11 = .ok (.iadd, 1) := by decide +kernel
theorem dX9_lays_12 : decode cX9_lays 12 = .ok (.iload_n 2, 1) := by decide +kernel
theorem dX9_lays_13 : decode cX9_lays 13 = .ok (.iastore, 1) := by decide +kernel
theorem dX9_lays_14 : decode cX9_lays 14 = .ok (.aload_n 0, 1) := by decide +kernel
theorem dX9_lays_15 : decode cX9_lays 15 = .ok (.getfield 9, 3) := by decide +kernel
theorem dX9_lays_18 : decode cX9_lays 18 = .ok (.bipush 39, 2) := by decide +kernel
theorem dX9_lays_20 : decode cX9_lays 20 = .ok (.iconst 4, 1) := by decide +kernel
theorem dX9_lays_21 : decode cX9_lays 21 = .ok (.iload_n 1, 1) := by decide +kernel
theorem dX9_lays_22 : decode cX9_lays 22 = .ok (.imul, 1) := by decide +kernel
theorem dX9_lays_23 : decode cX9_lays 23 = .ok (.iadd, 1) := by decide +kernel
theorem dX9_lays_24 : decode cX9_lays 24 = .ok (.iconst 1, 1) := by decide +kernel
theorem dX9_lays_25 : decode cX9_lays 25 = .ok (.iadd, 1) := by decide +kernel
theorem dX9_lays_26 : decode cX9_lays 26 = .ok (.iload_n 3, 1) := by decide +kernel
theorem dX9_lays_27 : decode cX9_lays 27 = .ok (.iastore, 1) := by decide +kernel
theorem dX9_lays_28 : decode cX9_lays 28 = .ok (.aload_n 0, 1) := by decide +kernel
theorem dX9_lays_29 : decode cX9_lays 29 = .ok (.getfield 9, 3) := by decide +kernel
theorem dX9_lays_32 : decode cX9_lays 32 = .ok (.bipush 39, 2) := by decide +kernel
theorem dX9_lays_34 : decode cX9_lays 34 = .ok (.iconst 4, 1) := by decide +kernel
theorem dX9_lays_35 : decode cX9_lays 35 = .ok (.iload_n 1, 1) := by decide +kernel
theorem dX9_lays_36 : decode cX9_lays 36 = .ok (.imul, 1) := by decide +kernel
theorem dX9_lays_37 : decode cX9_lays 37 = .ok (.iadd, 1) := by decide +kernel
theorem dX9_lays_38 : decode cX9_lays 38 = .ok (.iconst 2, 1) := by decide +kernel
theorem dX9_lays_39 : decode cX9_lays 39 = .ok (.iadd, 1) := by decide +kernel
theorem dX9_lays_40 : decode cX9_lays 40 = .ok (.iload 4, 2) := by decide +kernel
theorem dX9_lays_42 : decode cX9_lays 42 = .ok (.iastore, 1) := by decide +kernel
theorem dX9_lays_43 : decode cX9_lays 43 = .ok (.aload_n 0, 1) := by decide +kernel
theorem dX9_lays_44 : decode cX9_lays 44 = .ok (.getfield 9, 3) := by decide +kernel
theorem dX9_lays_47 : decode cX9_lays 47 = .ok (.bipush 39, 2) := by decide +kernel
theorem dX9_lays_49 : decode cX9_lays 49 = .ok (.iconst 4, 1) := by decide +kernel
theorem dX9_lays_50 : decode cX9_lays 50 = .ok (.iload_n 1, 1) := by decide +kernel
theorem dX9_lays_51 : decode cX9_lays 51 = .ok (.imul, 1) := by decide +kernel
theorem dX9_lays_52 : decode cX9_lays 52 = .ok (.iadd, 1) := by decide +kernel
theorem dX9_lays_53 : decode cX9_lays 53 = .ok (.iconst 3, 1) := by decide +kernel
theorem dX9_lays_54 : decode cX9_lays 54 = .ok (.iadd, 1) := by decide +kernel
theorem dX9_lays_55 : decode cX9_lays 55 = .ok (.iconst 0, 1) := by decide +kernel
theorem dX9_lays_56 : decode cX9_lays 56 = .ok (.iastore, 1) := by decide +kernel
theorem dX9_lays_57 : decode cX9_lays 57 = .ok (.aload_n 0, 1) := by decide +kernel
theorem dX9_lays_58 : decode cX9_lays 58 = .ok (.getfield 9, 3) := by decide +kernel
theorem dX9_lays_61 : decode cX9_lays 61 = .ok (.sipush 135, 3) := by decide +kernel
theorem dX9_lays_64 : decode cX9_lays 64 = .ok (.iload_n 1, 1) := by decide +kernel
theorem dX9_lays_65 : decode cX9_lays 65 = .ok (.iadd, 1) := by decide +kernel
theorem dX9_lays_66 : decode cX9_lays 66 = .ok (.iconst 0, 1) := by decide +kernel
theorem dX9_lays_67 : decode cX9_lays 67 = .ok (.iastore, 1) := by decide +kernel
theorem dX9_lays_68 : decode cX9_lays 68 = .ok (.return_, 1) := by decide +kernel
theorem dX9_performs_0 : decode cX9_performs 0 = .ok (.aload_n 0, 1) := by decide +kernel
theorem dX9_performs_1 : decode cX9_performs 1 = .ok (.iload_n 1, 1) := by decide +kernel
theorem dX9_performs_2 : decode cX9_performs 2 = .ok (.invokevirtual 143, 3) := by decide +kernel
theorem dX9_performs_5 : decode cX9_performs 5 = .ok (.ifCond .eq 10, 3) := by decide +kernel
theorem dX9_performs_8 : decode cX9_performs 8 = .ok (.iload_n 2, 1) := by decide +kernel
theorem dX9_performs_9 : decode cX9_performs 9 = .ok (.invokestatic 116, 3) := by decide +kernel
theorem dX9_performs_12 : decode cX9_performs 12 = .ok (.ifCond .ne 5, 3) := by decide +kernel
theorem dX9_performs_15 : decode cX9_performs 15 = .ok (.iconst 1, 1) := by decide +kernel
theorem dX9_performs_16 : decode cX9_performs 16 = .ok (.ireturn, 1) := by decide +kernel
theorem dX9_performs_17 : decode cX9_performs 17 = .ok (.iload_n 3, 1) := by decide +kernel
theorem dX9_performs_18 : decode cX9_performs 18 = .ok (.invokestatic 152, 3) := by decide +kernel
theorem dX9_performs_21 : decode cX9_performs 21 = .ok (.ifCond .ne 5, 3) := by decide +kernel
theorem dX9_performs_24 : decode cX9_performs 24 = .ok (.iconst 2, 1) := by decide +kernel
theorem dX9_performs_25 : decode cX9_performs 25 = .ok (.ireturn, 1) := by decide +kernel
theorem dX9_performs_26 : decode cX9_performs 26 = .ok (.aload_n 0, 1) := by decide +kernel
theorem dX9_performs_27 : decode cX9_performs 27 = .ok (.getfield 9, 3) := by decide +kernel
theorem dX9_performs_30 : decode cX9_performs 30 = .ok (.bipush 38, 2) := by decide +kernel
theorem dX9_performs_32 : decode cX9_performs 32 = .ok (.iaload, 1) := by decide +kernel
theorem dX9_performs_33 : decode cX9_performs 33 = .ok (.istore 4, 2) := by decide +kernel
theorem dX9_performs_35 : decode cX9_performs 35 = .ok (.iload 4, 2) := by decide +kernel
theorem dX9_performs_37 : decode cX9_performs 37 = .ok (.bipush 24, 2) := by decide +kernel
theorem dX9_performs_39 : decode cX9_performs 39 = .ok (.if_icmp .ne 5, 3) := by decide +kernel
theorem dX9_performs_42 : decode cX9_performs 42 = .ok (.iconst 3, 1) := by decide +kernel
theorem dX9_performs_43 : decode cX9_performs 43 = .ok (.ireturn, 1) := by decide +kernel
theorem dX9_performs_44 : decode cX9_performs 44 = .ok (.aload_n 0, 1) := by decide +kernel
theorem dX9_performs_45 : decode cX9_performs 45 = .ok (.iload 4, 2) := by decide +kernel
theorem dX9_performs_47 : decode cX9_performs 47 = .ok (.iload_n 1, 1) := by decide +kernel
theorem dX9_performs_48 : decode cX9_performs 48 = .ok (.iload_n 2, 1) := by decide +kernel
theorem dX9_performs_49 : decode cX9_performs 49 = .ok (.iload_n 3, 1) := by decide +kernel
theorem dX9_performs_50 : decode cX9_performs 50 = .ok (.invokevirtual 155, 3) := by decide +kernel
theorem dX9_performs_53 : decode cX9_performs 53 = .ok (.aload_n 0, 1) := by decide +kernel
theorem dX9_performs_54 : decode cX9_performs 54 = .ok (.getfield 9, 3) := by decide +kernel
theorem dX9_performs_57 : decode cX9_performs 57 = .ok (.bipush 38, 2) := by decide +kernel
theorem dX9_performs_59 : decode cX9_performs 59 = .ok (.dup2, 1) := by decide +kernel
theorem dX9_performs_60 : decode cX9_performs 60 = .ok (.iaload, 1) := by decide +kernel
theorem dX9_performs_61 : decode cX9_performs 61 = .ok (.iconst 1, 1) := by decide +kernel
theorem dX9_performs_62 : decode cX9_performs 62 = .ok (.iadd, 1) := by decide +kernel
theorem dX9_performs_63 : decode cX9_performs 63 = .ok (.iastore, 1) := by decide +kernel
theorem dX9_performs_64 : decode cX9_performs 64 = .ok (.aload_n 0, 1) := by decide +kernel
theorem dX9_performs_65 : decode cX9_performs 65 = .ok (.iload 4, 2) := by decide +kernel
theorem dX9_performs_67 : decode cX9_performs 67 = .ok (.putfield 43, 3) := by decide +kernel
theorem dX9_performs_70 : decode cX9_performs 70 = .ok (.aload_n 0, 1) := by decide +kernel
theorem dX9_performs_71 : decode cX9_performs 71 = .ok (.aload_n 0, 1) := by decide +kernel
theorem dX9_performs_72 : decode cX9_performs 72 = .ok (.iload 4, 2) := by decide +kernel
theorem dX9_performs_74 : decode cX9_performs 74 = .ok (.invokevirtual 159, 3) := by decide +kernel
theorem dX9_performs_77 : decode cX9_performs 77 = .ok (.ifCond .eq 7, 3) := by decide +kernel
theorem dX9_performs_80 : decode cX9_performs 80 = .ok (.iconst 1, 1) := by decide +kernel
theorem dX9_performs_81 : decode cX9_performs 81 = .ok (.goto 4, 3) := by decide +kernel
theorem dX9_performs_84 : decode cX9_performs 84 = .ok (.iconst 0, 1) := by decide +kernel
theorem dX9_performs_85 : decode cX9_performs 85 = .ok (.invokevirtual 133, 3) := by decide +kernel
theorem dX9_performs_88 : decode cX9_performs 88 = .ok (.ifCond .eq 7, 3) := by decide +kernel
theorem dX9_performs_91 : decode cX9_performs 91 = .ok (.iconst 4, 1) := by decide +kernel
theorem dX9_performs_92 : decode cX9_performs 92 = .ok (.goto 4, 3) := by decide +kernel
theorem dX9_performs_95 : decode cX9_performs 95 = .ok (.iconst 0, 1) := by decide +kernel
theorem dX9_performs_96 : decode cX9_performs 96 = .ok (.ireturn, 1) := by decide +kernel
theorem dX9_perform_0 : decode cX9_perform 0 = .ok (.aload_n 0, 1) := by decide +kernel
theorem dX9_perform_1 : decode cX9_perform 1 = .ok (.invokevirtual 123, 3) := by decide +kernel
theorem dX9_perform_4 : decode cX9_perform 4 = .ok (.aload_n 0, 1) := by decide +kernel
theorem dX9_perform_5 : decode cX9_perform 5 = .ok (.aload_n 0, 1) := by decide +kernel
theorem dX9_perform_6 : decode cX9_perform 6 = .ok (.iload_n 1, 1) := by decide +kernel
theorem dX9_perform_7 : decode cX9_perform 7 = .ok (.iload_n 2, 1) := by decide +kernel
theorem dX9_perform_8 : decode cX9_perform 8 = .ok (.iload_n 3, 1) := by decide +kernel
theorem dX9_perform_9 : decode cX9_perform 9 = .ok (.invokevirtual 162, 3) := by decide +kernel
theorem dX9_perform_12 : decode cX9_perform 12 = .ok (.iconst 2, 1) := by decide +kernel
theorem dX9_perform_13 : decode cX9_perform 13 = .ok (.iconst 3, 1) := by decide +kernel
theorem dX9_perform_14 : decode cX9_perform 14 = .ok (.iconst 4, 1) := by decide +kernel
theorem dX9_perform_15 : decode cX9_perform 15 = .ok (.invokevirtual 129, 3) := by decide +kernel
theorem dX9_perform_18 : decode cX9_perform 18 = .ok (.ireturn, 1) := by decide +kernel
theorem dX9_cancels_0 : decode cX9_cancels 0 = .ok (.aload_n 0, 1) := by decide +kernel
theorem dX9_cancels_1 : decode cX9_cancels 1 = .ok (.iload_n 1, 1) := by decide +kernel
theorem dX9_cancels_2 : decode cX9_cancels 2 = .ok (.invokevirtual 166, 3) := by decide +kernel
theorem dX9_cancels_5 : decode cX9_cancels 5 = .ok (.ifCond .ne 5, 3) := by decide +kernel
theorem dX9_cancels_8 : decode cX9_cancels 8 = .ok (.iconst 1, 1) := by decide +kernel
theorem dX9_cancels_9 : decode cX9_cancels 9 = .ok (.ireturn, 1) := by decide +kernel
theorem dX9_cancels_10 : decode cX9_cancels 10 = .ok (.aload_n 0, 1) := by decide +kernel
theorem dX9_cancels_11 : decode cX9_cancels 11 = .ok (.aload_n 0, 1) := by decide +kernel
theorem dX9_cancels_12 : decode cX9_cancels 12 = .ok (.iload_n 1, 1) := by decide +kernel
theorem dX9_cancels_13 : decode cX9_cancels 13 = .ok (.iconst 3, 1) := by decide +kernel
theorem dX9_cancels_14 : decode cX9_cancels 14 = .ok (.invokevirtual 50, 3) := by decide +kernel
theorem dX9_cancels_17 : decode cX9_cancels 17 = .ok (.putfield 43, 3) := by decide +kernel
theorem dX9_cancels_20 : decode cX9_cancels 20 = .ok (.aload_n 0, 1) := by decide +kernel
theorem dX9_cancels_21 : decode cX9_cancels 21 = .ok (.getfield 9, 3) := by decide +kernel
theorem dX9_cancels_24 : decode cX9_cancels 24 = .ok (.sipush 180, 3) := by decide +kernel
theorem dX9_cancels_27 : decode cX9_cancels 27 = .ok (.iaload, 1) := by decide +kernel
theorem dX9_cancels_28 : decode cX9_cancels 28 = .ok (.iconst 1, 1) := by decide +kernel
theorem dX9_cancels_29 : decode cX9_cancels 29 = .ok (.isub, 1) := by decide +kernel
theorem dX9_cancels_30 : decode cX9_cancels 30 = .ok (.istore_n 2, 1) := by decide +kernel
theorem dX9_cancels_31 : decode cX9_cancels 31 = .ok (.iload_n 2, 1) := by decide +kernel
theorem dX9_cancels_32 : decode cX9_cancels 32 = .ok (.ifCond .lt 55, 3) := by decide +kernel
theorem dX9_cancels_35 : decode cX9_cancels 35 = .ok (.aload_n 0, 1) := by decide +kernel
theorem dX9_cancels_36 : decode cX9_cancels 36 = .ok (.iload_n 2, 1) := by decide +kernel
theorem dX9_cancels_37 : decode cX9_cancels 37 = .ok (.iconst 0, 1) := by decide +kernel
theorem dX9_cancels_38 : decode cX9_cancels 38 = .ok (.invokevirtual 103, 3) := by decide +kernel
theorem dX9_cancels_41 : decode cX9_cancels 41 = .ok (.iload_n 1, 1) := by decide +kernel
theorem dX9_cancels_42 : decode cX9_cancels 42 = .ok (.if_icmp .ne 11, 3) := by decide +kernel
theorem dX9_cancels_45 : decode cX9_cancels 45 = .ok (.aload_n 0, 1) := by decide +kernel
theorem dX9_cancels_46 : decode cX9_cancels 46 = .ok (.iload_n 2, 1) := by decide +kernel
theorem dX9_cancels_47 : decode cX9_cancels 47 = .ok (.invokevirtual 112, 3) := by decide +kernel
theorem dX9_cancels_50 : decode cX9_cancels 50 = .ok (.goto 31, 3) := by decide +kernel
theorem dX9_cancels_53 : decode cX9_cancels 53 = .ok (.aload_n 0, 1) := by decide +kernel
theorem dX9_cancels_54 : decode cX9_cancels 54 = .ok (.iload_n 2, 1) := by decide +kernel
theorem dX9_cancels_55 : decode cX9_cancels 55 = .ok (.iconst 0, 1) := by decide +kernel
theorem dX9_cancels_56 : decode cX9_cancels 56 = .ok (.invokevirtual 103, 3) := by decide +kernel
theorem dX9_cancels_59 : decode cX9_cancels 59 = .ok (.iload_n 1, 1) := by decide +kernel
theorem dX9_cancels_60 : decode cX9_cancels 60 = .ok (.if_icmp .le 21, 3) := by decide +kernel
theorem dX9_cancels_63 : decode cX9_cancels 63 = .ok (.aload_n 0, 1) := by decide +kernel
theorem dX9_cancels_64 : decode cX9_cancels 64 = .ok (.getfield 9, 3) := by decide +kernel
theorem dX9_cancels_67 : decode cX9_cancels 67 = .ok (.sipush 181, 3) := by decide +kernel
theorem dX9_cancels_70 : decode cX9_cancels 70 = .ok (.iconst 3, 1) := by decide +kernel
theorem dX9_cancels_71 : decode cX9_cancels 71 = .ok (.iload_n 2, 1) := by decide +kernel
theorem dX9_cancels_72 : decode cX9_cancels 72 = .ok (.imul, 1) := by decide +kernel
theorem dX9_cancels_73 : decode cX9_cancels 73 = .ok (.iadd, 1) := by decide +kernel
theorem dX9_cancels_74 : decode cX9_cancels 74 = .ok (.iconst 0, 1) := by decide +kernel
theorem dX9_cancels_75 : decode cX9_cancels 75 = .ok (.iadd, 1) := by decide +kernel
theorem dX9_cancels_76 : decode cX9_cancels 76 = .ok (.dup2, 1) := by decide +kernel
theorem dX9_cancels_77 : decode cX9_cancels 77 = .ok (.iaload, 1) := by decide +kernel
theorem dX9_cancels_78 : decode cX9_cancels 78 = .ok (.iconst 1, 1) := by decide +kernel
theorem dX9_cancels_79 : decode cX9_cancels 79 = .ok (.isub, 1) := by decide +kernel
theorem dX9_cancels_80 : decode cX9_cancels 80 = .ok (.iastore, 1) := by decide +kernel
theorem dX9_cancels_81 : decode cX9_cancels 81 = .ok (.iinc 2 (-1), 3) := by decide +kernel
theorem dX9_cancels_84 : decode cX9_cancels 84 = .ok (.goto (-53), 3) := by decide +kernel
theorem dX9_cancels_87 : decode cX9_cancels 87 = .ok (.aload_n 0, 1) := by decide +kernel
theorem dX9_cancels_88 : decode cX9_cancels 88 = .ok (.getfield 9, 3) := by decide +kernel
theorem dX9_cancels_91 : decode cX9_cancels 91 = .ok (.bipush 38, 2) := by decide +kernel
theorem dX9_cancels_93 : decode cX9_cancels 93 = .ok (.dup2, 1) := by decide +kernel
theorem dX9_cancels_94 : decode cX9_cancels 94 = .ok (.iaload, 1) := by decide +kernel
theorem dX9_cancels_95 : decode cX9_cancels 95 = .ok (.iconst 1, 1) := by decide +kernel
theorem dX9_cancels_96 : decode cX9_cancels 96 = .ok (.isub, 1) := by decide +kernel
theorem dX9_cancels_97 : decode cX9_cancels 97 = .ok (.iastore, 1) := by decide +kernel
theorem dX9_cancels_98 : decode cX9_cancels 98 = .ok (.iload_n 1, 1) := by decide +kernel
theorem dX9_cancels_99 : decode cX9_cancels 99 = .ok (.istore_n 2, 1) := by decide +kernel
theorem dX9_cancels_100 : decode cX9_cancels 100 = .ok (.iload_n 2, 1) := by decide +kernel
theorem dX9_cancels_101 : decode cX9_cancels 101 = .ok (.aload_n 0, 1) := by decide +kernel
theorem dX9_cancels_102 : decode cX9_cancels 102 = .ok (.getfield 9, 3) := by decide +kernel
theorem dX9_cancels_105 : decode cX9_cancels 105 = .ok (.bipush 38, 2) := by decide +kernel
theorem dX9_cancels_107 : decode cX9_cancels 107 = .ok (.iaload, 1) := by decide +kernel
theorem dX9_cancels_108 : decode cX9_cancels 108 = .ok (.if_icmp .ge 72, 3) := by decide +kernel
theorem dX9_cancels_111 : decode cX9_cancels 111 = .ok (.iconst 0, 1) := by decide +kernel
theorem dX9_cancels_112 : decode cX9_cancels 112 = .ok (.istore_n 3, 1) := by decide +kernel
theorem dX9_cancels_113 : decode cX9_cancels 113 = .ok (.iload_n 3, 1) := by decide +kernel
theorem dX9_cancels_114 : decode cX9_cancels 114 = .ok (.iconst 4, 1) := by decide +kernel
theorem dX9_cancels_115 : decode cX9_cancels 115 = .ok (.if_icmp .ge 37, 3) := by decide +kernel
theorem dX9_cancels_118 : decode cX9_cancels 118 = .ok (.aload_n 0, 1) := by decide +kernel
theorem dX9_cancels_119 : decode cX9_cancels 119 = .ok (.getfield 9, 3) := by decide +kernel
theorem dX9_cancels_122 : decode cX9_cancels 122 = .ok (.bipush 39, 2) := by decide +kernel
theorem dX9_cancels_124 : decode cX9_cancels 124 = .ok (.iconst 4, 1) := by decide +kernel
theorem dX9_cancels_125 : decode cX9_cancels 125 = .ok (.iload_n 2, 1) := by decide +kernel
theorem dX9_cancels_126 : decode cX9_cancels 126 = .ok (.imul, 1) := by decide +kernel
theorem dX9_cancels_127 : decode cX9_cancels 127 = .ok (.iadd, 1) := by decide +kernel
theorem dX9_cancels_128 : decode cX9_cancels 128 = .ok (.iload_n 3, 1) := by decide +kernel
theorem dX9_cancels_129 : decode cX9_cancels 129 = .ok (.iadd, 1) := by decide +kernel
theorem dX9_cancels_130 : decode cX9_cancels 130 = .ok (.aload_n 0, 1) := by decide +kernel
theorem dX9_cancels_131 : decode cX9_cancels 131 = .ok (.getfield 9, 3) := by decide +kernel
theorem dX9_cancels_134 : decode cX9_cancels 134 = .ok (.bipush 39, 2) := by decide +kernel
theorem dX9_cancels_136 : decode cX9_cancels 136 = .ok (.iconst 4, 1) := by decide +kernel
theorem dX9_cancels_137 : decode cX9_cancels 137 = .ok (.iload_n 2, 1) := by decide +kernel
theorem dX9_cancels_138 : decode cX9_cancels 138 = .ok (.imul, 1) := by decide +kernel
theorem dX9_cancels_139 : decode cX9_cancels 139 = .ok (.iadd, 1) := by decide +kernel
theorem dX9_cancels_140 : decode cX9_cancels 140 = .ok (.iconst 4, 1) := by decide +kernel
theorem dX9_cancels_141 : decode cX9_cancels 141 = .ok (.iadd, 1) := by decide +kernel
theorem dX9_cancels_142 : decode cX9_cancels 142 = .ok (.iload_n 3, 1) := by decide +kernel
theorem dX9_cancels_143 : decode cX9_cancels 143 = .ok (.iadd, 1) := by decide +kernel
theorem dX9_cancels_144 : decode cX9_cancels 144 = .ok (.iaload, 1) := by decide +kernel
theorem dX9_cancels_145 : decode cX9_cancels 145 = .ok (.iastore, 1) := by decide +kernel
theorem dX9_cancels_146 : decode cX9_cancels 146 = .ok (.iinc 3 1, 3) := by decide +kernel
theorem dX9_cancels_149 : decode cX9_cancels 149 = .ok (.goto (-36), 3) := by decide +kernel
theorem dX9_cancels_152 : decode cX9_cancels 152 = .ok (.aload_n 0, 1) := by decide +kernel
theorem dX9_cancels_153 : decode cX9_cancels 153 = .ok (.getfield 9, 3) := by decide +kernel
theorem dX9_cancels_156 : decode cX9_cancels 156 = .ok (.sipush 135, 3) := by decide +kernel
theorem dX9_cancels_159 : decode cX9_cancels 159 = .ok (.iload_n 2, 1) := by decide +kernel
theorem dX9_cancels_160 : decode cX9_cancels 160 = .ok (.iadd, 1) := by decide +kernel
theorem dX9_cancels_161 : decode cX9_cancels 161 = .ok (.aload_n 0, 1) := by decide +kernel
theorem dX9_cancels_162 : decode cX9_cancels 162 = .ok (.getfield 9, 3) := by decide +kernel
theorem dX9_cancels_165 : decode cX9_cancels 165 = .ok (.sipush 135, 3) := by decide +kernel
theorem dX9_cancels_168 : decode cX9_cancels 168 = .ok (.iload_n 2, 1) := by decide +kernel
theorem dX9_cancels_169 : decode cX9_cancels 169 = .ok (.iadd, 1) := by decide +kernel
theorem dX9_cancels_170 : decode cX9_cancels 170 = .ok (.iconst 1, 1) := by decide +kernel
theorem dX9_cancels_171 : decode cX9_cancels 171 = .ok (.iadd, 1) := by decide +kernel
theorem dX9_cancels_172 : decode cX9_cancels 172 = .ok (.iaload, 1) := by decide +kernel
theorem dX9_cancels_173 : decode cX9_cancels 173 = .ok (.iastore, 1) := by decide +kernel
theorem dX9_cancels_174 : decode cX9_cancels 174 = .ok (.iinc 2 1, 3) := by decide +kernel
theorem dX9_cancels_177 : decode cX9_cancels 177 = .ok (.goto (-77), 3) := by decide +kernel
theorem dX9_cancels_180 : decode cX9_cancels 180 = .ok (.aload_n 0, 1) := by decide +kernel
theorem dX9_cancels_181 : decode cX9_cancels 181 = .ok (.aload_n 0, 1) := by decide +kernel
theorem dX9_cancels_182 : decode cX9_cancels 182 = .ok (.invokevirtual 88, 3) := by decide +kernel
theorem dX9_cancels_185 : decode cX9_cancels 185 = .ok (.invokevirtual 133, 3) := by decide +kernel
theorem dX9_cancels_188 : decode cX9_cancels 188 = .ok (.ifCond .eq 7, 3) := by decide +kernel
theorem dX9_cancels_191 : decode cX9_cancels 191 = .ok (.iconst 4, 1) := by decide +kernel
theorem dX9_cancels_192 : decode cX9_cancels 192 = .ok (.goto 4, 3) := by decide +kernel
theorem dX9_cancels_195 : decode cX9_cancels 195 = .ok (.iconst 0, 1) := by decide +kernel
theorem dX9_cancels_196 : decode cX9_cancels 196 = .ok (.ireturn, 1) := by decide +kernel
theorem dX9_cancel_0 : decode cX9_cancel 0 = .ok (.aload_n 0, 1) := by decide +kernel
theorem dX9_cancel_1 : decode cX9_cancel 1 = .ok (.invokevirtual 123, 3) := by decide +kernel
theorem dX9_cancel_4 : decode cX9_cancel 4 = .ok (.aload_n 0, 1) := by decide +kernel
theorem dX9_cancel_5 : decode cX9_cancel 5 = .ok (.aload_n 0, 1) := by decide +kernel
theorem dX9_cancel_6 : decode cX9_cancel 6 = .ok (.iload_n 1, 1) := by decide +kernel
theorem dX9_cancel_7 : decode cX9_cancel 7 = .ok (.invokevirtual 169, 3) := by decide +kernel
theorem dX9_cancel_10 : decode cX9_cancel 10 = .ok (.iconst 0, 1) := by decide +kernel
theorem dX9_cancel_11 : decode cX9_cancel 11 = .ok (.iconst 0, 1) := by decide +kernel
theorem dX9_cancel_12 : decode cX9_cancel 12 = .ok (.iconst 2, 1) := by decide +kernel
theorem dX9_cancel_13 : decode cX9_cancel 13 = .ok (.invokevirtual 129, 3) := by decide +kernel
theorem dX9_cancel_16 : decode cX9_cancel 16 = .ok (.ireturn, 1) := by decide +kernel
theorem dX9_moves_0 : decode cX9_moves 0 = .ok (.aload_n 0, 1) := by decide +kernel
theorem dX9_moves_1 : decode cX9_moves 1 = .ok (.iload_n 1, 1) := by decide +kernel
theorem dX9_moves_2 : decode cX9_moves 2 = .ok (.invokevirtual 166, 3) := by decide +kernel
theorem dX9_moves_5 : decode cX9_moves 5 = .ok (.ifCond .ne 5, 3) := by decide +kernel
theorem dX9_moves_8 : decode cX9_moves 8 = .ok (.iconst 1, 1) := by decide +kernel
theorem dX9_moves_9 : decode cX9_moves 9 = .ok (.ireturn, 1) := by decide +kernel
theorem dX9_moves_10 : decode cX9_moves 10 = .ok (.iload_n 2, 1) := by decide +kernel
theorem dX9_moves_11 : decode cX9_moves 11 = .ok (.invokestatic 152, 3) := by decide +kernel
theorem dX9_moves_14 : decode cX9_moves 14 = .ok (.ifCond .ne 5, 3) := by decide +kernel
theorem dX9_moves_17 : decode cX9_moves 17 = .ok (.iconst 2, 1) := by decide +kernel
theorem dX9_moves_18 : decode cX9_moves 18 = .ok (.ireturn, 1) := by decide +kernel
theorem dX9_moves_19 : decode cX9_moves 19 = .ok (.aload_n 0, 1) := by decide +kernel
theorem dX9_moves_20 : decode cX9_moves 20 = .ok (.aload_n 0, 1) := by decide +kernel
theorem dX9_moves_21 : decode cX9_moves 21 = .ok (.iload_n 1, 1) := by decide +kernel
theorem dX9_moves_22 : decode cX9_moves 22 = .ok (.iconst 2, 1) := by decide +kernel
theorem dX9_moves_23 : decode cX9_moves 23 = .ok (.invokevirtual 50, 3) := by decide +kernel
theorem dX9_moves_26 : decode cX9_moves 26 = .ok (.putfield 43, 3) := by decide +kernel
theorem dX9_moves_29 : decode cX9_moves 29 = .ok (.aload_n 0, 1) := by decide +kernel
theorem dX9_moves_30 : decode cX9_moves 30 = .ok (.getfield 9, 3) := by decide +kernel
theorem dX9_moves_33 : decode cX9_moves 33 = .ok (.bipush 39, 2) := by decide +kernel
theorem dX9_moves_35 : decode cX9_moves 35 = .ok (.iconst 4, 1) := by decide +kernel
theorem dX9_moves_36 : decode cX9_moves 36 = .ok (.iload_n 1, 1) := by decide +kernel
theorem dX9_moves_37 : decode cX9_moves 37 = .ok (.imul, 1) := by decide +kernel
theorem dX9_moves_38 : decode cX9_moves 38 = .ok (.iadd, 1) := by decide +kernel
theorem dX9_moves_39 : decode cX9_moves 39 = .ok (.iconst 2, 1) := by decide +kernel
theorem dX9_moves_40 : decode cX9_moves 40 = .ok (.iadd, 1) := by decide +kernel
theorem dX9_moves_41 : decode cX9_moves 41 = .ok (.iload_n 2, 1) := by decide +kernel
theorem dX9_moves_42 : decode cX9_moves 42 = .ok (.iastore, 1) := by decide +kernel
theorem dX9_moves_43 : decode cX9_moves 43 = .ok (.aload_n 0, 1) := by decide +kernel
theorem dX9_moves_44 : decode cX9_moves 44 = .ok (.aload_n 0, 1) := by decide +kernel
theorem dX9_moves_45 : decode cX9_moves 45 = .ok (.iload_n 1, 1) := by decide +kernel
theorem dX9_moves_46 : decode cX9_moves 46 = .ok (.invokevirtual 159, 3) := by decide +kernel
theorem dX9_moves_49 : decode cX9_moves 49 = .ok (.ifCond .eq 7, 3) := by decide +kernel
theorem dX9_moves_52 : decode cX9_moves 52 = .ok (.iconst 1, 1) := by decide +kernel
theorem dX9_moves_53 : decode cX9_moves 53 = .ok (.goto 4, 3) := by decide +kernel
theorem dX9_moves_56 : decode cX9_moves 56 = .ok (.iconst 0, 1) := by decide +kernel
theorem dX9_moves_57 : decode cX9_moves 57 = .ok (.invokevirtual 133, 3) := by decide +kernel
theorem dX9_moves_60 : decode cX9_moves 60 = .ok (.ifCond .eq 7, 3) := by decide +kernel
theorem dX9_moves_63 : decode cX9_moves 63 = .ok (.iconst 4, 1) := by decide +kernel
theorem dX9_moves_64 : decode cX9_moves 64 = .ok (.goto 4, 3) := by decide +kernel
theorem dX9_moves_67 : decode cX9_moves 67 = .ok (.iconst 0, 1) := by decide +kernel
theorem dX9_moves_68 : decode cX9_moves 68 = .ok (.ireturn, 1) := by decide +kernel
theorem dX9_move_0 : decode cX9_move 0 = .ok (.aload_n 0, 1) := by decide +kernel
theorem dX9_move_1 : decode cX9_move 1 = .ok (.invokevirtual 123, 3) := by decide +kernel
theorem dX9_move_4 : decode cX9_move 4 = .ok (.aload_n 0, 1) := by decide +kernel
theorem dX9_move_5 : decode cX9_move 5 = .ok (.aload_n 0, 1) := by decide +kernel
theorem dX9_move_6 : decode cX9_move 6 = .ok (.iload_n 1, 1) := by decide +kernel
theorem dX9_move_7 : decode cX9_move 7 = .ok (.iload_n 2, 1) := by decide +kernel
theorem dX9_move_8 : decode cX9_move 8 = .ok (.invokevirtual 172, 3) := by decide +kernel
theorem dX9_move_11 : decode cX9_move 11 = .ok (.iconst 2, 1) := by decide +kernel
theorem dX9_move_12 : decode cX9_move 12 = .ok (.iconst 0, 1) := by decide +kernel
theorem dX9_move_13 : decode cX9_move 13 = .ok (.iconst 3, 1) := by decide +kernel
theorem dX9_move_14 : decode cX9_move 14 = .ok (.invokevirtual 129, 3) := by decide +kernel
theorem dX9_move_17 : decode cX9_move 17 = .ok (.ireturn, 1) := by decide +kernel
theorem dX9_subscriptionsAt_0 : decode cX9_subscriptionsAt 0 = .ok (.aload_n 0, 1) := by decide +kernel
theorem dX9_subscriptionsAt_1 : decode cX9_subscriptionsAt 1 = .ok (.getfield 9, 3) := by decide +kernel
theorem dX9_subscriptionsAt_4 : decode cX9_subscriptionsAt 4 = .ok (.sipush 135, 3) := by decide +kernel
theorem dX9_subscriptionsAt_7 : decode cX9_subscriptionsAt 7 = .ok (.iload_n 1, 1) := by decide +kernel
theorem dX9_subscriptionsAt_8 : decode cX9_subscriptionsAt 8 = .ok (.iadd, 1) := by decide +kernel
theorem dX9_subscriptionsAt_9 : decode cX9_subscriptionsAt 9 = .ok (.iaload, 1) := by decide +kernel
theorem dX9_subscriptionsAt_10 : decode cX9_subscriptionsAt 10 = .ok (.ireturn, 1) := by decide +kernel
theorem dX9_requestsFor_0 : decode cX9_requestsFor 0 = .ok (.iconst 0, 1) := by decide +kernel
theorem dX9_requestsFor_1 : decode cX9_requestsFor 1 = .ok (.istore_n 2, 1) := by decide +kernel
theorem dX9_requestsFor_2 : decode cX9_requestsFor 2 = .ok (.iconst 0, 1) := by decide +kernel
theorem dX9_requestsFor_3 : decode cX9_requestsFor 3 = .ok (.istore_n 3, 1) := by decide +kernel
theorem dX9_requestsFor_4 : decode cX9_requestsFor 4 = .ok (.iload_n 3, 1) := by decide +kernel
theorem dX9_requestsFor_5 : decode cX9_requestsFor 5 = .ok (.aload_n 0, 1) := by decide +kernel
theorem dX9_requestsFor_6 : decode cX9_requestsFor 6 = .ok (.getfield 9, 3) := by decide +kernel
theorem dX9_requestsFor_9 : decode cX9_requestsFor 9 = .ok (.sipush 180, 3) := by decide +kernel
theorem dX9_requestsFor_12 : decode cX9_requestsFor 12 = .ok (.iaload, 1) := by decide +kernel
theorem dX9_requestsFor_13 : decode cX9_requestsFor 13 = .ok (.if_icmp .ge 27, 3) := by decide +kernel
theorem dX9_requestsFor_16 : decode cX9_requestsFor 16 = .ok (.iload_n 2, 1) := by decide +kernel
theorem dX9_requestsFor_17 : decode cX9_requestsFor 17 = .ok (.aload_n 0, 1) := by decide +kernel
theorem dX9_requestsFor_18 : decode cX9_requestsFor 18 = .ok (.iload_n 3, 1) := by decide +kernel
theorem dX9_requestsFor_19 : decode cX9_requestsFor 19 = .ok (.iconst 0, 1) := by decide +kernel
theorem dX9_requestsFor_20 : decode cX9_requestsFor 20 = .ok (.invokevirtual 103, 3) := by decide +kernel
theorem dX9_requestsFor_23 : decode cX9_requestsFor 23 = .ok (.iload_n 1, 1) := by decide +kernel
theorem dX9_requestsFor_24 : decode cX9_requestsFor 24 = .ok (.if_icmp .ne 7, 3) := by decide +kernel
theorem dX9_requestsFor_27 : decode cX9_requestsFor 27 = .ok (.iconst 1, 1) := by decide +kernel
theorem dX9_requestsFor_28 : decode cX9_requestsFor 28 = .ok (.goto 4, 3) := by decide +kernel
theorem dX9_requestsFor_31 : decode cX9_requestsFor 31 = .ok (.iconst 0, 1) := by decide +kernel
theorem dX9_requestsFor_32 : decode cX9_requestsFor 32 = .ok (.iadd, 1) := by decide +kernel
theorem dX9_requestsFor_33 : decode cX9_requestsFor 33 = .ok (.istore_n 2, 1) := by decide +kernel
theorem dX9_requestsFor_34 : decode cX9_requestsFor 34 = .ok (.iinc 3 1, 3) := by decide +kernel
theorem dX9_requestsFor_37 : decode cX9_requestsFor 37 = .ok (.goto (-33), 3) := by decide +kernel
theorem dX9_requestsFor_40 : decode cX9_requestsFor 40 = .ok (.iload_n 2, 1) := by decide +kernel
theorem dX9_requestsFor_41 : decode cX9_requestsFor 41 = .ok (.ireturn, 1) := by decide +kernel
theorem dX9_performance_0 : decode cX9_performance 0 = .ok (.aload_n 0, 1) := by decide +kernel
theorem dX9_performance_1 : decode cX9_performance 1 = .ok (.aload_n 0, 1) := by decide +kernel
theorem dX9_performance_2 : decode cX9_performance 2 = .ok (.iload_n 1, 1) := by decide +kernel
theorem dX9_performance_3 : decode cX9_performance 3 = .ok (.invokevirtual 166, 3) := by decide +kernel
theorem dX9_performance_6 : decode cX9_performance 6 = .ok (.ifCond .ne 7, 3) := by decide +kernel
theorem dX9_performance_9 : decode cX9_performance 9 = .ok (.iconst 1, 1) := by decide +kernel
theorem dX9_performance_10 : decode cX9_performance 10 = .ok (.goto 18, 3) := by decide +kernel
theorem dX9_performance_13 : decode cX9_performance 13 = .ok (.iload_n 2, 1) := by decide +kernel
theorem dX9_performance_14 : decode cX9_performance 14 = .ok (.iconst 0, 1) := by decide +kernel
theorem dX9_performance_15 : decode cX9_performance 15 = .ok (.bipush 7, 2) := by decide +kernel
theorem dX9_performance_17 : decode cX9_performance 17 = .ok (.invokestatic 46, 3) := by decide +kernel
theorem dX9_performance_20 : decode cX9_performance 20 = .ok (.ifCond .eq 7, 3) := by decide +kernel
theorem dX9_performance_23 : decode cX9_performance 23 = .ok (.iconst 0, 1) := by decide +kernel
theorem dX9_performance_24 : decode cX9_performance 24 = .ok (.goto 4, 3) := by decide +kernel
theorem dX9_performance_27 : decode cX9_performance 27 = .ok (.iconst 2, 1) := by decide +kernel
theorem dX9_performance_28 : decode cX9_performance 28 = .ok (.putfield 24, 3) := by decide +kernel
theorem dX9_performance_31 : decode cX9_performance 31 = .ok (.aload_n 0, 1) := by decide +kernel
theorem dX9_performance_32 : decode cX9_performance 32 = .ok (.getfield 24, 3) := by decide +kernel
theorem dX9_performance_35 : decode cX9_performance 35 = .ok (.ifCond .eq 5, 3) := by decide +kernel
theorem dX9_performance_38 : decode cX9_performance 38 = .ok (.iconst 0, 1) := by decide +kernel
theorem dX9_performance_39 : decode cX9_performance 39 = .ok (.ireturn, 1) := by decide +kernel
theorem dX9_performance_40 : decode cX9_performance 40 = .ok (.iload_n 2, 1) := by decide +kernel
theorem dX9_performance_41 : decode cX9_performance 41 = .ok (.tableswitch 55 4 7 #[31, 37, 43, 49], 31) := by decide +kernel
theorem dX9_performance_72 : decode cX9_performance 72 = .ok (.aload_n 0, 1) := by decide +kernel
theorem dX9_performance_73 : decode cX9_performance 73 = .ok (.iload_n 1, 1) := by decide +kernel
theorem dX9_performance_74 : decode cX9_performance 74 = .ok (.invokevirtual 100, 3) := by decide +kernel
theorem dX9_performance_77 : decode cX9_performance 77 = .ok (.ireturn, 1) := by decide +kernel
theorem dX9_performance_78 : decode cX9_performance 78 = .ok (.aload_n 0, 1) := by decide +kernel
theorem dX9_performance_79 : decode cX9_performance 79 = .ok (.iload_n 1, 1) := by decide +kernel
theorem dX9_performance_80 : decode cX9_performance 80 = .ok (.invokevirtual 109, 3) := by decide +kernel
theorem dX9_performance_83 : decode cX9_performance 83 = .ok (.ireturn, 1) := by decide +kernel
theorem dX9_performance_84 : decode cX9_performance 84 = .ok (.aload_n 0, 1) := by decide +kernel
theorem dX9_performance_85 : decode cX9_performance 85 = .ok (.iload_n 1, 1) := by decide +kernel
theorem dX9_performance_86 : decode cX9_performance 86 = .ok (.invokevirtual 175, 3) := by decide +kernel
theorem dX9_performance_89 : decode cX9_performance 89 = .ok (.ireturn, 1) := by decide +kernel
theorem dX9_performance_90 : decode cX9_performance 90 = .ok (.aload_n 0, 1) := by decide +kernel
theorem dX9_performance_91 : decode cX9_performance 91 = .ok (.iload_n 1, 1) := by decide +kernel
theorem dX9_performance_92 : decode cX9_performance 92 = .ok (.invokevirtual 178, 3) := by decide +kernel
theorem dX9_performance_95 : decode cX9_performance 95 = .ok (.ireturn, 1) := by decide +kernel
theorem dX9_performance_96 : decode cX9_performance 96 = .ok (.aload_n 0, 1) := by decide +kernel
theorem dX9_performance_97 : decode cX9_performance 97 = .ok (.iload_n 1, 1) := by decide +kernel
theorem dX9_performance_98 : decode cX9_performance 98 = .ok (.iload_n 2, 1) := by decide +kernel
theorem dX9_performance_99 : decode cX9_performance 99 = .ok (.invokevirtual 50, 3) := by decide +kernel
theorem dX9_performance_102 : decode cX9_performance 102 = .ok (.ireturn, 1) := by decide +kernel
theorem dX9_on_0 : decode cX9_on 0 = .ok (.aload_n 0, 1) := by decide +kernel
theorem dX9_on_1 : decode cX9_on 1 = .ok (.iload_n 1, 1) := by decide +kernel
theorem dX9_on_2 : decode cX9_on 2 = .ok (.invokestatic 116, 3) := by decide +kernel
theorem dX9_on_5 : decode cX9_on 5 = .ok (.ifCond .ne 7, 3) := by decide +kernel
theorem dX9_on_8 : decode cX9_on 8 = .ok (.iconst 1, 1) := by decide +kernel
theorem dX9_on_9 : decode cX9_on 9 = .ok (.goto 15, 3) := by decide +kernel
theorem dX9_on_12 : decode cX9_on 12 = .ok (.iload_n 2, 1) := by decide +kernel
theorem dX9_on_13 : decode cX9_on 13 = .ok (.invokestatic 152, 3) := by decide +kernel
theorem dX9_on_16 : decode cX9_on 16 = .ok (.ifCond .eq 7, 3) := by decide +kernel
theorem dX9_on_19 : decode cX9_on 19 = .ok (.iconst 0, 1) := by decide +kernel
theorem dX9_on_20 : decode cX9_on 20 = .ok (.goto 4, 3) := by decide +kernel
theorem dX9_on_23 : decode cX9_on 23 = .ok (.iconst 2, 1) := by decide +kernel
theorem dX9_on_24 : decode cX9_on 24 = .ok (.putfield 24, 3) := by decide +kernel
theorem dX9_on_27 : decode cX9_on 27 = .ok (.aload_n 0, 1) := by decide +kernel
theorem dX9_on_28 : decode cX9_on 28 = .ok (.getfield 24, 3) := by decide +kernel
theorem dX9_on_31 : decode cX9_on 31 = .ok (.ifCond .eq 5, 3) := by decide +kernel
theorem dX9_on_34 : decode cX9_on 34 = .ok (.iconst 0, 1) := by decide +kernel
theorem dX9_on_35 : decode cX9_on 35 = .ok (.ireturn, 1) := by decide +kernel
theorem dX9_on_36 : decode cX9_on 36 = .ok (.iconst 0, 1) := by decide +kernel
theorem dX9_on_37 : decode cX9_on 37 = .ok (.istore_n 3, 1) := by decide +kernel
theorem dX9_on_38 : decode cX9_on 38 = .ok (.iload_n 3, 1) := by decide +kernel
theorem dX9_on_39 : decode cX9_on 39 = .ok (.aload_n 0, 1) := by decide +kernel
theorem dX9_on_40 : decode cX9_on 40 = .ok (.getfield 9, 3) := by decide +kernel
theorem dX9_on_43 : decode cX9_on 43 = .ok (.bipush 38, 2) := by decide +kernel
theorem dX9_on_45 : decode cX9_on 45 = .ok (.iaload, 1) := by decide +kernel
theorem dX9_on_46 : decode cX9_on 46 = .ok (.if_icmp .ge 31, 3) := by decide +kernel
theorem dX9_on_49 : decode cX9_on 49 = .ok (.aload_n 0, 1) := by decide +kernel
theorem dX9_on_50 : decode cX9_on 50 = .ok (.iload_n 3, 1) := by decide +kernel
theorem dX9_on_51 : decode cX9_on 51 = .ok (.iconst 1, 1) := by decide +kernel
theorem dX9_on_52 : decode cX9_on 52 = .ok (.invokevirtual 50, 3) := by decide +kernel
theorem dX9_on_55 : decode cX9_on 55 = .ok (.iload_n 1, 1) := by decide +kernel
theorem dX9_on_56 : decode cX9_on 56 = .ok (.if_icmp .ne 15, 3) := by decide +kernel
theorem dX9_on_59 : decode cX9_on 59 = .ok (.aload_n 0, 1) := by decide +kernel
theorem dX9_on_60 : decode cX9_on 60 = .ok (.iload_n 3, 1) := by decide +kernel
theorem dX9_on_61 : decode cX9_on 61 = .ok (.iconst 2, 1) := by decide +kernel
theorem dX9_on_62 : decode cX9_on 62 = .ok (.invokevirtual 50, 3) := by decide +kernel
theorem dX9_on_65 : decode cX9_on 65 = .ok (.iload_n 2, 1) := by decide +kernel
theorem dX9_on_66 : decode cX9_on 66 = .ok (.if_icmp .ne 5, 3) := by decide +kernel
theorem dX9_on_69 : decode cX9_on 69 = .ok (.iload_n 3, 1) := by decide +kernel
theorem dX9_on_70 : decode cX9_on 70 = .ok (.ireturn, 1) := by decide +kernel
theorem dX9_on_71 : decode cX9_on 71 = .ok (.iinc 3 1, 3) := by decide +kernel
theorem dX9_on_74 : decode cX9_on 74 = .ok (.goto (-36), 3) := by decide +kernel
theorem dX9_on_77 : decode cX9_on 77 = .ok (.aload_n 0, 1) := by decide +kernel
theorem dX9_on_78 : decode cX9_on 78 = .ok (.iconst 3, 1) := by decide +kernel
theorem dX9_on_79 : decode cX9_on 79 = .ok (.putfield 24, 3) := by decide +kernel
theorem dX9_on_82 : decode cX9_on 82 = .ok (.iconst 0, 1) := by decide +kernel
theorem dX9_on_83 : decode cX9_on 83 = .ok (.ireturn, 1) := by decide +kernel
theorem dX9_canBe_0 : decode cX9_canBe 0 = .ok (.iconst 0, 1) := by decide +kernel
theorem dX9_canBe_1 : decode cX9_canBe 1 = .ok (.istore 4, 2) := by decide +kernel
theorem dX9_canBe_3 : decode cX9_canBe 3 = .ok (.iload 4, 2) := by decide +kernel
theorem dX9_canBe_5 : decode cX9_canBe 5 = .ok (.aload_n 0, 1) := by decide +kernel
theorem dX9_canBe_6 : decode cX9_canBe 6 = .ok (.getfield 9, 3) := by decide +kernel
theorem dX9_canBe_9 : decode cX9_canBe 9 = .ok (.bipush 38, 2) := by decide +kernel
theorem dX9_canBe_11 : decode cX9_canBe 11 = .ok (.iaload, 1) := by decide +kernel
theorem dX9_canBe_12 : decode cX9_canBe 12 = .ok (.if_icmp .ge 44, 3) := by decide +kernel
theorem dX9_canBe_15 : decode cX9_canBe 15 = .ok (.aload_n 0, 1) := by decide +kernel
theorem dX9_canBe_16 : decode cX9_canBe 16 = .ok (.iload 4, 2) := by decide +kernel
theorem dX9_canBe_18 : decode cX9_canBe 18 = .ok (.iconst 2, 1) := by decide +kernel
theorem dX9_canBe_19 : decode cX9_canBe 19 = .ok (.invokevirtual 50, 3) := by decide +kernel
theorem dX9_canBe_22 : decode cX9_canBe 22 = .ok (.iload_n 3, 1) := by decide +kernel
theorem dX9_canBe_23 : decode cX9_canBe 23 = .ok (.if_icmp .ne 27, 3) := by decide +kernel
theorem dX9_canBe_26 : decode cX9_canBe 26 = .ok (.aload_n 0, 1) := by decide +kernel
theorem dX9_canBe_27 : decode cX9_canBe 27 = .ok (.iload 4, 2) := by decide +kernel
theorem dX9_canBe_29 : decode cX9_canBe 29 = .ok (.iconst 1, 1) := by decide +kernel
theorem dX9_canBe_30 : decode cX9_canBe 30 = .ok (.invokevirtual 50, 3) := by decide +kernel
theorem dX9_canBe_33 : decode cX9_canBe 33 = .ok (.iload_n 2, 1) := by decide +kernel
theorem dX9_canBe_34 : decode cX9_canBe 34 = .ok (.if_icmp .eq 14, 3) := by decide +kernel
theorem dX9_canBe_37 : decode cX9_canBe 37 = .ok (.aload_n 0, 1) := by decide +kernel
theorem dX9_canBe_38 : decode cX9_canBe 38 = .ok (.iload 4, 2) := by decide +kernel
theorem dX9_canBe_40 : decode cX9_canBe 40 = .ok (.iconst 0, 1) := by decide +kernel
theorem dX9_canBe_41 : decode cX9_canBe 41 = .ok (.invokevirtual 50, 3) := by decide +kernel
theorem dX9_canBe_44 : decode cX9_canBe 44 = .ok (.iload_n 1, 1) := by decide +kernel
theorem dX9_canBe_45 : decode cX9_canBe 45 = .ok (.if_icmp .ne 5, 3) := by decide +kernel
theorem dX9_canBe_48 : decode cX9_canBe 48 = .ok (.iconst 0, 1) := by decide +kernel
theorem dX9_canBe_49 : decode cX9_canBe 49 = .ok (.ireturn, 1) := by decide +kernel
theorem dX9_canBe_50 : decode cX9_canBe 50 = .ok (.iinc 4 1, 3) := by decide +kernel
theorem dX9_canBe_53 : decode cX9_canBe 53 = .ok (.goto (-50), 3) := by decide +kernel
theorem dX9_canBe_56 : decode cX9_canBe 56 = .ok (.aload_n 0, 1) := by decide +kernel
theorem dX9_canBe_57 : decode cX9_canBe 57 = .ok (.iload_n 3, 1) := by decide +kernel
theorem dX9_canBe_58 : decode cX9_canBe 58 = .ok (.invokevirtual 77, 3) := by decide +kernel
theorem dX9_canBe_61 : decode cX9_canBe 61 = .ok (.aload_n 0, 1) := by decide +kernel
theorem dX9_canBe_62 : decode cX9_canBe 62 = .ok (.iload_n 1, 1) := by decide +kernel
theorem dX9_canBe_63 : decode cX9_canBe 63 = .ok (.iconst 1, 1) := by decide +kernel
theorem dX9_canBe_64 : decode cX9_canBe 64 = .ok (.invokevirtual 54, 3) := by decide +kernel
theorem dX9_canBe_67 : decode cX9_canBe 67 = .ok (.iadd, 1) := by decide +kernel
theorem dX9_canBe_68 : decode cX9_canBe 68 = .ok (.aload_n 0, 1) := by decide +kernel
theorem dX9_canBe_69 : decode cX9_canBe 69 = .ok (.getfield 9, 3) := by decide +kernel
theorem dX9_canBe_72 : decode cX9_canBe 72 = .ok (.iconst 3, 1) := by decide +kernel
theorem dX9_canBe_73 : decode cX9_canBe 73 = .ok (.iaload, 1) := by decide +kernel
theorem dX9_canBe_74 : decode cX9_canBe 74 = .ok (.if_icmp .le 5, 3) := by decide +kernel
theorem dX9_canBe_77 : decode cX9_canBe 77 = .ok (.iconst 0, 1) := by decide +kernel
theorem dX9_canBe_78 : decode cX9_canBe 78 = .ok (.ireturn, 1) := by decide +kernel
theorem dX9_canBe_79 : decode cX9_canBe 79 = .ok (.aload_n 0, 1) := by decide +kernel
theorem dX9_canBe_80 : decode cX9_canBe 80 = .ok (.iload_n 1, 1) := by decide +kernel
theorem dX9_canBe_81 : decode cX9_canBe 81 = .ok (.invokevirtual 57, 3) := by decide +kernel
theorem dX9_canBe_84 : decode cX9_canBe 84 = .ok (.istore 4, 2) := by decide +kernel
theorem dX9_canBe_86 : decode cX9_canBe 86 = .ok (.aload_n 0, 1) := by decide +kernel
theorem dX9_canBe_87 : decode cX9_canBe 87 = .ok (.iload_n 1, 1) := by decide +kernel
theorem dX9_canBe_88 : decode cX9_canBe 88 = .ok (.invokevirtual 61, 3) := by decide +kernel
theorem dX9_canBe_91 : decode cX9_canBe 91 = .ok (.istore 5, 2) := by decide +kernel
theorem dX9_canBe_93 : decode cX9_canBe 93 = .ok (.iload 4, 2) := by decide +kernel
theorem dX9_canBe_95 : decode cX9_canBe 95 = .ok (.iconst (-1), 1) := by decide +kernel
theorem dX9_canBe_96 : decode cX9_canBe 96 = .ok (.if_icmp .eq 9, 3) := by decide +kernel
theorem dX9_canBe_99 : decode cX9_canBe 99 = .ok (.iload_n 3, 1) := by decide +kernel
theorem dX9_canBe_100 : decode cX9_canBe 100 = .ok (.iload 4, 2) := by decide +kernel
theorem dX9_canBe_102 : decode cX9_canBe 102 = .ok (.if_icmp .ge 7, 3) := by decide +kernel
theorem dX9_canBe_105 : decode cX9_canBe 105 = .ok (.iload_n 3, 1) := by decide +kernel
theorem dX9_canBe_106 : decode cX9_canBe 106 = .ok (.goto 5, 3) := by decide +kernel
theorem dX9_canBe_109 : decode cX9_canBe 109 = .ok (.iload 4, 2) := by decide +kernel
theorem dX9_canBe_111 : decode cX9_canBe 111 = .ok (.istore 6, 2) := by decide +kernel
theorem dX9_canBe_113 : decode cX9_canBe 113 = .ok (.iload_n 3, 1) := by decide +kernel
theorem dX9_canBe_114 : decode cX9_canBe 114 = .ok (.iload 5, 2) := by decide +kernel
theorem dX9_canBe_116 : decode cX9_canBe 116 = .ok (.if_icmp .le 7, 3) := by decide +kernel
theorem dX9_canBe_119 : decode cX9_canBe 119 = .ok (.iload_n 3, 1) := by decide +kernel
theorem dX9_canBe_120 : decode cX9_canBe 120 = .ok (.goto 5, 3) := by decide +kernel
theorem dX9_canBe_123 : decode cX9_canBe 123 = .ok (.iload 5, 2) := by decide +kernel
theorem dX9_canBe_125 : decode cX9_canBe 125 = .ok (.istore 7, 2) := by decide +kernel
theorem dX9_canBe_127 : decode cX9_canBe 127 = .ok (.iconst 0, 1) := by decide +kernel
theorem dX9_canBe_128 : decode cX9_canBe 128 = .ok (.istore 8, 2) := by decide +kernel
theorem dX9_canBe_130 : decode cX9_canBe 130 = .ok (.iload 8, 2) := by decide +kernel
theorem dX9_canBe_132 : decode cX9_canBe 132 = .ok (.bipush 30, 2) := by decide +kernel
theorem dX9_canBe_134 : decode cX9_canBe 134 = .ok (.if_icmp .ge 132, 3) := by decide +kernel
theorem dX9_canBe_137 : decode cX9_canBe 137 = .ok (.iload 4, 2) := by decide +kernel
theorem dX9_canBe_139 : decode cX9_canBe 139 = .ok (.iconst (-1), 1) := by decide +kernel
theorem dX9_canBe_140 : decode cX9_canBe 140 = .ok (.if_icmp .eq 31, 3) := by decide +kernel
theorem dX9_canBe_143 : decode cX9_canBe 143 = .ok (.iload 8, 2) := by decide +kernel
theorem dX9_canBe_145 : decode cX9_canBe 145 = .ok (.iload 4, 2) := by decide +kernel
theorem dX9_canBe_147 : decode cX9_canBe 147 = .ok (.if_icmp .lt 24, 3) := by decide +kernel
theorem dX9_canBe_150 : decode cX9_canBe 150 = .ok (.iload 8, 2) := by decide +kernel
theorem dX9_canBe_152 : decode cX9_canBe 152 = .ok (.iload 5, 2) := by decide +kernel
theorem dX9_canBe_154 : decode cX9_canBe 154 = .ok (.if_icmp .gt 17, 3) := by decide +kernel
theorem dX9_canBe_157 : decode cX9_canBe 157 = .ok (.aload_n 0, 1) := by decide +kernel
theorem dX9_canBe_158 : decode cX9_canBe 158 = .ok (.iload_n 1, 1) := by decide +kernel
theorem dX9_canBe_159 : decode cX9_canBe 159 = .ok (.iload 8, 2) := by decide +kernel
theorem dX9_canBe_161 : decode cX9_canBe 161 = .ok (.invokevirtual 64, 3) := by decide +kernel
theorem dX9_canBe_164 : decode cX9_canBe 164 = .ok (.ifCond .ne 7, 3) := by decide +kernel
theorem dX9_canBe_167 : decode cX9_canBe 167 = .ok (.iconst 1, 1) := by decide +kernel
theorem dX9_canBe_168 : decode cX9_canBe 168 = .ok (.goto 4, 3) := by decide +kernel
theorem dX9_canBe_171 : decode cX9_canBe 171 = .ok (.iconst 0, 1) := by decide +kernel
theorem dX9_canBe_172 : decode cX9_canBe 172 = .ok (.istore 9, 2) := by decide +kernel
theorem dX9_canBe_174 : decode cX9_canBe 174 = .ok (.iload 8, 2) := by decide +kernel
theorem dX9_canBe_176 : decode cX9_canBe 176 = .ok (.iload 6, 2) := by decide +kernel
theorem dX9_canBe_178 : decode cX9_canBe 178 = .ok (.if_icmp .lt 30, 3) := by decide +kernel
theorem dX9_canBe_181 : decode cX9_canBe 181 = .ok (.iload 8, 2) := by decide +kernel
theorem dX9_canBe_183 : decode cX9_canBe 183 = .ok (.iload 7, 2) := by decide +kernel
theorem dX9_canBe_185 : decode cX9_canBe 185 = .ok (.if_icmp .gt 23, 3) := by decide +kernel
theorem dX9_canBe_188 : decode cX9_canBe 188 = .ok (.iload 8, 2) := by decide +kernel
theorem dX9_canBe_190 : decode cX9_canBe 190 = .ok (.iload_n 3, 1) := by decide +kernel
theorem dX9_canBe_191 : decode cX9_canBe 191 = .ok (.if_icmp .eq 17, 3) := by decide +kernel
theorem dX9_canBe_194 : decode cX9_canBe 194 = .ok (.aload_n 0, 1) := by decide +kernel
theorem dX9_canBe_195 : decode cX9_canBe 195 = .ok (.iload_n 1, 1) := by decide +kernel
theorem dX9_canBe_196 : decode cX9_canBe 196 = .ok (.iload 8, 2) := by decide +kernel
theorem dX9_canBe_198 : decode cX9_canBe 198 = .ok (.invokevirtual 64, 3) := by decide +kernel
theorem dX9_canBe_201 : decode cX9_canBe 201 = .ok (.ifCond .ne 7, 3) := by decide +kernel
theorem dX9_canBe_204 : decode cX9_canBe 204 = .ok (.iconst 1, 1) := by decide +kernel
theorem dX9_canBe_205 : decode cX9_canBe 205 = .ok (.goto 4, 3) := by decide +kernel
theorem dX9_canBe_208 : decode cX9_canBe 208 = .ok (.iconst 0, 1) := by decide +kernel
theorem dX9_canBe_209 : decode cX9_canBe 209 = .ok (.istore 10, 2) := by decide +kernel
theorem dX9_canBe_211 : decode cX9_canBe 211 = .ok (.aload_n 0, 1) := by decide +kernel
theorem dX9_canBe_212 : decode cX9_canBe 212 = .ok (.iload_n 1, 1) := by decide +kernel
theorem dX9_canBe_213 : decode cX9_canBe 213 = .ok (.iconst 0, 1) := by decide +kernel
theorem dX9_canBe_214 : decode cX9_canBe 214 = .ok (.invokevirtual 54, 3) := by decide +kernel
theorem dX9_canBe_217 : decode cX9_canBe 217 = .ok (.istore 11, 2) := by decide +kernel
theorem dX9_canBe_219 : decode cX9_canBe 219 = .ok (.aload_n 0, 1) := by decide +kernel
theorem dX9_canBe_220 : decode cX9_canBe 220 = .ok (.iload 8, 2) := by decide +kernel
theorem dX9_canBe_222 : decode cX9_canBe 222 = .ok (.invokevirtual 68, 3) := by decide +kernel
theorem dX9_canBe_225 : decode cX9_canBe 225 = .ok (.iload 10, 2) := by decide +kernel
theorem dX9_canBe_227 : decode cX9_canBe 227 = .ok (.ifCond .eq 8, 3) := by decide +kernel
theorem dX9_canBe_230 : decode cX9_canBe 230 = .ok (.iload 11, 2) := by decide +kernel
theorem dX9_canBe_232 : decode cX9_canBe 232 = .ok (.goto 4, 3) := by decide +kernel
theorem dX9_canBe_235 : decode cX9_canBe 235 = .ok (.iconst 0, 1) := by decide +kernel
theorem dX9_canBe_236 : decode cX9_canBe 236 = .ok (.iadd, 1) := by decide +kernel
theorem dX9_canBe_237 : decode cX9_canBe 237 = .ok (.iload 9, 2) := by decide +kernel
theorem dX9_canBe_239 : decode cX9_canBe 239 = .ok (.ifCond .eq 8, 3) := by decide +kernel
theorem dX9_canBe_242 : decode cX9_canBe 242 = .ok (.iload 11, 2) := by decide +kernel
theorem dX9_canBe_244 : decode cX9_canBe 244 = .ok (.goto 4, 3) := by decide +kernel
theorem dX9_canBe_247 : decode cX9_canBe 247 = .ok (.iconst 0, 1) := by decide +kernel
theorem dX9_canBe_248 : decode cX9_canBe 248 = .ok (.isub, 1) := by decide +kernel
theorem dX9_canBe_249 : decode cX9_canBe 249 = .ok (.aload_n 0, 1) := by decide +kernel
theorem dX9_canBe_250 : decode cX9_canBe 250 = .ok (.getfield 9, 3) := by decide +kernel
theorem dX9_canBe_253 : decode cX9_canBe 253 = .ok (.iconst 4, 1) := by decide +kernel
theorem dX9_canBe_254 : decode cX9_canBe 254 = .ok (.iaload, 1) := by decide +kernel
theorem dX9_canBe_255 : decode cX9_canBe 255 = .ok (.if_icmp .le 5, 3) := by decide +kernel
theorem dX9_canBe_258 : decode cX9_canBe 258 = .ok (.iconst 0, 1) := by decide +kernel
theorem dX9_canBe_259 : decode cX9_canBe 259 = .ok (.ireturn, 1) := by decide +kernel
theorem dX9_canBe_260 : decode cX9_canBe 260 = .ok (.iinc 8 1, 3) := by decide +kernel
theorem dX9_canBe_263 : decode cX9_canBe 263 = .ok (.goto (-133), 3) := by decide +kernel
theorem dX9_canBe_266 : decode cX9_canBe 266 = .ok (.iconst 1, 1) := by decide +kernel
theorem dX9_canBe_267 : decode cX9_canBe 267 = .ok (.ireturn, 1) := by decide +kernel
theorem dX9_nextDate_0 : decode cX9_nextDate 0 = .ok (.aload_n 0, 1) := by decide +kernel
theorem dX9_nextDate_1 : decode cX9_nextDate 1 = .ok (.aload_n 0, 1) := by decide +kernel
theorem dX9_nextDate_2 : decode cX9_nextDate 2 = .ok (.iload_n 1, 1) := by decide +kernel
theorem dX9_nextDate_3 : decode cX9_nextDate 3 = .ok (.invokevirtual 143, 3) := by decide +kernel
theorem dX9_nextDate_6 : decode cX9_nextDate 6 = .ok (.ifCond .eq 10, 3) := by decide +kernel
theorem dX9_nextDate_9 : decode cX9_nextDate 9 = .ok (.iload_n 2, 1) := by decide +kernel
theorem dX9_nextDate_10 : decode cX9_nextDate 10 = .ok (.invokestatic 116, 3) := by decide +kernel
theorem dX9_nextDate_13 : decode cX9_nextDate 13 = .ok (.ifCond .ne 7, 3) := by decide +kernel
theorem dX9_nextDate_16 : decode cX9_nextDate 16 = .ok (.iconst 1, 1) := by decide +kernel
theorem dX9_nextDate_17 : decode cX9_nextDate 17 = .ok (.goto 15, 3) := by decide +kernel
theorem dX9_nextDate_20 : decode cX9_nextDate 20 = .ok (.iload_n 3, 1) := by decide +kernel
theorem dX9_nextDate_21 : decode cX9_nextDate 21 = .ok (.invokestatic 152, 3) := by decide +kernel
theorem dX9_nextDate_24 : decode cX9_nextDate 24 = .ok (.ifCond .eq 7, 3) := by decide +kernel
theorem dX9_nextDate_27 : decode cX9_nextDate 27 = .ok (.iconst 0, 1) := by decide +kernel
theorem dX9_nextDate_28 : decode cX9_nextDate 28 = .ok (.goto 4, 3) := by decide +kernel
theorem dX9_nextDate_31 : decode cX9_nextDate 31 = .ok (.iconst 2, 1) := by decide +kernel
theorem dX9_nextDate_32 : decode cX9_nextDate 32 = .ok (.putfield 24, 3) := by decide +kernel
theorem dX9_nextDate_35 : decode cX9_nextDate 35 = .ok (.aload_n 0, 1) := by decide +kernel
theorem dX9_nextDate_36 : decode cX9_nextDate 36 = .ok (.getfield 24, 3) := by decide +kernel
theorem dX9_nextDate_39 : decode cX9_nextDate 39 = .ok (.ifCond .eq 5, 3) := by decide +kernel
theorem dX9_nextDate_42 : decode cX9_nextDate 42 = .ok (.iconst 0, 1) := by decide +kernel
theorem dX9_nextDate_43 : decode cX9_nextDate 43 = .ok (.ireturn, 1) := by decide +kernel
theorem dX9_nextDate_44 : decode cX9_nextDate 44 = .ok (.iload_n 3, 1) := by decide +kernel
theorem dX9_nextDate_45 : decode cX9_nextDate 45 = .ok (.istore 4, 2) := by decide +kernel
theorem dX9_nextDate_47 : decode cX9_nextDate 47 = .ok (.iload 4, 2) := by decide +kernel
theorem dX9_nextDate_49 : decode cX9_nextDate 49 = .ok (.bipush 30, 2) := by decide +kernel
theorem dX9_nextDate_51 : decode cX9_nextDate 51 = .ok (.if_icmp .ge 23, 3) := by decide +kernel
theorem dX9_nextDate_54 : decode cX9_nextDate 54 = .ok (.aload_n 0, 1) := by decide +kernel
theorem dX9_nextDate_55 : decode cX9_nextDate 55 = .ok (.iload_n 1, 1) := by decide +kernel
theorem dX9_nextDate_56 : decode cX9_nextDate 56 = .ok (.iload_n 2, 1) := by decide +kernel
theorem dX9_nextDate_57 : decode cX9_nextDate 57 = .ok (.iload 4, 2) := by decide +kernel
theorem dX9_nextDate_59 : decode cX9_nextDate 59 = .ok (.invokevirtual 181, 3) := by decide +kernel
theorem dX9_nextDate_62 : decode cX9_nextDate 62 = .ok (.ifCond .eq 6, 3) := by decide +kernel
theorem dX9_nextDate_65 : decode cX9_nextDate 65 = .ok (.iload 4, 2) := by decide +kernel
theorem dX9_nextDate_67 : decode cX9_nextDate 67 = .ok (.ireturn, 1) := by decide +kernel
theorem dX9_nextDate_68 : decode cX9_nextDate 68 = .ok (.iinc 4 1, 3) := by decide +kernel
theorem dX9_nextDate_71 : decode cX9_nextDate 71 = .ok (.goto (-24), 3) := by decide +kernel
theorem dX9_nextDate_74 : decode cX9_nextDate 74 = .ok (.aload_n 0, 1) := by decide +kernel
theorem dX9_nextDate_75 : decode cX9_nextDate 75 = .ok (.iconst 3, 1) := by decide +kernel
theorem dX9_nextDate_76 : decode cX9_nextDate 76 = .ok (.putfield 24, 3) := by decide +kernel
theorem dX9_nextDate_79 : decode cX9_nextDate 79 = .ok (.iconst 0, 1) := by decide +kernel
theorem dX9_nextDate_80 : decode cX9_nextDate 80 = .ok (.ireturn, 1) := by decide +kernel
theorem dX9_bestMove_0 : decode cX9_bestMove 0 = .ok (.aload_n 0, 1) := by decide +kernel
theorem dX9_bestMove_1 : decode cX9_bestMove 1 = .ok (.aload_n 0, 1) := by decide +kernel
theorem dX9_bestMove_2 : decode cX9_bestMove 2 = .ok (.iload_n 1, 1) := by decide +kernel
theorem dX9_bestMove_3 : decode cX9_bestMove 3 = .ok (.invokevirtual 166, 3) := by decide +kernel
theorem dX9_bestMove_6 : decode cX9_bestMove 6 = .ok (.ifCond .eq 7, 3) := by decide +kernel
theorem dX9_bestMove_9 : decode cX9_bestMove 9 = .ok (.iconst 0, 1) := by decide +kernel
theorem dX9_bestMove_10 : decode cX9_bestMove 10 = .ok (.goto 4, 3) := by decide +kernel
theorem dX9_bestMove_13 : decode cX9_bestMove 13 = .ok (.iconst 1, 1) := by decide +kernel
theorem dX9_bestMove_14 : decode cX9_bestMove 14 = .ok (.putfield 24, 3) := by decide +kernel
theorem dX9_bestMove_17 : decode cX9_bestMove 17 = .ok (.aload_n 0, 1) := by decide +kernel
theorem dX9_bestMove_18 : decode cX9_bestMove 18 = .ok (.getfield 24, 3) := by decide +kernel
theorem dX9_bestMove_21 : decode cX9_bestMove 21 = .ok (.ifCond .eq 5, 3) := by decide +kernel
theorem dX9_bestMove_24 : decode cX9_bestMove 24 = .ok (.iconst 0, 1) := by decide +kernel
theorem dX9_bestMove_25 : decode cX9_bestMove 25 = .ok (.ireturn, 1) := by decide +kernel
theorem dX9_bestMove_26 : decode cX9_bestMove 26 = .ok (.aload_n 0, 1) := by decide +kernel
theorem dX9_bestMove_27 : decode cX9_bestMove 27 = .ok (.iload_n 1, 1) := by decide +kernel
theorem dX9_bestMove_28 : decode cX9_bestMove 28 = .ok (.iconst 2, 1) := by decide +kernel
theorem dX9_bestMove_29 : decode cX9_bestMove 29 = .ok (.invokevirtual 50, 3) := by decide +kernel
theorem dX9_bestMove_32 : decode cX9_bestMove 32 = .ok (.istore_n 2, 1) := by decide +kernel
theorem dX9_bestMove_33 : decode cX9_bestMove 33 = .ok (.iconst (-1), 1) := by decide +kernel
theorem dX9_bestMove_34 : decode cX9_bestMove 34 = .ok (.istore_n 3, 1) := by decide +kernel
theorem dX9_bestMove_35 : decode cX9_bestMove 35 = .ok (.iconst 0, 1) := by decide +kernel
theorem dX9_bestMove_36 : decode cX9_bestMove 36 = .ok (.istore 4, 2) := by decide +kernel
theorem dX9_bestMove_38 : decode cX9_bestMove 38 = .ok (.iconst 0, 1) := by decide +kernel
theorem dX9_bestMove_39 : decode cX9_bestMove 39 = .ok (.istore 5, 2) := by decide +kernel
theorem dX9_bestMove_41 : decode cX9_bestMove 41 = .ok (.iload 5, 2) := by decide +kernel
theorem dX9_bestMove_43 : decode cX9_bestMove 43 = .ok (.bipush 30, 2) := by decide +kernel
theorem dX9_bestMove_45 : decode cX9_bestMove 45 = .ok (.if_icmp .ge 66, 3) := by decide +kernel
theorem dX9_bestMove_48 : decode cX9_bestMove 48 = .ok (.aload_n 0, 1) := by decide +kernel
theorem dX9_bestMove_49 : decode cX9_bestMove 49 = .ok (.getfield 9, 3) := by decide +kernel
theorem dX9_bestMove_52 : decode cX9_bestMove 52 = .ok (.bipush 39, 2) := by decide +kernel
theorem dX9_bestMove_54 : decode cX9_bestMove 54 = .ok (.iconst 4, 1) := by decide +kernel
theorem dX9_bestMove_55 : decode cX9_bestMove 55 = .ok (.iload_n 1, 1) := by decide +kernel
theorem dX9_bestMove_56 : decode cX9_bestMove 56 = .ok (.imul, 1) := by decide +kernel
theorem dX9_bestMove_57 : decode cX9_bestMove 57 = .ok (.iadd, 1) := by decide +kernel
theorem dX9_bestMove_58 : decode cX9_bestMove 58 = .ok (.iconst 2, 1) := by decide +kernel
theorem dX9_bestMove_59 : decode cX9_bestMove 59 = .ok (.iadd, 1) := by decide +kernel
theorem dX9_bestMove_60 : decode cX9_bestMove 60 = .ok (.iload 5, 2) := by decide +kernel
theorem dX9_bestMove_62 : decode cX9_bestMove 62 = .ok (.iastore, 1) := by decide +kernel
theorem dX9_bestMove_63 : decode cX9_bestMove 63 = .ok (.iload 5, 2) := by decide +kernel
theorem dX9_bestMove_65 : decode cX9_bestMove 65 = .ok (.iload_n 2, 1) := by decide +kernel
theorem dX9_bestMove_66 : decode cX9_bestMove 66 = .ok (.if_icmp .eq 39, 3) := by decide +kernel
theorem dX9_bestMove_69 : decode cX9_bestMove 69 = .ok (.aload_n 0, 1) := by decide +kernel
theorem dX9_bestMove_70 : decode cX9_bestMove 70 = .ok (.iload_n 1, 1) := by decide +kernel
theorem dX9_bestMove_71 : decode cX9_bestMove 71 = .ok (.invokevirtual 159, 3) := by decide +kernel
theorem dX9_bestMove_74 : decode cX9_bestMove 74 = .ok (.ifCond .eq 6, 3) := by decide +kernel
theorem dX9_bestMove_77 : decode cX9_bestMove 77 = .ok (.goto 28, 3) := by decide +kernel
theorem dX9_bestMove_80 : decode cX9_bestMove 80 = .ok (.aload_n 0, 1) := by decide +kernel
theorem dX9_bestMove_81 : decode cX9_bestMove 81 = .ok (.invokevirtual 184, 3) := by decide +kernel
theorem dX9_bestMove_84 : decode cX9_bestMove 84 = .ok (.istore 6, 2) := by decide +kernel
theorem dX9_bestMove_86 : decode cX9_bestMove 86 = .ok (.iload_n 3, 1) := by decide +kernel
theorem dX9_bestMove_87 : decode cX9_bestMove 87 = .ok (.iconst (-1), 1) := by decide +kernel
theorem dX9_bestMove_88 : decode cX9_bestMove 88 = .ok (.if_icmp .eq 10, 3) := by decide +kernel
theorem dX9_bestMove_91 : decode cX9_bestMove 91 = .ok (.iload 6, 2) := by decide +kernel
theorem dX9_bestMove_93 : decode cX9_bestMove 93 = .ok (.iload 4, 2) := by decide +kernel
theorem dX9_bestMove_95 : decode cX9_bestMove 95 = .ok (.if_icmp .ge 10, 3) := by decide +kernel
theorem dX9_bestMove_98 : decode cX9_bestMove 98 = .ok (.iload 5, 2) := by decide +kernel
theorem dX9_bestMove_100 : decode cX9_bestMove 100 = .ok (.istore_n 3, 1) := by decide +kernel
theorem dX9_bestMove_101 : decode cX9_bestMove 101 = .ok (.iload 6, 2) := by decide +kernel
theorem dX9_bestMove_103 : decode cX9_bestMove 103 = .ok (.istore 4, 2) := by decide +kernel
theorem dX9_bestMove_105 : decode cX9_bestMove 105 = .ok (.iinc 5 1, 3) := by decide +kernel
theorem dX9_bestMove_108 : decode cX9_bestMove 108 = .ok (.goto (-67), 3) := by decide +kernel
theorem dX9_bestMove_111 : decode cX9_bestMove 111 = .ok (.aload_n 0, 1) := by decide +kernel
theorem dX9_bestMove_112 : decode cX9_bestMove 112 = .ok (.getfield 9, 3) := by decide +kernel
theorem dX9_bestMove_115 : decode cX9_bestMove 115 = .ok (.bipush 39, 2) := by decide +kernel
theorem dX9_bestMove_117 : decode cX9_bestMove 117 = .ok (.iconst 4, 1) := by decide +kernel
theorem dX9_bestMove_118 : decode cX9_bestMove 118 = .ok (.iload_n 1, 1) := by decide +kernel
theorem dX9_bestMove_119 : decode cX9_bestMove 119 = .ok (.imul, 1) := by decide +kernel
theorem dX9_bestMove_120 : decode cX9_bestMove 120 = .ok (.iadd, 1) := by decide +kernel
theorem dX9_bestMove_121 : decode cX9_bestMove 121 = .ok (.iconst 2, 1) := by decide +kernel
theorem dX9_bestMove_122 : decode cX9_bestMove 122 = .ok (.iadd, 1) := by decide +kernel
theorem dX9_bestMove_123 : decode cX9_bestMove 123 = .ok (.iload_n 2, 1) := by decide +kernel
theorem dX9_bestMove_124 : decode cX9_bestMove 124 = .ok (.iastore, 1) := by decide +kernel
theorem dX9_bestMove_125 : decode cX9_bestMove 125 = .ok (.aload_n 0, 1) := by decide +kernel
theorem dX9_bestMove_126 : decode cX9_bestMove 126 = .ok (.iload_n 3, 1) := by decide +kernel
theorem dX9_bestMove_127 : decode cX9_bestMove 127 = .ok (.iconst (-1), 1) := by decide +kernel
theorem dX9_bestMove_128 : decode cX9_bestMove 128 = .ok (.if_icmp .ne 7, 3) := by decide +kernel
theorem dX9_bestMove_131 : decode cX9_bestMove 131 = .ok (.iconst 2, 1) := by decide +kernel
theorem dX9_bestMove_132 : decode cX9_bestMove 132 = .ok (.goto 4, 3) := by decide +kernel
theorem dX9_bestMove_135 : decode cX9_bestMove 135 = .ok (.iconst 0, 1) := by decide +kernel
theorem dX9_bestMove_136 : decode cX9_bestMove 136 = .ok (.putfield 24, 3) := by decide +kernel
theorem dX9_bestMove_139 : decode cX9_bestMove 139 = .ok (.aload_n 0, 1) := by decide +kernel
theorem dX9_bestMove_140 : decode cX9_bestMove 140 = .ok (.getfield 24, 3) := by decide +kernel
theorem dX9_bestMove_143 : decode cX9_bestMove 143 = .ok (.ifCond .ne 7, 3) := by decide +kernel
theorem dX9_bestMove_146 : decode cX9_bestMove 146 = .ok (.iload_n 3, 1) := by decide +kernel
theorem dX9_bestMove_147 : decode cX9_bestMove 147 = .ok (.goto 4, 3) := by decide +kernel
theorem dX9_bestMove_150 : decode cX9_bestMove 150 = .ok (.iconst 0, 1) := by decide +kernel
theorem dX9_bestMove_151 : decode cX9_bestMove 151 = .ok (.ireturn, 1) := by decide +kernel
theorem dX9_load_0 : decode cX9_load 0 = .ok (.aload_n 0, 1) := by decide +kernel
theorem dX9_load_1 : decode cX9_load 1 = .ok (.iload_n 1, 1) := by decide +kernel
theorem dX9_load_2 : decode cX9_load 2 = .ok (.invokestatic 152, 3) := by decide +kernel
theorem dX9_load_5 : decode cX9_load 5 = .ok (.ifCond .eq 7, 3) := by decide +kernel
theorem dX9_load_8 : decode cX9_load 8 = .ok (.iconst 0, 1) := by decide +kernel
theorem dX9_load_9 : decode cX9_load 9 = .ok (.goto 4, 3) := by decide +kernel
theorem dX9_load_12 : decode cX9_load 12 = .ok (.iconst 1, 1) := by decide +kernel
theorem dX9_load_13 : decode cX9_load 13 = .ok (.putfield 24, 3) := by decide +kernel
theorem dX9_load_16 : decode cX9_load 16 = .ok (.aload_n 0, 1) := by decide +kernel
theorem dX9_load_17 : decode cX9_load 17 = .ok (.getfield 24, 3) := by decide +kernel
theorem dX9_load_20 : decode cX9_load 20 = .ok (.ifCond .ne 11, 3) := by decide +kernel
theorem dX9_load_23 : decode cX9_load 23 = .ok (.aload_n 0, 1) := by decide +kernel
theorem dX9_load_24 : decode cX9_load 24 = .ok (.iload_n 1, 1) := by decide +kernel
theorem dX9_load_25 : decode cX9_load 25 = .ok (.invokevirtual 68, 3) := by decide +kernel
theorem dX9_load_28 : decode cX9_load 28 = .ok (.goto 4, 3) := by decide +kernel
theorem dX9_load_31 : decode cX9_load 31 = .ok (.iconst 0, 1) := by decide +kernel
theorem dX9_load_32 : decode cX9_load 32 = .ok (.ireturn, 1) := by decide +kernel
theorem dX9_peak_0 : decode cX9_peak 0 = .ok (.aload_n 0, 1) := by decide +kernel
theorem dX9_peak_1 : decode cX9_peak 1 = .ok (.iconst 0, 1) := by decide +kernel
theorem dX9_peak_2 : decode cX9_peak 2 = .ok (.putfield 24, 3) := by decide +kernel
theorem dX9_peak_5 : decode cX9_peak 5 = .ok (.aload_n 0, 1) := by decide +kernel
theorem dX9_peak_6 : decode cX9_peak 6 = .ok (.invokevirtual 184, 3) := by decide +kernel
theorem dX9_peak_9 : decode cX9_peak 9 = .ok (.ireturn, 1) := by decide +kernel
theorem dX9_sells_0 : decode cX9_sells 0 = .ok (.aload_n 0, 1) := by decide +kernel
theorem dX9_sells_1 : decode cX9_sells 1 = .ok (.iload_n 1, 1) := by decide +kernel
theorem dX9_sells_2 : decode cX9_sells 2 = .ok (.invokevirtual 166, 3) := by decide +kernel
theorem dX9_sells_5 : decode cX9_sells 5 = .ok (.ifCond .ne 5, 3) := by decide +kernel
theorem dX9_sells_8 : decode cX9_sells 8 = .ok (.iconst 1, 1) := by decide +kernel
theorem dX9_sells_9 : decode cX9_sells 9 = .ok (.ireturn, 1) := by decide +kernel
theorem dX9_sells_10 : decode cX9_sells 10 = .ok (.iload_n 2, 1) := by decide +kernel
theorem dX9_sells_11 : decode cX9_sells 11 = .ok (.iconst 1, 1) := by decide +kernel
theorem dX9_sells_12 : decode cX9_sells 12 = .ok (.bipush 99, 2) := by decide +kernel
theorem dX9_sells_14 : decode cX9_sells 14 = .ok (.invokestatic 46, 3) := by decide +kernel
theorem dX9_sells_17 : decode cX9_sells 17 = .ok (.ifCond .ne 5, 3) := by decide +kernel
theorem dX9_sells_20 : decode cX9_sells 20 = .ok (.iconst 2, 1) := by decide +kernel
theorem dX9_sells_21 : decode cX9_sells 21 = .ok (.ireturn, 1) := by decide +kernel
theorem dX9_sells_22 : decode cX9_sells 22 = .ok (.aload_n 0, 1) := by decide +kernel
theorem dX9_sells_23 : decode cX9_sells 23 = .ok (.iload_n 1, 1) := by decide +kernel
theorem dX9_sells_24 : decode cX9_sells 24 = .ok (.invokevirtual 109, 3) := by decide +kernel
theorem dX9_sells_27 : decode cX9_sells 27 = .ok (.istore_n 3, 1) := by decide +kernel
theorem dX9_sells_28 : decode cX9_sells 28 = .ok (.aload_n 0, 1) := by decide +kernel
theorem dX9_sells_29 : decode cX9_sells 29 = .ok (.iload_n 3, 1) := by decide +kernel
theorem dX9_sells_30 : decode cX9_sells 30 = .ok (.iload_n 2, 1) := by decide +kernel
theorem dX9_sells_31 : decode cX9_sells 31 = .ok (.if_icmp .ge 7, 3) := by decide +kernel
theorem dX9_sells_34 : decode cX9_sells 34 = .ok (.iconst 1, 1) := by decide +kernel
theorem dX9_sells_35 : decode cX9_sells 35 = .ok (.goto 4, 3) := by decide +kernel
theorem dX9_sells_38 : decode cX9_sells 38 = .ok (.iconst 0, 1) := by decide +kernel
theorem dX9_sells_39 : decode cX9_sells 39 = .ok (.iconst 4, 1) := by decide +kernel
theorem dX9_sells_40 : decode cX9_sells 40 = .ok (.iload_n 3, 1) := by decide +kernel
theorem dX9_sells_41 : decode cX9_sells 41 = .ok (.invokevirtual 91, 3) := by decide +kernel
theorem dX9_sells_44 : decode cX9_sells 44 = .ok (.ifCond .eq 5, 3) := by decide +kernel
theorem dX9_sells_47 : decode cX9_sells 47 = .ok (.iconst 4, 1) := by decide +kernel
theorem dX9_sells_48 : decode cX9_sells 48 = .ok (.ireturn, 1) := by decide +kernel
theorem dX9_sells_49 : decode cX9_sells 49 = .ok (.aload_n 0, 1) := by decide +kernel
theorem dX9_sells_50 : decode cX9_sells 50 = .ok (.getfield 9, 3) := by decide +kernel
theorem dX9_sells_53 : decode cX9_sells 53 = .ok (.bipush 39, 2) := by decide +kernel
theorem dX9_sells_55 : decode cX9_sells 55 = .ok (.iconst 4, 1) := by decide +kernel
theorem dX9_sells_56 : decode cX9_sells 56 = .ok (.iload_n 1, 1) := by decide +kernel
theorem dX9_sells_57 : decode cX9_sells 57 = .ok (.imul, 1) := by decide +kernel
theorem dX9_sells_58 : decode cX9_sells 58 = .ok (.iadd, 1) := by decide +kernel
theorem dX9_sells_59 : decode cX9_sells 59 = .ok (.iconst 3, 1) := by decide +kernel
theorem dX9_sells_60 : decode cX9_sells 60 = .ok (.iadd, 1) := by decide +kernel
theorem dX9_sells_61 : decode cX9_sells 61 = .ok (.dup2, 1) := by decide +kernel
theorem dX9_sells_62 : decode cX9_sells 62 = .ok (.iaload, 1) := by decide +kernel
theorem dX9_sells_63 : decode cX9_sells 63 = .ok (.iload_n 2, 1) := by decide +kernel
theorem dX9_sells_64 : decode cX9_sells 64 = .ok (.iadd, 1) := by decide +kernel
theorem dX9_sells_65 : decode cX9_sells 65 = .ok (.iastore, 1) := by decide +kernel
theorem dX9_sells_66 : decode cX9_sells 66 = .ok (.aload_n 0, 1) := by decide +kernel
theorem dX9_sells_67 : decode cX9_sells 67 = .ok (.iload_n 3, 1) := by decide +kernel
theorem dX9_sells_68 : decode cX9_sells 68 = .ok (.iload_n 2, 1) := by decide +kernel
theorem dX9_sells_69 : decode cX9_sells 69 = .ok (.isub, 1) := by decide +kernel
theorem dX9_sells_70 : decode cX9_sells 70 = .ok (.putfield 43, 3) := by decide +kernel
theorem dX9_sells_73 : decode cX9_sells 73 = .ok (.iconst 0, 1) := by decide +kernel
theorem dX9_sells_74 : decode cX9_sells 74 = .ok (.ireturn, 1) := by decide +kernel
theorem dX9_sell_0 : decode cX9_sell 0 = .ok (.aload_n 0, 1) := by decide +kernel
theorem dX9_sell_1 : decode cX9_sell 1 = .ok (.invokevirtual 123, 3) := by decide +kernel
theorem dX9_sell_4 : decode cX9_sell 4 = .ok (.aload_n 0, 1) := by decide +kernel
theorem dX9_sell_5 : decode cX9_sell 5 = .ok (.aload_n 0, 1) := by decide +kernel
theorem dX9_sell_6 : decode cX9_sell 6 = .ok (.iload_n 1, 1) := by decide +kernel
theorem dX9_sell_7 : decode cX9_sell 7 = .ok (.iload_n 2, 1) := by decide +kernel
theorem dX9_sell_8 : decode cX9_sell 8 = .ok (.invokevirtual 188, 3) := by decide +kernel
theorem dX9_sell_11 : decode cX9_sell 11 = .ok (.iconst 2, 1) := by decide +kernel
theorem dX9_sell_12 : decode cX9_sell 12 = .ok (.iconst 0, 1) := by decide +kernel
theorem dX9_sell_13 : decode cX9_sell 13 = .ok (.iconst 3, 1) := by decide +kernel
theorem dX9_sell_14 : decode cX9_sell 14 = .ok (.invokevirtual 129, 3) := by decide +kernel
theorem dX9_sell_17 : decode cX9_sell 17 = .ok (.ireturn, 1) := by decide +kernel
theorem dX9_refunds_0 : decode cX9_refunds 0 = .ok (.aload_n 0, 1) := by decide +kernel
theorem dX9_refunds_1 : decode cX9_refunds 1 = .ok (.iload_n 1, 1) := by decide +kernel
theorem dX9_refunds_2 : decode cX9_refunds 2 = .ok (.invokevirtual 166, 3) := by decide +kernel
theorem dX9_refunds_5 : decode cX9_refunds 5 = .ok (.ifCond .ne 5, 3) := by decide +kernel
theorem dX9_refunds_8 : decode cX9_refunds 8 = .ok (.iconst 1, 1) := by decide +kernel
theorem dX9_refunds_9 : decode cX9_refunds 9 = .ok (.ireturn, 1) := by decide +kernel
theorem dX9_refunds_10 : decode cX9_refunds 10 = .ok (.iload_n 2, 1) := by decide +kernel
theorem dX9_refunds_11 : decode cX9_refunds 11 = .ok (.iconst 1, 1) := by decide +kernel
theorem dX9_refunds_12 : decode cX9_refunds 12 = .ok (.bipush 99, 2) := by decide +kernel
theorem dX9_refunds_14 : decode cX9_refunds 14 = .ok (.invokestatic 46, 3) := by decide +kernel
theorem dX9_refunds_17 : decode cX9_refunds 17 = .ok (.ifCond .ne 5, 3) := by decide +kernel
theorem dX9_refunds_20 : decode cX9_refunds 20 = .ok (.iconst 2, 1) := by decide +kernel
theorem dX9_refunds_21 : decode cX9_refunds 21 = .ok (.ireturn, 1) := by decide +kernel
theorem dX9_refunds_22 : decode cX9_refunds 22 = .ok (.aload_n 0, 1) := by decide +kernel
theorem dX9_refunds_23 : decode cX9_refunds 23 = .ok (.iload_n 1, 1) := by decide +kernel
theorem dX9_refunds_24 : decode cX9_refunds 24 = .ok (.iconst 3, 1) := by decide +kernel
theorem dX9_refunds_25 : decode cX9_refunds 25 = .ok (.invokevirtual 50, 3) := by decide +kernel
theorem dX9_refunds_28 : decode cX9_refunds 28 = .ok (.istore_n 3, 1) := by decide +kernel
theorem dX9_refunds_29 : decode cX9_refunds 29 = .ok (.aload_n 0, 1) := by decide +kernel
theorem dX9_refunds_30 : decode cX9_refunds 30 = .ok (.iload_n 3, 1) := by decide +kernel
theorem dX9_refunds_31 : decode cX9_refunds 31 = .ok (.iload_n 2, 1) := by decide +kernel
theorem dX9_refunds_32 : decode cX9_refunds 32 = .ok (.if_icmp .ge 7, 3) := by decide +kernel
theorem dX9_refunds_35 : decode cX9_refunds 35 = .ok (.iconst 1, 1) := by decide +kernel
theorem dX9_refunds_36 : decode cX9_refunds 36 = .ok (.goto 4, 3) := by decide +kernel
theorem dX9_refunds_39 : decode cX9_refunds 39 = .ok (.iconst 0, 1) := by decide +kernel
theorem dX9_refunds_40 : decode cX9_refunds 40 = .ok (.bipush 7, 2) := by decide +kernel
theorem dX9_refunds_42 : decode cX9_refunds 42 = .ok (.iload_n 3, 1) := by decide +kernel
theorem dX9_refunds_43 : decode cX9_refunds 43 = .ok (.invokevirtual 91, 3) := by decide +kernel
theorem dX9_refunds_46 : decode cX9_refunds 46 = .ok (.ifCond .eq 5, 3) := by decide +kernel
theorem dX9_refunds_49 : decode cX9_refunds 49 = .ok (.iconst 4, 1) := by decide +kernel
theorem dX9_refunds_50 : decode cX9_refunds 50 = .ok (.ireturn, 1) := by decide +kernel
theorem dX9_refunds_51 : decode cX9_refunds 51 = .ok (.aload_n 0, 1) := by decide +kernel
theorem dX9_refunds_52 : decode cX9_refunds 52 = .ok (.getfield 9, 3) := by decide +kernel
theorem dX9_refunds_55 : decode cX9_refunds 55 = .ok (.bipush 39, 2) := by decide +kernel
theorem dX9_refunds_57 : decode cX9_refunds 57 = .ok (.iconst 4, 1) := by decide +kernel
theorem dX9_refunds_58 : decode cX9_refunds 58 = .ok (.iload_n 1, 1) := by decide +kernel
theorem dX9_refunds_59 : decode cX9_refunds 59 = .ok (.imul, 1) := by decide +kernel
theorem dX9_refunds_60 : decode cX9_refunds 60 = .ok (.iadd, 1) := by decide +kernel
theorem dX9_refunds_61 : decode cX9_refunds 61 = .ok (.iconst 3, 1) := by decide +kernel
theorem dX9_refunds_62 : decode cX9_refunds 62 = .ok (.iadd, 1) := by decide +kernel
theorem dX9_refunds_63 : decode cX9_refunds 63 = .ok (.dup2, 1) := by decide +kernel
theorem dX9_refunds_64 : decode cX9_refunds 64 = .ok (.iaload, 1) := by decide +kernel
theorem dX9_refunds_65 : decode cX9_refunds 65 = .ok (.iload_n 2, 1) := by decide +kernel
theorem dX9_refunds_66 : decode cX9_refunds 66 = .ok (.isub, 1) := by decide +kernel
theorem dX9_refunds_67 : decode cX9_refunds 67 = .ok (.iastore, 1) := by decide +kernel
theorem dX9_refunds_68 : decode cX9_refunds 68 = .ok (.aload_n 0, 1) := by decide +kernel
theorem dX9_refunds_69 : decode cX9_refunds 69 = .ok (.iload_n 1, 1) := by decide +kernel
theorem dX9_refunds_70 : decode cX9_refunds 70 = .ok (.invokevirtual 120, 3) := by decide +kernel
theorem dX9_refunds_73 : decode cX9_refunds 73 = .ok (.aload_n 0, 1) := by decide +kernel
theorem dX9_refunds_74 : decode cX9_refunds 74 = .ok (.aload_n 0, 1) := by decide +kernel
theorem dX9_refunds_75 : decode cX9_refunds 75 = .ok (.iload_n 1, 1) := by decide +kernel
theorem dX9_refunds_76 : decode cX9_refunds 76 = .ok (.iconst 3, 1) := by decide +kernel
theorem dX9_refunds_77 : decode cX9_refunds 77 = .ok (.invokevirtual 50, 3) := by decide +kernel
theorem dX9_refunds_80 : decode cX9_refunds 80 = .ok (.putfield 43, 3) := by decide +kernel
theorem dX9_refunds_83 : decode cX9_refunds 83 = .ok (.iconst 0, 1) := by decide +kernel
theorem dX9_refunds_84 : decode cX9_refunds 84 = .ok (.ireturn, 1) := by decide +kernel
theorem dX9_refund_0 : decode cX9_refund 0 = .ok (.aload_n 0, 1) := by decide +kernel
theorem dX9_refund_1 : decode cX9_refund 1 = .ok (.invokevirtual 123, 3) := by decide +kernel
theorem dX9_refund_4 : decode cX9_refund 4 = .ok (.aload_n 0, 1) := by decide +kernel
theorem dX9_refund_5 : decode cX9_refund 5 = .ok (.aload_n 0, 1) := by decide +kernel
theorem dX9_refund_6 : decode cX9_refund 6 = .ok (.iload_n 1, 1) := by decide +kernel
theorem dX9_refund_7 : decode cX9_refund 7 = .ok (.iload_n 2, 1) := by decide +kernel
theorem dX9_refund_8 : decode cX9_refund 8 = .ok (.invokevirtual 191, 3) := by decide +kernel
theorem dX9_refund_11 : decode cX9_refund 11 = .ok (.iconst 2, 1) := by decide +kernel
theorem dX9_refund_12 : decode cX9_refund 12 = .ok (.iconst 0, 1) := by decide +kernel
theorem dX9_refund_13 : decode cX9_refund 13 = .ok (.iconst 3, 1) := by decide +kernel
theorem dX9_refund_14 : decode cX9_refund 14 = .ok (.invokevirtual 129, 3) := by decide +kernel
theorem dX9_refund_17 : decode cX9_refund 17 = .ok (.ireturn, 1) := by decide +kernel
theorem dX9_requests_0 : decode cX9_requests 0 = .ok (.aload_n 0, 1) := by decide +kernel
theorem dX9_requests_1 : decode cX9_requests 1 = .ok (.iload_n 1, 1) := by decide +kernel
theorem dX9_requests_2 : decode cX9_requests 2 = .ok (.invokevirtual 166, 3) := by decide +kernel
theorem dX9_requests_5 : decode cX9_requests 5 = .ok (.ifCond .ne 5, 3) := by decide +kernel
theorem dX9_requests_8 : decode cX9_requests 8 = .ok (.iconst 1, 1) := by decide +kernel
theorem dX9_requests_9 : decode cX9_requests 9 = .ok (.ireturn, 1) := by decide +kernel
theorem dX9_requests_10 : decode cX9_requests 10 = .ok (.iload_n 2, 1) := by decide +kernel
theorem dX9_requests_11 : decode cX9_requests 11 = .ok (.iconst 1, 1) := by decide +kernel
theorem dX9_requests_12 : decode cX9_requests 12 = .ok (.bipush 99, 2) := by decide +kernel
theorem dX9_requests_14 : decode cX9_requests 14 = .ok (.invokestatic 46, 3) := by decide +kernel
theorem dX9_requests_17 : decode cX9_requests 17 = .ok (.ifCond .eq 13, 3) := by decide +kernel
theorem dX9_requests_20 : decode cX9_requests 20 = .ok (.iload_n 3, 1) := by decide +kernel
theorem dX9_requests_21 : decode cX9_requests 21 = .ok (.iconst 0, 1) := by decide +kernel
theorem dX9_requests_22 : decode cX9_requests 22 = .ok (.bipush 9, 2) := by decide +kernel
theorem dX9_requests_24 : decode cX9_requests 24 = .ok (.invokestatic 46, 3) := by decide +kernel
theorem dX9_requests_27 : decode cX9_requests 27 = .ok (.ifCond .ne 5, 3) := by decide +kernel
theorem dX9_requests_30 : decode cX9_requests 30 = .ok (.iconst 2, 1) := by decide +kernel
theorem dX9_requests_31 : decode cX9_requests 31 = .ok (.ireturn, 1) := by decide +kernel
theorem dX9_requests_32 : decode cX9_requests 32 = .ok (.aload_n 0, 1) := by decide +kernel
theorem dX9_requests_33 : decode cX9_requests 33 = .ok (.getfield 9, 3) := by decide +kernel
theorem dX9_requests_36 : decode cX9_requests 36 = .ok (.sipush 180, 3) := by decide +kernel
theorem dX9_requests_39 : decode cX9_requests 39 = .ok (.iaload, 1) := by decide +kernel
theorem dX9_requests_40 : decode cX9_requests 40 = .ok (.istore 4, 2) := by decide +kernel
theorem dX9_requests_42 : decode cX9_requests 42 = .ok (.aload_n 0, 1) := by decide +kernel
theorem dX9_requests_43 : decode cX9_requests 43 = .ok (.iload 4, 2) := by decide +kernel
theorem dX9_requests_45 : decode cX9_requests 45 = .ok (.bipush 20, 2) := by decide +kernel
theorem dX9_requests_47 : decode cX9_requests 47 = .ok (.if_icmp .ne 7, 3) := by decide +kernel
theorem dX9_requests_50 : decode cX9_requests 50 = .ok (.iconst 1, 1) := by decide +kernel
theorem dX9_requests_51 : decode cX9_requests 51 = .ok (.goto 4, 3) := by decide +kernel
theorem dX9_requests_54 : decode cX9_requests 54 = .ok (.iconst 0, 1) := by decide +kernel
theorem dX9_requests_55 : decode cX9_requests 55 = .ok (.bipush 8, 2) := by decide +kernel
theorem dX9_requests_57 : decode cX9_requests 57 = .ok (.bipush 20, 2) := by decide +kernel
theorem dX9_requests_59 : decode cX9_requests 59 = .ok (.invokevirtual 91, 3) := by decide +kernel
theorem dX9_requests_62 : decode cX9_requests 62 = .ok (.ifCond .eq 5, 3) := by decide +kernel
theorem dX9_requests_65 : decode cX9_requests 65 = .ok (.iconst 4, 1) := by decide +kernel
theorem dX9_requests_66 : decode cX9_requests 66 = .ok (.ireturn, 1) := by decide +kernel
theorem dX9_requests_67 : decode cX9_requests 67 = .ok (.aload_n 0, 1) := by decide +kernel
theorem dX9_requests_68 : decode cX9_requests 68 = .ok (.iconst 0, 1) := by decide +kernel
theorem dX9_requests_69 : decode cX9_requests 69 = .ok (.putfield 43, 3) := by decide +kernel
theorem dX9_requests_72 : decode cX9_requests 72 = .ok (.iconst 0, 1) := by decide +kernel
theorem dX9_requests_73 : decode cX9_requests 73 = .ok (.istore 5, 2) := by decide +kernel
theorem dX9_requests_75 : decode cX9_requests 75 = .ok (.iload 5, 2) := by decide +kernel
theorem dX9_requests_77 : decode cX9_requests 77 = .ok (.iload 4, 2) := by decide +kernel
theorem dX9_requests_79 : decode cX9_requests 79 = .ok (.if_icmp .ge 45, 3) := by decide +kernel
theorem dX9_requests_82 : decode cX9_requests 82 = .ok (.aload_n 0, 1) := by decide +kernel
theorem dX9_requests_83 : decode cX9_requests 83 = .ok (.dup, 1) := by decide +kernel
theorem dX9_requests_84 : decode cX9_requests 84 = .ok (.getfield 43, 3) := by decide +kernel
theorem dX9_requests_87 : decode cX9_requests 87 = .ok (.aload_n 0, 1) := by decide +kernel
theorem dX9_requests_88 : decode cX9_requests 88 = .ok (.iload 5, 2) := by decide +kernel
theorem dX9_requests_90 : decode cX9_requests 90 = .ok (.iconst 0, 1) := by decide +kernel
theorem dX9_requests_91 : decode cX9_requests 91 = .ok (.invokevirtual 103, 3) := by decide +kernel
theorem dX9_requests_94 : decode cX9_requests 94 = .ok (.iload_n 1, 1) := by decide +kernel
theorem dX9_requests_95 : decode cX9_requests 95 = .ok (.if_icmp .ne 18, 3) := by decide +kernel
theorem dX9_requests_98 : decode cX9_requests 98 = .ok (.aload_n 0, 1) := by decide +kernel
theorem dX9_requests_99 : decode cX9_requests 99 = .ok (.iload 5, 2) := by decide +kernel
theorem dX9_requests_101 : decode cX9_requests 101 = .ok (.iconst 2, 1) := by decide +kernel
theorem dX9_requests_102 : decode cX9_requests 102 = .ok (.invokevirtual 103, 3) := by decide +kernel
theorem dX9_requests_105 : decode cX9_requests 105 = .ok (.iload_n 3, 1) := by decide +kernel
theorem dX9_requests_106 : decode cX9_requests 106 = .ok (.if_icmp .lt 7, 3) := by decide +kernel
theorem dX9_requests_109 : decode cX9_requests 109 = .ok (.iconst 1, 1) := by decide +kernel
theorem dX9_requests_110 : decode cX9_requests 110 = .ok (.goto 4, 3) := by decide +kernel
theorem dX9_requests_113 : decode cX9_requests 113 = .ok (.iconst 0, 1) := by decide +kernel
theorem dX9_requests_114 : decode cX9_requests 114 = .ok (.iadd, 1) := by decide +kernel
theorem dX9_requests_115 : decode cX9_requests 115 = .ok (.putfield 43, 3) := by decide +kernel
theorem dX9_requests_118 : decode cX9_requests 118 = .ok (.iinc 5 1, 3) := by decide +kernel
theorem dX9_requests_121 : decode cX9_requests 121 = .ok (.goto (-46), 3) := by decide +kernel
theorem dX9_requests_124 : decode cX9_requests 124 = .ok (.aload_n 0, 1) := by decide +kernel
theorem dX9_requests_125 : decode cX9_requests 125 = .ok (.getfield 9, 3) := by decide +kernel
theorem dX9_requests_128 : decode cX9_requests 128 = .ok (.sipush 181, 3) := by decide +kernel
theorem dX9_requests_131 : decode cX9_requests 131 = .ok (.iconst 3, 1) := by decide +kernel
theorem dX9_requests_132 : decode cX9_requests 132 = .ok (.iload 4, 2) := by decide +kernel
theorem dX9_requests_134 : decode cX9_requests 134 = .ok (.imul, 1) := by decide +kernel
theorem dX9_requests_135 : decode cX9_requests 135 = .ok (.iadd, 1) := by decide +kernel
theorem dX9_requests_136 : decode cX9_requests 136 = .ok (.iconst 0, 1) := by decide +kernel
theorem dX9_requests_137 : decode cX9_requests 137 = .ok (.iadd, 1) := by decide +kernel
theorem dX9_requests_138 : decode cX9_requests 138 = .ok (.iload_n 1, 1) := by decide +kernel
theorem dX9_requests_139 : decode cX9_requests 139 = .ok (.iastore, 1) := by decide +kernel
theorem dX9_requests_140 : decode cX9_requests 140 = .ok (.aload_n 0, 1) := by decide +kernel
theorem dX9_requests_141 : decode cX9_requests 141 = .ok (.getfield 9, 3) := by decide +kernel
theorem dX9_requests_144 : decode cX9_requests 144 = .ok (.sipush 181, 3) := by decide +kernel
theorem dX9_requests_147 : decode cX9_requests 147 = .ok (.iconst 3, 1) := by decide +kernel
theorem dX9_requests_148 : decode cX9_requests 148 = .ok (.iload 4, 2) := by decide +kernel
theorem dX9_requests_150 : decode cX9_requests 150 = .ok (.imul, 1) := by decide +kernel
theorem dX9_requests_151 : decode cX9_requests 151 = .ok (.iadd, 1) := by decide +kernel
theorem dX9_requests_152 : decode cX9_requests 152 = .ok (.iconst 1, 1) := by decide +kernel
theorem dX9_requests_153 : decode cX9_requests 153 = .ok (.iadd, 1) := by decide +kernel
theorem dX9_requests_154 : decode cX9_requests 154 = .ok (.iload_n 2, 1) := by decide +kernel
theorem dX9_requests_155 : decode cX9_requests 155 = .ok (.iastore, 1) := by decide +kernel
theorem dX9_requests_156 : decode cX9_requests 156 = .ok (.aload_n 0, 1) := by decide +kernel
theorem dX9_requests_157 : decode cX9_requests 157 = .ok (.getfield 9, 3) := by decide +kernel
theorem dX9_requests_160 : decode cX9_requests 160 = .ok (.sipush 181, 3) := by decide +kernel
theorem dX9_requests_163 : decode cX9_requests 163 = .ok (.iconst 3, 1) := by decide +kernel
theorem dX9_requests_164 : decode cX9_requests 164 = .ok (.iload 4, 2) := by decide +kernel
theorem dX9_requests_166 : decode cX9_requests 166 = .ok (.imul, 1) := by decide +kernel
theorem dX9_requests_167 : decode cX9_requests 167 = .ok (.iadd, 1) := by decide +kernel
theorem dX9_requests_168 : decode cX9_requests 168 = .ok (.iconst 2, 1) := by decide +kernel
theorem dX9_requests_169 : decode cX9_requests 169 = .ok (.iadd, 1) := by decide +kernel
theorem dX9_requests_170 : decode cX9_requests 170 = .ok (.iload_n 3, 1) := by decide +kernel
theorem dX9_requests_171 : decode cX9_requests 171 = .ok (.iastore, 1) := by decide +kernel
theorem dX9_requests_172 : decode cX9_requests 172 = .ok (.aload_n 0, 1) := by decide +kernel
theorem dX9_requests_173 : decode cX9_requests 173 = .ok (.getfield 9, 3) := by decide +kernel
theorem dX9_requests_176 : decode cX9_requests 176 = .ok (.sipush 180, 3) := by decide +kernel
theorem dX9_requests_179 : decode cX9_requests 179 = .ok (.dup2, 1) := by decide +kernel
theorem dX9_requests_180 : decode cX9_requests 180 = .ok (.iaload, 1) := by decide +kernel
theorem dX9_requests_181 : decode cX9_requests 181 = .ok (.iconst 1, 1) := by decide +kernel
theorem dX9_requests_182 : decode cX9_requests 182 = .ok (.iadd, 1) := by decide +kernel
theorem dX9_requests_183 : decode cX9_requests 183 = .ok (.iastore, 1) := by decide +kernel
theorem dX9_requests_184 : decode cX9_requests 184 = .ok (.iconst 0, 1) := by decide +kernel
theorem dX9_requests_185 : decode cX9_requests 185 = .ok (.ireturn, 1) := by decide +kernel
theorem dX9_request_0 : decode cX9_request 0 = .ok (.aload_n 0, 1) := by decide +kernel
theorem dX9_request_1 : decode cX9_request 1 = .ok (.invokevirtual 123, 3) := by decide +kernel
theorem dX9_request_4 : decode cX9_request 4 = .ok (.aload_n 0, 1) := by decide +kernel
theorem dX9_request_5 : decode cX9_request 5 = .ok (.aload_n 0, 1) := by decide +kernel
theorem dX9_request_6 : decode cX9_request 6 = .ok (.iload_n 1, 1) := by decide +kernel
theorem dX9_request_7 : decode cX9_request 7 = .ok (.iload_n 2, 1) := by decide +kernel
theorem dX9_request_8 : decode cX9_request 8 = .ok (.iload_n 3, 1) := by decide +kernel
theorem dX9_request_9 : decode cX9_request 9 = .ok (.invokevirtual 194, 3) := by decide +kernel
theorem dX9_request_12 : decode cX9_request 12 = .ok (.iconst 2, 1) := by decide +kernel
theorem dX9_request_13 : decode cX9_request 13 = .ok (.iconst 0, 1) := by decide +kernel
theorem dX9_request_14 : decode cX9_request 14 = .ok (.iconst 3, 1) := by decide +kernel
theorem dX9_request_15 : decode cX9_request 15 = .ok (.invokevirtual 129, 3) := by decide +kernel
theorem dX9_request_18 : decode cX9_request 18 = .ok (.ireturn, 1) := by decide +kernel
theorem dX9_waiting_0 : decode cX9_waiting 0 = .ok (.aload_n 0, 1) := by decide +kernel
theorem dX9_waiting_1 : decode cX9_waiting 1 = .ok (.aload_n 0, 1) := by decide +kernel
theorem dX9_waiting_2 : decode cX9_waiting 2 = .ok (.iload_n 1, 1) := by decide +kernel
theorem dX9_waiting_3 : decode cX9_waiting 3 = .ok (.invokevirtual 166, 3) := by decide +kernel
theorem dX9_waiting_6 : decode cX9_waiting 6 = .ok (.ifCond .eq 7, 3) := by decide +kernel
theorem dX9_waiting_9 : decode cX9_waiting 9 = .ok (.iconst 0, 1) := by decide +kernel
theorem dX9_waiting_10 : decode cX9_waiting 10 = .ok (.goto 4, 3) := by decide +kernel
theorem dX9_waiting_13 : decode cX9_waiting 13 = .ok (.iconst 1, 1) := by decide +kernel
theorem dX9_waiting_14 : decode cX9_waiting 14 = .ok (.putfield 24, 3) := by decide +kernel
theorem dX9_waiting_17 : decode cX9_waiting 17 = .ok (.aload_n 0, 1) := by decide +kernel
theorem dX9_waiting_18 : decode cX9_waiting 18 = .ok (.getfield 24, 3) := by decide +kernel
theorem dX9_waiting_21 : decode cX9_waiting 21 = .ok (.ifCond .eq 5, 3) := by decide +kernel
theorem dX9_waiting_24 : decode cX9_waiting 24 = .ok (.iconst 0, 1) := by decide +kernel
theorem dX9_waiting_25 : decode cX9_waiting 25 = .ok (.ireturn, 1) := by decide +kernel
theorem dX9_waiting_26 : decode cX9_waiting 26 = .ok (.aload_n 0, 1) := by decide +kernel
theorem dX9_waiting_27 : decode cX9_waiting 27 = .ok (.iload_n 1, 1) := by decide +kernel
theorem dX9_waiting_28 : decode cX9_waiting 28 = .ok (.iload_n 2, 1) := by decide +kernel
theorem dX9_waiting_29 : decode cX9_waiting 29 = .ok (.invokevirtual 106, 3) := by decide +kernel
theorem dX9_waiting_32 : decode cX9_waiting 32 = .ok (.istore 4, 2) := by decide +kernel
theorem dX9_waiting_34 : decode cX9_waiting 34 = .ok (.aload_n 0, 1) := by decide +kernel
theorem dX9_waiting_35 : decode cX9_waiting 35 = .ok (.iload 4, 2) := by decide +kernel
theorem dX9_waiting_37 : decode cX9_waiting 37 = .ok (.iconst (-1), 1) := by decide +kernel
theorem dX9_waiting_38 : decode cX9_waiting 38 = .ok (.if_icmp .ne 7, 3) := by decide +kernel
theorem dX9_waiting_41 : decode cX9_waiting 41 = .ok (.iconst 2, 1) := by decide +kernel
theorem dX9_waiting_42 : decode cX9_waiting 42 = .ok (.goto 4, 3) := by decide +kernel
theorem dX9_waiting_45 : decode cX9_waiting 45 = .ok (.iconst 0, 1) := by decide +kernel
theorem dX9_waiting_46 : decode cX9_waiting 46 = .ok (.putfield 24, 3) := by decide +kernel
theorem dX9_waiting_49 : decode cX9_waiting 49 = .ok (.aload_n 0, 1) := by decide +kernel
theorem dX9_waiting_50 : decode cX9_waiting 50 = .ok (.getfield 24, 3) := by decide +kernel
theorem dX9_waiting_53 : decode cX9_waiting 53 = .ok (.ifCond .eq 7, 3) := by decide +kernel
theorem dX9_waiting_56 : decode cX9_waiting 56 = .ok (.iconst 0, 1) := by decide +kernel
theorem dX9_waiting_57 : decode cX9_waiting 57 = .ok (.goto 18, 3) := by decide +kernel
theorem dX9_waiting_60 : decode cX9_waiting 60 = .ok (.aload_n 0, 1) := by decide +kernel
theorem dX9_waiting_61 : decode cX9_waiting 61 = .ok (.iload 4, 2) := by decide +kernel
theorem dX9_waiting_63 : decode cX9_waiting 63 = .ok (.iload_n 3, 1) := by decide +kernel
theorem dX9_waiting_64 : decode cX9_waiting 64 = .ok (.ifCond .eq 7, 3) := by decide +kernel
theorem dX9_waiting_67 : decode cX9_waiting 67 = .ok (.iconst 2, 1) := by decide +kernel
theorem dX9_waiting_68 : decode cX9_waiting 68 = .ok (.goto 4, 3) := by decide +kernel
theorem dX9_waiting_71 : decode cX9_waiting 71 = .ok (.iconst 1, 1) := by decide +kernel
theorem dX9_waiting_72 : decode cX9_waiting 72 = .ok (.invokevirtual 103, 3) := by decide +kernel
theorem dX9_waiting_75 : decode cX9_waiting 75 = .ok (.ireturn, 1) := by decide +kernel
theorem dX9_seatsOf_0 : decode cX9_seatsOf 0 = .ok (.iload_n 2, 1) := by decide +kernel
theorem dX9_seatsOf_1 : decode cX9_seatsOf 1 = .ok (.ifCond .ne 12, 3) := by decide +kernel
theorem dX9_seatsOf_4 : decode cX9_seatsOf 4 = .ok (.aload_n 0, 1) := by decide +kernel
theorem dX9_seatsOf_5 : decode cX9_seatsOf 5 = .ok (.iload_n 1, 1) := by decide +kernel
theorem dX9_seatsOf_6 : decode cX9_seatsOf 6 = .ok (.iconst 3, 1) := by decide +kernel
theorem dX9_seatsOf_7 : decode cX9_seatsOf 7 = .ok (.invokevirtual 50, 3) := by decide +kernel
theorem dX9_seatsOf_10 : decode cX9_seatsOf 10 = .ok (.goto 21, 3) := by decide +kernel
theorem dX9_seatsOf_13 : decode cX9_seatsOf 13 = .ok (.iload_n 2, 1) := by decide +kernel
theorem dX9_seatsOf_14 : decode cX9_seatsOf 14 = .ok (.iconst 1, 1) := by decide +kernel
theorem dX9_seatsOf_15 : decode cX9_seatsOf 15 = .ok (.if_icmp .ne 11, 3) := by decide +kernel
theorem dX9_seatsOf_18 : decode cX9_seatsOf 18 = .ok (.aload_n 0, 1) := by decide +kernel
theorem dX9_seatsOf_19 : decode cX9_seatsOf 19 = .ok (.iload_n 1, 1) := by decide +kernel
theorem dX9_seatsOf_20 : decode cX9_seatsOf 20 = .ok (.invokevirtual 100, 3) := by decide +kernel
theorem dX9_seatsOf_23 : decode cX9_seatsOf 23 = .ok (.goto 8, 3) := by decide +kernel
theorem dX9_seatsOf_26 : decode cX9_seatsOf 26 = .ok (.aload_n 0, 1) := by decide +kernel
theorem dX9_seatsOf_27 : decode cX9_seatsOf 27 = .ok (.iload_n 1, 1) := by decide +kernel
theorem dX9_seatsOf_28 : decode cX9_seatsOf 28 = .ok (.invokevirtual 109, 3) := by decide +kernel
theorem dX9_seatsOf_31 : decode cX9_seatsOf 31 = .ok (.ireturn, 1) := by decide +kernel
theorem dX9_seats_0 : decode cX9_seats 0 = .ok (.aload_n 0, 1) := by decide +kernel
theorem dX9_seats_1 : decode cX9_seats 1 = .ok (.iload_n 1, 1) := by decide +kernel
theorem dX9_seats_2 : decode cX9_seats 2 = .ok (.invokestatic 152, 3) := by decide +kernel
theorem dX9_seats_5 : decode cX9_seats 5 = .ok (.ifCond .eq 16, 3) := by decide +kernel
theorem dX9_seats_8 : decode cX9_seats 8 = .ok (.iload_n 2, 1) := by decide +kernel
theorem dX9_seats_9 : decode cX9_seats 9 = .ok (.iconst 0, 1) := by decide +kernel
theorem dX9_seats_10 : decode cX9_seats 10 = .ok (.iconst 2, 1) := by decide +kernel
theorem dX9_seats_11 : decode cX9_seats 11 = .ok (.invokestatic 46, 3) := by decide +kernel
theorem dX9_seats_14 : decode cX9_seats 14 = .ok (.ifCond .eq 7, 3) := by decide +kernel
theorem dX9_seats_17 : decode cX9_seats 17 = .ok (.iconst 0, 1) := by decide +kernel
theorem dX9_seats_18 : decode cX9_seats 18 = .ok (.goto 4, 3) := by decide +kernel
theorem dX9_seats_21 : decode cX9_seats 21 = .ok (.iconst 1, 1) := by decide +kernel
theorem dX9_seats_22 : decode cX9_seats 22 = .ok (.putfield 24, 3) := by decide +kernel
theorem dX9_seats_25 : decode cX9_seats 25 = .ok (.aload_n 0, 1) := by decide +kernel
theorem dX9_seats_26 : decode cX9_seats 26 = .ok (.getfield 24, 3) := by decide +kernel
theorem dX9_seats_29 : decode cX9_seats 29 = .ok (.ifCond .eq 5, 3) := by decide +kernel
theorem dX9_seats_32 : decode cX9_seats 32 = .ok (.iconst 0, 1) := by decide +kernel
theorem dX9_seats_33 : decode cX9_seats 33 = .ok (.ireturn, 1) := by decide +kernel
theorem dX9_seats_34 : decode cX9_seats 34 = .ok (.iconst 0, 1) := by decide +kernel
theorem dX9_seats_35 : decode cX9_seats 35 = .ok (.istore_n 3, 1) := by decide +kernel
theorem dX9_seats_36 : decode cX9_seats 36 = .ok (.iconst 0, 1) := by decide +kernel
theorem dX9_seats_37 : decode cX9_seats 37 = .ok (.istore 4, 2) := by decide +kernel
theorem dX9_seats_39 : decode cX9_seats 39 = .ok (.iload 4, 2) := by decide +kernel
theorem dX9_seats_41 : decode cX9_seats 41 = .ok (.aload_n 0, 1) := by decide +kernel
theorem dX9_seats_42 : decode cX9_seats 42 = .ok (.getfield 9, 3) := by decide +kernel
theorem dX9_seats_45 : decode cX9_seats 45 = .ok (.bipush 38, 2) := by decide +kernel
theorem dX9_seats_47 : decode cX9_seats 47 = .ok (.iaload, 1) := by decide +kernel
theorem dX9_seats_48 : decode cX9_seats 48 = .ok (.if_icmp .ge 34, 3) := by decide +kernel
theorem dX9_seats_51 : decode cX9_seats 51 = .ok (.iload_n 3, 1) := by decide +kernel
theorem dX9_seats_52 : decode cX9_seats 52 = .ok (.aload_n 0, 1) := by decide +kernel
theorem dX9_seats_53 : decode cX9_seats 53 = .ok (.iload 4, 2) := by decide +kernel
theorem dX9_seats_55 : decode cX9_seats 55 = .ok (.iconst 2, 1) := by decide +kernel
theorem dX9_seats_56 : decode cX9_seats 56 = .ok (.invokevirtual 50, 3) := by decide +kernel
theorem dX9_seats_59 : decode cX9_seats 59 = .ok (.iload_n 1, 1) := by decide +kernel
theorem dX9_seats_60 : decode cX9_seats 60 = .ok (.if_icmp .ne 13, 3) := by decide +kernel
theorem dX9_seats_63 : decode cX9_seats 63 = .ok (.aload_n 0, 1) := by decide +kernel
theorem dX9_seats_64 : decode cX9_seats 64 = .ok (.iload 4, 2) := by decide +kernel
theorem dX9_seats_66 : decode cX9_seats 66 = .ok (.iload_n 2, 1) := by decide +kernel
theorem dX9_seats_67 : decode cX9_seats 67 = .ok (.invokevirtual 197, 3) := by decide +kernel
theorem dX9_seats_70 : decode cX9_seats 70 = .ok (.goto 4, 3) := by decide +kernel
theorem dX9_seats_73 : decode cX9_seats 73 = .ok (.iconst 0, 1) := by decide +kernel
theorem dX9_seats_74 : decode cX9_seats 74 = .ok (.iadd, 1) := by decide +kernel
theorem dX9_seats_75 : decode cX9_seats 75 = .ok (.istore_n 3, 1) := by decide +kernel
theorem dX9_seats_76 : decode cX9_seats 76 = .ok (.iinc 4 1, 3) := by decide +kernel
theorem dX9_seats_79 : decode cX9_seats 79 = .ok (.goto (-40), 3) := by decide +kernel
theorem dX9_seats_82 : decode cX9_seats 82 = .ok (.iload_n 3, 1) := by decide +kernel
theorem dX9_seats_83 : decode cX9_seats 83 = .ok (.ireturn, 1) := by decide +kernel
theorem dX9_seatsAgain_0 : decode cX9_seatsAgain 0 = .ok (.aload_n 0, 1) := by decide +kernel
theorem dX9_seatsAgain_1 : decode cX9_seatsAgain 1 = .ok (.iload_n 1, 1) := by decide +kernel
theorem dX9_seatsAgain_2 : decode cX9_seatsAgain 2 = .ok (.iload_n 2, 1) := by decide +kernel
theorem dX9_seatsAgain_3 : decode cX9_seatsAgain 3 = .ok (.invokevirtual 200, 3) := by decide +kernel
theorem dX9_seatsAgain_6 : decode cX9_seatsAgain 6 = .ok (.ireturn, 1) := by decide +kernel
theorem dX9_subscribes_0 : decode cX9_subscribes 0 = .ok (.iload_n 1, 1) := by decide +kernel
theorem dX9_subscribes_1 : decode cX9_subscribes 1 = .ok (.iconst 1, 1) := by decide +kernel
theorem dX9_subscribes_2 : decode cX9_subscribes 2 = .ok (.bipush 6, 2) := by decide +kernel
theorem dX9_subscribes_4 : decode cX9_subscribes 4 = .ok (.invokestatic 46, 3) := by decide +kernel
theorem dX9_subscribes_7 : decode cX9_subscribes 7 = .ok (.ifCond .ne 5, 3) := by decide +kernel
theorem dX9_subscribes_10 : decode cX9_subscribes 10 = .ok (.iconst 2, 1) := by decide +kernel
theorem dX9_subscribes_11 : decode cX9_subscribes 11 = .ok (.ireturn, 1) := by decide +kernel
theorem dX9_subscribes_12 : decode cX9_subscribes 12 = .ok (.aload_n 0, 1) := by decide +kernel
theorem dX9_subscribes_13 : decode cX9_subscribes 13 = .ok (.getfield 9, 3) := by decide +kernel
theorem dX9_subscribes_16 : decode cX9_subscribes 16 = .ok (.sipush 159, 3) := by decide +kernel
theorem dX9_subscribes_19 : decode cX9_subscribes 19 = .ok (.iaload, 1) := by decide +kernel
theorem dX9_subscribes_20 : decode cX9_subscribes 20 = .ok (.istore_n 2, 1) := by decide +kernel
theorem dX9_subscribes_21 : decode cX9_subscribes 21 = .ok (.iload_n 2, 1) := by decide +kernel
theorem dX9_subscribes_22 : decode cX9_subscribes 22 = .ok (.bipush 10, 2) := by decide +kernel
theorem dX9_subscribes_24 : decode cX9_subscribes 24 = .ok (.if_icmp .ne 5, 3) := by decide +kernel
theorem dX9_subscribes_27 : decode cX9_subscribes 27 = .ok (.iconst 3, 1) := by decide +kernel
theorem dX9_subscribes_28 : decode cX9_subscribes 28 = .ok (.ireturn, 1) := by decide +kernel
theorem dX9_subscribes_29 : decode cX9_subscribes 29 = .ok (.aload_n 0, 1) := by decide +kernel
theorem dX9_subscribes_30 : decode cX9_subscribes 30 = .ok (.getfield 9, 3) := by decide +kernel
theorem dX9_subscribes_33 : decode cX9_subscribes 33 = .ok (.sipush 160, 3) := by decide +kernel
theorem dX9_subscribes_36 : decode cX9_subscribes 36 = .ok (.iconst 2, 1) := by decide +kernel
theorem dX9_subscribes_37 : decode cX9_subscribes 37 = .ok (.iload_n 2, 1) := by decide +kernel
theorem dX9_subscribes_38 : decode cX9_subscribes 38 = .ok (.imul, 1) := by decide +kernel
theorem dX9_subscribes_39 : decode cX9_subscribes 39 = .ok (.iadd, 1) := by decide +kernel
theorem dX9_subscribes_40 : decode cX9_subscribes 40 = .ok (.iconst 0, 1) := by decide +kernel
theorem dX9_subscribes_41 : decode cX9_subscribes 41 = .ok (.iadd, 1) := by decide +kernel
theorem dX9_subscribes_42 : decode cX9_subscribes 42 = .ok (.iload_n 1, 1) := by decide +kernel
theorem dX9_subscribes_43 : decode cX9_subscribes 43 = .ok (.iastore, 1) := by decide +kernel
theorem dX9_subscribes_44 : decode cX9_subscribes 44 = .ok (.aload_n 0, 1) := by decide +kernel
theorem dX9_subscribes_45 : decode cX9_subscribes 45 = .ok (.getfield 9, 3) := by decide +kernel
theorem dX9_subscribes_48 : decode cX9_subscribes 48 = .ok (.sipush 160, 3) := by decide +kernel
theorem dX9_subscribes_51 : decode cX9_subscribes 51 = .ok (.iconst 2, 1) := by decide +kernel
theorem dX9_subscribes_52 : decode cX9_subscribes 52 = .ok (.iload_n 2, 1) := by decide +kernel
theorem dX9_subscribes_53 : decode cX9_subscribes 53 = .ok (.imul, 1) := by decide +kernel
theorem dX9_subscribes_54 : decode cX9_subscribes 54 = .ok (.iadd, 1) := by decide +kernel
theorem dX9_subscribes_55 : decode cX9_subscribes 55 = .ok (.iconst 1, 1) := by decide +kernel
theorem dX9_subscribes_56 : decode cX9_subscribes 56 = .ok (.iadd, 1) := by decide +kernel
theorem dX9_subscribes_57 : decode cX9_subscribes 57 = .ok (.iconst 0, 1) := by decide +kernel
theorem dX9_subscribes_58 : decode cX9_subscribes 58 = .ok (.iastore, 1) := by decide +kernel
theorem dX9_subscribes_59 : decode cX9_subscribes 59 = .ok (.aload_n 0, 1) := by decide +kernel
theorem dX9_subscribes_60 : decode cX9_subscribes 60 = .ok (.getfield 9, 3) := by decide +kernel
theorem dX9_subscribes_63 : decode cX9_subscribes 63 = .ok (.sipush 159, 3) := by decide +kernel
theorem dX9_subscribes_66 : decode cX9_subscribes 66 = .ok (.dup2, 1) := by decide +kernel
theorem dX9_subscribes_67 : decode cX9_subscribes 67 = .ok (.iaload, 1) := by decide +kernel
theorem dX9_subscribes_68 : decode cX9_subscribes 68 = .ok (.iconst 1, 1) := by decide +kernel
theorem dX9_subscribes_69 : decode cX9_subscribes 69 = .ok (.iadd, 1) := by decide +kernel
theorem dX9_subscribes_70 : decode cX9_subscribes 70 = .ok (.iastore, 1) := by decide +kernel
theorem dX9_subscribes_71 : decode cX9_subscribes 71 = .ok (.aload_n 0, 1) := by decide +kernel
theorem dX9_subscribes_72 : decode cX9_subscribes 72 = .ok (.iload_n 2, 1) := by decide +kernel
theorem dX9_subscribes_73 : decode cX9_subscribes 73 = .ok (.putfield 43, 3) := by decide +kernel
theorem dX9_subscribes_76 : decode cX9_subscribes 76 = .ok (.iconst 0, 1) := by decide +kernel
theorem dX9_subscribes_77 : decode cX9_subscribes 77 = .ok (.ireturn, 1) := by decide +kernel
theorem dX9_subscribe_0 : decode cX9_subscribe 0 = .ok (.aload_n 0, 1) := by decide +kernel
theorem dX9_subscribe_1 : decode cX9_subscribe 1 = .ok (.invokevirtual 123, 3) := by decide +kernel
theorem dX9_subscribe_4 : decode cX9_subscribe 4 = .ok (.aload_n 0, 1) := by decide +kernel
theorem dX9_subscribe_5 : decode cX9_subscribe 5 = .ok (.aload_n 0, 1) := by decide +kernel
theorem dX9_subscribe_6 : decode cX9_subscribe 6 = .ok (.iload_n 1, 1) := by decide +kernel
theorem dX9_subscribe_7 : decode cX9_subscribe 7 = .ok (.invokevirtual 203, 3) := by decide +kernel
theorem dX9_subscribe_10 : decode cX9_subscribe 10 = .ok (.iconst 1, 1) := by decide +kernel
theorem dX9_subscribe_11 : decode cX9_subscribe 11 = .ok (.iconst 2, 1) := by decide +kernel
theorem dX9_subscribe_12 : decode cX9_subscribe 12 = .ok (.iconst 0, 1) := by decide +kernel
theorem dX9_subscribe_13 : decode cX9_subscribe 13 = .ok (.invokevirtual 129, 3) := by decide +kernel
theorem dX9_subscribe_16 : decode cX9_subscribe 16 = .ok (.ireturn, 1) := by decide +kernel
theorem dX9_holdsAt_0 : decode cX9_holdsAt 0 = .ok (.iconst 0, 1) := by decide +kernel
theorem dX9_holdsAt_1 : decode cX9_holdsAt 1 = .ok (.istore_n 2, 1) := by decide +kernel
theorem dX9_holdsAt_2 : decode cX9_holdsAt 2 = .ok (.iconst 0, 1) := by decide +kernel
theorem dX9_holdsAt_3 : decode cX9_holdsAt 3 = .ok (.istore_n 3, 1) := by decide +kernel
theorem dX9_holdsAt_4 : decode cX9_holdsAt 4 = .ok (.iload_n 3, 1) := by decide +kernel
theorem dX9_holdsAt_5 : decode cX9_holdsAt 5 = .ok (.aload_n 0, 1) := by decide +kernel
theorem dX9_holdsAt_6 : decode cX9_holdsAt 6 = .ok (.getfield 9, 3) := by decide +kernel
theorem dX9_holdsAt_9 : decode cX9_holdsAt 9 = .ok (.bipush 38, 2) := by decide +kernel
theorem dX9_holdsAt_11 : decode cX9_holdsAt 11 = .ok (.iaload, 1) := by decide +kernel
theorem dX9_holdsAt_12 : decode cX9_holdsAt 12 = .ok (.if_icmp .ge 26, 3) := by decide +kernel
theorem dX9_holdsAt_15 : decode cX9_holdsAt 15 = .ok (.iload_n 2, 1) := by decide +kernel
theorem dX9_holdsAt_16 : decode cX9_holdsAt 16 = .ok (.aload_n 0, 1) := by decide +kernel
theorem dX9_holdsAt_17 : decode cX9_holdsAt 17 = .ok (.iload_n 1, 1) := by decide +kernel
theorem dX9_holdsAt_18 : decode cX9_holdsAt 18 = .ok (.iload_n 3, 1) := by decide +kernel
theorem dX9_holdsAt_19 : decode cX9_holdsAt 19 = .ok (.invokevirtual 94, 3) := by decide +kernel
theorem dX9_holdsAt_22 : decode cX9_holdsAt 22 = .ok (.ifCond .eq 7, 3) := by decide +kernel
theorem dX9_holdsAt_25 : decode cX9_holdsAt 25 = .ok (.iconst 1, 1) := by decide +kernel
theorem dX9_holdsAt_26 : decode cX9_holdsAt 26 = .ok (.goto 4, 3) := by decide +kernel
theorem dX9_holdsAt_29 : decode cX9_holdsAt 29 = .ok (.iconst 0, 1) := by decide +kernel
theorem dX9_holdsAt_30 : decode cX9_holdsAt 30 = .ok (.iadd, 1) := by decide +kernel
theorem dX9_holdsAt_31 : decode cX9_holdsAt 31 = .ok (.istore_n 2, 1) := by decide +kernel
theorem dX9_holdsAt_32 : decode cX9_holdsAt 32 = .ok (.iinc 3 1, 3) := by decide +kernel
theorem dX9_holdsAt_35 : decode cX9_holdsAt 35 = .ok (.goto (-31), 3) := by decide +kernel
theorem dX9_holdsAt_38 : decode cX9_holdsAt 38 = .ok (.iload_n 2, 1) := by decide +kernel
theorem dX9_holdsAt_39 : decode cX9_holdsAt 39 = .ok (.ireturn, 1) := by decide +kernel
theorem dX9_takes_0 : decode cX9_takes 0 = .ok (.aload_n 0, 1) := by decide +kernel
theorem dX9_takes_1 : decode cX9_takes 1 = .ok (.iload_n 1, 1) := by decide +kernel
theorem dX9_takes_2 : decode cX9_takes 2 = .ok (.invokevirtual 206, 3) := by decide +kernel
theorem dX9_takes_5 : decode cX9_takes 5 = .ok (.ifCond .eq 11, 3) := by decide +kernel
theorem dX9_takes_8 : decode cX9_takes 8 = .ok (.aload_n 0, 1) := by decide +kernel
theorem dX9_takes_9 : decode cX9_takes 9 = .ok (.iload_n 2, 1) := by decide +kernel
theorem dX9_takes_10 : decode cX9_takes 10 = .ok (.invokevirtual 166, 3) := by decide +kernel
theorem dX9_takes_13 : decode cX9_takes 13 = .ok (.ifCond .ne 5, 3) := by decide +kernel
theorem dX9_takes_16 : decode cX9_takes 16 = .ok (.iconst 1, 1) := by decide +kernel
theorem dX9_takes_17 : decode cX9_takes 17 = .ok (.ireturn, 1) := by decide +kernel
theorem dX9_takes_18 : decode cX9_takes 18 = .ok (.aload_n 0, 1) := by decide +kernel
theorem dX9_takes_19 : decode cX9_takes 19 = .ok (.iload_n 2, 1) := by decide +kernel
theorem dX9_takes_20 : decode cX9_takes 20 = .ok (.invokevirtual 109, 3) := by decide +kernel
theorem dX9_takes_23 : decode cX9_takes 23 = .ok (.istore_n 3, 1) := by decide +kernel
theorem dX9_takes_24 : decode cX9_takes 24 = .ok (.aload_n 0, 1) := by decide +kernel
theorem dX9_takes_25 : decode cX9_takes 25 = .ok (.iload_n 3, 1) := by decide +kernel
theorem dX9_takes_26 : decode cX9_takes 26 = .ok (.aload_n 0, 1) := by decide +kernel
theorem dX9_takes_27 : decode cX9_takes 27 = .ok (.iload_n 1, 1) := by decide +kernel
theorem dX9_takes_28 : decode cX9_takes 28 = .ok (.iconst 0, 1) := by decide +kernel
theorem dX9_takes_29 : decode cX9_takes 29 = .ok (.invokevirtual 97, 3) := by decide +kernel
theorem dX9_takes_32 : decode cX9_takes 32 = .ok (.if_icmp .ge 7, 3) := by decide +kernel
theorem dX9_takes_35 : decode cX9_takes 35 = .ok (.iconst 1, 1) := by decide +kernel
theorem dX9_takes_36 : decode cX9_takes 36 = .ok (.goto 4, 3) := by decide +kernel
theorem dX9_takes_39 : decode cX9_takes 39 = .ok (.iconst 0, 1) := by decide +kernel
theorem dX9_takes_40 : decode cX9_takes 40 = .ok (.iconst 4, 1) := by decide +kernel
theorem dX9_takes_41 : decode cX9_takes 41 = .ok (.iload_n 3, 1) := by decide +kernel
theorem dX9_takes_42 : decode cX9_takes 42 = .ok (.invokevirtual 91, 3) := by decide +kernel
theorem dX9_takes_45 : decode cX9_takes 45 = .ok (.ifCond .ne 18, 3) := by decide +kernel
theorem dX9_takes_48 : decode cX9_takes 48 = .ok (.aload_n 0, 1) := by decide +kernel
theorem dX9_takes_49 : decode cX9_takes 49 = .ok (.aload_n 0, 1) := by decide +kernel
theorem dX9_takes_50 : decode cX9_takes 50 = .ok (.iload_n 1, 1) := by decide +kernel
theorem dX9_takes_51 : decode cX9_takes 51 = .ok (.iload_n 2, 1) := by decide +kernel
theorem dX9_takes_52 : decode cX9_takes 52 = .ok (.invokevirtual 94, 3) := by decide +kernel
theorem dX9_takes_55 : decode cX9_takes 55 = .ok (.iconst 5, 1) := by decide +kernel
theorem dX9_takes_56 : decode cX9_takes 56 = .ok (.iload_n 2, 1) := by decide +kernel
theorem dX9_takes_57 : decode cX9_takes 57 = .ok (.invokevirtual 91, 3) := by decide +kernel
theorem dX9_takes_60 : decode cX9_takes 60 = .ok (.ifCond .eq 5, 3) := by decide +kernel
theorem dX9_takes_63 : decode cX9_takes 63 = .ok (.iconst 4, 1) := by decide +kernel
theorem dX9_takes_64 : decode cX9_takes 64 = .ok (.ireturn, 1) := by decide +kernel
theorem dX9_takes_65 : decode cX9_takes 65 = .ok (.aload_n 0, 1) := by decide +kernel
theorem dX9_takes_66 : decode cX9_takes 66 = .ok (.getfield 9, 3) := by decide +kernel
theorem dX9_takes_69 : decode cX9_takes 69 = .ok (.sipush 135, 3) := by decide +kernel
theorem dX9_takes_72 : decode cX9_takes 72 = .ok (.iload_n 2, 1) := by decide +kernel
theorem dX9_takes_73 : decode cX9_takes 73 = .ok (.iadd, 1) := by decide +kernel
theorem dX9_takes_74 : decode cX9_takes 74 = .ok (.dup2, 1) := by decide +kernel
theorem dX9_takes_75 : decode cX9_takes 75 = .ok (.iaload, 1) := by decide +kernel
theorem dX9_takes_76 : decode cX9_takes 76 = .ok (.iconst 1, 1) := by decide +kernel
theorem dX9_takes_77 : decode cX9_takes 77 = .ok (.iload_n 1, 1) := by decide +kernel
theorem dX9_takes_78 : decode cX9_takes 78 = .ok (.ishl, 1) := by decide +kernel
theorem dX9_takes_79 : decode cX9_takes 79 = .ok (.ior, 1) := by decide +kernel
theorem dX9_takes_80 : decode cX9_takes 80 = .ok (.iastore, 1) := by decide +kernel
theorem dX9_takes_81 : decode cX9_takes 81 = .ok (.aload_n 0, 1) := by decide +kernel
theorem dX9_takes_82 : decode cX9_takes 82 = .ok (.aload_n 0, 1) := by decide +kernel
theorem dX9_takes_83 : decode cX9_takes 83 = .ok (.iload_n 1, 1) := by decide +kernel
theorem dX9_takes_84 : decode cX9_takes 84 = .ok (.invokevirtual 209, 3) := by decide +kernel
theorem dX9_takes_87 : decode cX9_takes 87 = .ok (.putfield 43, 3) := by decide +kernel
theorem dX9_takes_90 : decode cX9_takes 90 = .ok (.iconst 0, 1) := by decide +kernel
theorem dX9_takes_91 : decode cX9_takes 91 = .ok (.ireturn, 1) := by decide +kernel
theorem dX9_hold_0 : decode cX9_hold 0 = .ok (.aload_n 0, 1) := by decide +kernel
theorem dX9_hold_1 : decode cX9_hold 1 = .ok (.invokevirtual 123, 3) := by decide +kernel
theorem dX9_hold_4 : decode cX9_hold 4 = .ok (.aload_n 0, 1) := by decide +kernel
theorem dX9_hold_5 : decode cX9_hold 5 = .ok (.aload_n 0, 1) := by decide +kernel
theorem dX9_hold_6 : decode cX9_hold 6 = .ok (.iload_n 1, 1) := by decide +kernel
theorem dX9_hold_7 : decode cX9_hold 7 = .ok (.iload_n 2, 1) := by decide +kernel
theorem dX9_hold_8 : decode cX9_hold 8 = .ok (.invokevirtual 212, 3) := by decide +kernel
theorem dX9_hold_11 : decode cX9_hold 11 = .ok (.iconst 0, 1) := by decide +kernel
theorem dX9_hold_12 : decode cX9_hold 12 = .ok (.iconst 0, 1) := by decide +kernel
theorem dX9_hold_13 : decode cX9_hold 13 = .ok (.iconst 2, 1) := by decide +kernel
theorem dX9_hold_14 : decode cX9_hold 14 = .ok (.invokevirtual 129, 3) := by decide +kernel
theorem dX9_hold_17 : decode cX9_hold 17 = .ok (.ireturn, 1) := by decide +kernel
theorem dX9_releases_0 : decode cX9_releases 0 = .ok (.aload_n 0, 1) := by decide +kernel
theorem dX9_releases_1 : decode cX9_releases 1 = .ok (.iload_n 1, 1) := by decide +kernel
theorem dX9_releases_2 : decode cX9_releases 2 = .ok (.invokevirtual 206, 3) := by decide +kernel
theorem dX9_releases_5 : decode cX9_releases 5 = .ok (.ifCond .eq 11, 3) := by decide +kernel
theorem dX9_releases_8 : decode cX9_releases 8 = .ok (.aload_n 0, 1) := by decide +kernel
theorem dX9_releases_9 : decode cX9_releases 9 = .ok (.iload_n 2, 1) := by decide +kernel
theorem dX9_releases_10 : decode cX9_releases 10 = .ok (.invokevirtual 166, 3) := by decide +kernel
theorem dX9_releases_13 : decode cX9_releases 13 = .ok (.ifCond .ne 5, 3) := by decide +kernel
theorem dX9_releases_16 : decode cX9_releases 16 = .ok (.iconst 1, 1) := by decide +kernel
theorem dX9_releases_17 : decode cX9_releases 17 = .ok (.ireturn, 1) := by decide +kernel
theorem dX9_releases_18 : decode cX9_releases 18 = .ok (.aload_n 0, 1) := by decide +kernel
theorem dX9_releases_19 : decode cX9_releases 19 = .ok (.aload_n 0, 1) := by decide +kernel
theorem dX9_releases_20 : decode cX9_releases 20 = .ok (.iload_n 1, 1) := by decide +kernel
theorem dX9_releases_21 : decode cX9_releases 21 = .ok (.iload_n 2, 1) := by decide +kernel
theorem dX9_releases_22 : decode cX9_releases 22 = .ok (.invokevirtual 94, 3) := by decide +kernel
theorem dX9_releases_25 : decode cX9_releases 25 = .ok (.ifCond .ne 7, 3) := by decide +kernel
theorem dX9_releases_28 : decode cX9_releases 28 = .ok (.iconst 1, 1) := by decide +kernel
theorem dX9_releases_29 : decode cX9_releases 29 = .ok (.goto 4, 3) := by decide +kernel
theorem dX9_releases_32 : decode cX9_releases 32 = .ok (.iconst 0, 1) := by decide +kernel
theorem dX9_releases_33 : decode cX9_releases 33 = .ok (.iconst 5, 1) := by decide +kernel
theorem dX9_releases_34 : decode cX9_releases 34 = .ok (.iload_n 2, 1) := by decide +kernel
theorem dX9_releases_35 : decode cX9_releases 35 = .ok (.invokevirtual 91, 3) := by decide +kernel
theorem dX9_releases_38 : decode cX9_releases 38 = .ok (.ifCond .eq 5, 3) := by decide +kernel
theorem dX9_releases_41 : decode cX9_releases 41 = .ok (.iconst 4, 1) := by decide +kernel
theorem dX9_releases_42 : decode cX9_releases 42 = .ok (.ireturn, 1) := by decide +kernel
theorem dX9_releases_43 : decode cX9_releases 43 = .ok (.aload_n 0, 1) := by decide +kernel
theorem dX9_releases_44 : decode cX9_releases 44 = .ok (.getfield 9, 3) := by decide +kernel
theorem dX9_releases_47 : decode cX9_releases 47 = .ok (.sipush 135, 3) := by decide +kernel
theorem dX9_releases_50 : decode cX9_releases 50 = .ok (.iload_n 2, 1) := by decide +kernel
theorem dX9_releases_51 : decode cX9_releases 51 = .ok (.iadd, 1) := by decide +kernel
theorem dX9_releases_52 : decode cX9_releases 52 = .ok (.dup2, 1) := by decide +kernel
theorem dX9_releases_53 : decode cX9_releases 53 = .ok (.iaload, 1) := by decide +kernel
theorem dX9_releases_54 : decode cX9_releases 54 = .ok (.iconst 1, 1) := by decide +kernel
theorem dX9_releases_55 : decode cX9_releases 55 = .ok (.iload_n 1, 1) := by decide +kernel
theorem dX9_releases_56 : decode cX9_releases 56 = .ok (.ishl, 1) := by decide +kernel
theorem dX9_releases_57 : decode cX9_releases 57 = .ok (.iconst (-1), 1) := by decide +kernel
theorem dX9_releases_58 : decode cX9_releases 58 = .ok (.ixor, 1) := by decide +kernel
theorem dX9_releases_59 : decode cX9_releases 59 = .ok (.iand, 1) := by decide +kernel
theorem dX9_releases_60 : decode cX9_releases 60 = .ok (.iastore, 1) := by decide +kernel
theorem dX9_releases_61 : decode cX9_releases 61 = .ok (.aload_n 0, 1) := by decide +kernel
theorem dX9_releases_62 : decode cX9_releases 62 = .ok (.iload_n 2, 1) := by decide +kernel
theorem dX9_releases_63 : decode cX9_releases 63 = .ok (.invokevirtual 120, 3) := by decide +kernel
theorem dX9_releases_66 : decode cX9_releases 66 = .ok (.aload_n 0, 1) := by decide +kernel
theorem dX9_releases_67 : decode cX9_releases 67 = .ok (.aload_n 0, 1) := by decide +kernel
theorem dX9_releases_68 : decode cX9_releases 68 = .ok (.iload_n 1, 1) := by decide +kernel
theorem dX9_releases_69 : decode cX9_releases 69 = .ok (.invokevirtual 209, 3) := by decide +kernel
theorem dX9_releases_72 : decode cX9_releases 72 = .ok (.putfield 43, 3) := by decide +kernel
theorem dX9_releases_75 : decode cX9_releases 75 = .ok (.iconst 0, 1) := by decide +kernel
theorem dX9_releases_76 : decode cX9_releases 76 = .ok (.ireturn, 1) := by decide +kernel
theorem dX9_release_0 : decode cX9_release 0 = .ok (.aload_n 0, 1) := by decide +kernel
theorem dX9_release_1 : decode cX9_release 1 = .ok (.invokevirtual 123, 3) := by decide +kernel
theorem dX9_release_4 : decode cX9_release 4 = .ok (.aload_n 0, 1) := by decide +kernel
theorem dX9_release_5 : decode cX9_release 5 = .ok (.aload_n 0, 1) := by decide +kernel
theorem dX9_release_6 : decode cX9_release 6 = .ok (.iload_n 1, 1) := by decide +kernel
theorem dX9_release_7 : decode cX9_release 7 = .ok (.iload_n 2, 1) := by decide +kernel
theorem dX9_release_8 : decode cX9_release 8 = .ok (.invokevirtual 215, 3) := by decide +kernel
theorem dX9_release_11 : decode cX9_release 11 = .ok (.iconst 0, 1) := by decide +kernel
theorem dX9_release_12 : decode cX9_release 12 = .ok (.iconst 0, 1) := by decide +kernel
theorem dX9_release_13 : decode cX9_release 13 = .ok (.iconst 2, 1) := by decide +kernel
theorem dX9_release_14 : decode cX9_release 14 = .ok (.invokevirtual 129, 3) := by decide +kernel
theorem dX9_release_17 : decode cX9_release 17 = .ok (.ireturn, 1) := by decide +kernel
theorem dX9_exchanges_0 : decode cX9_exchanges 0 = .ok (.aload_n 0, 1) := by decide +kernel
theorem dX9_exchanges_1 : decode cX9_exchanges 1 = .ok (.iload_n 1, 1) := by decide +kernel
theorem dX9_exchanges_2 : decode cX9_exchanges 2 = .ok (.invokevirtual 206, 3) := by decide +kernel
theorem dX9_exchanges_5 : decode cX9_exchanges 5 = .ok (.ifCond .eq 19, 3) := by decide +kernel
theorem dX9_exchanges_8 : decode cX9_exchanges 8 = .ok (.aload_n 0, 1) := by decide +kernel
theorem dX9_exchanges_9 : decode cX9_exchanges 9 = .ok (.iload_n 2, 1) := by decide +kernel
theorem dX9_exchanges_10 : decode cX9_exchanges 10 = .ok (.invokevirtual 166, 3) := by decide +kernel
theorem dX9_exchanges_13 : decode cX9_exchanges 13 = .ok (.ifCond .eq 11, 3) := by decide +kernel
theorem dX9_exchanges_16 : decode cX9_exchanges 16 = .ok (.aload_n 0, 1) := by decide +kernel
theorem dX9_exchanges_17 : decode cX9_exchanges 17 = .ok (.iload_n 3, 1) := by decide +kernel
theorem dX9_exchanges_18 : decode cX9_exchanges 18 = .ok (.invokevirtual 166, 3) := by decide +kernel
theorem dX9_exchanges_21 : decode cX9_exchanges 21 = .ok (.ifCond .ne 5, 3) := by decide +kernel
theorem dX9_exchanges_24 : decode cX9_exchanges 24 = .ok (.iconst 1, 1) := by decide +kernel
theorem dX9_exchanges_25 : decode cX9_exchanges 25 = .ok (.ireturn, 1) := by decide +kernel
theorem dX9_exchanges_26 : decode cX9_exchanges 26 = .ok (.aload_n 0, 1) := by decide +kernel
theorem dX9_exchanges_27 : decode cX9_exchanges 27 = .ok (.aload_n 0, 1) := by decide +kernel
theorem dX9_exchanges_28 : decode cX9_exchanges 28 = .ok (.iload_n 1, 1) := by decide +kernel
theorem dX9_exchanges_29 : decode cX9_exchanges 29 = .ok (.iload_n 2, 1) := by decide +kernel
theorem dX9_exchanges_30 : decode cX9_exchanges 30 = .ok (.invokevirtual 94, 3) := by decide +kernel
theorem dX9_exchanges_33 : decode cX9_exchanges 33 = .ok (.ifCond .ne 7, 3) := by decide +kernel
theorem dX9_exchanges_36 : decode cX9_exchanges 36 = .ok (.iconst 1, 1) := by decide +kernel
theorem dX9_exchanges_37 : decode cX9_exchanges 37 = .ok (.goto 4, 3) := by decide +kernel
theorem dX9_exchanges_40 : decode cX9_exchanges 40 = .ok (.iconst 0, 1) := by decide +kernel
theorem dX9_exchanges_41 : decode cX9_exchanges 41 = .ok (.iconst 5, 1) := by decide +kernel
theorem dX9_exchanges_42 : decode cX9_exchanges 42 = .ok (.iload_n 2, 1) := by decide +kernel
theorem dX9_exchanges_43 : decode cX9_exchanges 43 = .ok (.invokevirtual 91, 3) := by decide +kernel
theorem dX9_exchanges_46 : decode cX9_exchanges 46 = .ok (.ifCond .ne 18, 3) := by decide +kernel
theorem dX9_exchanges_49 : decode cX9_exchanges 49 = .ok (.aload_n 0, 1) := by decide +kernel
theorem dX9_exchanges_50 : decode cX9_exchanges 50 = .ok (.aload_n 0, 1) := by decide +kernel
theorem dX9_exchanges_51 : decode cX9_exchanges 51 = .ok (.iload_n 1, 1) := by decide +kernel
theorem dX9_exchanges_52 : decode cX9_exchanges 52 = .ok (.iload_n 3, 1) := by decide +kernel
theorem dX9_exchanges_53 : decode cX9_exchanges 53 = .ok (.invokevirtual 94, 3) := by decide +kernel
theorem dX9_exchanges_56 : decode cX9_exchanges 56 = .ok (.iconst 5, 1) := by decide +kernel
theorem dX9_exchanges_57 : decode cX9_exchanges 57 = .ok (.iload_n 3, 1) := by decide +kernel
theorem dX9_exchanges_58 : decode cX9_exchanges 58 = .ok (.invokevirtual 91, 3) := by decide +kernel
theorem dX9_exchanges_61 : decode cX9_exchanges 61 = .ok (.ifCond .eq 5, 3) := by decide +kernel
theorem dX9_exchanges_64 : decode cX9_exchanges 64 = .ok (.iconst 4, 1) := by decide +kernel
theorem dX9_exchanges_65 : decode cX9_exchanges 65 = .ok (.ireturn, 1) := by decide +kernel
theorem dX9_exchanges_66 : decode cX9_exchanges 66 = .ok (.aload_n 0, 1) := by decide +kernel
theorem dX9_exchanges_67 : decode cX9_exchanges 67 = .ok (.aload_n 0, 1) := by decide +kernel
theorem dX9_exchanges_68 : decode cX9_exchanges 68 = .ok (.iload_n 1, 1) := by decide +kernel
theorem dX9_exchanges_69 : decode cX9_exchanges 69 = .ok (.iconst 1, 1) := by decide +kernel
theorem dX9_exchanges_70 : decode cX9_exchanges 70 = .ok (.invokevirtual 97, 3) := by decide +kernel
theorem dX9_exchanges_73 : decode cX9_exchanges 73 = .ok (.iconst 2, 1) := by decide +kernel
theorem dX9_exchanges_74 : decode cX9_exchanges 74 = .ok (.if_icmp .ne 7, 3) := by decide +kernel
theorem dX9_exchanges_77 : decode cX9_exchanges 77 = .ok (.iconst 1, 1) := by decide +kernel
theorem dX9_exchanges_78 : decode cX9_exchanges 78 = .ok (.goto 4, 3) := by decide +kernel
theorem dX9_exchanges_81 : decode cX9_exchanges 81 = .ok (.iconst 0, 1) := by decide +kernel
theorem dX9_exchanges_82 : decode cX9_exchanges 82 = .ok (.bipush 6, 2) := by decide +kernel
theorem dX9_exchanges_84 : decode cX9_exchanges 84 = .ok (.iconst 2, 1) := by decide +kernel
theorem dX9_exchanges_85 : decode cX9_exchanges 85 = .ok (.invokevirtual 91, 3) := by decide +kernel
theorem dX9_exchanges_88 : decode cX9_exchanges 88 = .ok (.ifCond .eq 5, 3) := by decide +kernel
theorem dX9_exchanges_91 : decode cX9_exchanges 91 = .ok (.iconst 4, 1) := by decide +kernel
theorem dX9_exchanges_92 : decode cX9_exchanges 92 = .ok (.ireturn, 1) := by decide +kernel
theorem dX9_exchanges_93 : decode cX9_exchanges 93 = .ok (.aload_n 0, 1) := by decide +kernel
theorem dX9_exchanges_94 : decode cX9_exchanges 94 = .ok (.iload_n 3, 1) := by decide +kernel
theorem dX9_exchanges_95 : decode cX9_exchanges 95 = .ok (.invokevirtual 109, 3) := by decide +kernel
theorem dX9_exchanges_98 : decode cX9_exchanges 98 = .ok (.istore 4, 2) := by decide +kernel
theorem dX9_exchanges_100 : decode cX9_exchanges 100 = .ok (.aload_n 0, 1) := by decide +kernel
theorem dX9_exchanges_101 : decode cX9_exchanges 101 = .ok (.iload 4, 2) := by decide +kernel
theorem dX9_exchanges_103 : decode cX9_exchanges 103 = .ok (.aload_n 0, 1) := by decide +kernel
theorem dX9_exchanges_104 : decode cX9_exchanges 104 = .ok (.iload_n 1, 1) := by decide +kernel
theorem dX9_exchanges_105 : decode cX9_exchanges 105 = .ok (.iconst 0, 1) := by decide +kernel
theorem dX9_exchanges_106 : decode cX9_exchanges 106 = .ok (.invokevirtual 97, 3) := by decide +kernel
theorem dX9_exchanges_109 : decode cX9_exchanges 109 = .ok (.if_icmp .ge 7, 3) := by decide +kernel
theorem dX9_exchanges_112 : decode cX9_exchanges 112 = .ok (.iconst 1, 1) := by decide +kernel
theorem dX9_exchanges_113 : decode cX9_exchanges 113 = .ok (.goto 4, 3) := by decide +kernel
theorem dX9_exchanges_116 : decode cX9_exchanges 116 = .ok (.iconst 0, 1) := by decide +kernel
theorem dX9_exchanges_117 : decode cX9_exchanges 117 = .ok (.iconst 4, 1) := by decide +kernel
theorem dX9_exchanges_118 : decode cX9_exchanges 118 = .ok (.iload 4, 2) := by decide +kernel
theorem dX9_exchanges_120 : decode cX9_exchanges 120 = .ok (.invokevirtual 91, 3) := by decide +kernel
theorem dX9_exchanges_123 : decode cX9_exchanges 123 = .ok (.ifCond .eq 5, 3) := by decide +kernel
theorem dX9_exchanges_126 : decode cX9_exchanges 126 = .ok (.iconst 4, 1) := by decide +kernel
theorem dX9_exchanges_127 : decode cX9_exchanges 127 = .ok (.ireturn, 1) := by decide +kernel
theorem dX9_exchanges_128 : decode cX9_exchanges 128 = .ok (.aload_n 0, 1) := by decide +kernel
theorem dX9_exchanges_129 : decode cX9_exchanges 129 = .ok (.getfield 9, 3) := by decide +kernel
theorem dX9_exchanges_132 : decode cX9_exchanges 132 = .ok (.sipush 135, 3) := by decide +kernel
theorem dX9_exchanges_135 : decode cX9_exchanges 135 = .ok (.iload_n 2, 1) := by decide +kernel
theorem dX9_exchanges_136 : decode cX9_exchanges 136 = .ok (.iadd, 1) := by decide +kernel
theorem dX9_exchanges_137 : decode cX9_exchanges 137 = .ok (.dup2, 1) := by decide +kernel
theorem dX9_exchanges_138 : decode cX9_exchanges 138 = .ok (.iaload, 1) := by decide +kernel
theorem dX9_exchanges_139 : decode cX9_exchanges 139 = .ok (.iconst 1, 1) := by decide +kernel
theorem dX9_exchanges_140 : decode cX9_exchanges 140 = .ok (.iload_n 1, 1) := by decide +kernel
theorem dX9_exchanges_141 : decode cX9_exchanges 141 = .ok (.ishl, 1) := by decide +kernel
theorem dX9_exchanges_142 : decode cX9_exchanges 142 = .ok (.iconst (-1), 1) := by decide +kernel
theorem dX9_exchanges_143 : decode cX9_exchanges 143 = .ok (.ixor, 1) := by decide +kernel
theorem dX9_exchanges_144 : decode cX9_exchanges 144 = .ok (.iand, 1) := by decide +kernel
theorem dX9_exchanges_145 : decode cX9_exchanges 145 = .ok (.iastore, 1) := by decide +kernel
theorem dX9_exchanges_146 : decode cX9_exchanges 146 = .ok (.aload_n 0, 1) := by decide +kernel
theorem dX9_exchanges_147 : decode cX9_exchanges 147 = .ok (.getfield 9, 3) := by decide +kernel
theorem dX9_exchanges_150 : decode cX9_exchanges 150 = .ok (.sipush 135, 3) := by decide +kernel
theorem dX9_exchanges_153 : decode cX9_exchanges 153 = .ok (.iload_n 3, 1) := by decide +kernel
theorem dX9_exchanges_154 : decode cX9_exchanges 154 = .ok (.iadd, 1) := by decide +kernel
theorem dX9_exchanges_155 : decode cX9_exchanges 155 = .ok (.dup2, 1) := by decide +kernel
theorem dX9_exchanges_156 : decode cX9_exchanges 156 = .ok (.iaload, 1) := by decide +kernel
theorem dX9_exchanges_157 : decode cX9_exchanges 157 = .ok (.iconst 1, 1) := by decide +kernel
theorem dX9_exchanges_158 : decode cX9_exchanges 158 = .ok (.iload_n 1, 1) := by decide +kernel
theorem dX9_exchanges_159 : decode cX9_exchanges 159 = .ok (.ishl, 1) := by decide +kernel
theorem dX9_exchanges_160 : decode cX9_exchanges 160 = .ok (.ior, 1) := by decide +kernel
theorem dX9_exchanges_161 : decode cX9_exchanges 161 = .ok (.iastore, 1) := by decide +kernel
theorem dX9_exchanges_162 : decode cX9_exchanges 162 = .ok (.aload_n 0, 1) := by decide +kernel
theorem dX9_exchanges_163 : decode cX9_exchanges 163 = .ok (.getfield 9, 3) := by decide +kernel
theorem dX9_exchanges_166 : decode cX9_exchanges 166 = .ok (.sipush 160, 3) := by decide +kernel
theorem dX9_exchanges_169 : decode cX9_exchanges 169 = .ok (.iconst 2, 1) := by decide +kernel
theorem dX9_exchanges_170 : decode cX9_exchanges 170 = .ok (.iload_n 1, 1) := by decide +kernel
theorem dX9_exchanges_171 : decode cX9_exchanges 171 = .ok (.imul, 1) := by decide +kernel
theorem dX9_exchanges_172 : decode cX9_exchanges 172 = .ok (.iadd, 1) := by decide +kernel
theorem dX9_exchanges_173 : decode cX9_exchanges 173 = .ok (.iconst 1, 1) := by decide +kernel
theorem dX9_exchanges_174 : decode cX9_exchanges 174 = .ok (.iadd, 1) := by decide +kernel
theorem dX9_exchanges_175 : decode cX9_exchanges 175 = .ok (.dup2, 1) := by decide +kernel
theorem dX9_exchanges_176 : decode cX9_exchanges 176 = .ok (.iaload, 1) := by decide +kernel
theorem dX9_exchanges_177 : decode cX9_exchanges 177 = .ok (.iconst 1, 1) := by decide +kernel
theorem dX9_exchanges_178 : decode cX9_exchanges 178 = .ok (.iadd, 1) := by decide +kernel
theorem dX9_exchanges_179 : decode cX9_exchanges 179 = .ok (.iastore, 1) := by decide +kernel
theorem dX9_exchanges_180 : decode cX9_exchanges 180 = .ok (.aload_n 0, 1) := by decide +kernel
theorem dX9_exchanges_181 : decode cX9_exchanges 181 = .ok (.iload_n 2, 1) := by decide +kernel
theorem dX9_exchanges_182 : decode cX9_exchanges 182 = .ok (.invokevirtual 120, 3) := by decide +kernel
theorem dX9_exchanges_185 : decode cX9_exchanges 185 = .ok (.aload_n 0, 1) := by decide +kernel
theorem dX9_exchanges_186 : decode cX9_exchanges 186 = .ok (.aload_n 0, 1) := by decide +kernel
theorem dX9_exchanges_187 : decode cX9_exchanges 187 = .ok (.iload_n 1, 1) := by decide +kernel
theorem dX9_exchanges_188 : decode cX9_exchanges 188 = .ok (.iconst 1, 1) := by decide +kernel
theorem dX9_exchanges_189 : decode cX9_exchanges 189 = .ok (.invokevirtual 97, 3) := by decide +kernel
theorem dX9_exchanges_192 : decode cX9_exchanges 192 = .ok (.putfield 43, 3) := by decide +kernel
theorem dX9_exchanges_195 : decode cX9_exchanges 195 = .ok (.iconst 0, 1) := by decide +kernel
theorem dX9_exchanges_196 : decode cX9_exchanges 196 = .ok (.ireturn, 1) := by decide +kernel
theorem dX9_exchange_0 : decode cX9_exchange 0 = .ok (.aload_n 0, 1) := by decide +kernel
theorem dX9_exchange_1 : decode cX9_exchange 1 = .ok (.invokevirtual 123, 3) := by decide +kernel
theorem dX9_exchange_4 : decode cX9_exchange 4 = .ok (.aload_n 0, 1) := by decide +kernel
theorem dX9_exchange_5 : decode cX9_exchange 5 = .ok (.aload_n 0, 1) := by decide +kernel
theorem dX9_exchange_6 : decode cX9_exchange 6 = .ok (.iload_n 1, 1) := by decide +kernel
theorem dX9_exchange_7 : decode cX9_exchange 7 = .ok (.iload_n 2, 1) := by decide +kernel
theorem dX9_exchange_8 : decode cX9_exchange 8 = .ok (.iload_n 3, 1) := by decide +kernel
theorem dX9_exchange_9 : decode cX9_exchange 9 = .ok (.invokevirtual 218, 3) := by decide +kernel
theorem dX9_exchange_12 : decode cX9_exchange 12 = .ok (.iconst 0, 1) := by decide +kernel
theorem dX9_exchange_13 : decode cX9_exchange 13 = .ok (.iconst 0, 1) := by decide +kernel
theorem dX9_exchange_14 : decode cX9_exchange 14 = .ok (.iconst 2, 1) := by decide +kernel
theorem dX9_exchange_15 : decode cX9_exchange 15 = .ok (.invokevirtual 129, 3) := by decide +kernel
theorem dX9_exchange_18 : decode cX9_exchange 18 = .ok (.ireturn, 1) := by decide +kernel
theorem dX9_subscription_0 : decode cX9_subscription 0 = .ok (.aload_n 0, 1) := by decide +kernel
theorem dX9_subscription_1 : decode cX9_subscription 1 = .ok (.aload_n 0, 1) := by decide +kernel
theorem dX9_subscription_2 : decode cX9_subscription 2 = .ok (.iload_n 1, 1) := by decide +kernel
theorem dX9_subscription_3 : decode cX9_subscription 3 = .ok (.invokevirtual 206, 3) := by decide +kernel
theorem dX9_subscription_6 : decode cX9_subscription 6 = .ok (.ifCond .ne 7, 3) := by decide +kernel
theorem dX9_subscription_9 : decode cX9_subscription 9 = .ok (.iconst 1, 1) := by decide +kernel
theorem dX9_subscription_10 : decode cX9_subscription 10 = .ok (.goto 17, 3) := by decide +kernel
theorem dX9_subscription_13 : decode cX9_subscription 13 = .ok (.iload_n 2, 1) := by decide +kernel
theorem dX9_subscription_14 : decode cX9_subscription 14 = .ok (.iconst 0, 1) := by decide +kernel
theorem dX9_subscription_15 : decode cX9_subscription 15 = .ok (.iconst 3, 1) := by decide +kernel
theorem dX9_subscription_16 : decode cX9_subscription 16 = .ok (.invokestatic 46, 3) := by decide +kernel
theorem dX9_subscription_19 : decode cX9_subscription 19 = .ok (.ifCond .eq 7, 3) := by decide +kernel
theorem dX9_subscription_22 : decode cX9_subscription 22 = .ok (.iconst 0, 1) := by decide +kernel
theorem dX9_subscription_23 : decode cX9_subscription 23 = .ok (.goto 4, 3) := by decide +kernel
theorem dX9_subscription_26 : decode cX9_subscription 26 = .ok (.iconst 2, 1) := by decide +kernel
theorem dX9_subscription_27 : decode cX9_subscription 27 = .ok (.putfield 24, 3) := by decide +kernel
theorem dX9_subscription_30 : decode cX9_subscription 30 = .ok (.aload_n 0, 1) := by decide +kernel
theorem dX9_subscription_31 : decode cX9_subscription 31 = .ok (.getfield 24, 3) := by decide +kernel
theorem dX9_subscription_34 : decode cX9_subscription 34 = .ok (.ifCond .eq 5, 3) := by decide +kernel
theorem dX9_subscription_37 : decode cX9_subscription 37 = .ok (.iconst 0, 1) := by decide +kernel
theorem dX9_subscription_38 : decode cX9_subscription 38 = .ok (.ireturn, 1) := by decide +kernel
theorem dX9_subscription_39 : decode cX9_subscription 39 = .ok (.iload_n 2, 1) := by decide +kernel
theorem dX9_subscription_40 : decode cX9_subscription 40 = .ok (.iconst 1, 1) := by decide +kernel
theorem dX9_subscription_41 : decode cX9_subscription 41 = .ok (.if_icmp .ne 9, 3) := by decide +kernel
theorem dX9_subscription_44 : decode cX9_subscription 44 = .ok (.aload_n 0, 1) := by decide +kernel
theorem dX9_subscription_45 : decode cX9_subscription 45 = .ok (.iload_n 1, 1) := by decide +kernel
theorem dX9_subscription_46 : decode cX9_subscription 46 = .ok (.invokevirtual 209, 3) := by decide +kernel
theorem dX9_subscription_49 : decode cX9_subscription 49 = .ok (.ireturn, 1) := by decide +kernel
theorem dX9_subscription_50 : decode cX9_subscription 50 = .ok (.iload_n 2, 1) := by decide +kernel
theorem dX9_subscription_51 : decode cX9_subscription 51 = .ok (.iconst 3, 1) := by decide +kernel
theorem dX9_subscription_52 : decode cX9_subscription 52 = .ok (.if_icmp .eq 18, 3) := by decide +kernel
theorem dX9_subscription_55 : decode cX9_subscription 55 = .ok (.aload_n 0, 1) := by decide +kernel
theorem dX9_subscription_56 : decode cX9_subscription 56 = .ok (.iload_n 1, 1) := by decide +kernel
theorem dX9_subscription_57 : decode cX9_subscription 57 = .ok (.iload_n 2, 1) := by decide +kernel
theorem dX9_subscription_58 : decode cX9_subscription 58 = .ok (.ifCond .ne 7, 3) := by decide +kernel
theorem dX9_subscription_61 : decode cX9_subscription 61 = .ok (.iconst 0, 1) := by decide +kernel
theorem dX9_subscription_62 : decode cX9_subscription 62 = .ok (.goto 4, 3) := by decide +kernel
theorem dX9_subscription_65 : decode cX9_subscription 65 = .ok (.iconst 1, 1) := by decide +kernel
theorem dX9_subscription_66 : decode cX9_subscription 66 = .ok (.invokevirtual 97, 3) := by decide +kernel
theorem dX9_subscription_69 : decode cX9_subscription 69 = .ok (.ireturn, 1) := by decide +kernel
theorem dX9_subscription_70 : decode cX9_subscription 70 = .ok (.iconst 0, 1) := by decide +kernel
theorem dX9_subscription_71 : decode cX9_subscription 71 = .ok (.istore_n 3, 1) := by decide +kernel
theorem dX9_subscription_72 : decode cX9_subscription 72 = .ok (.iconst 0, 1) := by decide +kernel
theorem dX9_subscription_73 : decode cX9_subscription 73 = .ok (.istore 4, 2) := by decide +kernel
theorem dX9_subscription_75 : decode cX9_subscription 75 = .ok (.iload 4, 2) := by decide +kernel
theorem dX9_subscription_77 : decode cX9_subscription 77 = .ok (.aload_n 0, 1) := by decide +kernel
theorem dX9_subscription_78 : decode cX9_subscription 78 = .ok (.getfield 9, 3) := by decide +kernel
theorem dX9_subscription_81 : decode cX9_subscription 81 = .ok (.bipush 38, 2) := by decide +kernel
theorem dX9_subscription_83 : decode cX9_subscription 83 = .ok (.iaload, 1) := by decide +kernel
theorem dX9_subscription_84 : decode cX9_subscription 84 = .ok (.if_icmp .ge 30, 3) := by decide +kernel
theorem dX9_subscription_87 : decode cX9_subscription 87 = .ok (.iload_n 3, 1) := by decide +kernel
theorem dX9_subscription_88 : decode cX9_subscription 88 = .ok (.aload_n 0, 1) := by decide +kernel
theorem dX9_subscription_89 : decode cX9_subscription 89 = .ok (.iload_n 1, 1) := by decide +kernel
theorem dX9_subscription_90 : decode cX9_subscription 90 = .ok (.iload 4, 2) := by decide +kernel
theorem dX9_subscription_92 : decode cX9_subscription 92 = .ok (.invokevirtual 94, 3) := by decide +kernel
theorem dX9_subscription_95 : decode cX9_subscription 95 = .ok (.ifCond .eq 10, 3) := by decide +kernel
theorem dX9_subscription_98 : decode cX9_subscription 98 = .ok (.iconst 1, 1) := by decide +kernel
theorem dX9_subscription_99 : decode cX9_subscription 99 = .ok (.iload 4, 2) := by decide +kernel
theorem dX9_subscription_101 : decode cX9_subscription 101 = .ok (.ishl, 1) := by decide +kernel
theorem dX9_subscription_102 : decode cX9_subscription 102 = .ok (.goto 4, 3) := by decide +kernel
theorem dX9_subscription_105 : decode cX9_subscription 105 = .ok (.iconst 0, 1) := by decide +kernel
theorem dX9_subscription_106 : decode cX9_subscription 106 = .ok (.ior, 1) := by decide +kernel
theorem dX9_subscription_107 : decode cX9_subscription 107 = .ok (.istore_n 3, 1) := by decide +kernel
theorem dX9_subscription_108 : decode cX9_subscription 108 = .ok (.iinc 4 1, 3) := by decide +kernel
theorem dX9_subscription_111 : decode cX9_subscription 111 = .ok (.goto (-36), 3) := by decide +kernel
theorem dX9_subscription_114 : decode cX9_subscription 114 = .ok (.iload_n 3, 1) := by decide +kernel
theorem dX9_subscription_115 : decode cX9_subscription 115 = .ok (.ireturn, 1) := by decide +kernel
theorem dX9_partner_0 : decode cX9_partner 0 = .ok (.aload_n 0, 1) := by decide +kernel
theorem dX9_partner_1 : decode cX9_partner 1 = .ok (.aload_n 0, 1) := by decide +kernel
theorem dX9_partner_2 : decode cX9_partner 2 = .ok (.iload_n 1, 1) := by decide +kernel
theorem dX9_partner_3 : decode cX9_partner 3 = .ok (.invokevirtual 143, 3) := by decide +kernel
theorem dX9_partner_6 : decode cX9_partner 6 = .ok (.ifCond .eq 7, 3) := by decide +kernel
theorem dX9_partner_9 : decode cX9_partner 9 = .ok (.iconst 0, 1) := by decide +kernel
theorem dX9_partner_10 : decode cX9_partner 10 = .ok (.goto 4, 3) := by decide +kernel
theorem dX9_partner_13 : decode cX9_partner 13 = .ok (.iconst 1, 1) := by decide +kernel
theorem dX9_partner_14 : decode cX9_partner 14 = .ok (.putfield 24, 3) := by decide +kernel
theorem dX9_partner_17 : decode cX9_partner 17 = .ok (.aload_n 0, 1) := by decide +kernel
theorem dX9_partner_18 : decode cX9_partner 18 = .ok (.getfield 24, 3) := by decide +kernel
theorem dX9_partner_21 : decode cX9_partner 21 = .ok (.ifCond .ne 23, 3) := by decide +kernel
theorem dX9_partner_24 : decode cX9_partner 24 = .ok (.aload_n 0, 1) := by decide +kernel
theorem dX9_partner_25 : decode cX9_partner 25 = .ok (.iload_n 1, 1) := by decide +kernel
theorem dX9_partner_26 : decode cX9_partner 26 = .ok (.invokevirtual 149, 3) := by decide +kernel
theorem dX9_partner_29 : decode cX9_partner 29 = .ok (.i2f, 1) := by decide +kernel
theorem dX9_partner_30 : decode cX9_partner 30 = .ok (.aload_n 0, 1) := by decide +kernel
theorem dX9_partner_31 : decode cX9_partner 31 = .ok (.iload_n 1, 1) := by decide +kernel
theorem dX9_partner_32 : decode cX9_partner 32 = .ok (.iconst 3, 1) := by decide +kernel
theorem dX9_partner_33 : decode cX9_partner 33 = .ok (.invokevirtual 54, 3) := by decide +kernel
theorem dX9_partner_36 : decode cX9_partner 36 = .ok (.i2f, 1) := by decide +kernel
theorem dX9_partner_37 : decode cX9_partner 37 = .ok (.fmul, 1) := by decide +kernel
theorem dX9_partner_38 : decode cX9_partner 38 = .ok (.ldc 221, 2) := by decide +kernel
theorem dX9_partner_40 : decode cX9_partner 40 = .ok (.fdiv, 1) := by decide +kernel
theorem dX9_partner_41 : decode cX9_partner 41 = .ok (.goto 4, 3) := by decide +kernel
theorem dX9_partner_44 : decode cX9_partner 44 = .ok (.fconst 0, 1) := by decide +kernel
theorem dX9_partner_45 : decode cX9_partner 45 = .ok (.freturn, 1) := by decide +kernel
theorem dX9_fullness_0 : decode cX9_fullness 0 = .ok (.aload_n 0, 1) := by decide +kernel
theorem dX9_fullness_1 : decode cX9_fullness 1 = .ok (.aload_n 0, 1) := by decide +kernel
theorem dX9_fullness_2 : decode cX9_fullness 2 = .ok (.iload_n 1, 1) := by decide +kernel
theorem dX9_fullness_3 : decode cX9_fullness 3 = .ok (.invokevirtual 143, 3) := by decide +kernel
theorem dX9_fullness_6 : decode cX9_fullness 6 = .ok (.ifCond .eq 7, 3) := by decide +kernel
theorem dX9_fullness_9 : decode cX9_fullness 9 = .ok (.iconst 0, 1) := by decide +kernel
theorem dX9_fullness_10 : decode cX9_fullness 10 = .ok (.goto 4, 3) := by decide +kernel
theorem dX9_fullness_13 : decode cX9_fullness 13 = .ok (.iconst 1, 1) := by decide +kernel
theorem dX9_fullness_14 : decode cX9_fullness 14 = .ok (.putfield 24, 3) := by decide +kernel
theorem dX9_fullness_17 : decode cX9_fullness 17 = .ok (.aload_n 0, 1) := by decide +kernel
theorem dX9_fullness_18 : decode cX9_fullness 18 = .ok (.getfield 24, 3) := by decide +kernel
theorem dX9_fullness_21 : decode cX9_fullness 21 = .ok (.ifCond .eq 5, 3) := by decide +kernel
theorem dX9_fullness_24 : decode cX9_fullness 24 = .ok (.dconst 0, 1) := by decide +kernel
theorem dX9_fullness_25 : decode cX9_fullness 25 = .ok (.dreturn, 1) := by decide +kernel
theorem dX9_fullness_26 : decode cX9_fullness 26 = .ok (.iconst 0, 1) := by decide +kernel
theorem dX9_fullness_27 : decode cX9_fullness 27 = .ok (.istore_n 2, 1) := by decide +kernel
theorem dX9_fullness_28 : decode cX9_fullness 28 = .ok (.iconst 0, 1) := by decide +kernel
theorem dX9_fullness_29 : decode cX9_fullness 29 = .ok (.istore_n 3, 1) := by decide +kernel
theorem dX9_fullness_30 : decode cX9_fullness 30 = .ok (.iconst 0, 1) := by decide +kernel
theorem dX9_fullness_31 : decode cX9_fullness 31 = .ok (.istore 4, 2) := by decide +kernel
theorem dX9_fullness_33 : decode cX9_fullness 33 = .ok (.iload 4, 2) := by decide +kernel
theorem dX9_fullness_35 : decode cX9_fullness 35 = .ok (.aload_n 0, 1) := by decide +kernel
theorem dX9_fullness_36 : decode cX9_fullness 36 = .ok (.getfield 9, 3) := by decide +kernel
theorem dX9_fullness_39 : decode cX9_fullness 39 = .ok (.bipush 38, 2) := by decide +kernel
theorem dX9_fullness_41 : decode cX9_fullness 41 = .ok (.iaload, 1) := by decide +kernel
theorem dX9_fullness_42 : decode cX9_fullness 42 = .ok (.if_icmp .ge 57, 3) := by decide +kernel
theorem dX9_fullness_45 : decode cX9_fullness 45 = .ok (.aload_n 0, 1) := by decide +kernel
theorem dX9_fullness_46 : decode cX9_fullness 46 = .ok (.iload 4, 2) := by decide +kernel
theorem dX9_fullness_48 : decode cX9_fullness 48 = .ok (.iconst 0, 1) := by decide +kernel
theorem dX9_fullness_49 : decode cX9_fullness 49 = .ok (.invokevirtual 50, 3) := by decide +kernel
theorem dX9_fullness_52 : decode cX9_fullness 52 = .ok (.iload_n 1, 1) := by decide +kernel
theorem dX9_fullness_53 : decode cX9_fullness 53 = .ok (.if_icmp .eq 6, 3) := by decide +kernel
theorem dX9_fullness_56 : decode cX9_fullness 56 = .ok (.goto 37, 3) := by decide +kernel
theorem dX9_fullness_59 : decode cX9_fullness 59 = .ok (.iload_n 2, 1) := by decide +kernel
theorem dX9_fullness_60 : decode cX9_fullness 60 = .ok (.aload_n 0, 1) := by decide +kernel
theorem dX9_fullness_61 : decode cX9_fullness 61 = .ok (.iload 4, 2) := by decide +kernel
theorem dX9_fullness_63 : decode cX9_fullness 63 = .ok (.iconst 3, 1) := by decide +kernel
theorem dX9_fullness_64 : decode cX9_fullness 64 = .ok (.invokevirtual 50, 3) := by decide +kernel
theorem dX9_fullness_67 : decode cX9_fullness 67 = .ok (.aload_n 0, 1) := by decide +kernel
theorem dX9_fullness_68 : decode cX9_fullness 68 = .ok (.iload 4, 2) := by decide +kernel
theorem dX9_fullness_70 : decode cX9_fullness 70 = .ok (.invokevirtual 100, 3) := by decide +kernel
theorem dX9_fullness_73 : decode cX9_fullness 73 = .ok (.iadd, 1) := by decide +kernel
theorem dX9_fullness_74 : decode cX9_fullness 74 = .ok (.iadd, 1) := by decide +kernel
theorem dX9_fullness_75 : decode cX9_fullness 75 = .ok (.istore_n 2, 1) := by decide +kernel
theorem dX9_fullness_76 : decode cX9_fullness 76 = .ok (.iload_n 3, 1) := by decide +kernel
theorem dX9_fullness_77 : decode cX9_fullness 77 = .ok (.aload_n 0, 1) := by decide +kernel
theorem dX9_fullness_78 : decode cX9_fullness 78 = .ok (.getfield 9, 3) := by decide +kernel
theorem dX9_fullness_81 : decode cX9_fullness 81 = .ok (.iconst 0, 1) := by decide +kernel
theorem dX9_fullness_82 : decode cX9_fullness 82 = .ok (.aload_n 0, 1) := by decide +kernel
theorem dX9_fullness_83 : decode cX9_fullness 83 = .ok (.iload 4, 2) := by decide +kernel
theorem dX9_fullness_85 : decode cX9_fullness 85 = .ok (.iconst 1, 1) := by decide +kernel
theorem dX9_fullness_86 : decode cX9_fullness 86 = .ok (.invokevirtual 50, 3) := by decide +kernel
theorem dX9_fullness_89 : decode cX9_fullness 89 = .ok (.iadd, 1) := by decide +kernel
theorem dX9_fullness_90 : decode cX9_fullness 90 = .ok (.iaload, 1) := by decide +kernel
theorem dX9_fullness_91 : decode cX9_fullness 91 = .ok (.iadd, 1) := by decide +kernel
theorem dX9_fullness_92 : decode cX9_fullness 92 = .ok (.istore_n 3, 1) := by decide +kernel
theorem dX9_fullness_93 : decode cX9_fullness 93 = .ok (.iinc 4 1, 3) := by decide +kernel
theorem dX9_fullness_96 : decode cX9_fullness 96 = .ok (.goto (-63), 3) := by decide +kernel
theorem dX9_fullness_99 : decode cX9_fullness 99 = .ok (.aload_n 0, 1) := by decide +kernel
theorem dX9_fullness_100 : decode cX9_fullness 100 = .ok (.iload_n 3, 1) := by decide +kernel
theorem dX9_fullness_101 : decode cX9_fullness 101 = .ok (.ifCond .ne 7, 3) := by decide +kernel
theorem dX9_fullness_104 : decode cX9_fullness 104 = .ok (.iconst 2, 1) := by decide +kernel
theorem dX9_fullness_105 : decode cX9_fullness 105 = .ok (.goto 4, 3) := by decide +kernel
theorem dX9_fullness_108 : decode cX9_fullness 108 = .ok (.iconst 0, 1) := by decide +kernel
theorem dX9_fullness_109 : decode cX9_fullness 109 = .ok (.putfield 24, 3) := by decide +kernel
theorem dX9_fullness_112 : decode cX9_fullness 112 = .ok (.aload_n 0, 1) := by decide +kernel
theorem dX9_fullness_113 : decode cX9_fullness 113 = .ok (.getfield 24, 3) := by decide +kernel
theorem dX9_fullness_116 : decode cX9_fullness 116 = .ok (.ifCond .ne 11, 3) := by decide +kernel
theorem dX9_fullness_119 : decode cX9_fullness 119 = .ok (.iload_n 2, 1) := by decide +kernel
theorem dX9_fullness_120 : decode cX9_fullness 120 = .ok (.i2d, 1) := by decide +kernel
theorem dX9_fullness_121 : decode cX9_fullness 121 = .ok (.iload_n 3, 1) := by decide +kernel
theorem dX9_fullness_122 : decode cX9_fullness 122 = .ok (.i2d, 1) := by decide +kernel
theorem dX9_fullness_123 : decode cX9_fullness 123 = .ok (.ddiv, 1) := by decide +kernel
theorem dX9_fullness_124 : decode cX9_fullness 124 = .ok (.goto 4, 3) := by decide +kernel
theorem dX9_fullness_127 : decode cX9_fullness 127 = .ok (.dconst 0, 1) := by decide +kernel
theorem dX9_fullness_128 : decode cX9_fullness 128 = .ok (.dreturn, 1) := by decide +kernel
theorem dX9_reason_0 : decode cX9_reason 0 = .ok (.aload_n 0, 1) := by decide +kernel
theorem dX9_reason_1 : decode cX9_reason 1 = .ok (.aload_n 0, 1) := by decide +kernel
theorem dX9_reason_2 : decode cX9_reason 2 = .ok (.getfield 34, 3) := by decide +kernel
theorem dX9_reason_5 : decode cX9_reason 5 = .ok (.ifCond .ne 7, 3) := by decide +kernel
theorem dX9_reason_8 : decode cX9_reason 8 = .ok (.iconst 1, 1) := by decide +kernel
theorem dX9_reason_9 : decode cX9_reason 9 = .ok (.goto 4, 3) := by decide +kernel
theorem dX9_reason_12 : decode cX9_reason 12 = .ok (.iconst 0, 1) := by decide +kernel
theorem dX9_reason_13 : decode cX9_reason 13 = .ok (.putfield 24, 3) := by decide +kernel
theorem dX9_reason_16 : decode cX9_reason 16 = .ok (.aload_n 0, 1) := by decide +kernel
theorem dX9_reason_17 : decode cX9_reason 17 = .ok (.getfield 24, 3) := by decide +kernel
theorem dX9_reason_20 : decode cX9_reason 20 = .ok (.ifCond .eq 7, 3) := by decide +kernel
theorem dX9_reason_23 : decode cX9_reason 23 = .ok (.iconst 0, 1) := by decide +kernel
theorem dX9_reason_24 : decode cX9_reason 24 = .ok (.goto 18, 3) := by decide +kernel
theorem dX9_reason_27 : decode cX9_reason 27 = .ok (.iload_n 1, 1) := by decide +kernel
theorem dX9_reason_28 : decode cX9_reason 28 = .ok (.ifCond .eq 10, 3) := by decide +kernel
theorem dX9_reason_31 : decode cX9_reason 31 = .ok (.aload_n 0, 1) := by decide +kernel
theorem dX9_reason_32 : decode cX9_reason 32 = .ok (.getfield 37, 3) := by decide +kernel
theorem dX9_reason_35 : decode cX9_reason 35 = .ok (.goto 7, 3) := by decide +kernel
theorem dX9_reason_38 : decode cX9_reason 38 = .ok (.aload_n 0, 1) := by decide +kernel
theorem dX9_reason_39 : decode cX9_reason 39 = .ok (.getfield 34, 3) := by decide +kernel
theorem dX9_reason_42 : decode cX9_reason 42 = .ok (.ireturn, 1) := by decide +kernel
theorem dX9_account_0 : decode cX9_account 0 = .ok (.aload_n 0, 1) := by decide +kernel
theorem dX9_account_1 : decode cX9_account 1 = .ok (.iload_n 1, 1) := by decide +kernel
theorem dX9_account_2 : decode cX9_account 2 = .ok (.iconst 0, 1) := by decide +kernel
theorem dX9_account_3 : decode cX9_account 3 = .ok (.bipush 14, 2) := by decide +kernel
theorem dX9_account_5 : decode cX9_account 5 = .ok (.invokestatic 46, 3) := by decide +kernel
theorem dX9_account_8 : decode cX9_account 8 = .ok (.ifCond .eq 7, 3) := by decide +kernel
theorem dX9_account_11 : decode cX9_account 11 = .ok (.iconst 0, 1) := by decide +kernel
theorem dX9_account_12 : decode cX9_account 12 = .ok (.goto 4, 3) := by decide +kernel
theorem dX9_account_15 : decode cX9_account 15 = .ok (.iconst 1, 1) := by decide +kernel
theorem dX9_account_16 : decode cX9_account 16 = .ok (.putfield 24, 3) := by decide +kernel
theorem dX9_account_19 : decode cX9_account 19 = .ok (.aload_n 0, 1) := by decide +kernel
theorem dX9_account_20 : decode cX9_account 20 = .ok (.getfield 24, 3) := by decide +kernel
theorem dX9_account_23 : decode cX9_account 23 = .ok (.ifCond .eq 5, 3) := by decide +kernel
theorem dX9_account_26 : decode cX9_account 26 = .ok (.iconst 0, 1) := by decide +kernel
theorem dX9_account_27 : decode cX9_account 27 = .ok (.ireturn, 1) := by decide +kernel
theorem dX9_account_28 : decode cX9_account 28 = .ok (.iconst 0, 1) := by decide +kernel
theorem dX9_account_29 : decode cX9_account 29 = .ok (.istore_n 2, 1) := by decide +kernel
theorem dX9_account_30 : decode cX9_account 30 = .ok (.iload_n 1, 1) := by decide +kernel
theorem dX9_account_31 : decode cX9_account 31 = .ok (.tableswitch 190 0 14 #[73, 80, 88, 97, 106, 106, 106, 138, 145, 152, 190, 190, 190, 180, 185], 73) := by decide +kernel
theorem dX9_account_104 : decode cX9_account 104 = .ok (.aload_n 0, 1) := by decide +kernel
theorem dX9_account_105 : decode cX9_account 105 = .ok (.getfield 9, 3) := by decide +kernel
theorem dX9_account_108 : decode cX9_account 108 = .ok (.iconst 5, 1) := by decide +kernel
theorem dX9_account_109 : decode cX9_account 109 = .ok (.iaload, 1) := by decide +kernel
theorem dX9_account_110 : decode cX9_account 110 = .ok (.ireturn, 1) := by decide +kernel
theorem dX9_account_111 : decode cX9_account 111 = .ok (.aload_n 0, 1) := by decide +kernel
theorem dX9_account_112 : decode cX9_account 112 = .ok (.getfield 9, 3) := by decide +kernel
theorem dX9_account_115 : decode cX9_account 115 = .ok (.bipush 38, 2) := by decide +kernel
theorem dX9_account_117 : decode cX9_account 117 = .ok (.iaload, 1) := by decide +kernel
theorem dX9_account_118 : decode cX9_account 118 = .ok (.ireturn, 1) := by decide +kernel
theorem dX9_account_119 : decode cX9_account 119 = .ok (.aload_n 0, 1) := by decide +kernel
theorem dX9_account_120 : decode cX9_account 120 = .ok (.getfield 9, 3) := by decide +kernel
theorem dX9_account_123 : decode cX9_account 123 = .ok (.sipush 159, 3) := by decide +kernel
theorem dX9_account_126 : decode cX9_account 126 = .ok (.iaload, 1) := by decide +kernel
theorem dX9_account_127 : decode cX9_account 127 = .ok (.ireturn, 1) := by decide +kernel
theorem dX9_account_128 : decode cX9_account 128 = .ok (.aload_n 0, 1) := by decide +kernel
theorem dX9_account_129 : decode cX9_account 129 = .ok (.getfield 9, 3) := by decide +kernel
theorem dX9_account_132 : decode cX9_account 132 = .ok (.sipush 180, 3) := by decide +kernel
theorem dX9_account_135 : decode cX9_account 135 = .ok (.iaload, 1) := by decide +kernel
theorem dX9_account_136 : decode cX9_account 136 = .ok (.ireturn, 1) := by decide +kernel
theorem dX9_account_137 : decode cX9_account 137 = .ok (.iconst 0, 1) := by decide +kernel
theorem dX9_account_138 : decode cX9_account 138 = .ok (.istore_n 3, 1) := by decide +kernel
theorem dX9_account_139 : decode cX9_account 139 = .ok (.iload_n 3, 1) := by decide +kernel
theorem dX9_account_140 : decode cX9_account 140 = .ok (.aload_n 0, 1) := by decide +kernel
theorem dX9_account_141 : decode cX9_account 141 = .ok (.getfield 9, 3) := by decide +kernel
theorem dX9_account_144 : decode cX9_account 144 = .ok (.bipush 38, 2) := by decide +kernel
theorem dX9_account_146 : decode cX9_account 146 = .ok (.iaload, 1) := by decide +kernel
theorem dX9_account_147 : decode cX9_account 147 = .ok (.if_icmp .ge 20, 3) := by decide +kernel
theorem dX9_account_150 : decode cX9_account 150 = .ok (.iload_n 2, 1) := by decide +kernel
theorem dX9_account_151 : decode cX9_account 151 = .ok (.aload_n 0, 1) := by decide +kernel
theorem dX9_account_152 : decode cX9_account 152 = .ok (.iload_n 3, 1) := by decide +kernel
theorem dX9_account_153 : decode cX9_account 153 = .ok (.iload_n 1, 1) := by decide +kernel
theorem dX9_account_154 : decode cX9_account 154 = .ok (.iconst 4, 1) := by decide +kernel
theorem dX9_account_155 : decode cX9_account 155 = .ok (.isub, 1) := by decide +kernel
theorem dX9_account_156 : decode cX9_account 156 = .ok (.invokevirtual 197, 3) := by decide +kernel
theorem dX9_account_159 : decode cX9_account 159 = .ok (.iadd, 1) := by decide +kernel
theorem dX9_account_160 : decode cX9_account 160 = .ok (.istore_n 2, 1) := by decide +kernel
theorem dX9_account_161 : decode cX9_account 161 = .ok (.iinc 3 1, 3) := by decide +kernel
theorem dX9_account_164 : decode cX9_account 164 = .ok (.goto (-25), 3) := by decide +kernel
theorem dX9_account_167 : decode cX9_account 167 = .ok (.iload_n 2, 1) := by decide +kernel
theorem dX9_account_168 : decode cX9_account 168 = .ok (.ireturn, 1) := by decide +kernel
theorem dX9_account_169 : decode cX9_account 169 = .ok (.aload_n 0, 1) := by decide +kernel
theorem dX9_account_170 : decode cX9_account 170 = .ok (.getfield 9, 3) := by decide +kernel
theorem dX9_account_173 : decode cX9_account 173 = .ok (.iconst 3, 1) := by decide +kernel
theorem dX9_account_174 : decode cX9_account 174 = .ok (.iaload, 1) := by decide +kernel
theorem dX9_account_175 : decode cX9_account 175 = .ok (.ireturn, 1) := by decide +kernel
theorem dX9_account_176 : decode cX9_account 176 = .ok (.aload_n 0, 1) := by decide +kernel
theorem dX9_account_177 : decode cX9_account 177 = .ok (.getfield 9, 3) := by decide +kernel
theorem dX9_account_180 : decode cX9_account 180 = .ok (.iconst 4, 1) := by decide +kernel
theorem dX9_account_181 : decode cX9_account 181 = .ok (.iaload, 1) := by decide +kernel
theorem dX9_account_182 : decode cX9_account 182 = .ok (.ireturn, 1) := by decide +kernel
theorem dX9_account_183 : decode cX9_account 183 = .ok (.iconst 0, 1) := by decide +kernel
theorem dX9_account_184 : decode cX9_account 184 = .ok (.istore_n 3, 1) := by decide +kernel
theorem dX9_account_185 : decode cX9_account 185 = .ok (.iload_n 3, 1) := by decide +kernel
theorem dX9_account_186 : decode cX9_account 186 = .ok (.aload_n 0, 1) := by decide +kernel
theorem dX9_account_187 : decode cX9_account 187 = .ok (.getfield 9, 3) := by decide +kernel
theorem dX9_account_190 : decode cX9_account 190 = .ok (.iconst 5, 1) := by decide +kernel
theorem dX9_account_191 : decode cX9_account 191 = .ok (.iaload, 1) := by decide +kernel
theorem dX9_account_192 : decode cX9_account 192 = .ok (.if_icmp .ge 17, 3) := by decide +kernel
theorem dX9_account_195 : decode cX9_account 195 = .ok (.iload_n 2, 1) := by decide +kernel
theorem dX9_account_196 : decode cX9_account 196 = .ok (.aload_n 0, 1) := by decide +kernel
theorem dX9_account_197 : decode cX9_account 197 = .ok (.iload_n 3, 1) := by decide +kernel
theorem dX9_account_198 : decode cX9_account 198 = .ok (.invokevirtual 149, 3) := by decide +kernel
theorem dX9_account_201 : decode cX9_account 201 = .ok (.iadd, 1) := by decide +kernel
theorem dX9_account_202 : decode cX9_account 202 = .ok (.istore_n 2, 1) := by decide +kernel
theorem dX9_account_203 : decode cX9_account 203 = .ok (.iinc 3 1, 3) := by decide +kernel
theorem dX9_account_206 : decode cX9_account 206 = .ok (.goto (-21), 3) := by decide +kernel
theorem dX9_account_209 : decode cX9_account 209 = .ok (.iload_n 2, 1) := by decide +kernel
theorem dX9_account_210 : decode cX9_account 210 = .ok (.ireturn, 1) := by decide +kernel
theorem dX9_account_211 : decode cX9_account 211 = .ok (.aload_n 0, 1) := by decide +kernel
theorem dX9_account_212 : decode cX9_account 212 = .ok (.getfield 222, 3) := by decide +kernel
theorem dX9_account_215 : decode cX9_account 215 = .ok (.ireturn, 1) := by decide +kernel
theorem dX9_account_216 : decode cX9_account 216 = .ok (.aload_n 0, 1) := by decide +kernel
theorem dX9_account_217 : decode cX9_account 217 = .ok (.getfield 31, 3) := by decide +kernel
theorem dX9_account_220 : decode cX9_account 220 = .ok (.ireturn, 1) := by decide +kernel
theorem dX9_account_221 : decode cX9_account 221 = .ok (.aload_n 0, 1) := by decide +kernel
theorem dX9_account_222 : decode cX9_account 222 = .ok (.getfield 9, 3) := by decide +kernel
theorem dX9_account_225 : decode cX9_account 225 = .ok (.iconst 0, 1) := by decide +kernel
theorem dX9_account_226 : decode cX9_account 226 = .ok (.iload_n 1, 1) := by decide +kernel
theorem dX9_account_227 : decode cX9_account 227 = .ok (.iadd, 1) := by decide +kernel
theorem dX9_account_228 : decode cX9_account 228 = .ok (.bipush 10, 2) := by decide +kernel
theorem dX9_account_230 : decode cX9_account 230 = .ok (.isub, 1) := by decide +kernel
theorem dX9_account_231 : decode cX9_account 231 = .ok (.iaload, 1) := by decide +kernel
theorem dX9_account_232 : decode cX9_account 232 = .ok (.ireturn, 1) := by decide +kernel
theorem dX9_append_0 : decode cX9_append 0 = .ok (.aload_n 0, 1) := by decide +kernel
theorem dX9_append_1 : decode cX9_append 1 = .ok (.iload_n 1, 1) := by decide +kernel
theorem dX9_append_2 : decode cX9_append 2 = .ok (.bipush 32, 2) := by decide +kernel
theorem dX9_append_4 : decode cX9_append 4 = .ok (.bipush 126, 2) := by decide +kernel
theorem dX9_append_6 : decode cX9_append 6 = .ok (.invokestatic 46, 3) := by decide +kernel
theorem dX9_append_9 : decode cX9_append 9 = .ok (.ifCond .ne 7, 3) := by decide +kernel
theorem dX9_append_12 : decode cX9_append 12 = .ok (.iconst 1, 1) := by decide +kernel
theorem dX9_append_13 : decode cX9_append 13 = .ok (.goto 17, 3) := by decide +kernel
theorem dX9_append_16 : decode cX9_append 16 = .ok (.aload_n 0, 1) := by decide +kernel
theorem dX9_append_17 : decode cX9_append 17 = .ok (.getfield 222, 3) := by decide +kernel
theorem dX9_append_20 : decode cX9_append 20 = .ok (.bipush 60, 2) := by decide +kernel
theorem dX9_append_22 : decode cX9_append 22 = .ok (.if_icmp .ne 7, 3) := by decide +kernel
theorem dX9_append_25 : decode cX9_append 25 = .ok (.iconst 2, 1) := by decide +kernel
theorem dX9_append_26 : decode cX9_append 26 = .ok (.goto 4, 3) := by decide +kernel
theorem dX9_append_29 : decode cX9_append 29 = .ok (.iconst 0, 1) := by decide +kernel
theorem dX9_append_30 : decode cX9_append 30 = .ok (.putfield 24, 3) := by decide +kernel
theorem dX9_append_33 : decode cX9_append 33 = .ok (.aload_n 0, 1) := by decide +kernel
theorem dX9_append_34 : decode cX9_append 34 = .ok (.getfield 24, 3) := by decide +kernel
theorem dX9_append_37 : decode cX9_append 37 = .ok (.ifCond .eq 5, 3) := by decide +kernel
theorem dX9_append_40 : decode cX9_append 40 = .ok (.iconst 0, 1) := by decide +kernel
theorem dX9_append_41 : decode cX9_append 41 = .ok (.ireturn, 1) := by decide +kernel
theorem dX9_append_42 : decode cX9_append 42 = .ok (.aload_n 0, 1) := by decide +kernel
theorem dX9_append_43 : decode cX9_append 43 = .ok (.getfield 13, 3) := by decide +kernel
theorem dX9_append_46 : decode cX9_append 46 = .ok (.aload_n 0, 1) := by decide +kernel
theorem dX9_append_47 : decode cX9_append 47 = .ok (.getfield 222, 3) := by decide +kernel
theorem dX9_append_50 : decode cX9_append 50 = .ok (.iload_n 1, 1) := by decide +kernel
theorem dX9_append_51 : decode cX9_append 51 = .ok (.castore, 1) := by decide +kernel
theorem dX9_append_52 : decode cX9_append 52 = .ok (.aload_n 0, 1) := by decide +kernel
theorem dX9_append_53 : decode cX9_append 53 = .ok (.dup, 1) := by decide +kernel
theorem dX9_append_54 : decode cX9_append 54 = .ok (.getfield 222, 3) := by decide +kernel
theorem dX9_append_57 : decode cX9_append 57 = .ok (.iconst 1, 1) := by decide +kernel
theorem dX9_append_58 : decode cX9_append 58 = .ok (.iadd, 1) := by decide +kernel
theorem dX9_append_59 : decode cX9_append 59 = .ok (.putfield 222, 3) := by decide +kernel
theorem dX9_append_62 : decode cX9_append 62 = .ok (.aload_n 0, 1) := by decide +kernel
theorem dX9_append_63 : decode cX9_append 63 = .ok (.getfield 222, 3) := by decide +kernel
theorem dX9_append_66 : decode cX9_append 66 = .ok (.ireturn, 1) := by decide +kernel
theorem dX9_here_0 : decode cX9_here 0 = .ok (.aload_n 0, 1) := by decide +kernel
theorem dX9_here_1 : decode cX9_here 1 = .ok (.getfield 225, 3) := by decide +kernel
theorem dX9_here_4 : decode cX9_here 4 = .ok (.aload_n 0, 1) := by decide +kernel
theorem dX9_here_5 : decode cX9_here 5 = .ok (.getfield 222, 3) := by decide +kernel
theorem dX9_here_8 : decode cX9_here 8 = .ok (.if_icmp .ge 15, 3) := by decide +kernel
theorem dX9_here_11 : decode cX9_here 11 = .ok (.aload_n 0, 1) := by decide +kernel
theorem dX9_here_12 : decode cX9_here 12 = .ok (.getfield 13, 3) := by decide +kernel
theorem dX9_here_15 : decode cX9_here 15 = .ok (.aload_n 0, 1) := by decide +kernel
theorem dX9_here_16 : decode cX9_here 16 = .ok (.getfield 225, 3) := by decide +kernel
theorem dX9_here_19 : decode cX9_here 19 = .ok (.caload, 1) := by decide +kernel
theorem dX9_here_20 : decode cX9_here 20 = .ok (.goto 4, 3) := by decide +kernel
theorem dX9_here_23 : decode cX9_here 23 = .ok (.iconst (-1), 1) := by decide +kernel
theorem dX9_here_24 : decode cX9_here 24 = .ok (.ireturn, 1) := by decide +kernel
theorem dX9_number_0 : decode cX9_number 0 = .ok (.aload_n 0, 1) := by decide +kernel
theorem dX9_number_1 : decode cX9_number 1 = .ok (.getfield 228, 3) := by decide +kernel
theorem dX9_number_4 : decode cX9_number 4 = .ok (.ifCond .lt 5, 3) := by decide +kernel
theorem dX9_number_7 : decode cX9_number 7 = .ok (.iconst 0, 1) := by decide +kernel
theorem dX9_number_8 : decode cX9_number 8 = .ok (.ireturn, 1) := by decide +kernel
theorem dX9_number_9 : decode cX9_number 9 = .ok (.aload_n 0, 1) := by decide +kernel
theorem dX9_number_10 : decode cX9_number 10 = .ok (.invokevirtual 231, 3) := by decide +kernel
theorem dX9_number_13 : decode cX9_number 13 = .ok (.bipush 48, 2) := by decide +kernel
theorem dX9_number_15 : decode cX9_number 15 = .ok (.bipush 57, 2) := by decide +kernel
theorem dX9_number_17 : decode cX9_number 17 = .ok (.invokestatic 46, 3) := by decide +kernel
theorem dX9_number_20 : decode cX9_number 20 = .ok (.ifCond .ne 13, 3) := by decide +kernel
theorem dX9_number_23 : decode cX9_number 23 = .ok (.aload_n 0, 1) := by decide +kernel
theorem dX9_number_24 : decode cX9_number 24 = .ok (.aload_n 0, 1) := by decide +kernel
theorem dX9_number_25 : decode cX9_number 25 = .ok (.getfield 225, 3) := by decide +kernel
theorem dX9_number_28 : decode cX9_number 28 = .ok (.putfield 228, 3) := by decide +kernel
theorem dX9_number_31 : decode cX9_number 31 = .ok (.iconst 0, 1) := by decide +kernel
theorem dX9_number_32 : decode cX9_number 32 = .ok (.ireturn, 1) := by decide +kernel
theorem dX9_number_33 : decode cX9_number 33 = .ok (.iconst 0, 1) := by decide +kernel
theorem dX9_number_34 : decode cX9_number 34 = .ok (.istore_n 2, 1) := by decide +kernel
theorem dX9_number_35 : decode cX9_number 35 = .ok (.iconst 0, 1) := by decide +kernel
theorem dX9_number_36 : decode cX9_number 36 = .ok (.istore_n 3, 1) := by decide +kernel
theorem dX9_number_37 : decode cX9_number 37 = .ok (.iload_n 3, 1) := by decide +kernel
theorem dX9_number_38 : decode cX9_number 38 = .ok (.iload_n 1, 1) := by decide +kernel
theorem dX9_number_39 : decode cX9_number 39 = .ok (.if_icmp .ge 46, 3) := by decide +kernel
theorem dX9_number_42 : decode cX9_number 42 = .ok (.aload_n 0, 1) := by decide +kernel
theorem dX9_number_43 : decode cX9_number 43 = .ok (.invokevirtual 231, 3) := by decide +kernel
theorem dX9_number_46 : decode cX9_number 46 = .ok (.bipush 48, 2) := by decide +kernel
theorem dX9_number_48 : decode cX9_number 48 = .ok (.bipush 57, 2) := by decide +kernel
theorem dX9_number_50 : decode cX9_number 50 = .ok (.invokestatic 46, 3) := by decide +kernel
theorem dX9_number_53 : decode cX9_number 53 = .ok (.ifCond .eq 32, 3) := by decide +kernel
theorem dX9_number_56 : decode cX9_number 56 = .ok (.bipush 10, 2) := by decide +kernel
theorem dX9_number_58 : decode cX9_number 58 = .ok (.iload_n 2, 1) := by decide +kernel
theorem dX9_number_59 : decode cX9_number 59 = .ok (.imul, 1) := by decide +kernel
theorem dX9_number_60 : decode cX9_number 60 = .ok (.aload_n 0, 1) := by decide +kernel
theorem dX9_number_61 : decode cX9_number 61 = .ok (.invokevirtual 231, 3) := by decide +kernel
theorem dX9_number_64 : decode cX9_number 64 = .ok (.iadd, 1) := by decide +kernel
theorem dX9_number_65 : decode cX9_number 65 = .ok (.bipush 48, 2) := by decide +kernel
theorem dX9_number_67 : decode cX9_number 67 = .ok (.isub, 1) := by decide +kernel
theorem dX9_number_68 : decode cX9_number 68 = .ok (.istore_n 2, 1) := by decide +kernel
theorem dX9_number_69 : decode cX9_number 69 = .ok (.aload_n 0, 1) := by decide +kernel
theorem dX9_number_70 : decode cX9_number 70 = .ok (.dup, 1) := by decide +kernel
theorem dX9_number_71 : decode cX9_number 71 = .ok (.getfield 225, 3) := by decide +kernel
theorem dX9_number_74 : decode cX9_number 74 = .ok (.iconst 1, 1) := by decide +kernel
theorem dX9_number_75 : decode cX9_number 75 = .ok (.iadd, 1) := by decide +kernel
theorem dX9_number_76 : decode cX9_number 76 = .ok (.putfield 225, 3) := by decide +kernel
theorem dX9_number_79 : decode cX9_number 79 = .ok (.iinc 3 1, 3) := by decide +kernel
theorem dX9_number_82 : decode cX9_number 82 = .ok (.goto (-45), 3) := by decide +kernel
theorem dX9_number_85 : decode cX9_number 85 = .ok (.iload_n 2, 1) := by decide +kernel
theorem dX9_number_86 : decode cX9_number 86 = .ok (.ireturn, 1) := by decide +kernel
theorem dX9_behind_0 : decode cX9_behind 0 = .ok (.aload_n 0, 1) := by decide +kernel
theorem dX9_behind_1 : decode cX9_behind 1 = .ok (.getfield 228, 3) := by decide +kernel
theorem dX9_behind_4 : decode cX9_behind 4 = .ok (.ifCond .lt 5, 3) := by decide +kernel
theorem dX9_behind_7 : decode cX9_behind 7 = .ok (.iconst 0, 1) := by decide +kernel
theorem dX9_behind_8 : decode cX9_behind 8 = .ok (.ireturn, 1) := by decide +kernel
theorem dX9_behind_9 : decode cX9_behind 9 = .ok (.aload_n 0, 1) := by decide +kernel
theorem dX9_behind_10 : decode cX9_behind 10 = .ok (.invokevirtual 231, 3) := by decide +kernel
theorem dX9_behind_13 : decode cX9_behind 13 = .ok (.iload_n 1, 1) := by decide +kernel
theorem dX9_behind_14 : decode cX9_behind 14 = .ok (.if_icmp .eq 13, 3) := by decide +kernel
theorem dX9_behind_17 : decode cX9_behind 17 = .ok (.aload_n 0, 1) := by decide +kernel
theorem dX9_behind_18 : decode cX9_behind 18 = .ok (.aload_n 0, 1) := by decide +kernel
theorem dX9_behind_19 : decode cX9_behind 19 = .ok (.getfield 225, 3) := by decide +kernel
theorem dX9_behind_22 : decode cX9_behind 22 = .ok (.putfield 228, 3) := by decide +kernel
theorem dX9_behind_25 : decode cX9_behind 25 = .ok (.iconst 0, 1) := by decide +kernel
theorem dX9_behind_26 : decode cX9_behind 26 = .ok (.ireturn, 1) := by decide +kernel
theorem dX9_behind_27 : decode cX9_behind 27 = .ok (.aload_n 0, 1) := by decide +kernel
theorem dX9_behind_28 : decode cX9_behind 28 = .ok (.dup, 1) := by decide +kernel
theorem dX9_behind_29 : decode cX9_behind 29 = .ok (.getfield 225, 3) := by decide +kernel
theorem dX9_behind_32 : decode cX9_behind 32 = .ok (.iconst 1, 1) := by decide +kernel
theorem dX9_behind_33 : decode cX9_behind 33 = .ok (.iadd, 1) := by decide +kernel
theorem dX9_behind_34 : decode cX9_behind 34 = .ok (.putfield 225, 3) := by decide +kernel
theorem dX9_behind_37 : decode cX9_behind 37 = .ok (.aload_n 0, 1) := by decide +kernel
theorem dX9_behind_38 : decode cX9_behind 38 = .ok (.iload_n 2, 1) := by decide +kernel
theorem dX9_behind_39 : decode cX9_behind 39 = .ok (.invokevirtual 234, 3) := by decide +kernel
theorem dX9_behind_42 : decode cX9_behind 42 = .ok (.ireturn, 1) := by decide +kernel
theorem dX9_command_0 : decode cX9_command 0 = .ok (.aload_n 0, 1) := by decide +kernel
theorem dX9_command_1 : decode cX9_command 1 = .ok (.invokevirtual 231, 3) := by decide +kernel
theorem dX9_command_4 : decode cX9_command 4 = .ok (.istore_n 1, 1) := by decide +kernel
theorem dX9_command_5 : decode cX9_command 5 = .ok (.iconst 4, 1) := by decide +kernel
theorem dX9_command_6 : decode cX9_command 6 = .ok (.aload_n 0, 1) := by decide +kernel
theorem dX9_command_7 : decode cX9_command 7 = .ok (.getfield 237, 3) := by decide +kernel
theorem dX9_command_10 : decode cX9_command 10 = .ok (.imul, 1) := by decide +kernel
theorem dX9_command_11 : decode cX9_command 11 = .ok (.istore_n 2, 1) := by decide +kernel
theorem dX9_command_12 : decode cX9_command 12 = .ok (.iload_n 1, 1) := by decide +kernel
theorem dX9_command_13 : decode cX9_command 13 = .ok (.bipush 115, 2) := by decide +kernel
theorem dX9_command_15 : decode cX9_command 15 = .ok (.if_icmp .eq 48, 3) := by decide +kernel
theorem dX9_command_18 : decode cX9_command 18 = .ok (.iload_n 1, 1) := by decide +kernel
theorem dX9_command_19 : decode cX9_command 19 = .ok (.bipush 114, 2) := by decide +kernel
theorem dX9_command_21 : decode cX9_command 21 = .ok (.if_icmp .eq 42, 3) := by decide +kernel
theorem dX9_command_24 : decode cX9_command 24 = .ok (.iload_n 1, 1) := by decide +kernel
theorem dX9_command_25 : decode cX9_command 25 = .ok (.bipush 119, 2) := by decide +kernel
theorem dX9_command_27 : decode cX9_command 27 = .ok (.if_icmp .eq 36, 3) := by decide +kernel
theorem dX9_command_30 : decode cX9_command 30 = .ok (.iload_n 1, 1) := by decide +kernel
theorem dX9_command_31 : decode cX9_command 31 = .ok (.bipush 104, 2) := by decide +kernel
theorem dX9_command_33 : decode cX9_command 33 = .ok (.if_icmp .eq 30, 3) := by decide +kernel
theorem dX9_command_36 : decode cX9_command 36 = .ok (.iload_n 1, 1) := by decide +kernel
theorem dX9_command_37 : decode cX9_command 37 = .ok (.bipush 108, 2) := by decide +kernel
theorem dX9_command_39 : decode cX9_command 39 = .ok (.if_icmp .eq 24, 3) := by decide +kernel
theorem dX9_command_42 : decode cX9_command 42 = .ok (.iload_n 1, 1) := by decide +kernel
theorem dX9_command_43 : decode cX9_command 43 = .ok (.bipush 101, 2) := by decide +kernel
theorem dX9_command_45 : decode cX9_command 45 = .ok (.if_icmp .eq 18, 3) := by decide +kernel
theorem dX9_command_48 : decode cX9_command 48 = .ok (.iload_n 1, 1) := by decide +kernel
theorem dX9_command_49 : decode cX9_command 49 = .ok (.bipush 109, 2) := by decide +kernel
theorem dX9_command_51 : decode cX9_command 51 = .ok (.if_icmp .eq 12, 3) := by decide +kernel
theorem dX9_command_54 : decode cX9_command 54 = .ok (.aload_n 0, 1) := by decide +kernel
theorem dX9_command_55 : decode cX9_command 55 = .ok (.aload_n 0, 1) := by decide +kernel
theorem dX9_command_56 : decode cX9_command 56 = .ok (.getfield 225, 3) := by decide +kernel
theorem dX9_command_59 : decode cX9_command 59 = .ok (.putfield 228, 3) := by decide +kernel
theorem dX9_command_62 : decode cX9_command 62 = .ok (.return_, 1) := by decide +kernel
theorem dX9_command_63 : decode cX9_command 63 = .ok (.aload_n 0, 1) := by decide +kernel
theorem dX9_command_64 : decode cX9_command 64 = .ok (.dup, 1) := by decide +kernel
theorem dX9_command_65 : decode cX9_command 65 = .ok (.getfield 225, 3) := by decide +kernel
theorem dX9_command_68 : decode cX9_command 68 = .ok (.iconst 1, 1) := by decide +kernel
theorem dX9_command_69 : decode cX9_command 69 = .ok (.iadd, 1) := by decide +kernel
theorem dX9_command_70 : decode cX9_command 70 = .ok (.putfield 225, 3) := by decide +kernel
theorem dX9_command_73 : decode cX9_command 73 = .ok (.aload_n 0, 1) := by decide +kernel
theorem dX9_command_74 : decode cX9_command 74 = .ok (.dup, 1) := by decide +kernel
theorem dX9_command_75 : decode cX9_command 75 = .ok (.getfield 237, 3) := by decide +kernel
theorem dX9_command_78 : decode cX9_command 78 = .ok (.iconst 1, 1) := by decide +kernel
theorem dX9_command_79 : decode cX9_command 79 = .ok (.iadd, 1) := by decide +kernel
theorem dX9_command_80 : decode cX9_command 80 = .ok (.putfield 237, 3) := by decide +kernel
theorem dX9_command_83 : decode cX9_command 83 = .ok (.aload_n 0, 1) := by decide +kernel
theorem dX9_command_84 : decode cX9_command 84 = .ok (.getfield 21, 3) := by decide +kernel
theorem dX9_command_87 : decode cX9_command 87 = .ok (.iload_n 2, 1) := by decide +kernel
theorem dX9_command_88 : decode cX9_command 88 = .ok (.iload_n 1, 1) := by decide +kernel
theorem dX9_command_89 : decode cX9_command 89 = .ok (.iastore, 1) := by decide +kernel
theorem dX9_command_90 : decode cX9_command 90 = .ok (.aload_n 0, 1) := by decide +kernel
theorem dX9_command_91 : decode cX9_command 91 = .ok (.getfield 21, 3) := by decide +kernel
theorem dX9_command_94 : decode cX9_command 94 = .ok (.iload_n 2, 1) := by decide +kernel
theorem dX9_command_95 : decode cX9_command 95 = .ok (.iconst 1, 1) := by decide +kernel
theorem dX9_command_96 : decode cX9_command 96 = .ok (.iadd, 1) := by decide +kernel
theorem dX9_command_97 : decode cX9_command 97 = .ok (.aload_n 0, 1) := by decide +kernel
theorem dX9_command_98 : decode cX9_command 98 = .ok (.iconst 2, 1) := by decide +kernel
theorem dX9_command_99 : decode cX9_command 99 = .ok (.invokevirtual 234, 3) := by decide +kernel
theorem dX9_command_102 : decode cX9_command 102 = .ok (.iastore, 1) := by decide +kernel
theorem dX9_command_103 : decode cX9_command 103 = .ok (.aload_n 0, 1) := by decide +kernel
theorem dX9_command_104 : decode cX9_command 104 = .ok (.getfield 21, 3) := by decide +kernel
theorem dX9_command_107 : decode cX9_command 107 = .ok (.iload_n 2, 1) := by decide +kernel
theorem dX9_command_108 : decode cX9_command 108 = .ok (.iconst 2, 1) := by decide +kernel
theorem dX9_command_109 : decode cX9_command 109 = .ok (.iadd, 1) := by decide +kernel
theorem dX9_command_110 : decode cX9_command 110 = .ok (.aload_n 0, 1) := by decide +kernel
theorem dX9_command_111 : decode cX9_command 111 = .ok (.iload_n 1, 1) := by decide +kernel
theorem dX9_command_112 : decode cX9_command 112 = .ok (.bipush 115, 2) := by decide +kernel
theorem dX9_command_114 : decode cX9_command 114 = .ok (.if_icmp .eq 15, 3) := by decide +kernel
theorem dX9_command_117 : decode cX9_command 117 = .ok (.iload_n 1, 1) := by decide +kernel
theorem dX9_command_118 : decode cX9_command 118 = .ok (.bipush 114, 2) := by decide +kernel
theorem dX9_command_120 : decode cX9_command 120 = .ok (.if_icmp .eq 9, 3) := by decide +kernel
theorem dX9_command_123 : decode cX9_command 123 = .ok (.iload_n 1, 1) := by decide +kernel
theorem dX9_command_124 : decode cX9_command 124 = .ok (.bipush 119, 2) := by decide +kernel
theorem dX9_command_126 : decode cX9_command 126 = .ok (.if_icmp .ne 8, 3) := by decide +kernel
theorem dX9_command_129 : decode cX9_command 129 = .ok (.bipush 120, 2) := by decide +kernel
theorem dX9_command_131 : decode cX9_command 131 = .ok (.goto 16, 3) := by decide +kernel
theorem dX9_command_134 : decode cX9_command 134 = .ok (.iload_n 1, 1) := by decide +kernel
theorem dX9_command_135 : decode cX9_command 135 = .ok (.bipush 109, 2) := by decide +kernel
theorem dX9_command_137 : decode cX9_command 137 = .ok (.if_icmp .ne 8, 3) := by decide +kernel
theorem dX9_command_140 : decode cX9_command 140 = .ok (.bipush 64, 2) := by decide +kernel
theorem dX9_command_142 : decode cX9_command 142 = .ok (.goto 5, 3) := by decide +kernel
theorem dX9_command_145 : decode cX9_command 145 = .ok (.bipush 58, 2) := by decide +kernel
theorem dX9_command_147 : decode cX9_command 147 = .ok (.iconst 2, 1) := by decide +kernel
theorem dX9_command_148 : decode cX9_command 148 = .ok (.invokevirtual 240, 3) := by decide +kernel
theorem dX9_command_151 : decode cX9_command 151 = .ok (.iastore, 1) := by decide +kernel
theorem dX9_command_152 : decode cX9_command 152 = .ok (.aload_n 0, 1) := by decide +kernel
theorem dX9_command_153 : decode cX9_command 153 = .ok (.getfield 21, 3) := by decide +kernel
theorem dX9_command_156 : decode cX9_command 156 = .ok (.iload_n 2, 1) := by decide +kernel
theorem dX9_command_157 : decode cX9_command 157 = .ok (.iconst 3, 1) := by decide +kernel
theorem dX9_command_158 : decode cX9_command 158 = .ok (.iadd, 1) := by decide +kernel
theorem dX9_command_159 : decode cX9_command 159 = .ok (.iload_n 1, 1) := by decide +kernel
theorem dX9_command_160 : decode cX9_command 160 = .ok (.bipush 119, 2) := by decide +kernel
theorem dX9_command_162 : decode cX9_command 162 = .ok (.if_icmp .ne 13, 3) := by decide +kernel
theorem dX9_command_165 : decode cX9_command 165 = .ok (.aload_n 0, 1) := by decide +kernel
theorem dX9_command_166 : decode cX9_command 166 = .ok (.bipush 33, 2) := by decide +kernel
theorem dX9_command_168 : decode cX9_command 168 = .ok (.iconst 1, 1) := by decide +kernel
theorem dX9_command_169 : decode cX9_command 169 = .ok (.invokevirtual 240, 3) := by decide +kernel
theorem dX9_command_172 : decode cX9_command 172 = .ok (.goto 20, 3) := by decide +kernel
theorem dX9_command_175 : decode cX9_command 175 = .ok (.iload_n 1, 1) := by decide +kernel
theorem dX9_command_176 : decode cX9_command 176 = .ok (.bipush 101, 2) := by decide +kernel
theorem dX9_command_178 : decode cX9_command 178 = .ok (.if_icmp .ne 13, 3) := by decide +kernel
theorem dX9_command_181 : decode cX9_command 181 = .ok (.aload_n 0, 1) := by decide +kernel
theorem dX9_command_182 : decode cX9_command 182 = .ok (.bipush 62, 2) := by decide +kernel
theorem dX9_command_184 : decode cX9_command 184 = .ok (.iconst 2, 1) := by decide +kernel
theorem dX9_command_185 : decode cX9_command 185 = .ok (.invokevirtual 240, 3) := by decide +kernel
theorem dX9_command_188 : decode cX9_command 188 = .ok (.goto 4, 3) := by decide +kernel
theorem dX9_command_191 : decode cX9_command 191 = .ok (.iconst 0, 1) := by decide +kernel
theorem dX9_command_192 : decode cX9_command 192 = .ok (.iastore, 1) := by decide +kernel
theorem dX9_command_193 : decode cX9_command 193 = .ok (.return_, 1) := by decide +kernel
theorem dX9_does_0 : decode cX9_does 0 = .ok (.aload_n 0, 1) := by decide +kernel
theorem dX9_does_1 : decode cX9_does 1 = .ok (.getfield 21, 3) := by decide +kernel
theorem dX9_does_4 : decode cX9_does 4 = .ok (.iload_n 1, 1) := by decide +kernel
theorem dX9_does_5 : decode cX9_does 5 = .ok (.iconst 1, 1) := by decide +kernel
theorem dX9_does_6 : decode cX9_does 6 = .ok (.iadd, 1) := by decide +kernel
theorem dX9_does_7 : decode cX9_does 7 = .ok (.iaload, 1) := by decide +kernel
theorem dX9_does_8 : decode cX9_does 8 = .ok (.istore_n 2, 1) := by decide +kernel
theorem dX9_does_9 : decode cX9_does 9 = .ok (.aload_n 0, 1) := by decide +kernel
theorem dX9_does_10 : decode cX9_does 10 = .ok (.getfield 21, 3) := by decide +kernel
theorem dX9_does_13 : decode cX9_does 13 = .ok (.iload_n 1, 1) := by decide +kernel
theorem dX9_does_14 : decode cX9_does 14 = .ok (.iconst 2, 1) := by decide +kernel
theorem dX9_does_15 : decode cX9_does 15 = .ok (.iadd, 1) := by decide +kernel
theorem dX9_does_16 : decode cX9_does 16 = .ok (.iaload, 1) := by decide +kernel
theorem dX9_does_17 : decode cX9_does 17 = .ok (.istore_n 3, 1) := by decide +kernel
theorem dX9_does_18 : decode cX9_does 18 = .ok (.aload_n 0, 1) := by decide +kernel
theorem dX9_does_19 : decode cX9_does 19 = .ok (.getfield 21, 3) := by decide +kernel
theorem dX9_does_22 : decode cX9_does 22 = .ok (.iload_n 1, 1) := by decide +kernel
theorem dX9_does_23 : decode cX9_does 23 = .ok (.iaload, 1) := by decide +kernel
theorem dX9_does_24 : decode cX9_does 24 = .ok (.tableswitch 150 101 119 #[135, 150, 150, 121, 150, 150, 150, 128, 150, 150, 150, 150, 150, 99, 92, 150, 150, 150, 106], 92) := by decide +kernel
theorem dX9_does_116 : decode cX9_does 116 = .ok (.aload_n 0, 1) := by decide +kernel
theorem dX9_does_117 : decode cX9_does 117 = .ok (.iload_n 2, 1) := by decide +kernel
theorem dX9_does_118 : decode cX9_does 118 = .ok (.iload_n 3, 1) := by decide +kernel
theorem dX9_does_119 : decode cX9_does 119 = .ok (.invokevirtual 188, 3) := by decide +kernel
theorem dX9_does_122 : decode cX9_does 122 = .ok (.ireturn, 1) := by decide +kernel
theorem dX9_does_123 : decode cX9_does 123 = .ok (.aload_n 0, 1) := by decide +kernel
theorem dX9_does_124 : decode cX9_does 124 = .ok (.iload_n 2, 1) := by decide +kernel
theorem dX9_does_125 : decode cX9_does 125 = .ok (.iload_n 3, 1) := by decide +kernel
theorem dX9_does_126 : decode cX9_does 126 = .ok (.invokevirtual 191, 3) := by decide +kernel
theorem dX9_does_129 : decode cX9_does 129 = .ok (.ireturn, 1) := by decide +kernel
theorem dX9_does_130 : decode cX9_does 130 = .ok (.aload_n 0, 1) := by decide +kernel
theorem dX9_does_131 : decode cX9_does 131 = .ok (.iload_n 2, 1) := by decide +kernel
theorem dX9_does_132 : decode cX9_does 132 = .ok (.iload_n 3, 1) := by decide +kernel
theorem dX9_does_133 : decode cX9_does 133 = .ok (.aload_n 0, 1) := by decide +kernel
theorem dX9_does_134 : decode cX9_does 134 = .ok (.getfield 21, 3) := by decide +kernel
theorem dX9_does_137 : decode cX9_does 137 = .ok (.iload_n 1, 1) := by decide +kernel
theorem dX9_does_138 : decode cX9_does 138 = .ok (.iconst 3, 1) := by decide +kernel
theorem dX9_does_139 : decode cX9_does 139 = .ok (.iadd, 1) := by decide +kernel
theorem dX9_does_140 : decode cX9_does 140 = .ok (.iaload, 1) := by decide +kernel
theorem dX9_does_141 : decode cX9_does 141 = .ok (.invokevirtual 194, 3) := by decide +kernel
theorem dX9_does_144 : decode cX9_does 144 = .ok (.ireturn, 1) := by decide +kernel
theorem dX9_does_145 : decode cX9_does 145 = .ok (.aload_n 0, 1) := by decide +kernel
theorem dX9_does_146 : decode cX9_does 146 = .ok (.iload_n 2, 1) := by decide +kernel
theorem dX9_does_147 : decode cX9_does 147 = .ok (.iload_n 3, 1) := by decide +kernel
theorem dX9_does_148 : decode cX9_does 148 = .ok (.invokevirtual 212, 3) := by decide +kernel
theorem dX9_does_151 : decode cX9_does 151 = .ok (.ireturn, 1) := by decide +kernel
theorem dX9_does_152 : decode cX9_does 152 = .ok (.aload_n 0, 1) := by decide +kernel
theorem dX9_does_153 : decode cX9_does 153 = .ok (.iload_n 2, 1) := by decide +kernel
theorem dX9_does_154 : decode cX9_does 154 = .ok (.iload_n 3, 1) := by decide +kernel
theorem dX9_does_155 : decode cX9_does 155 = .ok (.invokevirtual 215, 3) := by decide +kernel
theorem dX9_does_158 : decode cX9_does 158 = .ok (.ireturn, 1) := by decide +kernel
theorem dX9_does_159 : decode cX9_does 159 = .ok (.aload_n 0, 1) := by decide +kernel
theorem dX9_does_160 : decode cX9_does 160 = .ok (.iload_n 2, 1) := by decide +kernel
theorem dX9_does_161 : decode cX9_does 161 = .ok (.iload_n 3, 1) := by decide +kernel
theorem dX9_does_162 : decode cX9_does 162 = .ok (.aload_n 0, 1) := by decide +kernel
theorem dX9_does_163 : decode cX9_does 163 = .ok (.getfield 21, 3) := by decide +kernel
theorem dX9_does_166 : decode cX9_does 166 = .ok (.iload_n 1, 1) := by decide +kernel
theorem dX9_does_167 : decode cX9_does 167 = .ok (.iconst 3, 1) := by decide +kernel
theorem dX9_does_168 : decode cX9_does 168 = .ok (.iadd, 1) := by decide +kernel
theorem dX9_does_169 : decode cX9_does 169 = .ok (.iaload, 1) := by decide +kernel
theorem dX9_does_170 : decode cX9_does 170 = .ok (.invokevirtual 218, 3) := by decide +kernel
theorem dX9_does_173 : decode cX9_does 173 = .ok (.ireturn, 1) := by decide +kernel
theorem dX9_does_174 : decode cX9_does 174 = .ok (.aload_n 0, 1) := by decide +kernel
theorem dX9_does_175 : decode cX9_does 175 = .ok (.iload_n 2, 1) := by decide +kernel
theorem dX9_does_176 : decode cX9_does 176 = .ok (.iload_n 3, 1) := by decide +kernel
theorem dX9_does_177 : decode cX9_does 177 = .ok (.invokevirtual 172, 3) := by decide +kernel
theorem dX9_does_180 : decode cX9_does 180 = .ok (.ireturn, 1) := by decide +kernel
theorem dX9_read_0 : decode cX9_read 0 = .ok (.aload_n 0, 1) := by decide +kernel
theorem dX9_read_1 : decode cX9_read 1 = .ok (.iconst 0, 1) := by decide +kernel
theorem dX9_read_2 : decode cX9_read 2 = .ok (.putfield 225, 3) := by decide +kernel
theorem dX9_read_5 : decode cX9_read 5 = .ok (.aload_n 0, 1) := by decide +kernel
theorem dX9_read_6 : decode cX9_read 6 = .ok (.iconst (-1), 1) := by decide +kernel
theorem dX9_read_7 : decode cX9_read 7 = .ok (.putfield 228, 3) := by decide +kernel
theorem dX9_read_10 : decode cX9_read 10 = .ok (.aload_n 0, 1) := by decide +kernel
theorem dX9_read_11 : decode cX9_read 11 = .ok (.iconst 0, 1) := by decide +kernel
theorem dX9_read_12 : decode cX9_read 12 = .ok (.putfield 237, 3) := by decide +kernel
theorem dX9_read_15 : decode cX9_read 15 = .ok (.aload_n 0, 1) := by decide +kernel
theorem dX9_read_16 : decode cX9_read 16 = .ok (.invokevirtual 244, 3) := by decide +kernel
theorem dX9_read_19 : decode cX9_read 19 = .ok (.aload_n 0, 1) := by decide +kernel
theorem dX9_read_20 : decode cX9_read 20 = .ok (.getfield 228, 3) := by decide +kernel
theorem dX9_read_23 : decode cX9_read 23 = .ok (.ifCond .ge 29, 3) := by decide +kernel
theorem dX9_read_26 : decode cX9_read 26 = .ok (.aload_n 0, 1) := by decide +kernel
theorem dX9_read_27 : decode cX9_read 27 = .ok (.invokevirtual 231, 3) := by decide +kernel
theorem dX9_read_30 : decode cX9_read 30 = .ok (.bipush 59, 2) := by decide +kernel
theorem dX9_read_32 : decode cX9_read 32 = .ok (.if_icmp .ne 20, 3) := by decide +kernel
theorem dX9_read_35 : decode cX9_read 35 = .ok (.aload_n 0, 1) := by decide +kernel
theorem dX9_read_36 : decode cX9_read 36 = .ok (.dup, 1) := by decide +kernel
theorem dX9_read_37 : decode cX9_read 37 = .ok (.getfield 225, 3) := by decide +kernel
theorem dX9_read_40 : decode cX9_read 40 = .ok (.iconst 1, 1) := by decide +kernel
theorem dX9_read_41 : decode cX9_read 41 = .ok (.iadd, 1) := by decide +kernel
theorem dX9_read_42 : decode cX9_read 42 = .ok (.putfield 225, 3) := by decide +kernel
theorem dX9_read_45 : decode cX9_read 45 = .ok (.aload_n 0, 1) := by decide +kernel
theorem dX9_read_46 : decode cX9_read 46 = .ok (.invokevirtual 244, 3) := by decide +kernel
theorem dX9_read_49 : decode cX9_read 49 = .ok (.goto (-30), 3) := by decide +kernel
theorem dX9_read_52 : decode cX9_read 52 = .ok (.aload_n 0, 1) := by decide +kernel
theorem dX9_read_53 : decode cX9_read 53 = .ok (.getfield 228, 3) := by decide +kernel
theorem dX9_read_56 : decode cX9_read 56 = .ok (.ifCond .ge 22, 3) := by decide +kernel
theorem dX9_read_59 : decode cX9_read 59 = .ok (.aload_n 0, 1) := by decide +kernel
theorem dX9_read_60 : decode cX9_read 60 = .ok (.getfield 225, 3) := by decide +kernel
theorem dX9_read_63 : decode cX9_read 63 = .ok (.aload_n 0, 1) := by decide +kernel
theorem dX9_read_64 : decode cX9_read 64 = .ok (.getfield 222, 3) := by decide +kernel
theorem dX9_read_67 : decode cX9_read 67 = .ok (.if_icmp .ge 11, 3) := by decide +kernel
theorem dX9_read_70 : decode cX9_read 70 = .ok (.aload_n 0, 1) := by decide +kernel
theorem dX9_read_71 : decode cX9_read 71 = .ok (.aload_n 0, 1) := by decide +kernel
theorem dX9_read_72 : decode cX9_read 72 = .ok (.getfield 225, 3) := by decide +kernel
theorem dX9_read_75 : decode cX9_read 75 = .ok (.putfield 228, 3) := by decide +kernel
theorem dX9_read_78 : decode cX9_read 78 = .ok (.aload_n 0, 1) := by decide +kernel
theorem dX9_read_79 : decode cX9_read 79 = .ok (.iconst 0, 1) := by decide +kernel
theorem dX9_read_80 : decode cX9_read 80 = .ok (.putfield 222, 3) := by decide +kernel
theorem dX9_read_83 : decode cX9_read 83 = .ok (.aload_n 0, 1) := by decide +kernel
theorem dX9_read_84 : decode cX9_read 84 = .ok (.aload_n 0, 1) := by decide +kernel
theorem dX9_read_85 : decode cX9_read 85 = .ok (.getfield 228, 3) := by decide +kernel
theorem dX9_read_88 : decode cX9_read 88 = .ok (.ifCond .lt 7, 3) := by decide +kernel
theorem dX9_read_91 : decode cX9_read 91 = .ok (.iconst 1, 1) := by decide +kernel
theorem dX9_read_92 : decode cX9_read 92 = .ok (.goto 4, 3) := by decide +kernel
theorem dX9_read_95 : decode cX9_read 95 = .ok (.iconst 0, 1) := by decide +kernel
theorem dX9_read_96 : decode cX9_read 96 = .ok (.putfield 24, 3) := by decide +kernel
theorem dX9_read_99 : decode cX9_read 99 = .ok (.aload_n 0, 1) := by decide +kernel
theorem dX9_read_100 : decode cX9_read 100 = .ok (.getfield 24, 3) := by decide +kernel
theorem dX9_read_103 : decode cX9_read 103 = .ok (.ifCond .eq 13, 3) := by decide +kernel
theorem dX9_read_106 : decode cX9_read 106 = .ok (.aload_n 0, 1) := by decide +kernel
theorem dX9_read_107 : decode cX9_read 107 = .ok (.aload_n 0, 1) := by decide +kernel
theorem dX9_read_108 : decode cX9_read 108 = .ok (.getfield 228, 3) := by decide +kernel
theorem dX9_read_111 : decode cX9_read 111 = .ok (.putfield 17, 3) := by decide +kernel
theorem dX9_read_114 : decode cX9_read 114 = .ok (.iconst 0, 1) := by decide +kernel
theorem dX9_read_115 : decode cX9_read 115 = .ok (.ireturn, 1) := by decide +kernel
theorem dX9_read_116 : decode cX9_read 116 = .ok (.aload_n 0, 1) := by decide +kernel
theorem dX9_read_117 : decode cX9_read 117 = .ok (.invokevirtual 123, 3) := by decide +kernel
theorem dX9_read_120 : decode cX9_read 120 = .ok (.iconst 0, 1) := by decide +kernel
theorem dX9_read_121 : decode cX9_read 121 = .ok (.istore_n 1, 1) := by decide +kernel
theorem dX9_read_122 : decode cX9_read 122 = .ok (.iload_n 1, 1) := by decide +kernel
theorem dX9_read_123 : decode cX9_read 123 = .ok (.aload_n 0, 1) := by decide +kernel
theorem dX9_read_124 : decode cX9_read 124 = .ok (.getfield 237, 3) := by decide +kernel
theorem dX9_read_127 : decode cX9_read 127 = .ok (.if_icmp .ge 33, 3) := by decide +kernel
theorem dX9_read_130 : decode cX9_read 130 = .ok (.aload_n 0, 1) := by decide +kernel
theorem dX9_read_131 : decode cX9_read 131 = .ok (.iconst 4, 1) := by decide +kernel
theorem dX9_read_132 : decode cX9_read 132 = .ok (.iload_n 1, 1) := by decide +kernel
theorem dX9_read_133 : decode cX9_read 133 = .ok (.imul, 1) := by decide +kernel
theorem dX9_read_134 : decode cX9_read 134 = .ok (.invokevirtual 247, 3) := by decide +kernel
theorem dX9_read_137 : decode cX9_read 137 = .ok (.ifCond .eq 17, 3) := by decide +kernel
theorem dX9_read_140 : decode cX9_read 140 = .ok (.aload_n 0, 1) := by decide +kernel
theorem dX9_read_141 : decode cX9_read 141 = .ok (.bipush 8, 2) := by decide +kernel
theorem dX9_read_143 : decode cX9_read 143 = .ok (.iconst 0, 1) := by decide +kernel
theorem dX9_read_144 : decode cX9_read 144 = .ok (.invokevirtual 27, 3) := by decide +kernel
theorem dX9_read_147 : decode cX9_read 147 = .ok (.aload_n 0, 1) := by decide +kernel
theorem dX9_read_148 : decode cX9_read 148 = .ok (.iconst 2, 1) := by decide +kernel
theorem dX9_read_149 : decode cX9_read 149 = .ok (.putfield 24, 3) := by decide +kernel
theorem dX9_read_152 : decode cX9_read 152 = .ok (.iconst 0, 1) := by decide +kernel
theorem dX9_read_153 : decode cX9_read 153 = .ok (.ireturn, 1) := by decide +kernel
theorem dX9_read_154 : decode cX9_read 154 = .ok (.iinc 1 1, 3) := by decide +kernel
theorem dX9_read_157 : decode cX9_read 157 = .ok (.goto (-35), 3) := by decide +kernel
theorem dX9_read_160 : decode cX9_read 160 = .ok (.aload_n 0, 1) := by decide +kernel
theorem dX9_read_161 : decode cX9_read 161 = .ok (.invokevirtual 40, 3) := by decide +kernel
theorem dX9_read_164 : decode cX9_read 164 = .ok (.aload_n 0, 1) := by decide +kernel
theorem dX9_read_165 : decode cX9_read 165 = .ok (.getfield 237, 3) := by decide +kernel
theorem dX9_read_168 : decode cX9_read 168 = .ok (.ireturn, 1) := by decide +kernel
theorem dX9_errorPosition_0 : decode cX9_errorPosition 0 = .ok (.aload_n 0, 1) := by decide +kernel
theorem dX9_errorPosition_1 : decode cX9_errorPosition 1 = .ok (.aload_n 0, 1) := by decide +kernel
theorem dX9_errorPosition_2 : decode cX9_errorPosition 2 = .ok (.getfield 17, 3) := by decide +kernel
theorem dX9_errorPosition_5 : decode cX9_errorPosition 5 = .ok (.iconst (-1), 1) := by decide +kernel
theorem dX9_errorPosition_6 : decode cX9_errorPosition 6 = .ok (.if_icmp .ne 7, 3) := by decide +kernel
theorem dX9_errorPosition_9 : decode cX9_errorPosition 9 = .ok (.iconst 1, 1) := by decide +kernel
theorem dX9_errorPosition_10 : decode cX9_errorPosition 10 = .ok (.goto 4, 3) := by decide +kernel
theorem dX9_errorPosition_13 : decode cX9_errorPosition 13 = .ok (.iconst 0, 1) := by decide +kernel
theorem dX9_errorPosition_14 : decode cX9_errorPosition 14 = .ok (.putfield 24, 3) := by decide +kernel
theorem dX9_errorPosition_17 : decode cX9_errorPosition 17 = .ok (.aload_n 0, 1) := by decide +kernel
theorem dX9_errorPosition_18 : decode cX9_errorPosition 18 = .ok (.getfield 24, 3) := by decide +kernel
theorem dX9_errorPosition_21 : decode cX9_errorPosition 21 = .ok (.ifCond .ne 10, 3) := by decide +kernel
theorem dX9_errorPosition_24 : decode cX9_errorPosition 24 = .ok (.aload_n 0, 1) := by decide +kernel
theorem dX9_errorPosition_25 : decode cX9_errorPosition 25 = .ok (.getfield 17, 3) := by decide +kernel
theorem dX9_errorPosition_28 : decode cX9_errorPosition 28 = .ok (.goto 4, 3) := by decide +kernel
theorem dX9_errorPosition_31 : decode cX9_errorPosition 31 = .ok (.iconst 0, 1) := by decide +kernel
theorem dX9_errorPosition_32 : decode cX9_errorPosition 32 = .ok (.ireturn, 1) := by decide +kernel
theorem dX9_undo_0 : decode cX9_undo 0 = .ok (.aload_n 0, 1) := by decide +kernel
theorem dX9_undo_1 : decode cX9_undo 1 = .ok (.aload_n 0, 1) := by decide +kernel
theorem dX9_undo_2 : decode cX9_undo 2 = .ok (.getfield 31, 3) := by decide +kernel
theorem dX9_undo_5 : decode cX9_undo 5 = .ok (.ifCond .ne 7, 3) := by decide +kernel
theorem dX9_undo_8 : decode cX9_undo 8 = .ok (.iconst 1, 1) := by decide +kernel
theorem dX9_undo_9 : decode cX9_undo 9 = .ok (.goto 4, 3) := by decide +kernel
theorem dX9_undo_12 : decode cX9_undo 12 = .ok (.iconst 0, 1) := by decide +kernel
theorem dX9_undo_13 : decode cX9_undo 13 = .ok (.putfield 24, 3) := by decide +kernel
theorem dX9_undo_16 : decode cX9_undo 16 = .ok (.aload_n 0, 1) := by decide +kernel
theorem dX9_undo_17 : decode cX9_undo 17 = .ok (.getfield 24, 3) := by decide +kernel
theorem dX9_undo_20 : decode cX9_undo 20 = .ok (.ifCond .eq 5, 3) := by decide +kernel
theorem dX9_undo_23 : decode cX9_undo 23 = .ok (.iconst 0, 1) := by decide +kernel
theorem dX9_undo_24 : decode cX9_undo 24 = .ok (.ireturn, 1) := by decide +kernel
theorem dX9_undo_25 : decode cX9_undo 25 = .ok (.aload_n 0, 1) := by decide +kernel
theorem dX9_undo_26 : decode cX9_undo 26 = .ok (.aload_n 0, 1) := by decide +kernel
theorem dX9_undo_27 : decode cX9_undo 27 = .ok (.getfield 31, 3) := by decide +kernel
theorem dX9_undo_30 : decode cX9_undo 30 = .ok (.iconst 0, 1) := by decide +kernel
theorem dX9_undo_31 : decode cX9_undo 31 = .ok (.invokevirtual 27, 3) := by decide +kernel
theorem dX9_undo_34 : decode cX9_undo 34 = .ok (.aload_n 0, 1) := by decide +kernel
theorem dX9_undo_35 : decode cX9_undo 35 = .ok (.dup, 1) := by decide +kernel
theorem dX9_undo_36 : decode cX9_undo 36 = .ok (.getfield 31, 3) := by decide +kernel
theorem dX9_undo_39 : decode cX9_undo 39 = .ok (.iconst 1, 1) := by decide +kernel
theorem dX9_undo_40 : decode cX9_undo 40 = .ok (.isub, 1) := by decide +kernel
theorem dX9_undo_41 : decode cX9_undo 41 = .ok (.putfield 31, 3) := by decide +kernel
theorem dX9_undo_44 : decode cX9_undo 44 = .ok (.aload_n 0, 1) := by decide +kernel
theorem dX9_undo_45 : decode cX9_undo 45 = .ok (.getfield 31, 3) := by decide +kernel
theorem dX9_undo_48 : decode cX9_undo 48 = .ok (.ireturn, 1) := by decide +kernel
theorem dX9_save_0 : decode cX9_save 0 = .ok (.aload_n 0, 1) := by decide +kernel
theorem dX9_save_1 : decode cX9_save 1 = .ok (.iconst 0, 1) := by decide +kernel
theorem dX9_save_2 : decode cX9_save 2 = .ok (.putfield 24, 3) := by decide +kernel
theorem dX9_save_5 : decode cX9_save 5 = .ok (.aload_n 0, 1) := by decide +kernel
theorem dX9_save_6 : decode cX9_save 6 = .ok (.iconst 1, 1) := by decide +kernel
theorem dX9_save_7 : decode cX9_save 7 = .ok (.putfield 250, 3) := by decide +kernel
theorem dX9_save_10 : decode cX9_save 10 = .ok (.aload_n 0, 1) := by decide +kernel
theorem dX9_save_11 : decode cX9_save 11 = .ok (.iconst 0, 1) := by decide +kernel
theorem dX9_save_12 : decode cX9_save 12 = .ok (.bipush 7, 2) := by decide +kernel
theorem dX9_save_14 : decode cX9_save 14 = .ok (.invokevirtual 27, 3) := by decide +kernel
theorem dX9_save_17 : decode cX9_save 17 = .ok (.aload_n 0, 1) := by decide +kernel
theorem dX9_save_18 : decode cX9_save 18 = .ok (.getfield 9, 3) := by decide +kernel
theorem dX9_save_21 : decode cX9_save 21 = .ok (.bipush 38, 2) := by decide +kernel
theorem dX9_save_23 : decode cX9_save 23 = .ok (.iaload, 1) := by decide +kernel
theorem dX9_save_24 : decode cX9_save 24 = .ok (.ireturn, 1) := by decide +kernel
theorem dX9_restore_0 : decode cX9_restore 0 = .ok (.aload_n 0, 1) := by decide +kernel
theorem dX9_restore_1 : decode cX9_restore 1 = .ok (.aload_n 0, 1) := by decide +kernel
theorem dX9_restore_2 : decode cX9_restore 2 = .ok (.getfield 250, 3) := by decide +kernel
theorem dX9_restore_5 : decode cX9_restore 5 = .ok (.ifCond .eq 7, 3) := by decide +kernel
theorem dX9_restore_8 : decode cX9_restore 8 = .ok (.iconst 0, 1) := by decide +kernel
theorem dX9_restore_9 : decode cX9_restore 9 = .ok (.goto 4, 3) := by decide +kernel
theorem dX9_restore_12 : decode cX9_restore 12 = .ok (.iconst 1, 1) := by decide +kernel
theorem dX9_restore_13 : decode cX9_restore 13 = .ok (.putfield 24, 3) := by decide +kernel
theorem dX9_restore_16 : decode cX9_restore 16 = .ok (.aload_n 0, 1) := by decide +kernel
theorem dX9_restore_17 : decode cX9_restore 17 = .ok (.getfield 24, 3) := by decide +kernel
theorem dX9_restore_20 : decode cX9_restore 20 = .ok (.ifCond .eq 5, 3) := by decide +kernel
theorem dX9_restore_23 : decode cX9_restore 23 = .ok (.iconst 0, 1) := by decide +kernel
theorem dX9_restore_24 : decode cX9_restore 24 = .ok (.ireturn, 1) := by decide +kernel
theorem dX9_restore_25 : decode cX9_restore 25 = .ok (.aload_n 0, 1) := by decide +kernel
theorem dX9_restore_26 : decode cX9_restore 26 = .ok (.bipush 7, 2) := by decide +kernel
theorem dX9_restore_28 : decode cX9_restore 28 = .ok (.iconst 0, 1) := by decide +kernel
theorem dX9_restore_29 : decode cX9_restore 29 = .ok (.invokevirtual 27, 3) := by decide +kernel
theorem dX9_restore_32 : decode cX9_restore 32 = .ok (.aload_n 0, 1) := by decide +kernel
theorem dX9_restore_33 : decode cX9_restore 33 = .ok (.iconst 0, 1) := by decide +kernel
theorem dX9_restore_34 : decode cX9_restore 34 = .ok (.putfield 31, 3) := by decide +kernel
theorem dX9_restore_37 : decode cX9_restore 37 = .ok (.aload_n 0, 1) := by decide +kernel
theorem dX9_restore_38 : decode cX9_restore 38 = .ok (.getfield 9, 3) := by decide +kernel
theorem dX9_restore_41 : decode cX9_restore 41 = .ok (.bipush 38, 2) := by decide +kernel
theorem dX9_restore_43 : decode cX9_restore 43 = .ok (.iaload, 1) := by decide +kernel
theorem dX9_restore_44 : decode cX9_restore 44 = .ok (.ireturn, 1) := by decide +kernel
theorem dJx00060_init_a7421_0 : decode cJx00060_init_a7421 0 = .ok (.aload_n 0, 1) := by decide +kernel
theorem dJx00060_init_a7421_1 : decode cJx00060_init_a7421 1 = .ok (.aload_n 1, 1) := by decide +kernel
theorem dJx00060_init_a7421_2 : decode cJx00060_init_a7421 2 = .ok (.invokespecial 7, 3) := by decide +kernel
theorem dJx00060_init_a7421_5 : decode cJx00060_init_a7421 5 = .ok (.return_, 1) := by decide +kernel
theorem dJ6_bitCount_0f7a4_0 : decode cJ6_bitCount_0f7a4 0 = .ok (.iload_n 0, 1) := by decide +kernel
theorem dJ6_bitCount_0f7a4_1 : decode cJ6_bitCount_0f7a4 1 = .ok (.iload_n 0, 1) := by decide +kernel
theorem dJ6_bitCount_0f7a4_2 : decode cJ6_bitCount_0f7a4 2 = .ok (.iconst 1, 1) := by decide +kernel
theorem dJ6_bitCount_0f7a4_3 : decode cJ6_bitCount_0f7a4 3 = .ok (.iushr, 1) := by decide +kernel
theorem dJ6_bitCount_0f7a4_4 : decode cJ6_bitCount_0f7a4 4 = .ok (.ldc_w 265, 3) := by decide +kernel
theorem dJ6_bitCount_0f7a4_7 : decode cJ6_bitCount_0f7a4 7 = .ok (.iand, 1) := by decide +kernel
theorem dJ6_bitCount_0f7a4_8 : decode cJ6_bitCount_0f7a4 8 = .ok (.isub, 1) := by decide +kernel
theorem dJ6_bitCount_0f7a4_9 : decode cJ6_bitCount_0f7a4 9 = .ok (.istore_n 0, 1) := by decide +kernel
theorem dJ6_bitCount_0f7a4_10 : decode cJ6_bitCount_0f7a4 10 = .ok (.iload_n 0, 1) := by decide +kernel
theorem dJ6_bitCount_0f7a4_11 : decode cJ6_bitCount_0f7a4 11 = .ok (.ldc_w 266, 3) := by decide +kernel
theorem dJ6_bitCount_0f7a4_14 : decode cJ6_bitCount_0f7a4 14 = .ok (.iand, 1) := by decide +kernel
theorem dJ6_bitCount_0f7a4_15 : decode cJ6_bitCount_0f7a4 15 = .ok (.iload_n 0, 1) := by decide +kernel
theorem dJ6_bitCount_0f7a4_16 : decode cJ6_bitCount_0f7a4 16 = .ok (.iconst 2, 1) := by decide +kernel
theorem dJ6_bitCount_0f7a4_17 : decode cJ6_bitCount_0f7a4 17 = .ok (.iushr, 1) := by decide +kernel
theorem dJ6_bitCount_0f7a4_18 : decode cJ6_bitCount_0f7a4 18 = .ok (.ldc_w 266, 3) := by decide +kernel
theorem dJ6_bitCount_0f7a4_21 : decode cJ6_bitCount_0f7a4 21 = .ok (.iand, 1) := by decide +kernel
theorem dJ6_bitCount_0f7a4_22 : decode cJ6_bitCount_0f7a4 22 = .ok (.iadd, 1) := by decide +kernel
theorem dJ6_bitCount_0f7a4_23 : decode cJ6_bitCount_0f7a4 23 = .ok (.istore_n 0, 1) := by decide +kernel
theorem dJ6_bitCount_0f7a4_24 : decode cJ6_bitCount_0f7a4 24 = .ok (.iload_n 0, 1) := by decide +kernel
theorem dJ6_bitCount_0f7a4_25 : decode cJ6_bitCount_0f7a4 25 = .ok (.iload_n 0, 1) := by decide +kernel
theorem dJ6_bitCount_0f7a4_26 : decode cJ6_bitCount_0f7a4 26 = .ok (.iconst 4, 1) := by decide +kernel
theorem dJ6_bitCount_0f7a4_27 : decode cJ6_bitCount_0f7a4 27 = .ok (.iushr, 1) := by decide +kernel
theorem dJ6_bitCount_0f7a4_28 : decode cJ6_bitCount_0f7a4 28 = .ok (.iadd, 1) := by decide +kernel
theorem dJ6_bitCount_0f7a4_29 : decode cJ6_bitCount_0f7a4 29 = .ok (.ldc_w 267, 3) := by decide +kernel
theorem dJ6_bitCount_0f7a4_32 : decode cJ6_bitCount_0f7a4 32 = .ok (.iand, 1) := by decide +kernel
theorem dJ6_bitCount_0f7a4_33 : decode cJ6_bitCount_0f7a4 33 = .ok (.istore_n 0, 1) := by decide +kernel
theorem dJ6_bitCount_0f7a4_34 : decode cJ6_bitCount_0f7a4 34 = .ok (.iload_n 0, 1) := by decide +kernel
theorem dJ6_bitCount_0f7a4_35 : decode cJ6_bitCount_0f7a4 35 = .ok (.iload_n 0, 1) := by decide +kernel
theorem dJ6_bitCount_0f7a4_36 : decode cJ6_bitCount_0f7a4 36 = .ok (.bipush 8, 2) := by decide +kernel
theorem dJ6_bitCount_0f7a4_38 : decode cJ6_bitCount_0f7a4 38 = .ok (.iushr, 1) := by decide +kernel
theorem dJ6_bitCount_0f7a4_39 : decode cJ6_bitCount_0f7a4 39 = .ok (.iadd, 1) := by decide +kernel
theorem dJ6_bitCount_0f7a4_40 : decode cJ6_bitCount_0f7a4 40 = .ok (.istore_n 0, 1) := by decide +kernel
theorem dJ6_bitCount_0f7a4_41 : decode cJ6_bitCount_0f7a4 41 = .ok (.iload_n 0, 1) := by decide +kernel
theorem dJ6_bitCount_0f7a4_42 : decode cJ6_bitCount_0f7a4 42 = .ok (.iload_n 0, 1) := by decide +kernel
theorem dJ6_bitCount_0f7a4_43 : decode cJ6_bitCount_0f7a4 43 = .ok (.bipush 16, 2) := by decide +kernel
theorem dJ6_bitCount_0f7a4_45 : decode cJ6_bitCount_0f7a4 45 = .ok (.iushr, 1) := by decide +kernel
theorem dJ6_bitCount_0f7a4_46 : decode cJ6_bitCount_0f7a4 46 = .ok (.iadd, 1) := by decide +kernel
theorem dJ6_bitCount_0f7a4_47 : decode cJ6_bitCount_0f7a4 47 = .ok (.istore_n 0, 1) := by decide +kernel
theorem dJ6_bitCount_0f7a4_48 : decode cJ6_bitCount_0f7a4 48 = .ok (.iload_n 0, 1) := by decide +kernel
theorem dJ6_bitCount_0f7a4_49 : decode cJ6_bitCount_0f7a4 49 = .ok (.bipush 63, 2) := by decide +kernel
theorem dJ6_bitCount_0f7a4_51 : decode cJ6_bitCount_0f7a4 51 = .ok (.iand, 1) := by decide +kernel
theorem dJ6_bitCount_0f7a4_52 : decode cJ6_bitCount_0f7a4 52 = .ok (.ireturn, 1) := by decide +kernel
theorem dJ9_max_7cf53_0 : decode cJ9_max_7cf53 0 = .ok (.iload_n 0, 1) := by decide +kernel
theorem dJ9_max_7cf53_1 : decode cJ9_max_7cf53 1 = .ok (.iload_n 1, 1) := by decide +kernel
theorem dJ9_max_7cf53_2 : decode cJ9_max_7cf53 2 = .ok (.if_icmp .lt 7, 3) := by decide +kernel
theorem dJ9_max_7cf53_5 : decode cJ9_max_7cf53 5 = .ok (.iload_n 0, 1) := by decide +kernel
theorem dJ9_max_7cf53_6 : decode cJ9_max_7cf53 6 = .ok (.goto 4, 3) := by decide +kernel
theorem dJ9_max_7cf53_9 : decode cJ9_max_7cf53 9 = .ok (.iload_n 1, 1) := by decide +kernel
theorem dJ9_max_7cf53_10 : decode cJ9_max_7cf53 10 = .ok (.ireturn, 1) := by decide +kernel
theorem dJ9_min_7cf53_0 : decode cJ9_min_7cf53 0 = .ok (.iload_n 0, 1) := by decide +kernel
theorem dJ9_min_7cf53_1 : decode cJ9_min_7cf53 1 = .ok (.iload_n 1, 1) := by decide +kernel
theorem dJ9_min_7cf53_2 : decode cJ9_min_7cf53 2 = .ok (.if_icmp .gt 7, 3) := by decide +kernel
theorem dJ9_min_7cf53_5 : decode cJ9_min_7cf53 5 = .ok (.iload_n 0, 1) := by decide +kernel
theorem dJ9_min_7cf53_6 : decode cJ9_min_7cf53 6 = .ok (.goto 4, 3) := by decide +kernel
theorem dJ9_min_7cf53_9 : decode cJ9_min_7cf53 9 = .ok (.iload_n 1, 1) := by decide +kernel
theorem dJ9_min_7cf53_10 : decode cJ9_min_7cf53 10 = .ok (.ireturn, 1) := by decide +kernel
theorem dJ0_length_8abf5_0 : decode cJ0_length_8abf5 0 = .ok (.aload_n 0, 1) := by decide +kernel
theorem dJ0_length_8abf5_1 : decode cJ0_length_8abf5 1 = .ok (.getfield 9, 3) := by decide +kernel
theorem dJ0_length_8abf5_4 : decode cJ0_length_8abf5 4 = .ok (.arraylength, 1) := by decide +kernel
theorem dJ0_length_8abf5_5 : decode cJ0_length_8abf5 5 = .ok (.aload_n 0, 1) := by decide +kernel
theorem dJ0_length_8abf5_6 : decode cJ0_length_8abf5 6 = .ok (.invokevirtual 335, 3) := by decide +kernel
theorem dJ0_length_8abf5_9 : decode cJ0_length_8abf5 9 = .ok (.ishr, 1) := by decide +kernel
theorem dJ0_length_8abf5_10 : decode cJ0_length_8abf5 10 = .ok (.ireturn, 1) := by decide +kernel
theorem dJ0_isEmpty_aae02_0 : decode cJ0_isEmpty_aae02 0 = .ok (.aload_n 0, 1) := by decide +kernel
theorem dJ0_isEmpty_aae02_1 : decode cJ0_isEmpty_aae02 1 = .ok (.getfield 9, 3) := by decide +kernel
theorem dJ0_isEmpty_aae02_4 : decode cJ0_isEmpty_aae02 4 = .ok (.arraylength, 1) := by decide +kernel
theorem dJ0_isEmpty_aae02_5 : decode cJ0_isEmpty_aae02 5 = .ok (.ifCond .ne 7, 3) := by decide +kernel
theorem dJ0_isEmpty_aae02_8 : decode cJ0_isEmpty_aae02 8 = .ok (.iconst 1, 1) := by decide +kernel
theorem dJ0_isEmpty_aae02_9 : decode cJ0_isEmpty_aae02 9 = .ok (.goto 4, 3) := by decide +kernel
theorem dJ0_isEmpty_aae02_12 : decode cJ0_isEmpty_aae02 12 = .ok (.iconst 0, 1) := by decide +kernel
theorem dJ0_isEmpty_aae02_13 : decode cJ0_isEmpty_aae02 13 = .ok (.ireturn, 1) := by decide +kernel
theorem dJ0_charAt_5068e_0 : decode cJ0_charAt_5068e 0 = .ok (.aload_n 0, 1) := by decide +kernel
theorem dJ0_charAt_5068e_1 : decode cJ0_charAt_5068e 1 = .ok (.invokevirtual 492, 3) := by decide +kernel
theorem dJ0_charAt_5068e_4 : decode cJ0_charAt_5068e 4 = .ok (.ifCond .eq 12, 3) := by decide +kernel
theorem dJ0_charAt_5068e_7 : decode cJ0_charAt_5068e 7 = .ok (.aload_n 0, 1) := by decide +kernel
theorem dJ0_charAt_5068e_8 : decode cJ0_charAt_5068e 8 = .ok (.getfield 9, 3) := by decide +kernel
theorem dJ0_charAt_5068e_11 : decode cJ0_charAt_5068e 11 = .ok (.iload_n 1, 1) := by decide +kernel
theorem dJ0_charAt_5068e_12 : decode cJ0_charAt_5068e 12 = .ok (.invokestatic 495, 3) := by decide +kernel
theorem dJ0_charAt_5068e_15 : decode cJ0_charAt_5068e 15 = .ok (.ireturn, 1) := by decide +kernel
theorem dJ0_charAt_5068e_16 : decode cJ0_charAt_5068e 16 = .ok (.aload_n 0, 1) := by decide +kernel
theorem dJ0_charAt_5068e_17 : decode cJ0_charAt_5068e 17 = .ok (.getfield 9, 3) := by decide +kernel
theorem dJ0_charAt_5068e_20 : decode cJ0_charAt_5068e 20 = .ok (.iload_n 1, 1) := by decide +kernel
theorem dJ0_charAt_5068e_21 : decode cJ0_charAt_5068e 21 = .ok (.invokestatic 498, 3) := by decide +kernel
theorem dJ0_charAt_5068e_24 : decode cJ0_charAt_5068e 24 = .ok (.ireturn, 1) := by decide +kernel
theorem dJ0_coder_7d493_0 : decode cJ0_coder_7d493 0 = .ok (.getstatic 38, 3) := by decide +kernel
theorem dJ0_coder_7d493_3 : decode cJ0_coder_7d493 3 = .ok (.ifCond .eq 10, 3) := by decide +kernel
theorem dJ0_coder_7d493_6 : decode cJ0_coder_7d493 6 = .ok (.aload_n 0, 1) := by decide +kernel
theorem dJ0_coder_7d493_7 : decode cJ0_coder_7d493 7 = .ok (.getfield 15, 3) := by decide +kernel
theorem dJ0_coder_7d493_10 : decode cJ0_coder_7d493 10 = .ok (.goto 4, 3) := by decide +kernel
theorem dJ0_coder_7d493_13 : decode cJ0_coder_7d493 13 = .ok (.iconst 1, 1) := by decide +kernel
theorem dJ0_coder_7d493_14 : decode cJ0_coder_7d493 14 = .ok (.ireturn, 1) := by decide +kernel
theorem dJ0_isLatin1_aae02_0 : decode cJ0_isLatin1_aae02 0 = .ok (.getstatic 38, 3) := by decide +kernel
theorem dJ0_isLatin1_aae02_3 : decode cJ0_isLatin1_aae02 3 = .ok (.ifCond .eq 14, 3) := by decide +kernel
theorem dJ0_isLatin1_aae02_6 : decode cJ0_isLatin1_aae02 6 = .ok (.aload_n 0, 1) := by decide +kernel
theorem dJ0_isLatin1_aae02_7 : decode cJ0_isLatin1_aae02 7 = .ok (.getfield 15, 3) := by decide +kernel
theorem dJ0_isLatin1_aae02_10 : decode cJ0_isLatin1_aae02 10 = .ok (.ifCond .ne 7, 3) := by decide +kernel
theorem dJ0_isLatin1_aae02_13 : decode cJ0_isLatin1_aae02 13 = .ok (.iconst 1, 1) := by decide +kernel
theorem dJ0_isLatin1_aae02_14 : decode cJ0_isLatin1_aae02 14 = .ok (.goto 4, 3) := by decide +kernel
theorem dJ0_isLatin1_aae02_17 : decode cJ0_isLatin1_aae02 17 = .ok (.iconst 0, 1) := by decide +kernel
theorem dJ0_isLatin1_aae02_18 : decode cJ0_isLatin1_aae02 18 = .ok (.ireturn, 1) := by decide +kernel
theorem dJ0_checkIndex_df160_0 : decode cJ0_checkIndex_df160 0 = .ok (.iload_n 0, 1) := by decide +kernel
theorem dJ0_checkIndex_df160_1 : decode cJ0_checkIndex_df160 1 = .ok (.iload_n 1, 1) := by decide +kernel
theorem dJ0_checkIndex_df160_2 : decode cJ0_checkIndex_df160 2 = .ok (.getstatic 1053, 3) := by decide +kernel
theorem dJ0_checkIndex_df160_5 : decode cJ0_checkIndex_df160 5 = .ok (.invokestatic 1059, 3) := by decide +kernel
theorem dJ0_checkIndex_df160_8 : decode cJ0_checkIndex_df160 8 = .ok (.pop, 1) := by decide +kernel
theorem dJ0_checkIndex_df160_9 : decode cJ0_checkIndex_df160 9 = .ok (.return_, 1) := by decide +kernel
theorem dJ1_charAt_3b067_0 : decode cJ1_charAt_3b067 0 = .ok (.iload_n 1, 1) := by decide +kernel
theorem dJ1_charAt_3b067_1 : decode cJ1_charAt_3b067 1 = .ok (.aload_n 0, 1) := by decide +kernel
theorem dJ1_charAt_3b067_2 : decode cJ1_charAt_3b067 2 = .ok (.arraylength, 1) := by decide +kernel
theorem dJ1_charAt_3b067_3 : decode cJ1_charAt_3b067 3 = .ok (.invokestatic 9, 3) := by decide +kernel
theorem dJ1_charAt_3b067_6 : decode cJ1_charAt_3b067 6 = .ok (.aload_n 0, 1) := by decide +kernel
theorem dJ1_charAt_3b067_7 : decode cJ1_charAt_3b067 7 = .ok (.iload_n 1, 1) := by decide +kernel
theorem dJ1_charAt_3b067_8 : decode cJ1_charAt_3b067 8 = .ok (.baload, 1) := by decide +kernel
theorem dJ1_charAt_3b067_9 : decode cJ1_charAt_3b067 9 = .ok (.sipush 255, 3) := by decide +kernel
theorem dJ1_charAt_3b067_12 : decode cJ1_charAt_3b067 12 = .ok (.iand, 1) := by decide +kernel
theorem dJ1_charAt_3b067_13 : decode cJ1_charAt_3b067 13 = .ok (.i2c, 1) := by decide +kernel
theorem dJ1_charAt_3b067_14 : decode cJ1_charAt_3b067 14 = .ok (.ireturn, 1) := by decide +kernel
theorem dJ2_getChar_3b067_0 : decode cJ2_getChar_3b067 0 = .ok (.getstatic 44, 3) := by decide +kernel
theorem dJ2_getChar_3b067_3 : decode cJ2_getChar_3b067 3 = .ok (.ifCond .ne 25, 3) := by decide +kernel
theorem dJ2_getChar_3b067_6 : decode cJ2_getChar_3b067 6 = .ok (.iload_n 1, 1) := by decide +kernel
theorem dJ2_getChar_3b067_7 : decode cJ2_getChar_3b067 7 = .ok (.ifCond .lt 11, 3) := by decide +kernel
theorem dJ2_getChar_3b067_10 : decode cJ2_getChar_3b067 10 = .ok (.iload_n 1, 1) := by decide +kernel
theorem dJ2_getChar_3b067_11 : decode cJ2_getChar_3b067 11 = .ok (.aload_n 0, 1) := by decide +kernel
theorem dJ2_getChar_3b067_12 : decode cJ2_getChar_3b067 12 = .ok (.invokestatic 48, 3) := by decide +kernel
theorem dJ2_getChar_3b067_15 : decode cJ2_getChar_3b067 15 = .ok (.if_icmp .lt 13, 3) := by decide +kernel
theorem dJ2_getChar_3b067_18 : decode cJ2_getChar_3b067 18 = .ok (.new 52, 3) := by decide +kernel
theorem dJ2_getChar_3b067_21 : decode cJ2_getChar_3b067 21 = .ok (.dup, 1) := by decide +kernel
theorem dJ2_getChar_3b067_22 : decode cJ2_getChar_3b067 22 = .ok (.ldc 54, 2) := by decide +kernel
theorem dJ2_getChar_3b067_24 : decode cJ2_getChar_3b067 24 = .ok (.invokespecial 56, 3) := by decide +kernel
theorem dJ2_getChar_3b067_27 : decode cJ2_getChar_3b067 27 = .ok (.athrow, 1) := by decide +kernel
theorem dJ2_getChar_3b067_28 : decode cJ2_getChar_3b067 28 = .ok (.iload_n 1, 1) := by decide +kernel
theorem dJ2_getChar_3b067_29 : decode cJ2_getChar_3b067 29 = .ok (.iconst 1, 1) := by decide +kernel
theorem dJ2_getChar_3b067_30 : decode cJ2_getChar_3b067 30 = .ok (.ishl, 1) := by decide +kernel
theorem dJ2_getChar_3b067_31 : decode cJ2_getChar_3b067 31 = .ok (.istore_n 1, 1) := by decide +kernel
theorem dJ2_getChar_3b067_32 : decode cJ2_getChar_3b067 32 = .ok (.aload_n 0, 1) := by decide +kernel
theorem dJ2_getChar_3b067_33 : decode cJ2_getChar_3b067 33 = .ok (.iload_n 1, 1) := by decide +kernel
theorem dJ2_getChar_3b067_34 : decode cJ2_getChar_3b067 34 = .ok (.iinc 1 1, 3) := by decide +kernel
theorem dJ2_getChar_3b067_37 : decode cJ2_getChar_3b067 37 = .ok (.baload, 1) := by decide +kernel
theorem dJ2_getChar_3b067_38 : decode cJ2_getChar_3b067 38 = .ok (.sipush 255, 3) := by decide +kernel
theorem dJ2_getChar_3b067_41 : decode cJ2_getChar_3b067 41 = .ok (.iand, 1) := by decide +kernel
theorem dJ2_getChar_3b067_42 : decode cJ2_getChar_3b067 42 = .ok (.getstatic 59, 3) := by decide +kernel
theorem dJ2_getChar_3b067_45 : decode cJ2_getChar_3b067 45 = .ok (.ishl, 1) := by decide +kernel
theorem dJ2_getChar_3b067_46 : decode cJ2_getChar_3b067 46 = .ok (.aload_n 0, 1) := by decide +kernel
theorem dJ2_getChar_3b067_47 : decode cJ2_getChar_3b067 47 = .ok (.iload_n 1, 1) := by decide +kernel
theorem dJ2_getChar_3b067_48 : decode cJ2_getChar_3b067 48 = .ok (.baload, 1) := by decide +kernel
theorem dJ2_getChar_3b067_49 : decode cJ2_getChar_3b067 49 = .ok (.sipush 255, 3) := by decide +kernel
theorem dJ2_getChar_3b067_52 : decode cJ2_getChar_3b067 52 = .ok (.iand, 1) := by decide +kernel
theorem dJ2_getChar_3b067_53 : decode cJ2_getChar_3b067 53 = .ok (.getstatic 63, 3) := by decide +kernel
theorem dJ2_getChar_3b067_56 : decode cJ2_getChar_3b067 56 = .ok (.ishl, 1) := by decide +kernel
theorem dJ2_getChar_3b067_57 : decode cJ2_getChar_3b067 57 = .ok (.ior, 1) := by decide +kernel
theorem dJ2_getChar_3b067_58 : decode cJ2_getChar_3b067 58 = .ok (.i2c, 1) := by decide +kernel
theorem dJ2_getChar_3b067_59 : decode cJ2_getChar_3b067 59 = .ok (.ireturn, 1) := by decide +kernel
theorem dJ2_length_9d52b_0 : decode cJ2_length_9d52b 0 = .ok (.aload_n 0, 1) := by decide +kernel
theorem dJ2_length_9d52b_1 : decode cJ2_length_9d52b 1 = .ok (.arraylength, 1) := by decide +kernel
theorem dJ2_length_9d52b_2 : decode cJ2_length_9d52b 2 = .ok (.iconst 1, 1) := by decide +kernel
theorem dJ2_length_9d52b_3 : decode cJ2_length_9d52b 3 = .ok (.ishr, 1) := by decide +kernel
theorem dJ2_length_9d52b_4 : decode cJ2_length_9d52b 4 = .ok (.ireturn, 1) := by decide +kernel
theorem dJ2_charAt_3b067_0 : decode cJ2_charAt_3b067 0 = .ok (.iload_n 1, 1) := by decide +kernel
theorem dJ2_charAt_3b067_1 : decode cJ2_charAt_3b067 1 = .ok (.aload_n 0, 1) := by decide +kernel
theorem dJ2_charAt_3b067_2 : decode cJ2_charAt_3b067 2 = .ok (.invokestatic 67, 3) := by decide +kernel
theorem dJ2_charAt_3b067_5 : decode cJ2_charAt_3b067 5 = .ok (.aload_n 0, 1) := by decide +kernel
theorem dJ2_charAt_3b067_6 : decode cJ2_charAt_3b067 6 = .ok (.iload_n 1, 1) := by decide +kernel
theorem dJ2_charAt_3b067_7 : decode cJ2_charAt_3b067 7 = .ok (.invokestatic 71, 3) := by decide +kernel
theorem dJ2_charAt_3b067_10 : decode cJ2_charAt_3b067 10 = .ok (.ireturn, 1) := by decide +kernel
theorem dJ2_checkIndex_2214a_0 : decode cJ2_checkIndex_2214a 0 = .ok (.iload_n 0, 1) := by decide +kernel
theorem dJ2_checkIndex_2214a_1 : decode cJ2_checkIndex_2214a 1 = .ok (.aload_n 1, 1) := by decide +kernel
theorem dJ2_checkIndex_2214a_2 : decode cJ2_checkIndex_2214a 2 = .ok (.invokestatic 48, 3) := by decide +kernel
theorem dJ2_checkIndex_2214a_5 : decode cJ2_checkIndex_2214a 5 = .ok (.invokestatic 414, 3) := by decide +kernel
theorem dJ2_checkIndex_2214a_8 : decode cJ2_checkIndex_2214a 8 = .ok (.return_, 1) := by decide +kernel
theorem dJ3_checkIndex_8e157_0 : decode cJ3_checkIndex_8e157 0 = .ok (.iload_n 0, 1) := by decide +kernel
theorem dJ3_checkIndex_8e157_1 : decode cJ3_checkIndex_8e157 1 = .ok (.ifCond .lt 8, 3) := by decide +kernel
theorem dJ3_checkIndex_8e157_4 : decode cJ3_checkIndex_8e157 4 = .ok (.iload_n 0, 1) := by decide +kernel
theorem dJ3_checkIndex_8e157_5 : decode cJ3_checkIndex_8e157 5 = .ok (.iload_n 1, 1) := by decide +kernel
theorem dJ3_checkIndex_8e157_6 : decode cJ3_checkIndex_8e157 6 = .ok (.if_icmp .lt 10, 3) := by decide +kernel
theorem dJ3_checkIndex_8e157_9 : decode cJ3_checkIndex_8e157 9 = .ok (.aload_n 2, 1) := by decide +kernel
theorem dJ3_checkIndex_8e157_10 : decode cJ3_checkIndex_8e157 10 = .ok (.iload_n 0, 1) := by decide +kernel
theorem dJ3_checkIndex_8e157_11 : decode cJ3_checkIndex_8e157 11 = .ok (.iload_n 1, 1) := by decide +kernel
theorem dJ3_checkIndex_8e157_12 : decode cJ3_checkIndex_8e157 12 = .ok (.invokestatic 95, 3) := by decide +kernel
theorem dJ3_checkIndex_8e157_15 : decode cJ3_checkIndex_8e157 15 = .ok (.athrow, 1) := by decide +kernel
theorem dJ3_checkIndex_8e157_16 : decode cJ3_checkIndex_8e157 16 = .ok (.iload_n 0, 1) := by decide +kernel
theorem dJ3_checkIndex_8e157_17 : decode cJ3_checkIndex_8e157 17 = .ok (.ireturn, 1) := by decide +kernel
theorem dL_setSeats_0 : decode cL_setSeats 0 = .ok (.aload_n 3, 1) := by decide +kernel
theorem dL_setSeats_1 : decode cL_setSeats 1 = .ok (.iconst 0, 1) := by decide +kernel
theorem dL_setSeats_2 : decode cL_setSeats 2 = .ok (.aload_n 0, 1) := by decide +kernel
theorem dL_setSeats_3 : decode cL_setSeats 3 = .ok (.iload_n 1, 1) := by decide +kernel
theorem dL_setSeats_4 : decode cL_setSeats 4 = .ok (.iload_n 2, 1) := by decide +kernel
theorem dL_setSeats_5 : decode cL_setSeats 5 = .ok (.invokevirtual 7, 3) := by decide +kernel
theorem dL_setSeats_8 : decode cL_setSeats 8 = .ok (.i2l, 1) := by decide +kernel
theorem dL_setSeats_9 : decode cL_setSeats 9 = .ok (.lastore, 1) := by decide +kernel
theorem dL_setSeats_10 : decode cL_setSeats 10 = .ok (.goto 15, 3) := by decide +kernel
theorem dL_setSeats_13 : decode cL_setSeats 13 = .ok (.astore 4, 2) := by decide +kernel
theorem dL_setSeats_15 : decode cL_setSeats 15 = .ok (.iconst 1, 1) := by decide +kernel
theorem dL_setSeats_16 : decode cL_setSeats 16 = .ok (.ireturn, 1) := by decide +kernel
theorem dL_setSeats_17 : decode cL_setSeats 17 = .ok (.astore 4, 2) := by decide +kernel
theorem dL_setSeats_19 : decode cL_setSeats 19 = .ok (.iconst 2, 1) := by decide +kernel
theorem dL_setSeats_20 : decode cL_setSeats 20 = .ok (.ireturn, 1) := by decide +kernel
theorem dL_setSeats_21 : decode cL_setSeats 21 = .ok (.astore 4, 2) := by decide +kernel
theorem dL_setSeats_23 : decode cL_setSeats 23 = .ok (.iconst 3, 1) := by decide +kernel
theorem dL_setSeats_24 : decode cL_setSeats 24 = .ok (.ireturn, 1) := by decide +kernel
theorem dL_setSeats_25 : decode cL_setSeats 25 = .ok (.iconst 0, 1) := by decide +kernel
theorem dL_setSeats_26 : decode cL_setSeats 26 = .ok (.ireturn, 1) := by decide +kernel
theorem dL_setStaff_0 : decode cL_setStaff 0 = .ok (.aload_n 2, 1) := by decide +kernel
theorem dL_setStaff_1 : decode cL_setStaff 1 = .ok (.iconst 0, 1) := by decide +kernel
theorem dL_setStaff_2 : decode cL_setStaff 2 = .ok (.aload_n 0, 1) := by decide +kernel
theorem dL_setStaff_3 : decode cL_setStaff 3 = .ok (.iload_n 1, 1) := by decide +kernel
theorem dL_setStaff_4 : decode cL_setStaff 4 = .ok (.invokevirtual 19, 3) := by decide +kernel
theorem dL_setStaff_7 : decode cL_setStaff 7 = .ok (.i2l, 1) := by decide +kernel
theorem dL_setStaff_8 : decode cL_setStaff 8 = .ok (.lastore, 1) := by decide +kernel
theorem dL_setStaff_9 : decode cL_setStaff 9 = .ok (.goto 9, 3) := by decide +kernel
theorem dL_setStaff_12 : decode cL_setStaff 12 = .ok (.astore_n 3, 1) := by decide +kernel
theorem dL_setStaff_13 : decode cL_setStaff 13 = .ok (.iconst 1, 1) := by decide +kernel
theorem dL_setStaff_14 : decode cL_setStaff 14 = .ok (.ireturn, 1) := by decide +kernel
theorem dL_setStaff_15 : decode cL_setStaff 15 = .ok (.astore_n 3, 1) := by decide +kernel
theorem dL_setStaff_16 : decode cL_setStaff 16 = .ok (.iconst 2, 1) := by decide +kernel
theorem dL_setStaff_17 : decode cL_setStaff 17 = .ok (.ireturn, 1) := by decide +kernel
theorem dL_setStaff_18 : decode cL_setStaff 18 = .ok (.iconst 0, 1) := by decide +kernel
theorem dL_setStaff_19 : decode cL_setStaff 19 = .ok (.ireturn, 1) := by decide +kernel
theorem dL_setRoom_0 : decode cL_setRoom 0 = .ok (.aload_n 2, 1) := by decide +kernel
theorem dL_setRoom_1 : decode cL_setRoom 1 = .ok (.iconst 0, 1) := by decide +kernel
theorem dL_setRoom_2 : decode cL_setRoom 2 = .ok (.aload_n 0, 1) := by decide +kernel
theorem dL_setRoom_3 : decode cL_setRoom 3 = .ok (.iload_n 1, 1) := by decide +kernel
theorem dL_setRoom_4 : decode cL_setRoom 4 = .ok (.invokevirtual 23, 3) := by decide +kernel
theorem dL_setRoom_7 : decode cL_setRoom 7 = .ok (.i2l, 1) := by decide +kernel
theorem dL_setRoom_8 : decode cL_setRoom 8 = .ok (.lastore, 1) := by decide +kernel
theorem dL_setRoom_9 : decode cL_setRoom 9 = .ok (.goto 9, 3) := by decide +kernel
theorem dL_setRoom_12 : decode cL_setRoom 12 = .ok (.astore_n 3, 1) := by decide +kernel
theorem dL_setRoom_13 : decode cL_setRoom 13 = .ok (.iconst 1, 1) := by decide +kernel
theorem dL_setRoom_14 : decode cL_setRoom 14 = .ok (.ireturn, 1) := by decide +kernel
theorem dL_setRoom_15 : decode cL_setRoom 15 = .ok (.astore_n 3, 1) := by decide +kernel
theorem dL_setRoom_16 : decode cL_setRoom 16 = .ok (.iconst 2, 1) := by decide +kernel
theorem dL_setRoom_17 : decode cL_setRoom 17 = .ok (.ireturn, 1) := by decide +kernel
theorem dL_setRoom_18 : decode cL_setRoom 18 = .ok (.iconst 0, 1) := by decide +kernel
theorem dL_setRoom_19 : decode cL_setRoom 19 = .ok (.ireturn, 1) := by decide +kernel
theorem dL_addProduction_0 : decode cL_addProduction 0 = .ok (.aload 5, 2) := by decide +kernel
theorem dL_addProduction_2 : decode cL_addProduction 2 = .ok (.iconst 0, 1) := by decide +kernel
theorem dL_addProduction_3 : decode cL_addProduction 3 = .ok (.aload_n 0, 1) := by decide +kernel
theorem dL_addProduction_4 : decode cL_addProduction 4 = .ok (.iload_n 1, 1) := by decide +kernel
theorem dL_addProduction_5 : decode cL_addProduction 5 = .ok (.iload_n 2, 1) := by decide +kernel
theorem dL_addProduction_6 : decode cL_addProduction 6 = .ok (.iload_n 3, 1) := by decide +kernel
theorem dL_addProduction_7 : decode cL_addProduction 7 = .ok (.iload 4, 2) := by decide +kernel
theorem dL_addProduction_9 : decode cL_addProduction 9 = .ok (.invokevirtual 26, 3) := by decide +kernel
theorem dL_addProduction_12 : decode cL_addProduction 12 = .ok (.i2l, 1) := by decide +kernel
theorem dL_addProduction_13 : decode cL_addProduction 13 = .ok (.lastore, 1) := by decide +kernel
theorem dL_addProduction_14 : decode cL_addProduction 14 = .ok (.goto 11, 3) := by decide +kernel
theorem dL_addProduction_17 : decode cL_addProduction 17 = .ok (.astore 6, 2) := by decide +kernel
theorem dL_addProduction_19 : decode cL_addProduction 19 = .ok (.iconst 1, 1) := by decide +kernel
theorem dL_addProduction_20 : decode cL_addProduction 20 = .ok (.ireturn, 1) := by decide +kernel
theorem dL_addProduction_21 : decode cL_addProduction 21 = .ok (.astore 6, 2) := by decide +kernel
theorem dL_addProduction_23 : decode cL_addProduction 23 = .ok (.iconst 2, 1) := by decide +kernel
theorem dL_addProduction_24 : decode cL_addProduction 24 = .ok (.ireturn, 1) := by decide +kernel
theorem dL_addProduction_25 : decode cL_addProduction 25 = .ok (.iconst 0, 1) := by decide +kernel
theorem dL_addProduction_26 : decode cL_addProduction 26 = .ok (.ireturn, 1) := by decide +kernel
theorem dL_production_0 : decode cL_production 0 = .ok (.aload_n 3, 1) := by decide +kernel
theorem dL_production_1 : decode cL_production 1 = .ok (.iconst 0, 1) := by decide +kernel
theorem dL_production_2 : decode cL_production 2 = .ok (.aload_n 0, 1) := by decide +kernel
theorem dL_production_3 : decode cL_production 3 = .ok (.iload_n 1, 1) := by decide +kernel
theorem dL_production_4 : decode cL_production 4 = .ok (.iload_n 2, 1) := by decide +kernel
theorem dL_production_5 : decode cL_production 5 = .ok (.invokevirtual 32, 3) := by decide +kernel
theorem dL_production_8 : decode cL_production 8 = .ok (.i2l, 1) := by decide +kernel
theorem dL_production_9 : decode cL_production 9 = .ok (.lastore, 1) := by decide +kernel
theorem dL_production_10 : decode cL_production 10 = .ok (.goto 11, 3) := by decide +kernel
theorem dL_production_13 : decode cL_production 13 = .ok (.astore 4, 2) := by decide +kernel
theorem dL_production_15 : decode cL_production 15 = .ok (.iconst 1, 1) := by decide +kernel
theorem dL_production_16 : decode cL_production 16 = .ok (.ireturn, 1) := by decide +kernel
theorem dL_production_17 : decode cL_production 17 = .ok (.astore 4, 2) := by decide +kernel
theorem dL_production_19 : decode cL_production 19 = .ok (.iconst 2, 1) := by decide +kernel
theorem dL_production_20 : decode cL_production 20 = .ok (.ireturn, 1) := by decide +kernel
theorem dL_production_21 : decode cL_production 21 = .ok (.iconst 0, 1) := by decide +kernel
theorem dL_production_22 : decode cL_production 22 = .ok (.ireturn, 1) := by decide +kernel
theorem dL_perform_0 : decode cL_perform 0 = .ok (.aload 4, 2) := by decide +kernel
theorem dL_perform_2 : decode cL_perform 2 = .ok (.iconst 0, 1) := by decide +kernel
theorem dL_perform_3 : decode cL_perform 3 = .ok (.aload_n 0, 1) := by decide +kernel
theorem dL_perform_4 : decode cL_perform 4 = .ok (.iload_n 1, 1) := by decide +kernel
theorem dL_perform_5 : decode cL_perform 5 = .ok (.iload_n 2, 1) := by decide +kernel
theorem dL_perform_6 : decode cL_perform 6 = .ok (.iload_n 3, 1) := by decide +kernel
theorem dL_perform_7 : decode cL_perform 7 = .ok (.invokevirtual 35, 3) := by decide +kernel
theorem dL_perform_10 : decode cL_perform 10 = .ok (.i2l, 1) := by decide +kernel
theorem dL_perform_11 : decode cL_perform 11 = .ok (.lastore, 1) := by decide +kernel
theorem dL_perform_12 : decode cL_perform 12 = .ok (.goto 19, 3) := by decide +kernel
theorem dL_perform_15 : decode cL_perform 15 = .ok (.astore 5, 2) := by decide +kernel
theorem dL_perform_17 : decode cL_perform 17 = .ok (.iconst 1, 1) := by decide +kernel
theorem dL_perform_18 : decode cL_perform 18 = .ok (.ireturn, 1) := by decide +kernel
theorem dL_perform_19 : decode cL_perform 19 = .ok (.astore 5, 2) := by decide +kernel
theorem dL_perform_21 : decode cL_perform 21 = .ok (.iconst 2, 1) := by decide +kernel
theorem dL_perform_22 : decode cL_perform 22 = .ok (.ireturn, 1) := by decide +kernel
theorem dL_perform_23 : decode cL_perform 23 = .ok (.astore 5, 2) := by decide +kernel
theorem dL_perform_25 : decode cL_perform 25 = .ok (.iconst 3, 1) := by decide +kernel
theorem dL_perform_26 : decode cL_perform 26 = .ok (.ireturn, 1) := by decide +kernel
theorem dL_perform_27 : decode cL_perform 27 = .ok (.astore 5, 2) := by decide +kernel
theorem dL_perform_29 : decode cL_perform 29 = .ok (.iconst 4, 1) := by decide +kernel
theorem dL_perform_30 : decode cL_perform 30 = .ok (.ireturn, 1) := by decide +kernel
theorem dL_perform_31 : decode cL_perform 31 = .ok (.iconst 0, 1) := by decide +kernel
theorem dL_perform_32 : decode cL_perform 32 = .ok (.ireturn, 1) := by decide +kernel
theorem dL_cancel_0 : decode cL_cancel 0 = .ok (.aload_n 2, 1) := by decide +kernel
theorem dL_cancel_1 : decode cL_cancel 1 = .ok (.iconst 0, 1) := by decide +kernel
theorem dL_cancel_2 : decode cL_cancel 2 = .ok (.aload_n 0, 1) := by decide +kernel
theorem dL_cancel_3 : decode cL_cancel 3 = .ok (.iload_n 1, 1) := by decide +kernel
theorem dL_cancel_4 : decode cL_cancel 4 = .ok (.invokevirtual 39, 3) := by decide +kernel
theorem dL_cancel_7 : decode cL_cancel 7 = .ok (.i2l, 1) := by decide +kernel
theorem dL_cancel_8 : decode cL_cancel 8 = .ok (.lastore, 1) := by decide +kernel
theorem dL_cancel_9 : decode cL_cancel 9 = .ok (.goto 9, 3) := by decide +kernel
theorem dL_cancel_12 : decode cL_cancel 12 = .ok (.astore_n 3, 1) := by decide +kernel
theorem dL_cancel_13 : decode cL_cancel 13 = .ok (.iconst 1, 1) := by decide +kernel
theorem dL_cancel_14 : decode cL_cancel 14 = .ok (.ireturn, 1) := by decide +kernel
theorem dL_cancel_15 : decode cL_cancel 15 = .ok (.astore_n 3, 1) := by decide +kernel
theorem dL_cancel_16 : decode cL_cancel 16 = .ok (.iconst 2, 1) := by decide +kernel
theorem dL_cancel_17 : decode cL_cancel 17 = .ok (.ireturn, 1) := by decide +kernel
theorem dL_cancel_18 : decode cL_cancel 18 = .ok (.iconst 0, 1) := by decide +kernel
theorem dL_cancel_19 : decode cL_cancel 19 = .ok (.ireturn, 1) := by decide +kernel
theorem dL_move_0 : decode cL_move 0 = .ok (.aload_n 3, 1) := by decide +kernel
theorem dL_move_1 : decode cL_move 1 = .ok (.iconst 0, 1) := by decide +kernel
theorem dL_move_2 : decode cL_move 2 = .ok (.aload_n 0, 1) := by decide +kernel
theorem dL_move_3 : decode cL_move 3 = .ok (.iload_n 1, 1) := by decide +kernel
theorem dL_move_4 : decode cL_move 4 = .ok (.iload_n 2, 1) := by decide +kernel
theorem dL_move_5 : decode cL_move 5 = .ok (.invokevirtual 42, 3) := by decide +kernel
theorem dL_move_8 : decode cL_move 8 = .ok (.i2l, 1) := by decide +kernel
theorem dL_move_9 : decode cL_move 9 = .ok (.lastore, 1) := by decide +kernel
theorem dL_move_10 : decode cL_move 10 = .ok (.goto 15, 3) := by decide +kernel
theorem dL_move_13 : decode cL_move 13 = .ok (.astore 4, 2) := by decide +kernel
theorem dL_move_15 : decode cL_move 15 = .ok (.iconst 1, 1) := by decide +kernel
theorem dL_move_16 : decode cL_move 16 = .ok (.ireturn, 1) := by decide +kernel
theorem dL_move_17 : decode cL_move 17 = .ok (.astore 4, 2) := by decide +kernel
theorem dL_move_19 : decode cL_move 19 = .ok (.iconst 2, 1) := by decide +kernel
theorem dL_move_20 : decode cL_move 20 = .ok (.ireturn, 1) := by decide +kernel
theorem dL_move_21 : decode cL_move 21 = .ok (.astore 4, 2) := by decide +kernel
theorem dL_move_23 : decode cL_move 23 = .ok (.iconst 3, 1) := by decide +kernel
theorem dL_move_24 : decode cL_move 24 = .ok (.ireturn, 1) := by decide +kernel
theorem dL_move_25 : decode cL_move 25 = .ok (.iconst 0, 1) := by decide +kernel
theorem dL_move_26 : decode cL_move 26 = .ok (.ireturn, 1) := by decide +kernel
theorem dL_performance_0 : decode cL_performance 0 = .ok (.aload_n 3, 1) := by decide +kernel
theorem dL_performance_1 : decode cL_performance 1 = .ok (.iconst 0, 1) := by decide +kernel
theorem dL_performance_2 : decode cL_performance 2 = .ok (.aload_n 0, 1) := by decide +kernel
theorem dL_performance_3 : decode cL_performance 3 = .ok (.iload_n 1, 1) := by decide +kernel
theorem dL_performance_4 : decode cL_performance 4 = .ok (.iload_n 2, 1) := by decide +kernel
theorem dL_performance_5 : decode cL_performance 5 = .ok (.invokevirtual 45, 3) := by decide +kernel
theorem dL_performance_8 : decode cL_performance 8 = .ok (.i2l, 1) := by decide +kernel
theorem dL_performance_9 : decode cL_performance 9 = .ok (.lastore, 1) := by decide +kernel
theorem dL_performance_10 : decode cL_performance 10 = .ok (.goto 11, 3) := by decide +kernel
theorem dL_performance_13 : decode cL_performance 13 = .ok (.astore 4, 2) := by decide +kernel
theorem dL_performance_15 : decode cL_performance 15 = .ok (.iconst 1, 1) := by decide +kernel
theorem dL_performance_16 : decode cL_performance 16 = .ok (.ireturn, 1) := by decide +kernel
theorem dL_performance_17 : decode cL_performance 17 = .ok (.astore 4, 2) := by decide +kernel
theorem dL_performance_19 : decode cL_performance 19 = .ok (.iconst 2, 1) := by decide +kernel
theorem dL_performance_20 : decode cL_performance 20 = .ok (.ireturn, 1) := by decide +kernel
theorem dL_performance_21 : decode cL_performance 21 = .ok (.iconst 0, 1) := by decide +kernel
theorem dL_performance_22 : decode cL_performance 22 = .ok (.ireturn, 1) := by decide +kernel
theorem dL_on_0 : decode cL_on 0 = .ok (.aload_n 3, 1) := by decide +kernel
theorem dL_on_1 : decode cL_on 1 = .ok (.iconst 0, 1) := by decide +kernel
theorem dL_on_2 : decode cL_on 2 = .ok (.aload_n 0, 1) := by decide +kernel
theorem dL_on_3 : decode cL_on 3 = .ok (.iload_n 1, 1) := by decide +kernel
theorem dL_on_4 : decode cL_on 4 = .ok (.iload_n 2, 1) := by decide +kernel
theorem dL_on_5 : decode cL_on 5 = .ok (.invokevirtual 48, 3) := by decide +kernel
theorem dL_on_8 : decode cL_on 8 = .ok (.i2l, 1) := by decide +kernel
theorem dL_on_9 : decode cL_on 9 = .ok (.lastore, 1) := by decide +kernel
theorem dL_on_10 : decode cL_on 10 = .ok (.goto 15, 3) := by decide +kernel
theorem dL_on_13 : decode cL_on 13 = .ok (.astore 4, 2) := by decide +kernel
theorem dL_on_15 : decode cL_on 15 = .ok (.iconst 1, 1) := by decide +kernel
theorem dL_on_16 : decode cL_on 16 = .ok (.ireturn, 1) := by decide +kernel
theorem dL_on_17 : decode cL_on 17 = .ok (.astore 4, 2) := by decide +kernel
theorem dL_on_19 : decode cL_on 19 = .ok (.iconst 2, 1) := by decide +kernel
theorem dL_on_20 : decode cL_on 20 = .ok (.ireturn, 1) := by decide +kernel
theorem dL_on_21 : decode cL_on 21 = .ok (.astore 4, 2) := by decide +kernel
theorem dL_on_23 : decode cL_on 23 = .ok (.iconst 3, 1) := by decide +kernel
theorem dL_on_24 : decode cL_on 24 = .ok (.ireturn, 1) := by decide +kernel
theorem dL_on_25 : decode cL_on 25 = .ok (.iconst 0, 1) := by decide +kernel
theorem dL_on_26 : decode cL_on 26 = .ok (.ireturn, 1) := by decide +kernel
theorem dL_nextDate_0 : decode cL_nextDate 0 = .ok (.aload 4, 2) := by decide +kernel
theorem dL_nextDate_2 : decode cL_nextDate 2 = .ok (.iconst 0, 1) := by decide +kernel
theorem dL_nextDate_3 : decode cL_nextDate 3 = .ok (.aload_n 0, 1) := by decide +kernel
theorem dL_nextDate_4 : decode cL_nextDate 4 = .ok (.iload_n 1, 1) := by decide +kernel
theorem dL_nextDate_5 : decode cL_nextDate 5 = .ok (.iload_n 2, 1) := by decide +kernel
theorem dL_nextDate_6 : decode cL_nextDate 6 = .ok (.iload_n 3, 1) := by decide +kernel
theorem dL_nextDate_7 : decode cL_nextDate 7 = .ok (.invokevirtual 53, 3) := by decide +kernel
theorem dL_nextDate_10 : decode cL_nextDate 10 = .ok (.i2l, 1) := by decide +kernel
theorem dL_nextDate_11 : decode cL_nextDate 11 = .ok (.lastore, 1) := by decide +kernel
theorem dL_nextDate_12 : decode cL_nextDate 12 = .ok (.goto 15, 3) := by decide +kernel
theorem dL_nextDate_15 : decode cL_nextDate 15 = .ok (.astore 5, 2) := by decide +kernel
theorem dL_nextDate_17 : decode cL_nextDate 17 = .ok (.iconst 1, 1) := by decide +kernel
theorem dL_nextDate_18 : decode cL_nextDate 18 = .ok (.ireturn, 1) := by decide +kernel
theorem dL_nextDate_19 : decode cL_nextDate 19 = .ok (.astore 5, 2) := by decide +kernel
theorem dL_nextDate_21 : decode cL_nextDate 21 = .ok (.iconst 2, 1) := by decide +kernel
theorem dL_nextDate_22 : decode cL_nextDate 22 = .ok (.ireturn, 1) := by decide +kernel
theorem dL_nextDate_23 : decode cL_nextDate 23 = .ok (.astore 5, 2) := by decide +kernel
theorem dL_nextDate_25 : decode cL_nextDate 25 = .ok (.iconst 3, 1) := by decide +kernel
theorem dL_nextDate_26 : decode cL_nextDate 26 = .ok (.ireturn, 1) := by decide +kernel
theorem dL_nextDate_27 : decode cL_nextDate 27 = .ok (.iconst 0, 1) := by decide +kernel
theorem dL_nextDate_28 : decode cL_nextDate 28 = .ok (.ireturn, 1) := by decide +kernel
theorem dL_bestMove_0 : decode cL_bestMove 0 = .ok (.aload_n 2, 1) := by decide +kernel
theorem dL_bestMove_1 : decode cL_bestMove 1 = .ok (.iconst 0, 1) := by decide +kernel
theorem dL_bestMove_2 : decode cL_bestMove 2 = .ok (.aload_n 0, 1) := by decide +kernel
theorem dL_bestMove_3 : decode cL_bestMove 3 = .ok (.iload_n 1, 1) := by decide +kernel
theorem dL_bestMove_4 : decode cL_bestMove 4 = .ok (.invokevirtual 56, 3) := by decide +kernel
theorem dL_bestMove_7 : decode cL_bestMove 7 = .ok (.i2l, 1) := by decide +kernel
theorem dL_bestMove_8 : decode cL_bestMove 8 = .ok (.lastore, 1) := by decide +kernel
theorem dL_bestMove_9 : decode cL_bestMove 9 = .ok (.goto 9, 3) := by decide +kernel
theorem dL_bestMove_12 : decode cL_bestMove 12 = .ok (.astore_n 3, 1) := by decide +kernel
theorem dL_bestMove_13 : decode cL_bestMove 13 = .ok (.iconst 1, 1) := by decide +kernel
theorem dL_bestMove_14 : decode cL_bestMove 14 = .ok (.ireturn, 1) := by decide +kernel
theorem dL_bestMove_15 : decode cL_bestMove 15 = .ok (.astore_n 3, 1) := by decide +kernel
theorem dL_bestMove_16 : decode cL_bestMove 16 = .ok (.iconst 2, 1) := by decide +kernel
theorem dL_bestMove_17 : decode cL_bestMove 17 = .ok (.ireturn, 1) := by decide +kernel
theorem dL_bestMove_18 : decode cL_bestMove 18 = .ok (.iconst 0, 1) := by decide +kernel
theorem dL_bestMove_19 : decode cL_bestMove 19 = .ok (.ireturn, 1) := by decide +kernel
theorem dL_load_0 : decode cL_load 0 = .ok (.aload_n 2, 1) := by decide +kernel
theorem dL_load_1 : decode cL_load 1 = .ok (.iconst 0, 1) := by decide +kernel
theorem dL_load_2 : decode cL_load 2 = .ok (.aload_n 0, 1) := by decide +kernel
theorem dL_load_3 : decode cL_load 3 = .ok (.iload_n 1, 1) := by decide +kernel
theorem dL_load_4 : decode cL_load 4 = .ok (.invokevirtual 59, 3) := by decide +kernel
theorem dL_load_7 : decode cL_load 7 = .ok (.i2l, 1) := by decide +kernel
theorem dL_load_8 : decode cL_load 8 = .ok (.lastore, 1) := by decide +kernel
theorem dL_load_9 : decode cL_load 9 = .ok (.goto 6, 3) := by decide +kernel
theorem dL_load_12 : decode cL_load 12 = .ok (.astore_n 3, 1) := by decide +kernel
theorem dL_load_13 : decode cL_load 13 = .ok (.iconst 1, 1) := by decide +kernel
theorem dL_load_14 : decode cL_load 14 = .ok (.ireturn, 1) := by decide +kernel
theorem dL_load_15 : decode cL_load 15 = .ok (.iconst 0, 1) := by decide +kernel
theorem dL_load_16 : decode cL_load 16 = .ok (.ireturn, 1) := by decide +kernel
theorem dL_sell_0 : decode cL_sell 0 = .ok (.aload_n 3, 1) := by decide +kernel
theorem dL_sell_1 : decode cL_sell 1 = .ok (.iconst 0, 1) := by decide +kernel
theorem dL_sell_2 : decode cL_sell 2 = .ok (.aload_n 0, 1) := by decide +kernel
theorem dL_sell_3 : decode cL_sell 3 = .ok (.iload_n 1, 1) := by decide +kernel
theorem dL_sell_4 : decode cL_sell 4 = .ok (.iload_n 2, 1) := by decide +kernel
theorem dL_sell_5 : decode cL_sell 5 = .ok (.invokevirtual 62, 3) := by decide +kernel
theorem dL_sell_8 : decode cL_sell 8 = .ok (.i2l, 1) := by decide +kernel
theorem dL_sell_9 : decode cL_sell 9 = .ok (.lastore, 1) := by decide +kernel
theorem dL_sell_10 : decode cL_sell 10 = .ok (.goto 15, 3) := by decide +kernel
theorem dL_sell_13 : decode cL_sell 13 = .ok (.astore 4, 2) := by decide +kernel
theorem dL_sell_15 : decode cL_sell 15 = .ok (.iconst 1, 1) := by decide +kernel
theorem dL_sell_16 : decode cL_sell 16 = .ok (.ireturn, 1) := by decide +kernel
theorem dL_sell_17 : decode cL_sell 17 = .ok (.astore 4, 2) := by decide +kernel
theorem dL_sell_19 : decode cL_sell 19 = .ok (.iconst 2, 1) := by decide +kernel
theorem dL_sell_20 : decode cL_sell 20 = .ok (.ireturn, 1) := by decide +kernel
theorem dL_sell_21 : decode cL_sell 21 = .ok (.astore 4, 2) := by decide +kernel
theorem dL_sell_23 : decode cL_sell 23 = .ok (.iconst 3, 1) := by decide +kernel
theorem dL_sell_24 : decode cL_sell 24 = .ok (.ireturn, 1) := by decide +kernel
theorem dL_sell_25 : decode cL_sell 25 = .ok (.iconst 0, 1) := by decide +kernel
theorem dL_sell_26 : decode cL_sell 26 = .ok (.ireturn, 1) := by decide +kernel
theorem dL_refund_0 : decode cL_refund 0 = .ok (.aload_n 3, 1) := by decide +kernel
theorem dL_refund_1 : decode cL_refund 1 = .ok (.iconst 0, 1) := by decide +kernel
theorem dL_refund_2 : decode cL_refund 2 = .ok (.aload_n 0, 1) := by decide +kernel
theorem dL_refund_3 : decode cL_refund 3 = .ok (.iload_n 1, 1) := by decide +kernel
theorem dL_refund_4 : decode cL_refund 4 = .ok (.iload_n 2, 1) := by decide +kernel
theorem dL_refund_5 : decode cL_refund 5 = .ok (.invokevirtual 65, 3) := by decide +kernel
theorem dL_refund_8 : decode cL_refund 8 = .ok (.i2l, 1) := by decide +kernel
theorem dL_refund_9 : decode cL_refund 9 = .ok (.lastore, 1) := by decide +kernel
theorem dL_refund_10 : decode cL_refund 10 = .ok (.goto 15, 3) := by decide +kernel
theorem dL_refund_13 : decode cL_refund 13 = .ok (.astore 4, 2) := by decide +kernel
theorem dL_refund_15 : decode cL_refund 15 = .ok (.iconst 1, 1) := by decide +kernel
theorem dL_refund_16 : decode cL_refund 16 = .ok (.ireturn, 1) := by decide +kernel
theorem dL_refund_17 : decode cL_refund 17 = .ok (.astore 4, 2) := by decide +kernel
theorem dL_refund_19 : decode cL_refund 19 = .ok (.iconst 2, 1) := by decide +kernel
theorem dL_refund_20 : decode cL_refund 20 = .ok (.ireturn, 1) := by decide +kernel
theorem dL_refund_21 : decode cL_refund 21 = .ok (.astore 4, 2) := by decide +kernel
theorem dL_refund_23 : decode cL_refund 23 = .ok (.iconst 3, 1) := by decide +kernel
theorem dL_refund_24 : decode cL_refund 24 = .ok (.ireturn, 1) := by decide +kernel
theorem dL_refund_25 : decode cL_refund 25 = .ok (.iconst 0, 1) := by decide +kernel
theorem dL_refund_26 : decode cL_refund 26 = .ok (.ireturn, 1) := by decide +kernel
theorem dL_request_0 : decode cL_request 0 = .ok (.aload 4, 2) := by decide +kernel
theorem dL_request_2 : decode cL_request 2 = .ok (.iconst 0, 1) := by decide +kernel
theorem dL_request_3 : decode cL_request 3 = .ok (.aload_n 0, 1) := by decide +kernel
theorem dL_request_4 : decode cL_request 4 = .ok (.iload_n 1, 1) := by decide +kernel
theorem dL_request_5 : decode cL_request 5 = .ok (.iload_n 2, 1) := by decide +kernel
theorem dL_request_6 : decode cL_request 6 = .ok (.iload_n 3, 1) := by decide +kernel
theorem dL_request_7 : decode cL_request 7 = .ok (.invokevirtual 68, 3) := by decide +kernel
theorem dL_request_10 : decode cL_request 10 = .ok (.i2l, 1) := by decide +kernel
theorem dL_request_11 : decode cL_request 11 = .ok (.lastore, 1) := by decide +kernel
theorem dL_request_12 : decode cL_request 12 = .ok (.goto 15, 3) := by decide +kernel
theorem dL_request_15 : decode cL_request 15 = .ok (.astore 5, 2) := by decide +kernel
theorem dL_request_17 : decode cL_request 17 = .ok (.iconst 1, 1) := by decide +kernel
theorem dL_request_18 : decode cL_request 18 = .ok (.ireturn, 1) := by decide +kernel
theorem dL_request_19 : decode cL_request 19 = .ok (.astore 5, 2) := by decide +kernel
theorem dL_request_21 : decode cL_request 21 = .ok (.iconst 2, 1) := by decide +kernel
theorem dL_request_22 : decode cL_request 22 = .ok (.ireturn, 1) := by decide +kernel
theorem dL_request_23 : decode cL_request 23 = .ok (.astore 5, 2) := by decide +kernel
theorem dL_request_25 : decode cL_request 25 = .ok (.iconst 3, 1) := by decide +kernel
theorem dL_request_26 : decode cL_request 26 = .ok (.ireturn, 1) := by decide +kernel
theorem dL_request_27 : decode cL_request 27 = .ok (.iconst 0, 1) := by decide +kernel
theorem dL_request_28 : decode cL_request 28 = .ok (.ireturn, 1) := by decide +kernel
theorem dL_waiting_0 : decode cL_waiting 0 = .ok (.aload 4, 2) := by decide +kernel
theorem dL_waiting_2 : decode cL_waiting 2 = .ok (.iconst 0, 1) := by decide +kernel
theorem dL_waiting_3 : decode cL_waiting 3 = .ok (.aload_n 0, 1) := by decide +kernel
theorem dL_waiting_4 : decode cL_waiting 4 = .ok (.iload_n 1, 1) := by decide +kernel
theorem dL_waiting_5 : decode cL_waiting 5 = .ok (.iload_n 2, 1) := by decide +kernel
theorem dL_waiting_6 : decode cL_waiting 6 = .ok (.iload_n 3, 1) := by decide +kernel
theorem dL_waiting_7 : decode cL_waiting 7 = .ok (.invokevirtual 71, 3) := by decide +kernel
theorem dL_waiting_10 : decode cL_waiting 10 = .ok (.i2l, 1) := by decide +kernel
theorem dL_waiting_11 : decode cL_waiting 11 = .ok (.lastore, 1) := by decide +kernel
theorem dL_waiting_12 : decode cL_waiting 12 = .ok (.goto 11, 3) := by decide +kernel
theorem dL_waiting_15 : decode cL_waiting 15 = .ok (.astore 5, 2) := by decide +kernel
theorem dL_waiting_17 : decode cL_waiting 17 = .ok (.iconst 1, 1) := by decide +kernel
theorem dL_waiting_18 : decode cL_waiting 18 = .ok (.ireturn, 1) := by decide +kernel
theorem dL_waiting_19 : decode cL_waiting 19 = .ok (.astore 5, 2) := by decide +kernel
theorem dL_waiting_21 : decode cL_waiting 21 = .ok (.iconst 2, 1) := by decide +kernel
theorem dL_waiting_22 : decode cL_waiting 22 = .ok (.ireturn, 1) := by decide +kernel
theorem dL_waiting_23 : decode cL_waiting 23 = .ok (.iconst 0, 1) := by decide +kernel
theorem dL_waiting_24 : decode cL_waiting 24 = .ok (.ireturn, 1) := by decide +kernel
theorem dL_seats_0 : decode cL_seats 0 = .ok (.aload_n 3, 1) := by decide +kernel
theorem dL_seats_1 : decode cL_seats 1 = .ok (.iconst 0, 1) := by decide +kernel
theorem dL_seats_2 : decode cL_seats 2 = .ok (.aload_n 0, 1) := by decide +kernel
theorem dL_seats_3 : decode cL_seats 3 = .ok (.iload_n 1, 1) := by decide +kernel
theorem dL_seats_4 : decode cL_seats 4 = .ok (.iload_n 2, 1) := by decide +kernel
theorem dL_seats_5 : decode cL_seats 5 = .ok (.invokevirtual 75, 3) := by decide +kernel
theorem dL_seats_8 : decode cL_seats 8 = .ok (.i2l, 1) := by decide +kernel
theorem dL_seats_9 : decode cL_seats 9 = .ok (.lastore, 1) := by decide +kernel
theorem dL_seats_10 : decode cL_seats 10 = .ok (.goto 7, 3) := by decide +kernel
theorem dL_seats_13 : decode cL_seats 13 = .ok (.astore 4, 2) := by decide +kernel
theorem dL_seats_15 : decode cL_seats 15 = .ok (.iconst 1, 1) := by decide +kernel
theorem dL_seats_16 : decode cL_seats 16 = .ok (.ireturn, 1) := by decide +kernel
theorem dL_seats_17 : decode cL_seats 17 = .ok (.iconst 0, 1) := by decide +kernel
theorem dL_seats_18 : decode cL_seats 18 = .ok (.ireturn, 1) := by decide +kernel
theorem dL_seatsAgain_0 : decode cL_seatsAgain 0 = .ok (.aload_n 3, 1) := by decide +kernel
theorem dL_seatsAgain_1 : decode cL_seatsAgain 1 = .ok (.iconst 0, 1) := by decide +kernel
theorem dL_seatsAgain_2 : decode cL_seatsAgain 2 = .ok (.aload_n 0, 1) := by decide +kernel
theorem dL_seatsAgain_3 : decode cL_seatsAgain 3 = .ok (.iload_n 1, 1) := by decide +kernel
theorem dL_seatsAgain_4 : decode cL_seatsAgain 4 = .ok (.iload_n 2, 1) := by decide +kernel
theorem dL_seatsAgain_5 : decode cL_seatsAgain 5 = .ok (.invokevirtual 78, 3) := by decide +kernel
theorem dL_seatsAgain_8 : decode cL_seatsAgain 8 = .ok (.i2l, 1) := by decide +kernel
theorem dL_seatsAgain_9 : decode cL_seatsAgain 9 = .ok (.lastore, 1) := by decide +kernel
theorem dL_seatsAgain_10 : decode cL_seatsAgain 10 = .ok (.goto 7, 3) := by decide +kernel
theorem dL_seatsAgain_13 : decode cL_seatsAgain 13 = .ok (.astore 4, 2) := by decide +kernel
theorem dL_seatsAgain_15 : decode cL_seatsAgain 15 = .ok (.iconst 1, 1) := by decide +kernel
theorem dL_seatsAgain_16 : decode cL_seatsAgain 16 = .ok (.ireturn, 1) := by decide +kernel
theorem dL_seatsAgain_17 : decode cL_seatsAgain 17 = .ok (.iconst 0, 1) := by decide +kernel
theorem dL_seatsAgain_18 : decode cL_seatsAgain 18 = .ok (.ireturn, 1) := by decide +kernel
theorem dL_subscribe_0 : decode cL_subscribe 0 = .ok (.aload_n 2, 1) := by decide +kernel
theorem dL_subscribe_1 : decode cL_subscribe 1 = .ok (.iconst 0, 1) := by decide +kernel
theorem dL_subscribe_2 : decode cL_subscribe 2 = .ok (.aload_n 0, 1) := by decide +kernel
theorem dL_subscribe_3 : decode cL_subscribe 3 = .ok (.iload_n 1, 1) := by decide +kernel
theorem dL_subscribe_4 : decode cL_subscribe 4 = .ok (.invokevirtual 81, 3) := by decide +kernel
theorem dL_subscribe_7 : decode cL_subscribe 7 = .ok (.i2l, 1) := by decide +kernel
theorem dL_subscribe_8 : decode cL_subscribe 8 = .ok (.lastore, 1) := by decide +kernel
theorem dL_subscribe_9 : decode cL_subscribe 9 = .ok (.goto 9, 3) := by decide +kernel
theorem dL_subscribe_12 : decode cL_subscribe 12 = .ok (.astore_n 3, 1) := by decide +kernel
theorem dL_subscribe_13 : decode cL_subscribe 13 = .ok (.iconst 1, 1) := by decide +kernel
theorem dL_subscribe_14 : decode cL_subscribe 14 = .ok (.ireturn, 1) := by decide +kernel
theorem dL_subscribe_15 : decode cL_subscribe 15 = .ok (.astore_n 3, 1) := by decide +kernel
theorem dL_subscribe_16 : decode cL_subscribe 16 = .ok (.iconst 2, 1) := by decide +kernel
theorem dL_subscribe_17 : decode cL_subscribe 17 = .ok (.ireturn, 1) := by decide +kernel
theorem dL_subscribe_18 : decode cL_subscribe 18 = .ok (.iconst 0, 1) := by decide +kernel
theorem dL_subscribe_19 : decode cL_subscribe 19 = .ok (.ireturn, 1) := by decide +kernel
theorem dL_hold_0 : decode cL_hold 0 = .ok (.aload_n 3, 1) := by decide +kernel
theorem dL_hold_1 : decode cL_hold 1 = .ok (.iconst 0, 1) := by decide +kernel
theorem dL_hold_2 : decode cL_hold 2 = .ok (.aload_n 0, 1) := by decide +kernel
theorem dL_hold_3 : decode cL_hold 3 = .ok (.iload_n 1, 1) := by decide +kernel
theorem dL_hold_4 : decode cL_hold 4 = .ok (.iload_n 2, 1) := by decide +kernel
theorem dL_hold_5 : decode cL_hold 5 = .ok (.invokevirtual 84, 3) := by decide +kernel
theorem dL_hold_8 : decode cL_hold 8 = .ok (.i2l, 1) := by decide +kernel
theorem dL_hold_9 : decode cL_hold 9 = .ok (.lastore, 1) := by decide +kernel
theorem dL_hold_10 : decode cL_hold 10 = .ok (.goto 11, 3) := by decide +kernel
theorem dL_hold_13 : decode cL_hold 13 = .ok (.astore 4, 2) := by decide +kernel
theorem dL_hold_15 : decode cL_hold 15 = .ok (.iconst 1, 1) := by decide +kernel
theorem dL_hold_16 : decode cL_hold 16 = .ok (.ireturn, 1) := by decide +kernel
theorem dL_hold_17 : decode cL_hold 17 = .ok (.astore 4, 2) := by decide +kernel
theorem dL_hold_19 : decode cL_hold 19 = .ok (.iconst 2, 1) := by decide +kernel
theorem dL_hold_20 : decode cL_hold 20 = .ok (.ireturn, 1) := by decide +kernel
theorem dL_hold_21 : decode cL_hold 21 = .ok (.iconst 0, 1) := by decide +kernel
theorem dL_hold_22 : decode cL_hold 22 = .ok (.ireturn, 1) := by decide +kernel
theorem dL_release_0 : decode cL_release 0 = .ok (.aload_n 3, 1) := by decide +kernel
theorem dL_release_1 : decode cL_release 1 = .ok (.iconst 0, 1) := by decide +kernel
theorem dL_release_2 : decode cL_release 2 = .ok (.aload_n 0, 1) := by decide +kernel
theorem dL_release_3 : decode cL_release 3 = .ok (.iload_n 1, 1) := by decide +kernel
theorem dL_release_4 : decode cL_release 4 = .ok (.iload_n 2, 1) := by decide +kernel
theorem dL_release_5 : decode cL_release 5 = .ok (.invokevirtual 87, 3) := by decide +kernel
theorem dL_release_8 : decode cL_release 8 = .ok (.i2l, 1) := by decide +kernel
theorem dL_release_9 : decode cL_release 9 = .ok (.lastore, 1) := by decide +kernel
theorem dL_release_10 : decode cL_release 10 = .ok (.goto 11, 3) := by decide +kernel
theorem dL_release_13 : decode cL_release 13 = .ok (.astore 4, 2) := by decide +kernel
theorem dL_release_15 : decode cL_release 15 = .ok (.iconst 1, 1) := by decide +kernel
theorem dL_release_16 : decode cL_release 16 = .ok (.ireturn, 1) := by decide +kernel
theorem dL_release_17 : decode cL_release 17 = .ok (.astore 4, 2) := by decide +kernel
theorem dL_release_19 : decode cL_release 19 = .ok (.iconst 2, 1) := by decide +kernel
theorem dL_release_20 : decode cL_release 20 = .ok (.ireturn, 1) := by decide +kernel
theorem dL_release_21 : decode cL_release 21 = .ok (.iconst 0, 1) := by decide +kernel
theorem dL_release_22 : decode cL_release 22 = .ok (.ireturn, 1) := by decide +kernel
theorem dL_exchange_0 : decode cL_exchange 0 = .ok (.aload 4, 2) := by decide +kernel
theorem dL_exchange_2 : decode cL_exchange 2 = .ok (.iconst 0, 1) := by decide +kernel
theorem dL_exchange_3 : decode cL_exchange 3 = .ok (.aload_n 0, 1) := by decide +kernel
theorem dL_exchange_4 : decode cL_exchange 4 = .ok (.iload_n 1, 1) := by decide +kernel
theorem dL_exchange_5 : decode cL_exchange 5 = .ok (.iload_n 2, 1) := by decide +kernel
theorem dL_exchange_6 : decode cL_exchange 6 = .ok (.iload_n 3, 1) := by decide +kernel
theorem dL_exchange_7 : decode cL_exchange 7 = .ok (.invokevirtual 90, 3) := by decide +kernel
theorem dL_exchange_10 : decode cL_exchange 10 = .ok (.i2l, 1) := by decide +kernel
theorem dL_exchange_11 : decode cL_exchange 11 = .ok (.lastore, 1) := by decide +kernel
theorem dL_exchange_12 : decode cL_exchange 12 = .ok (.goto 11, 3) := by decide +kernel
theorem dL_exchange_15 : decode cL_exchange 15 = .ok (.astore 5, 2) := by decide +kernel
theorem dL_exchange_17 : decode cL_exchange 17 = .ok (.iconst 1, 1) := by decide +kernel
theorem dL_exchange_18 : decode cL_exchange 18 = .ok (.ireturn, 1) := by decide +kernel
theorem dL_exchange_19 : decode cL_exchange 19 = .ok (.astore 5, 2) := by decide +kernel
theorem dL_exchange_21 : decode cL_exchange 21 = .ok (.iconst 2, 1) := by decide +kernel
theorem dL_exchange_22 : decode cL_exchange 22 = .ok (.ireturn, 1) := by decide +kernel
theorem dL_exchange_23 : decode cL_exchange 23 = .ok (.iconst 0, 1) := by decide +kernel
theorem dL_exchange_24 : decode cL_exchange 24 = .ok (.ireturn, 1) := by decide +kernel
theorem dL_subscription_0 : decode cL_subscription 0 = .ok (.aload_n 3, 1) := by decide +kernel
theorem dL_subscription_1 : decode cL_subscription 1 = .ok (.iconst 0, 1) := by decide +kernel
theorem dL_subscription_2 : decode cL_subscription 2 = .ok (.aload_n 0, 1) := by decide +kernel
theorem dL_subscription_3 : decode cL_subscription 3 = .ok (.iload_n 1, 1) := by decide +kernel
theorem dL_subscription_4 : decode cL_subscription 4 = .ok (.iload_n 2, 1) := by decide +kernel
theorem dL_subscription_5 : decode cL_subscription 5 = .ok (.invokevirtual 93, 3) := by decide +kernel
theorem dL_subscription_8 : decode cL_subscription 8 = .ok (.i2l, 1) := by decide +kernel
theorem dL_subscription_9 : decode cL_subscription 9 = .ok (.lastore, 1) := by decide +kernel
theorem dL_subscription_10 : decode cL_subscription 10 = .ok (.goto 11, 3) := by decide +kernel
theorem dL_subscription_13 : decode cL_subscription 13 = .ok (.astore 4, 2) := by decide +kernel
theorem dL_subscription_15 : decode cL_subscription 15 = .ok (.iconst 1, 1) := by decide +kernel
theorem dL_subscription_16 : decode cL_subscription 16 = .ok (.ireturn, 1) := by decide +kernel
theorem dL_subscription_17 : decode cL_subscription 17 = .ok (.astore 4, 2) := by decide +kernel
theorem dL_subscription_19 : decode cL_subscription 19 = .ok (.iconst 2, 1) := by decide +kernel
theorem dL_subscription_20 : decode cL_subscription 20 = .ok (.ireturn, 1) := by decide +kernel
theorem dL_subscription_21 : decode cL_subscription 21 = .ok (.iconst 0, 1) := by decide +kernel
theorem dL_subscription_22 : decode cL_subscription 22 = .ok (.ireturn, 1) := by decide +kernel
theorem dL_partner_0 : decode cL_partner 0 = .ok (.aload_n 2, 1) := by decide +kernel
theorem dL_partner_1 : decode cL_partner 1 = .ok (.iconst 0, 1) := by decide +kernel
theorem dL_partner_2 : decode cL_partner 2 = .ok (.aload_n 0, 1) := by decide +kernel
theorem dL_partner_3 : decode cL_partner 3 = .ok (.iload_n 1, 1) := by decide +kernel
theorem dL_partner_4 : decode cL_partner 4 = .ok (.invokevirtual 96, 3) := by decide +kernel
theorem dL_partner_7 : decode cL_partner 7 = .ok (.f2d, 1) := by decide +kernel
theorem dL_partner_8 : decode cL_partner 8 = .ok (.dastore, 1) := by decide +kernel
theorem dL_partner_9 : decode cL_partner 9 = .ok (.goto 6, 3) := by decide +kernel
theorem dL_partner_12 : decode cL_partner 12 = .ok (.astore_n 3, 1) := by decide +kernel
theorem dL_partner_13 : decode cL_partner 13 = .ok (.iconst 1, 1) := by decide +kernel
theorem dL_partner_14 : decode cL_partner 14 = .ok (.ireturn, 1) := by decide +kernel
theorem dL_partner_15 : decode cL_partner 15 = .ok (.iconst 0, 1) := by decide +kernel
theorem dL_partner_16 : decode cL_partner 16 = .ok (.ireturn, 1) := by decide +kernel
theorem dL_fullness_0 : decode cL_fullness 0 = .ok (.aload_n 2, 1) := by decide +kernel
theorem dL_fullness_1 : decode cL_fullness 1 = .ok (.iconst 0, 1) := by decide +kernel
theorem dL_fullness_2 : decode cL_fullness 2 = .ok (.aload_n 0, 1) := by decide +kernel
theorem dL_fullness_3 : decode cL_fullness 3 = .ok (.iload_n 1, 1) := by decide +kernel
theorem dL_fullness_4 : decode cL_fullness 4 = .ok (.invokevirtual 100, 3) := by decide +kernel
theorem dL_fullness_7 : decode cL_fullness 7 = .ok (.dastore, 1) := by decide +kernel
theorem dL_fullness_8 : decode cL_fullness 8 = .ok (.goto 9, 3) := by decide +kernel
theorem dL_fullness_11 : decode cL_fullness 11 = .ok (.astore_n 3, 1) := by decide +kernel
theorem dL_fullness_12 : decode cL_fullness 12 = .ok (.iconst 1, 1) := by decide +kernel
theorem dL_fullness_13 : decode cL_fullness 13 = .ok (.ireturn, 1) := by decide +kernel
theorem dL_fullness_14 : decode cL_fullness 14 = .ok (.astore_n 3, 1) := by decide +kernel
theorem dL_fullness_15 : decode cL_fullness 15 = .ok (.iconst 2, 1) := by decide +kernel
theorem dL_fullness_16 : decode cL_fullness 16 = .ok (.ireturn, 1) := by decide +kernel
theorem dL_fullness_17 : decode cL_fullness 17 = .ok (.iconst 0, 1) := by decide +kernel
theorem dL_fullness_18 : decode cL_fullness 18 = .ok (.ireturn, 1) := by decide +kernel
theorem dL_reason_0 : decode cL_reason 0 = .ok (.aload_n 2, 1) := by decide +kernel
theorem dL_reason_1 : decode cL_reason 1 = .ok (.iconst 0, 1) := by decide +kernel
theorem dL_reason_2 : decode cL_reason 2 = .ok (.aload_n 0, 1) := by decide +kernel
theorem dL_reason_3 : decode cL_reason 3 = .ok (.iload_n 1, 1) := by decide +kernel
theorem dL_reason_4 : decode cL_reason 4 = .ok (.invokevirtual 106, 3) := by decide +kernel
theorem dL_reason_7 : decode cL_reason 7 = .ok (.i2l, 1) := by decide +kernel
theorem dL_reason_8 : decode cL_reason 8 = .ok (.lastore, 1) := by decide +kernel
theorem dL_reason_9 : decode cL_reason 9 = .ok (.goto 6, 3) := by decide +kernel
theorem dL_reason_12 : decode cL_reason 12 = .ok (.astore_n 3, 1) := by decide +kernel
theorem dL_reason_13 : decode cL_reason 13 = .ok (.iconst 1, 1) := by decide +kernel
theorem dL_reason_14 : decode cL_reason 14 = .ok (.ireturn, 1) := by decide +kernel
theorem dL_reason_15 : decode cL_reason 15 = .ok (.iconst 0, 1) := by decide +kernel
theorem dL_reason_16 : decode cL_reason 16 = .ok (.ireturn, 1) := by decide +kernel
theorem dL_account_0 : decode cL_account 0 = .ok (.aload_n 2, 1) := by decide +kernel
theorem dL_account_1 : decode cL_account 1 = .ok (.iconst 0, 1) := by decide +kernel
theorem dL_account_2 : decode cL_account 2 = .ok (.aload_n 0, 1) := by decide +kernel
theorem dL_account_3 : decode cL_account 3 = .ok (.iload_n 1, 1) := by decide +kernel
theorem dL_account_4 : decode cL_account 4 = .ok (.invokevirtual 110, 3) := by decide +kernel
theorem dL_account_7 : decode cL_account 7 = .ok (.i2l, 1) := by decide +kernel
theorem dL_account_8 : decode cL_account 8 = .ok (.lastore, 1) := by decide +kernel
theorem dL_account_9 : decode cL_account 9 = .ok (.goto 6, 3) := by decide +kernel
theorem dL_account_12 : decode cL_account 12 = .ok (.astore_n 3, 1) := by decide +kernel
theorem dL_account_13 : decode cL_account 13 = .ok (.iconst 1, 1) := by decide +kernel
theorem dL_account_14 : decode cL_account 14 = .ok (.ireturn, 1) := by decide +kernel
theorem dL_account_15 : decode cL_account 15 = .ok (.iconst 0, 1) := by decide +kernel
theorem dL_account_16 : decode cL_account 16 = .ok (.ireturn, 1) := by decide +kernel
theorem dL_append_0 : decode cL_append 0 = .ok (.aload_n 2, 1) := by decide +kernel
theorem dL_append_1 : decode cL_append 1 = .ok (.iconst 0, 1) := by decide +kernel
theorem dL_append_2 : decode cL_append 2 = .ok (.aload_n 0, 1) := by decide +kernel
theorem dL_append_3 : decode cL_append 3 = .ok (.iload_n 1, 1) := by decide +kernel
theorem dL_append_4 : decode cL_append 4 = .ok (.invokevirtual 113, 3) := by decide +kernel
theorem dL_append_7 : decode cL_append 7 = .ok (.i2l, 1) := by decide +kernel
theorem dL_append_8 : decode cL_append 8 = .ok (.lastore, 1) := by decide +kernel
theorem dL_append_9 : decode cL_append 9 = .ok (.goto 9, 3) := by decide +kernel
theorem dL_append_12 : decode cL_append 12 = .ok (.astore_n 3, 1) := by decide +kernel
theorem dL_append_13 : decode cL_append 13 = .ok (.iconst 1, 1) := by decide +kernel
theorem dL_append_14 : decode cL_append 14 = .ok (.ireturn, 1) := by decide +kernel
theorem dL_append_15 : decode cL_append 15 = .ok (.astore_n 3, 1) := by decide +kernel
theorem dL_append_16 : decode cL_append 16 = .ok (.iconst 2, 1) := by decide +kernel
theorem dL_append_17 : decode cL_append 17 = .ok (.ireturn, 1) := by decide +kernel
theorem dL_append_18 : decode cL_append 18 = .ok (.iconst 0, 1) := by decide +kernel
theorem dL_append_19 : decode cL_append 19 = .ok (.ireturn, 1) := by decide +kernel
theorem dL_read_0 : decode cL_read 0 = .ok (.aload_n 1, 1) := by decide +kernel
theorem dL_read_1 : decode cL_read 1 = .ok (.iconst 0, 1) := by decide +kernel
theorem dL_read_2 : decode cL_read 2 = .ok (.aload_n 0, 1) := by decide +kernel
theorem dL_read_3 : decode cL_read 3 = .ok (.invokevirtual 117, 3) := by decide +kernel
theorem dL_read_6 : decode cL_read 6 = .ok (.i2l, 1) := by decide +kernel
theorem dL_read_7 : decode cL_read 7 = .ok (.lastore, 1) := by decide +kernel
theorem dL_read_8 : decode cL_read 8 = .ok (.goto 9, 3) := by decide +kernel
theorem dL_read_11 : decode cL_read 11 = .ok (.astore_n 2, 1) := by decide +kernel
theorem dL_read_12 : decode cL_read 12 = .ok (.iconst 1, 1) := by decide +kernel
theorem dL_read_13 : decode cL_read 13 = .ok (.ireturn, 1) := by decide +kernel
theorem dL_read_14 : decode cL_read 14 = .ok (.astore_n 2, 1) := by decide +kernel
theorem dL_read_15 : decode cL_read 15 = .ok (.iconst 2, 1) := by decide +kernel
theorem dL_read_16 : decode cL_read 16 = .ok (.ireturn, 1) := by decide +kernel
theorem dL_read_17 : decode cL_read 17 = .ok (.iconst 0, 1) := by decide +kernel
theorem dL_read_18 : decode cL_read 18 = .ok (.ireturn, 1) := by decide +kernel
theorem dL_errorPosition_0 : decode cL_errorPosition 0 = .ok (.aload_n 1, 1) := by decide +kernel
theorem dL_errorPosition_1 : decode cL_errorPosition 1 = .ok (.iconst 0, 1) := by decide +kernel
theorem dL_errorPosition_2 : decode cL_errorPosition 2 = .ok (.aload_n 0, 1) := by decide +kernel
theorem dL_errorPosition_3 : decode cL_errorPosition 3 = .ok (.invokevirtual 121, 3) := by decide +kernel
theorem dL_errorPosition_6 : decode cL_errorPosition 6 = .ok (.i2l, 1) := by decide +kernel
theorem dL_errorPosition_7 : decode cL_errorPosition 7 = .ok (.lastore, 1) := by decide +kernel
theorem dL_errorPosition_8 : decode cL_errorPosition 8 = .ok (.goto 6, 3) := by decide +kernel
theorem dL_errorPosition_11 : decode cL_errorPosition 11 = .ok (.astore_n 2, 1) := by decide +kernel
theorem dL_errorPosition_12 : decode cL_errorPosition 12 = .ok (.iconst 1, 1) := by decide +kernel
theorem dL_errorPosition_13 : decode cL_errorPosition 13 = .ok (.ireturn, 1) := by decide +kernel
theorem dL_errorPosition_14 : decode cL_errorPosition 14 = .ok (.iconst 0, 1) := by decide +kernel
theorem dL_errorPosition_15 : decode cL_errorPosition 15 = .ok (.ireturn, 1) := by decide +kernel
theorem dL_undo_0 : decode cL_undo 0 = .ok (.aload_n 1, 1) := by decide +kernel
theorem dL_undo_1 : decode cL_undo 1 = .ok (.iconst 0, 1) := by decide +kernel
theorem dL_undo_2 : decode cL_undo 2 = .ok (.aload_n 0, 1) := by decide +kernel
theorem dL_undo_3 : decode cL_undo 3 = .ok (.invokevirtual 124, 3) := by decide +kernel
theorem dL_undo_6 : decode cL_undo 6 = .ok (.i2l, 1) := by decide +kernel
theorem dL_undo_7 : decode cL_undo 7 = .ok (.lastore, 1) := by decide +kernel
theorem dL_undo_8 : decode cL_undo 8 = .ok (.goto 6, 3) := by decide +kernel
theorem dL_undo_11 : decode cL_undo 11 = .ok (.astore_n 2, 1) := by decide +kernel
theorem dL_undo_12 : decode cL_undo 12 = .ok (.iconst 1, 1) := by decide +kernel
theorem dL_undo_13 : decode cL_undo 13 = .ok (.ireturn, 1) := by decide +kernel
theorem dL_undo_14 : decode cL_undo 14 = .ok (.iconst 0, 1) := by decide +kernel
theorem dL_undo_15 : decode cL_undo 15 = .ok (.ireturn, 1) := by decide +kernel
theorem dL_restore_0 : decode cL_restore 0 = .ok (.aload_n 1, 1) := by decide +kernel
theorem dL_restore_1 : decode cL_restore 1 = .ok (.iconst 0, 1) := by decide +kernel
theorem dL_restore_2 : decode cL_restore 2 = .ok (.aload_n 0, 1) := by decide +kernel
theorem dL_restore_3 : decode cL_restore 3 = .ok (.invokevirtual 127, 3) := by decide +kernel
theorem dL_restore_6 : decode cL_restore 6 = .ok (.i2l, 1) := by decide +kernel
theorem dL_restore_7 : decode cL_restore 7 = .ok (.lastore, 1) := by decide +kernel
theorem dL_restore_8 : decode cL_restore 8 = .ok (.goto 6, 3) := by decide +kernel
theorem dL_restore_11 : decode cL_restore 11 = .ok (.astore_n 2, 1) := by decide +kernel
theorem dL_restore_12 : decode cL_restore 12 = .ok (.iconst 1, 1) := by decide +kernel
theorem dL_restore_13 : decode cL_restore 13 = .ok (.ireturn, 1) := by decide +kernel
theorem dL_restore_14 : decode cL_restore 14 = .ok (.iconst 0, 1) := by decide +kernel
theorem dL_restore_15 : decode cL_restore 15 = .ok (.ireturn, 1) := by decide +kernel
