theorem dX0_init_0 : decode cX0_init 0 = .ok (.aload_n 0, 1) := by decide +kernel
theorem dX0_init_1 : decode cX0_init 1 = .ok (.invokespecial 3, 3) := by decide +kernel
theorem dX0_init_4 : decode cX0_init 4 = .ok (.aload_n 0, 1) := by decide +kernel
theorem dX0_init_5 : decode cX0_init 5 = .ok (.bipush 7, 2) := by decide +kernel
theorem dX0_init_7 : decode cX0_init 7 = .ok (.anewarray 9, 3) := by decide +kernel
theorem dX0_init_10 : decode cX0_init 10 = .ok (.putfield 11, 3) := by decide +kernel
theorem dX0_init_13 : decode cX0_init 13 = .ok (.iconst 0, 1) := by decide +kernel
theorem dX0_init_14 : decode cX0_init 14 = .ok (.istore_n 1, 1) := by decide +kernel
theorem dX0_init_15 : decode cX0_init 15 = .ok (.iload_n 1, 1) := by decide +kernel
theorem dX0_init_16 : decode cX0_init 16 = .ok (.aload_n 0, 1) := by decide +kernel
theorem dX0_init_17 : decode cX0_init 17 = .ok (.getfield 11, 3) := by decide +kernel
theorem dX0_init_20 : decode cX0_init 20 = .ok (.arraylength, 1) := by decide +kernel
theorem dX0_init_21 : decode cX0_init 21 = .ok (.if_icmp .ge 22, 3) := by decide +kernel
theorem dX0_init_24 : decode cX0_init 24 = .ok (.aload_n 0, 1) := by decide +kernel
theorem dX0_init_25 : decode cX0_init 25 = .ok (.getfield 11, 3) := by decide +kernel
theorem dX0_init_28 : decode cX0_init 28 = .ok (.iload_n 1, 1) := by decide +kernel
theorem dX0_init_29 : decode cX0_init 29 = .ok (.new 9, 3) := by decide +kernel
theorem dX0_init_32 : decode cX0_init 32 = .ok (.dup, 1) := by decide +kernel
theorem dX0_init_33 : decode cX0_init 33 = .ok (.invokespecial 17, 3) := by decide +kernel
theorem dX0_init_36 : decode cX0_init 36 = .ok (.aastore, 1) := by decide +kernel
theorem dX0_init_37 : decode cX0_init 37 = .ok (.iinc 1 1, 3) := by decide +kernel
theorem dX0_init_40 : decode cX0_init 40 = .ok (.goto (-25), 3) := by decide +kernel
theorem dX0_init_43 : decode cX0_init 43 = .ok (.return_, 1) := by decide +kernel
theorem dX0_open_0 : decode cX0_open 0 = .ok (.aload_n 0, 1) := by decide +kernel
theorem dX0_open_1 : decode cX0_open 1 = .ok (.aload_n 0, 1) := by decide +kernel
theorem dX0_open_2 : decode cX0_open 2 = .ok (.getfield 18, 3) := by decide +kernel
theorem dX0_open_5 : decode cX0_open 5 = .ok (.invokevirtual 22, 3) := by decide +kernel
theorem dX0_open_8 : decode cX0_open 8 = .ok (.aload_n 1, 1) := by decide +kernel
theorem dX0_open_9 : decode cX0_open 9 = .ok (.invokestatic 26, 3) := by decide +kernel
theorem dX0_open_12 : decode cX0_open 12 = .ok (.return_, 1) := by decide +kernel
theorem dX0_close_0 : decode cX0_close 0 = .ok (.aload_n 0, 1) := by decide +kernel
theorem dX0_close_1 : decode cX0_close 1 = .ok (.getfield 18, 3) := by decide +kernel
theorem dX0_close_4 : decode cX0_close 4 = .ok (.bipush 6, 2) := by decide +kernel
theorem dX0_close_6 : decode cX0_close 6 = .ok (.if_icmp .ge 16, 3) := by decide +kernel
theorem dX0_close_9 : decode cX0_close 9 = .ok (.aload_n 0, 1) := by decide +kernel
theorem dX0_close_10 : decode cX0_close 10 = .ok (.dup, 1) := by decide +kernel
theorem dX0_close_11 : decode cX0_close 11 = .ok (.getfield 18, 3) := by decide +kernel
theorem dX0_close_14 : decode cX0_close 14 = .ok (.iconst 1, 1) := by decide +kernel
theorem dX0_close_15 : decode cX0_close 15 = .ok (.iadd, 1) := by decide +kernel
theorem dX0_close_16 : decode cX0_close 16 = .ok (.putfield 18, 3) := by decide +kernel
theorem dX0_close_19 : decode cX0_close 19 = .ok (.goto 7, 3) := by decide +kernel
theorem dX0_close_22 : decode cX0_close 22 = .ok (.aload_n 0, 1) := by decide +kernel
theorem dX0_close_23 : decode cX0_close 23 = .ok (.invokevirtual 30, 3) := by decide +kernel
theorem dX0_close_26 : decode cX0_close 26 = .ok (.return_, 1) := by decide +kernel
theorem dX0_forgetOldest_0 : decode cX0_forgetOldest 0 = .ok (.iconst 0, 1) := by decide +kernel
theorem dX0_forgetOldest_1 : decode cX0_forgetOldest 1 = .ok (.istore_n 1, 1) := by decide +kernel
theorem dX0_forgetOldest_2 : decode cX0_forgetOldest 2 = .ok (.iload_n 1, 1) := by decide +kernel
theorem dX0_forgetOldest_3 : decode cX0_forgetOldest 3 = .ok (.iconst 1, 1) := by decide +kernel
theorem dX0_forgetOldest_4 : decode cX0_forgetOldest 4 = .ok (.iadd, 1) := by decide +kernel
theorem dX0_forgetOldest_5 : decode cX0_forgetOldest 5 = .ok (.aload_n 0, 1) := by decide +kernel
theorem dX0_forgetOldest_6 : decode cX0_forgetOldest 6 = .ok (.getfield 11, 3) := by decide +kernel
theorem dX0_forgetOldest_9 : decode cX0_forgetOldest 9 = .ok (.arraylength, 1) := by decide +kernel
theorem dX0_forgetOldest_10 : decode cX0_forgetOldest 10 = .ok (.if_icmp .ge 39, 3) := by decide +kernel
theorem dX0_forgetOldest_13 : decode cX0_forgetOldest 13 = .ok (.aload_n 0, 1) := by decide +kernel
theorem dX0_forgetOldest_14 : decode cX0_forgetOldest 14 = .ok (.getfield 11, 3) := by decide +kernel
theorem dX0_forgetOldest_17 : decode cX0_forgetOldest 17 = .ok (.iload_n 1, 1) := by decide +kernel
theorem dX0_forgetOldest_18 : decode cX0_forgetOldest 18 = .ok (.aaload, 1) := by decide +kernel
theorem dX0_forgetOldest_19 : decode cX0_forgetOldest 19 = .ok (.astore_n 2, 1) := by decide +kernel
theorem dX0_forgetOldest_20 : decode cX0_forgetOldest 20 = .ok (.aload_n 0, 1) := by decide +kernel
theorem dX0_forgetOldest_21 : decode cX0_forgetOldest 21 = .ok (.getfield 11, 3) := by decide +kernel
theorem dX0_forgetOldest_24 : decode cX0_forgetOldest 24 = .ok (.iload_n 1, 1) := by decide +kernel
theorem dX0_forgetOldest_25 : decode cX0_forgetOldest 25 = .ok (.aload_n 0, 1) := by decide +kernel
theorem dX0_forgetOldest_26 : decode cX0_forgetOldest 26 = .ok (.getfield 11, 3) := by decide +kernel
theorem dX0_forgetOldest_29 : decode cX0_forgetOldest 29 = .ok (.iload_n 1, 1) := by decide +kernel
theorem dX0_forgetOldest_30 : decode cX0_forgetOldest 30 = .ok (.iconst 1, 1) := by decide +kernel
theorem dX0_forgetOldest_31 : decode cX0_forgetOldest 31 = .ok (.iadd, 1) := by decide +kernel
theorem dX0_forgetOldest_32 : decode cX0_forgetOldest 32 = .ok (.aaload, 1) := by decide +kernel
theorem dX0_forgetOldest_33 : decode cX0_forgetOldest 33 = .ok (.aastore, 1) := by decide +kernel
theorem dX0_forgetOldest_34 : decode cX0_forgetOldest 34 = .ok (.aload_n 0, 1) := by decide +kernel
theorem dX0_forgetOldest_35 : decode cX0_forgetOldest 35 = .ok (.getfield 11, 3) := by decide +kernel
theorem dX0_forgetOldest_38 : decode cX0_forgetOldest 38 = .ok (.iload_n 1, 1) := by decide +kernel
theorem dX0_forgetOldest_39 : decode cX0_forgetOldest 39 = .ok (.iconst 1, 1) := by decide +kernel
theorem dX0_forgetOldest_40 : decode cX0_forgetOldest 40 = .ok (.iadd, 1) := by decide +kernel
theorem dX0_forgetOldest_41 : decode cX0_forgetOldest 41 = .ok (.aload_n 2, 1) := by decide +kernel
theorem dX0_forgetOldest_42 : decode cX0_forgetOldest 42 = .ok (.aastore, 1) := by decide +kernel
theorem dX0_forgetOldest_43 : decode cX0_forgetOldest 43 = .ok (.iinc 1 1, 3) := by decide +kernel
theorem dX0_forgetOldest_46 : decode cX0_forgetOldest 46 = .ok (.goto (-44), 3) := by decide +kernel
theorem dX0_forgetOldest_49 : decode cX0_forgetOldest 49 = .ok (.return_, 1) := by decide +kernel
theorem dX0_rowAt_0 : decode cX0_rowAt 0 = .ok (.iload_n 1, 1) := by decide +kernel
theorem dX0_rowAt_1 : decode cX0_rowAt 1 = .ok (.ifCond .lt 21, 3) := by decide +kernel
theorem dX0_rowAt_4 : decode cX0_rowAt 4 = .ok (.iload_n 1, 1) := by decide +kernel
theorem dX0_rowAt_5 : decode cX0_rowAt 5 = .ok (.aload_n 0, 1) := by decide +kernel
theorem dX0_rowAt_6 : decode cX0_rowAt 6 = .ok (.getfield 11, 3) := by decide +kernel
theorem dX0_rowAt_9 : decode cX0_rowAt 9 = .ok (.arraylength, 1) := by decide +kernel
theorem dX0_rowAt_10 : decode cX0_rowAt 10 = .ok (.if_icmp .ge 12, 3) := by decide +kernel
theorem dX0_rowAt_13 : decode cX0_rowAt 13 = .ok (.aload_n 0, 1) := by decide +kernel
theorem dX0_rowAt_14 : decode cX0_rowAt 14 = .ok (.getfield 11, 3) := by decide +kernel
theorem dX0_rowAt_17 : decode cX0_rowAt 17 = .ok (.iload_n 1, 1) := by decide +kernel
theorem dX0_rowAt_18 : decode cX0_rowAt 18 = .ok (.aaload, 1) := by decide +kernel
theorem dX0_rowAt_19 : decode cX0_rowAt 19 = .ok (.goto 4, 3) := by decide +kernel
theorem dX0_rowAt_22 : decode cX0_rowAt 22 = .ok (.aconst_null, 1) := by decide +kernel
theorem dX0_rowAt_23 : decode cX0_rowAt 23 = .ok (.areturn, 1) := by decide +kernel
theorem dX0_copySeason_0 : decode cX0_copySeason 0 = .ok (.aload_n 0, 1) := by decide +kernel
theorem dX0_copySeason_1 : decode cX0_copySeason 1 = .ok (.ifnull 12, 3) := by decide +kernel
theorem dX0_copySeason_4 : decode cX0_copySeason 4 = .ok (.aload_n 1, 1) := by decide +kernel
theorem dX0_copySeason_5 : decode cX0_copySeason 5 = .ok (.ifnull 8, 3) := by decide +kernel
theorem dX0_copySeason_8 : decode cX0_copySeason 8 = .ok (.aload_n 0, 1) := by decide +kernel
theorem dX0_copySeason_9 : decode cX0_copySeason 9 = .ok (.aload_n 1, 1) := by decide +kernel
theorem dX0_copySeason_10 : decode cX0_copySeason 10 = .ok (.invokevirtual 33, 3) := by decide +kernel
theorem dX0_copySeason_13 : decode cX0_copySeason 13 = .ok (.return_, 1) := by decide +kernel
theorem dX1_init_0 : decode cX1_init 0 = .ok (.aload_n 0, 1) := by decide +kernel
theorem dX1_init_1 : decode cX1_init 1 = .ok (.invokespecial 3, 3) := by decide +kernel
theorem dX1_init_4 : decode cX1_init 4 = .ok (.aload_n 0, 1) := by decide +kernel
theorem dX1_init_5 : decode cX1_init 5 = .ok (.bipush 60, 2) := by decide +kernel
theorem dX1_init_7 : decode cX1_init 7 = .ok (.newarray .char, 2) := by decide +kernel
theorem dX1_init_9 : decode cX1_init 9 = .ok (.putfield 9, 3) := by decide +kernel
theorem dX1_init_12 : decode cX1_init 12 = .ok (.aload_n 0, 1) := by decide +kernel
theorem dX1_init_13 : decode cX1_init 13 = .ok (.new 15, 3) := by decide +kernel
theorem dX1_init_16 : decode cX1_init 16 = .ok (.dup, 1) := by decide +kernel
theorem dX1_init_17 : decode cX1_init 17 = .ok (.iconst 3, 1) := by decide +kernel
theorem dX1_init_18 : decode cX1_init 18 = .ok (.invokespecial 17, 3) := by decide +kernel
theorem dX1_init_21 : decode cX1_init 21 = .ok (.putfield 20, 3) := by decide +kernel
theorem dX1_init_24 : decode cX1_init 24 = .ok (.return_, 1) := by decide +kernel
theorem dX2_init_0 : decode cX2_init 0 = .ok (.aload_n 0, 1) := by decide +kernel
theorem dX2_init_1 : decode cX2_init 1 = .ok (.invokespecial 3, 3) := by decide +kernel
theorem dX2_init_4 : decode cX2_init 4 = .ok (.aload_n 0, 1) := by decide +kernel
theorem dX2_init_5 : decode cX2_init 5 = .ok (.new 9, 3) := by decide +kernel
theorem dX2_init_8 : decode cX2_init 8 = .ok (.dup, 1) := by decide +kernel
theorem dX2_init_9 : decode cX2_init 9 = .ok (.bipush 24, 2) := by decide +kernel
theorem dX2_init_11 : decode cX2_init 11 = .ok (.invokespecial 11, 3) := by decide +kernel
theorem dX2_init_14 : decode cX2_init 14 = .ok (.putfield 14, 3) := by decide +kernel
theorem dX2_init_17 : decode cX2_init 17 = .ok (.aload_n 0, 1) := by decide +kernel
theorem dX2_init_18 : decode cX2_init 18 = .ok (.new 9, 3) := by decide +kernel
theorem dX2_init_21 : decode cX2_init 21 = .ok (.dup, 1) := by decide +kernel
theorem dX2_init_22 : decode cX2_init 22 = .ok (.bipush 24, 2) := by decide +kernel
theorem dX2_init_24 : decode cX2_init 24 = .ok (.invokespecial 11, 3) := by decide +kernel
theorem dX2_init_27 : decode cX2_init 27 = .ok (.putfield 20, 3) := by decide +kernel
theorem dX2_init_30 : decode cX2_init 30 = .ok (.aload_n 0, 1) := by decide +kernel
theorem dX2_init_31 : decode cX2_init 31 = .ok (.new 9, 3) := by decide +kernel
theorem dX2_init_34 : decode cX2_init 34 = .ok (.dup, 1) := by decide +kernel
theorem dX2_init_35 : decode cX2_init 35 = .ok (.bipush 24, 2) := by decide +kernel
theorem dX2_init_37 : decode cX2_init 37 = .ok (.invokespecial 11, 3) := by decide +kernel
theorem dX2_init_40 : decode cX2_init 40 = .ok (.putfield 23, 3) := by decide +kernel
theorem dX2_init_43 : decode cX2_init 43 = .ok (.aload_n 0, 1) := by decide +kernel
theorem dX2_init_44 : decode cX2_init 44 = .ok (.new 9, 3) := by decide +kernel
theorem dX2_init_47 : decode cX2_init 47 = .ok (.dup, 1) := by decide +kernel
theorem dX2_init_48 : decode cX2_init 48 = .ok (.bipush 24, 2) := by decide +kernel
theorem dX2_init_50 : decode cX2_init 50 = .ok (.invokespecial 11, 3) := by decide +kernel
theorem dX2_init_53 : decode cX2_init 53 = .ok (.putfield 26, 3) := by decide +kernel
theorem dX2_init_56 : decode cX2_init 56 = .ok (.aload_n 0, 1) := by decide +kernel
theorem dX2_init_57 : decode cX2_init 57 = .ok (.new 9, 3) := by decide +kernel
theorem dX2_init_60 : decode cX2_init 60 = .ok (.dup, 1) := by decide +kernel
theorem dX2_init_61 : decode cX2_init 61 = .ok (.bipush 24, 2) := by decide +kernel
theorem dX2_init_63 : decode cX2_init 63 = .ok (.invokespecial 11, 3) := by decide +kernel
theorem dX2_init_66 : decode cX2_init 66 = .ok (.putfield 29, 3) := by decide +kernel
theorem dX2_init_69 : decode cX2_init 69 = .ok (.aload_n 0, 1) := by decide +kernel
theorem dX2_init_70 : decode cX2_init 70 = .ok (.new 9, 3) := by decide +kernel
theorem dX2_init_73 : decode cX2_init 73 = .ok (.dup, 1) := by decide +kernel
theorem dX2_init_74 : decode cX2_init 74 = .ok (.bipush 24, 2) := by decide +kernel
theorem dX2_init_76 : decode cX2_init 76 = .ok (.invokespecial 11, 3) := by decide +kernel
theorem dX2_init_79 : decode cX2_init 79 = .ok (.putfield 32, 3) := by decide +kernel
theorem dX2_init_82 : decode cX2_init 82 = .ok (.return_, 1) := by decide +kernel
theorem dX2_has_0 : decode cX2_has 0 = .ok (.iload_n 1, 1) := by decide +kernel
theorem dX2_has_1 : decode cX2_has 1 = .ok (.iconst 0, 1) := by decide +kernel
theorem dX2_has_2 : decode cX2_has 2 = .ok (.aload_n 0, 1) := by decide +kernel
theorem dX2_has_3 : decode cX2_has 3 = .ok (.getfield 35, 3) := by decide +kernel
theorem dX2_has_6 : decode cX2_has 6 = .ok (.iconst 1, 1) := by decide +kernel
theorem dX2_has_7 : decode cX2_has 7 = .ok (.isub, 1) := by decide +kernel
theorem dX2_has_8 : decode cX2_has 8 = .ok (.invokestatic 39, 3) := by decide +kernel
theorem dX2_has_11 : decode cX2_has 11 = .ok (.ireturn, 1) := by decide +kernel
theorem dX2_add_0 : decode cX2_add 0 = .ok (.aload_n 0, 1) := by decide +kernel
theorem dX2_add_1 : decode cX2_add 1 = .ok (.getfield 35, 3) := by decide +kernel
theorem dX2_add_4 : decode cX2_add 4 = .ok (.istore 4, 2) := by decide +kernel
theorem dX2_add_6 : decode cX2_add 6 = .ok (.aload_n 0, 1) := by decide +kernel
theorem dX2_add_7 : decode cX2_add 7 = .ok (.getfield 14, 3) := by decide +kernel
theorem dX2_add_10 : decode cX2_add 10 = .ok (.iload 4, 2) := by decide +kernel
theorem dX2_add_12 : decode cX2_add 12 = .ok (.iload_n 1, 1) := by decide +kernel
theorem dX2_add_13 : decode cX2_add 13 = .ok (.invokevirtual 43, 3) := by decide +kernel
theorem dX2_add_16 : decode cX2_add 16 = .ok (.aload_n 0, 1) := by decide +kernel
theorem dX2_add_17 : decode cX2_add 17 = .ok (.getfield 20, 3) := by decide +kernel
theorem dX2_add_20 : decode cX2_add 20 = .ok (.iload 4, 2) := by decide +kernel
theorem dX2_add_22 : decode cX2_add 22 = .ok (.iload_n 2, 1) := by decide +kernel
theorem dX2_add_23 : decode cX2_add 23 = .ok (.invokevirtual 43, 3) := by decide +kernel
theorem dX2_add_26 : decode cX2_add 26 = .ok (.aload_n 0, 1) := by decide +kernel
theorem dX2_add_27 : decode cX2_add 27 = .ok (.getfield 23, 3) := by decide +kernel
theorem dX2_add_30 : decode cX2_add 30 = .ok (.iload 4, 2) := by decide +kernel
theorem dX2_add_32 : decode cX2_add 32 = .ok (.iload_n 3, 1) := by decide +kernel
theorem dX2_add_33 : decode cX2_add 33 = .ok (.invokevirtual 43, 3) := by decide +kernel
theorem dX2_add_36 : decode cX2_add 36 = .ok (.aload_n 0, 1) := by decide +kernel
theorem dX2_add_37 : decode cX2_add 37 = .ok (.getfield 26, 3) := by decide +kernel
theorem dX2_add_40 : decode cX2_add 40 = .ok (.iload 4, 2) := by decide +kernel
theorem dX2_add_42 : decode cX2_add 42 = .ok (.iconst 0, 1) := by decide +kernel
theorem dX2_add_43 : decode cX2_add 43 = .ok (.invokevirtual 43, 3) := by decide +kernel
theorem dX2_add_46 : decode cX2_add 46 = .ok (.aload_n 0, 1) := by decide +kernel
theorem dX2_add_47 : decode cX2_add 47 = .ok (.getfield 29, 3) := by decide +kernel
theorem dX2_add_50 : decode cX2_add 50 = .ok (.iload 4, 2) := by decide +kernel
theorem dX2_add_52 : decode cX2_add 52 = .ok (.iconst 0, 1) := by decide +kernel
theorem dX2_add_53 : decode cX2_add 53 = .ok (.invokevirtual 43, 3) := by decide +kernel
theorem dX2_add_56 : decode cX2_add 56 = .ok (.aload_n 0, 1) := by decide +kernel
theorem dX2_add_57 : decode cX2_add 57 = .ok (.getfield 32, 3) := by decide +kernel
theorem dX2_add_60 : decode cX2_add 60 = .ok (.iload 4, 2) := by decide +kernel
theorem dX2_add_62 : decode cX2_add 62 = .ok (.iconst 0, 1) := by decide +kernel
theorem dX2_add_63 : decode cX2_add 63 = .ok (.invokevirtual 43, 3) := by decide +kernel
theorem dX2_add_66 : decode cX2_add 66 = .ok (.aload_n 0, 1) := by decide +kernel
theorem dX2_add_67 : decode cX2_add 67 = .ok (.dup, 1) := by decide +kernel
theorem dX2_add_68 : decode cX2_add 68 = .ok (.getfield 35, 3) := by decide +kernel
theorem dX2_add_71 : decode cX2_add 71 = .ok (.iconst 1, 1) := by decide +kernel
theorem dX2_add_72 : decode cX2_add 72 = .ok (.iadd, 1) := by decide +kernel
theorem dX2_add_73 : decode cX2_add 73 = .ok (.putfield 35, 3) := by decide +kernel
theorem dX2_add_76 : decode cX2_add 76 = .ok (.iload 4, 2) := by decide +kernel
theorem dX2_add_78 : decode cX2_add 78 = .ok (.ireturn, 1) := by decide +kernel
theorem dX2_find_0 : decode cX2_find 0 = .ok (.iconst 0, 1) := by decide +kernel
theorem dX2_find_1 : decode cX2_find 1 = .ok (.istore_n 3, 1) := by decide +kernel
theorem dX2_find_2 : decode cX2_find 2 = .ok (.iload_n 3, 1) := by decide +kernel
theorem dX2_find_3 : decode cX2_find 3 = .ok (.aload_n 0, 1) := by decide +kernel
theorem dX2_find_4 : decode cX2_find 4 = .ok (.getfield 35, 3) := by decide +kernel
theorem dX2_find_7 : decode cX2_find 7 = .ok (.if_icmp .ge 35, 3) := by decide +kernel
theorem dX2_find_10 : decode cX2_find 10 = .ok (.aload_n 0, 1) := by decide +kernel
theorem dX2_find_11 : decode cX2_find 11 = .ok (.getfield 20, 3) := by decide +kernel
theorem dX2_find_14 : decode cX2_find 14 = .ok (.iload_n 3, 1) := by decide +kernel
theorem dX2_find_15 : decode cX2_find 15 = .ok (.invokevirtual 50, 3) := by decide +kernel
theorem dX2_find_18 : decode cX2_find 18 = .ok (.iload_n 1, 1) := by decide +kernel
theorem dX2_find_19 : decode cX2_find 19 = .ok (.if_icmp .ne 17, 3) := by decide +kernel
theorem dX2_find_22 : decode cX2_find 22 = .ok (.aload_n 0, 1) := by decide +kernel
theorem dX2_find_23 : decode cX2_find 23 = .ok (.getfield 23, 3) := by decide +kernel
theorem dX2_find_26 : decode cX2_find 26 = .ok (.iload_n 3, 1) := by decide +kernel
theorem dX2_find_27 : decode cX2_find 27 = .ok (.invokevirtual 50, 3) := by decide +kernel
theorem dX2_find_30 : decode cX2_find 30 = .ok (.iload_n 2, 1) := by decide +kernel
theorem dX2_find_31 : decode cX2_find 31 = .ok (.if_icmp .ne 5, 3) := by decide +kernel
theorem dX2_find_34 : decode cX2_find 34 = .ok (.iload_n 3, 1) := by decide +kernel
theorem dX2_find_35 : decode cX2_find 35 = .ok (.ireturn, 1) := by decide +kernel
theorem dX2_find_36 : decode cX2_find 36 = .ok (.iinc 3 1, 3) := by decide +kernel
theorem dX2_find_39 : decode cX2_find 39 = .ok (.goto (-37), 3) := by decide +kernel
theorem dX2_find_42 : decode cX2_find 42 = .ok (.iconst (-1), 1) := by decide +kernel
theorem dX2_find_43 : decode cX2_find 43 = .ok (.ireturn, 1) := by decide +kernel
theorem dX2_findOther_0 : decode cX2_findOther 0 = .ok (.iconst 0, 1) := by decide +kernel
theorem dX2_findOther_1 : decode cX2_findOther 1 = .ok (.istore 5, 2) := by decide +kernel
theorem dX2_findOther_3 : decode cX2_findOther 3 = .ok (.iload 5, 2) := by decide +kernel
theorem dX2_findOther_5 : decode cX2_findOther 5 = .ok (.aload_n 0, 1) := by decide +kernel
theorem dX2_findOther_6 : decode cX2_findOther 6 = .ok (.getfield 35, 3) := by decide +kernel
theorem dX2_findOther_9 : decode cX2_findOther 9 = .ok (.if_icmp .ge 70, 3) := by decide +kernel
theorem dX2_findOther_12 : decode cX2_findOther 12 = .ok (.aload_n 0, 1) := by decide +kernel
theorem dX2_findOther_13 : decode cX2_findOther 13 = .ok (.getfield 20, 3) := by decide +kernel
theorem dX2_findOther_16 : decode cX2_findOther 16 = .ok (.iload 5, 2) := by decide +kernel
theorem dX2_findOther_18 : decode cX2_findOther 18 = .ok (.invokevirtual 50, 3) := by decide +kernel
theorem dX2_findOther_21 : decode cX2_findOther 21 = .ok (.iload_n 3, 1) := by decide +kernel
theorem dX2_findOther_22 : decode cX2_findOther 22 = .ok (.if_icmp .eq 16, 3) := by decide +kernel
theorem dX2_findOther_25 : decode cX2_findOther 25 = .ok (.aload_n 0, 1) := by decide +kernel
theorem dX2_findOther_26 : decode cX2_findOther 26 = .ok (.getfield 14, 3) := by decide +kernel
theorem dX2_findOther_29 : decode cX2_findOther 29 = .ok (.iload 5, 2) := by decide +kernel
theorem dX2_findOther_31 : decode cX2_findOther 31 = .ok (.invokevirtual 50, 3) := by decide +kernel
theorem dX2_findOther_34 : decode cX2_findOther 34 = .ok (.iload_n 2, 1) := by decide +kernel
theorem dX2_findOther_35 : decode cX2_findOther 35 = .ok (.if_icmp .ne 7, 3) := by decide +kernel
theorem dX2_findOther_38 : decode cX2_findOther 38 = .ok (.iconst 1, 1) := by decide +kernel
theorem dX2_findOther_39 : decode cX2_findOther 39 = .ok (.goto 4, 3) := by decide +kernel
theorem dX2_findOther_42 : decode cX2_findOther 42 = .ok (.iconst 0, 1) := by decide +kernel
theorem dX2_findOther_43 : decode cX2_findOther 43 = .ok (.istore 6, 2) := by decide +kernel
theorem dX2_findOther_45 : decode cX2_findOther 45 = .ok (.iload 5, 2) := by decide +kernel
theorem dX2_findOther_47 : decode cX2_findOther 47 = .ok (.iload_n 1, 1) := by decide +kernel
theorem dX2_findOther_48 : decode cX2_findOther 48 = .ok (.if_icmp .eq 25, 3) := by decide +kernel
theorem dX2_findOther_51 : decode cX2_findOther 51 = .ok (.iload 6, 2) := by decide +kernel
theorem dX2_findOther_53 : decode cX2_findOther 53 = .ok (.ifCond .eq 20, 3) := by decide +kernel
theorem dX2_findOther_56 : decode cX2_findOther 56 = .ok (.aload_n 0, 1) := by decide +kernel
theorem dX2_findOther_57 : decode cX2_findOther 57 = .ok (.getfield 23, 3) := by decide +kernel
theorem dX2_findOther_60 : decode cX2_findOther 60 = .ok (.iload 5, 2) := by decide +kernel
theorem dX2_findOther_62 : decode cX2_findOther 62 = .ok (.invokevirtual 50, 3) := by decide +kernel
theorem dX2_findOther_65 : decode cX2_findOther 65 = .ok (.iload 4, 2) := by decide +kernel
theorem dX2_findOther_67 : decode cX2_findOther 67 = .ok (.if_icmp .ne 6, 3) := by decide +kernel
theorem dX2_findOther_70 : decode cX2_findOther 70 = .ok (.iload 5, 2) := by decide +kernel
theorem dX2_findOther_72 : decode cX2_findOther 72 = .ok (.ireturn, 1) := by decide +kernel
theorem dX2_findOther_73 : decode cX2_findOther 73 = .ok (.iinc 5 1, 3) := by decide +kernel
theorem dX2_findOther_76 : decode cX2_findOther 76 = .ok (.goto (-73), 3) := by decide +kernel
theorem dX2_findOther_79 : decode cX2_findOther 79 = .ok (.iconst (-1), 1) := by decide +kernel
theorem dX2_findOther_80 : decode cX2_findOther 80 = .ok (.ireturn, 1) := by decide +kernel
theorem dX2_taken_0 : decode cX2_taken 0 = .ok (.aload_n 0, 1) := by decide +kernel
theorem dX2_taken_1 : decode cX2_taken 1 = .ok (.getfield 26, 3) := by decide +kernel
theorem dX2_taken_4 : decode cX2_taken 4 = .ok (.iload_n 1, 1) := by decide +kernel
theorem dX2_taken_5 : decode cX2_taken 5 = .ok (.invokevirtual 50, 3) := by decide +kernel
theorem dX2_taken_8 : decode cX2_taken 8 = .ok (.aload_n 0, 1) := by decide +kernel
theorem dX2_taken_9 : decode cX2_taken 9 = .ok (.getfield 29, 3) := by decide +kernel
theorem dX2_taken_12 : decode cX2_taken 12 = .ok (.iload_n 1, 1) := by decide +kernel
theorem dX2_taken_13 : decode cX2_taken 13 = .ok (.invokevirtual 50, 3) := by decide +kernel
theorem dX2_taken_16 : decode cX2_taken 16 = .ok (.iadd, 1) := by decide +kernel
theorem dX2_taken_17 : decode cX2_taken 17 = .ok (.ireturn, 1) := by decide +kernel
theorem dX2_isHeldBy_0 : decode cX2_isHeldBy 0 = .ok (.aload_n 0, 1) := by decide +kernel
theorem dX2_isHeldBy_1 : decode cX2_isHeldBy 1 = .ok (.getfield 32, 3) := by decide +kernel
theorem dX2_isHeldBy_4 : decode cX2_isHeldBy 4 = .ok (.iload_n 2, 1) := by decide +kernel
theorem dX2_isHeldBy_5 : decode cX2_isHeldBy 5 = .ok (.invokevirtual 50, 3) := by decide +kernel
theorem dX2_isHeldBy_8 : decode cX2_isHeldBy 8 = .ok (.iload_n 1, 1) := by decide +kernel
theorem dX2_isHeldBy_9 : decode cX2_isHeldBy 9 = .ok (.invokestatic 54, 3) := by decide +kernel
theorem dX2_isHeldBy_12 : decode cX2_isHeldBy 12 = .ok (.ireturn, 1) := by decide +kernel
theorem dX2_heldFor_0 : decode cX2_heldFor 0 = .ok (.iconst 0, 1) := by decide +kernel
theorem dX2_heldFor_1 : decode cX2_heldFor 1 = .ok (.istore_n 2, 1) := by decide +kernel
theorem dX2_heldFor_2 : decode cX2_heldFor 2 = .ok (.iconst 0, 1) := by decide +kernel
theorem dX2_heldFor_3 : decode cX2_heldFor 3 = .ok (.istore_n 3, 1) := by decide +kernel
theorem dX2_heldFor_4 : decode cX2_heldFor 4 = .ok (.iload_n 3, 1) := by decide +kernel
theorem dX2_heldFor_5 : decode cX2_heldFor 5 = .ok (.aload_n 0, 1) := by decide +kernel
theorem dX2_heldFor_6 : decode cX2_heldFor 6 = .ok (.getfield 35, 3) := by decide +kernel
theorem dX2_heldFor_9 : decode cX2_heldFor 9 = .ok (.if_icmp .ge 24, 3) := by decide +kernel
theorem dX2_heldFor_12 : decode cX2_heldFor 12 = .ok (.aload_n 0, 1) := by decide +kernel
theorem dX2_heldFor_13 : decode cX2_heldFor 13 = .ok (.iload_n 1, 1) := by decide +kernel
theorem dX2_heldFor_14 : decode cX2_heldFor 14 = .ok (.iload_n 3, 1) := by decide +kernel
theorem dX2_heldFor_15 : decode cX2_heldFor 15 = .ok (.invokevirtual 58, 3) := by decide +kernel
theorem dX2_heldFor_18 : decode cX2_heldFor 18 = .ok (.ifCond .eq 9, 3) := by decide +kernel
theorem dX2_heldFor_21 : decode cX2_heldFor 21 = .ok (.iload_n 2, 1) := by decide +kernel
theorem dX2_heldFor_22 : decode cX2_heldFor 22 = .ok (.iconst 1, 1) := by decide +kernel
theorem dX2_heldFor_23 : decode cX2_heldFor 23 = .ok (.iload_n 3, 1) := by decide +kernel
theorem dX2_heldFor_24 : decode cX2_heldFor 24 = .ok (.ishl, 1) := by decide +kernel
theorem dX2_heldFor_25 : decode cX2_heldFor 25 = .ok (.ior, 1) := by decide +kernel
theorem dX2_heldFor_26 : decode cX2_heldFor 26 = .ok (.istore_n 2, 1) := by decide +kernel
theorem dX2_heldFor_27 : decode cX2_heldFor 27 = .ok (.iinc 3 1, 3) := by decide +kernel
theorem dX2_heldFor_30 : decode cX2_heldFor 30 = .ok (.goto (-26), 3) := by decide +kernel
theorem dX2_heldFor_33 : decode cX2_heldFor 33 = .ok (.iload_n 2, 1) := by decide +kernel
theorem dX2_heldFor_34 : decode cX2_heldFor 34 = .ok (.ireturn, 1) := by decide +kernel
theorem dX2_beginHolding_0 : decode cX2_beginHolding 0 = .ok (.aload_n 0, 1) := by decide +kernel
theorem dX2_beginHolding_1 : decode cX2_beginHolding 1 = .ok (.getfield 32, 3) := by decide +kernel
theorem dX2_beginHolding_4 : decode cX2_beginHolding 4 = .ok (.iload_n 2, 1) := by decide +kernel
theorem dX2_beginHolding_5 : decode cX2_beginHolding 5 = .ok (.aload_n 0, 1) := by decide +kernel
theorem dX2_beginHolding_6 : decode cX2_beginHolding 6 = .ok (.getfield 32, 3) := by decide +kernel
theorem dX2_beginHolding_9 : decode cX2_beginHolding 9 = .ok (.iload_n 2, 1) := by decide +kernel
theorem dX2_beginHolding_10 : decode cX2_beginHolding 10 = .ok (.invokevirtual 50, 3) := by decide +kernel
theorem dX2_beginHolding_13 : decode cX2_beginHolding 13 = .ok (.iconst 1, 1) := by decide +kernel
theorem dX2_beginHolding_14 : decode cX2_beginHolding 14 = .ok (.iload_n 1, 1) := by decide +kernel
theorem dX2_beginHolding_15 : decode cX2_beginHolding 15 = .ok (.ishl, 1) := by decide +kernel
theorem dX2_beginHolding_16 : decode cX2_beginHolding 16 = .ok (.ior, 1) := by decide +kernel
theorem dX2_beginHolding_17 : decode cX2_beginHolding 17 = .ok (.invokevirtual 43, 3) := by decide +kernel
theorem dX2_beginHolding_20 : decode cX2_beginHolding 20 = .ok (.aload_n 0, 1) := by decide +kernel
theorem dX2_beginHolding_21 : decode cX2_beginHolding 21 = .ok (.getfield 29, 3) := by decide +kernel
theorem dX2_beginHolding_24 : decode cX2_beginHolding 24 = .ok (.iload_n 2, 1) := by decide +kernel
theorem dX2_beginHolding_25 : decode cX2_beginHolding 25 = .ok (.iload_n 3, 1) := by decide +kernel
theorem dX2_beginHolding_26 : decode cX2_beginHolding 26 = .ok (.invokevirtual 61, 3) := by decide +kernel
theorem dX2_beginHolding_29 : decode cX2_beginHolding 29 = .ok (.return_, 1) := by decide +kernel
theorem dX2_copyFrom_0 : decode cX2_copyFrom 0 = .ok (.aload_n 0, 1) := by decide +kernel
theorem dX2_copyFrom_1 : decode cX2_copyFrom 1 = .ok (.aload_n 1, 1) := by decide +kernel
theorem dX2_copyFrom_2 : decode cX2_copyFrom 2 = .ok (.getfield 35, 3) := by decide +kernel
theorem dX2_copyFrom_5 : decode cX2_copyFrom 5 = .ok (.putfield 35, 3) := by decide +kernel
theorem dX2_copyFrom_8 : decode cX2_copyFrom 8 = .ok (.aload_n 0, 1) := by decide +kernel
theorem dX2_copyFrom_9 : decode cX2_copyFrom 9 = .ok (.getfield 14, 3) := by decide +kernel
theorem dX2_copyFrom_12 : decode cX2_copyFrom 12 = .ok (.aload_n 1, 1) := by decide +kernel
theorem dX2_copyFrom_13 : decode cX2_copyFrom 13 = .ok (.getfield 14, 3) := by decide +kernel
theorem dX2_copyFrom_16 : decode cX2_copyFrom 16 = .ok (.invokevirtual 64, 3) := by decide +kernel
theorem dX2_copyFrom_19 : decode cX2_copyFrom 19 = .ok (.aload_n 0, 1) := by decide +kernel
theorem dX2_copyFrom_20 : decode cX2_copyFrom 20 = .ok (.getfield 20, 3) := by decide +kernel
theorem dX2_copyFrom_23 : decode cX2_copyFrom 23 = .ok (.aload_n 1, 1) := by decide +kernel
theorem dX2_copyFrom_24 : decode cX2_copyFrom 24 = .ok (.getfield 20, 3) := by decide +kernel
theorem dX2_copyFrom_27 : decode cX2_copyFrom 27 = .ok (.invokevirtual 64, 3) := by decide +kernel
theorem dX2_copyFrom_30 : decode cX2_copyFrom 30 = .ok (.aload_n 0, 1) := by decide +kernel
theorem dX2_copyFrom_31 : decode cX2_copyFrom 31 = .ok (.getfield 23, 3) := by decide +kernel
theorem dX2_copyFrom_34 : decode cX2_copyFrom 34 = .ok (.aload_n 1, 1) := by decide +kernel
theorem dX2_copyFrom_35 : decode cX2_copyFrom 35 = .ok (.getfield 23, 3) := by decide +kernel
theorem dX2_copyFrom_38 : decode cX2_copyFrom 38 = .ok (.invokevirtual 64, 3) := by decide +kernel
theorem dX2_copyFrom_41 : decode cX2_copyFrom 41 = .ok (.aload_n 0, 1) := by decide +kernel
theorem dX2_copyFrom_42 : decode cX2_copyFrom 42 = .ok (.getfield 26, 3) := by decide +kernel
theorem dX2_copyFrom_45 : decode cX2_copyFrom 45 = .ok (.aload_n 1, 1) := by decide +kernel
theorem dX2_copyFrom_46 : decode cX2_copyFrom 46 = .ok (.getfield 26, 3) := by decide +kernel
theorem dX2_copyFrom_49 : decode cX2_copyFrom 49 = .ok (.invokevirtual 64, 3) := by decide +kernel
theorem dX2_copyFrom_52 : decode cX2_copyFrom 52 = .ok (.aload_n 0, 1) := by decide +kernel
theorem dX2_copyFrom_53 : decode cX2_copyFrom 53 = .ok (.getfield 29, 3) := by decide +kernel
theorem dX2_copyFrom_56 : decode cX2_copyFrom 56 = .ok (.aload_n 1, 1) := by decide +kernel
theorem dX2_copyFrom_57 : decode cX2_copyFrom 57 = .ok (.getfield 29, 3) := by decide +kernel
theorem dX2_copyFrom_60 : decode cX2_copyFrom 60 = .ok (.invokevirtual 64, 3) := by decide +kernel
theorem dX2_copyFrom_63 : decode cX2_copyFrom 63 = .ok (.aload_n 0, 1) := by decide +kernel
theorem dX2_copyFrom_64 : decode cX2_copyFrom 64 = .ok (.getfield 32, 3) := by decide +kernel
theorem dX2_copyFrom_67 : decode cX2_copyFrom 67 = .ok (.aload_n 1, 1) := by decide +kernel
theorem dX2_copyFrom_68 : decode cX2_copyFrom 68 = .ok (.getfield 32, 3) := by decide +kernel
theorem dX2_copyFrom_71 : decode cX2_copyFrom 71 = .ok (.invokevirtual 64, 3) := by decide +kernel
theorem dX2_copyFrom_74 : decode cX2_copyFrom 74 = .ok (.return_, 1) := by decide +kernel
theorem dX3_init_0 : decode cX3_init 0 = .ok (.aload_n 0, 1) := by decide +kernel
theorem dX3_init_1 : decode cX3_init 1 = .ok (.invokespecial 3, 3) := by decide +kernel
theorem dX3_init_4 : decode cX3_init 4 = .ok (.aload_n 0, 1) := by decide +kernel
theorem dX3_init_5 : decode cX3_init 5 = .ok (.new 9, 3) := by decide +kernel
theorem dX3_init_8 : decode cX3_init 8 = .ok (.dup, 1) := by decide +kernel
theorem dX3_init_9 : decode cX3_init 9 = .ok (.bipush 8, 2) := by decide +kernel
theorem dX3_init_11 : decode cX3_init 11 = .ok (.invokespecial 11, 3) := by decide +kernel
theorem dX3_init_14 : decode cX3_init 14 = .ok (.putfield 14, 3) := by decide +kernel
theorem dX3_init_17 : decode cX3_init 17 = .ok (.aload_n 0, 1) := by decide +kernel
theorem dX3_init_18 : decode cX3_init 18 = .ok (.new 9, 3) := by decide +kernel
theorem dX3_init_21 : decode cX3_init 21 = .ok (.dup, 1) := by decide +kernel
theorem dX3_init_22 : decode cX3_init 22 = .ok (.bipush 8, 2) := by decide +kernel
theorem dX3_init_24 : decode cX3_init 24 = .ok (.invokespecial 11, 3) := by decide +kernel
theorem dX3_init_27 : decode cX3_init 27 = .ok (.putfield 20, 3) := by decide +kernel
theorem dX3_init_30 : decode cX3_init 30 = .ok (.aload_n 0, 1) := by decide +kernel
theorem dX3_init_31 : decode cX3_init 31 = .ok (.new 9, 3) := by decide +kernel
theorem dX3_init_34 : decode cX3_init 34 = .ok (.dup, 1) := by decide +kernel
theorem dX3_init_35 : decode cX3_init 35 = .ok (.bipush 8, 2) := by decide +kernel
theorem dX3_init_37 : decode cX3_init 37 = .ok (.invokespecial 11, 3) := by decide +kernel
theorem dX3_init_40 : decode cX3_init 40 = .ok (.putfield 23, 3) := by decide +kernel
theorem dX3_init_43 : decode cX3_init 43 = .ok (.aload_n 0, 1) := by decide +kernel
theorem dX3_init_44 : decode cX3_init 44 = .ok (.new 9, 3) := by decide +kernel
theorem dX3_init_47 : decode cX3_init 47 = .ok (.dup, 1) := by decide +kernel
theorem dX3_init_48 : decode cX3_init 48 = .ok (.bipush 8, 2) := by decide +kernel
theorem dX3_init_50 : decode cX3_init 50 = .ok (.invokespecial 11, 3) := by decide +kernel
theorem dX3_init_53 : decode cX3_init 53 = .ok (.putfield 26, 3) := by decide +kernel
theorem dX3_init_56 : decode cX3_init 56 = .ok (.aload_n 0, 1) := by decide +kernel
theorem dX3_init_57 : decode cX3_init 57 = .ok (.new 9, 3) := by decide +kernel
theorem dX3_init_60 : decode cX3_init 60 = .ok (.dup, 1) := by decide +kernel
theorem dX3_init_61 : decode cX3_init 61 = .ok (.bipush 8, 2) := by decide +kernel
theorem dX3_init_63 : decode cX3_init 63 = .ok (.invokespecial 11, 3) := by decide +kernel
theorem dX3_init_66 : decode cX3_init 66 = .ok (.putfield 29, 3) := by decide +kernel
theorem dX3_init_69 : decode cX3_init 69 = .ok (.return_, 1) := by decide +kernel
theorem dX3_has_0 : decode cX3_has 0 = .ok (.iload_n 1, 1) := by decide +kernel
theorem dX3_has_1 : decode cX3_has 1 = .ok (.iconst 0, 1) := by decide +kernel
theorem dX3_has_2 : decode cX3_has 2 = .ok (.aload_n 0, 1) := by decide +kernel
theorem dX3_has_3 : decode cX3_has 3 = .ok (.getfield 32, 3) := by decide +kernel
theorem dX3_has_6 : decode cX3_has 6 = .ok (.iconst 1, 1) := by decide +kernel
theorem dX3_has_7 : decode cX3_has 7 = .ok (.isub, 1) := by decide +kernel
theorem dX3_has_8 : decode cX3_has 8 = .ok (.invokestatic 36, 3) := by decide +kernel
theorem dX3_has_11 : decode cX3_has 11 = .ok (.ireturn, 1) := by decide +kernel
theorem dX3_add_0 : decode cX3_add 0 = .ok (.aload_n 0, 1) := by decide +kernel
theorem dX3_add_1 : decode cX3_add 1 = .ok (.getfield 32, 3) := by decide +kernel
theorem dX3_add_4 : decode cX3_add 4 = .ok (.istore 5, 2) := by decide +kernel
theorem dX3_add_6 : decode cX3_add 6 = .ok (.aload_n 0, 1) := by decide +kernel
theorem dX3_add_7 : decode cX3_add 7 = .ok (.getfield 14, 3) := by decide +kernel
theorem dX3_add_10 : decode cX3_add 10 = .ok (.iload 5, 2) := by decide +kernel
theorem dX3_add_12 : decode cX3_add 12 = .ok (.iload_n 1, 1) := by decide +kernel
theorem dX3_add_13 : decode cX3_add 13 = .ok (.invokevirtual 40, 3) := by decide +kernel
theorem dX3_add_16 : decode cX3_add 16 = .ok (.aload_n 0, 1) := by decide +kernel
theorem dX3_add_17 : decode cX3_add 17 = .ok (.getfield 20, 3) := by decide +kernel
theorem dX3_add_20 : decode cX3_add 20 = .ok (.iload 5, 2) := by decide +kernel
theorem dX3_add_22 : decode cX3_add 22 = .ok (.iload_n 2, 1) := by decide +kernel
theorem dX3_add_23 : decode cX3_add 23 = .ok (.invokevirtual 40, 3) := by decide +kernel
theorem dX3_add_26 : decode cX3_add 26 = .ok (.aload_n 0, 1) := by decide +kernel
theorem dX3_add_27 : decode cX3_add 27 = .ok (.getfield 23, 3) := by decide +kernel
theorem dX3_add_30 : decode cX3_add 30 = .ok (.iload 5, 2) := by decide +kernel
theorem dX3_add_32 : decode cX3_add 32 = .ok (.iload_n 3, 1) := by decide +kernel
theorem dX3_add_33 : decode cX3_add 33 = .ok (.invokevirtual 40, 3) := by decide +kernel
theorem dX3_add_36 : decode cX3_add 36 = .ok (.aload_n 0, 1) := by decide +kernel
theorem dX3_add_37 : decode cX3_add 37 = .ok (.getfield 26, 3) := by decide +kernel
theorem dX3_add_40 : decode cX3_add 40 = .ok (.iload 5, 2) := by decide +kernel
theorem dX3_add_42 : decode cX3_add 42 = .ok (.iload 4, 2) := by decide +kernel
theorem dX3_add_44 : decode cX3_add 44 = .ok (.invokevirtual 40, 3) := by decide +kernel
theorem dX3_add_47 : decode cX3_add 47 = .ok (.aload_n 0, 1) := by decide +kernel
theorem dX3_add_48 : decode cX3_add 48 = .ok (.getfield 29, 3) := by decide +kernel
theorem dX3_add_51 : decode cX3_add 51 = .ok (.iload 5, 2) := by decide +kernel
theorem dX3_add_53 : decode cX3_add 53 = .ok (.iconst 0, 1) := by decide +kernel
theorem dX3_add_54 : decode cX3_add 54 = .ok (.invokevirtual 40, 3) := by decide +kernel
theorem dX3_add_57 : decode cX3_add 57 = .ok (.aload_n 0, 1) := by decide +kernel
theorem dX3_add_58 : decode cX3_add 58 = .ok (.dup, 1) := by decide +kernel
theorem dX3_add_59 : decode cX3_add 59 = .ok (.getfield 32, 3) := by decide +kernel
theorem dX3_add_62 : decode cX3_add 62 = .ok (.iconst 1, 1) := by decide +kernel
theorem dX3_add_63 : decode cX3_add 63 = .ok (.iadd, 1) := by decide +kernel
theorem dX3_add_64 : decode cX3_add 64 = .ok (.putfield 32, 3) := by decide +kernel
theorem dX3_add_67 : decode cX3_add 67 = .ok (.iload 5, 2) := by decide +kernel
theorem dX3_add_69 : decode cX3_add 69 = .ok (.ireturn, 1) := by decide +kernel
theorem dX3_isStored_0 : decode cX3_isStored 0 = .ok (.iload_n 0, 1) := by decide +kernel
theorem dX3_isStored_1 : decode cX3_isStored 1 = .ok (.iconst 1, 1) := by decide +kernel
theorem dX3_isStored_2 : decode cX3_isStored 2 = .ok (.iload_n 1, 1) := by decide +kernel
theorem dX3_isStored_3 : decode cX3_isStored 3 = .ok (.ishl, 1) := by decide +kernel
theorem dX3_isStored_4 : decode cX3_isStored 4 = .ok (.iconst 1, 1) := by decide +kernel
theorem dX3_isStored_5 : decode cX3_isStored 5 = .ok (.isub, 1) := by decide +kernel
theorem dX3_isStored_6 : decode cX3_isStored 6 = .ok (.iand, 1) := by decide +kernel
theorem dX3_isStored_7 : decode cX3_isStored 7 = .ok (.ifCond .eq 7, 3) := by decide +kernel
theorem dX3_isStored_10 : decode cX3_isStored 10 = .ok (.iconst 1, 1) := by decide +kernel
theorem dX3_isStored_11 : decode cX3_isStored 11 = .ok (.goto 4, 3) := by decide +kernel
theorem dX3_isStored_14 : decode cX3_isStored 14 = .ok (.iconst 0, 1) := by decide +kernel
theorem dX3_isStored_15 : decode cX3_isStored 15 = .ok (.istore_n 2, 1) := by decide +kernel
theorem dX3_isStored_16 : decode cX3_isStored 16 = .ok (.iload_n 0, 1) := by decide +kernel
theorem dX3_isStored_17 : decode cX3_isStored 17 = .ok (.iload_n 1, 1) := by decide +kernel
theorem dX3_isStored_18 : decode cX3_isStored 18 = .ok (.ishr, 1) := by decide +kernel
theorem dX3_isStored_19 : decode cX3_isStored 19 = .ok (.ifCond .eq 7, 3) := by decide +kernel
theorem dX3_isStored_22 : decode cX3_isStored 22 = .ok (.iconst 1, 1) := by decide +kernel
theorem dX3_isStored_23 : decode cX3_isStored 23 = .ok (.goto 4, 3) := by decide +kernel
theorem dX3_isStored_26 : decode cX3_isStored 26 = .ok (.iconst 0, 1) := by decide +kernel
theorem dX3_isStored_27 : decode cX3_isStored 27 = .ok (.istore_n 3, 1) := by decide +kernel
theorem dX3_isStored_28 : decode cX3_isStored 28 = .ok (.iload_n 0, 1) := by decide +kernel
theorem dX3_isStored_29 : decode cX3_isStored 29 = .ok (.iload_n 1, 1) := by decide +kernel
theorem dX3_isStored_30 : decode cX3_isStored 30 = .ok (.ishr, 1) := by decide +kernel
theorem dX3_isStored_31 : decode cX3_isStored 31 = .ok (.iconst 1, 1) := by decide +kernel
theorem dX3_isStored_32 : decode cX3_isStored 32 = .ok (.iand, 1) := by decide +kernel
theorem dX3_isStored_33 : decode cX3_isStored 33 = .ok (.ifCond .eq 7, 3) := by decide +kernel
theorem dX3_isStored_36 : decode cX3_isStored 36 = .ok (.iconst 1, 1) := by decide +kernel
theorem dX3_isStored_37 : decode cX3_isStored 37 = .ok (.goto 4, 3) := by decide +kernel
theorem dX3_isStored_40 : decode cX3_isStored 40 = .ok (.iconst 0, 1) := by decide +kernel
theorem dX3_isStored_41 : decode cX3_isStored 41 = .ok (.istore 4, 2) := by decide +kernel
theorem dX3_isStored_43 : decode cX3_isStored 43 = .ok (.iload_n 2, 1) := by decide +kernel
theorem dX3_isStored_44 : decode cX3_isStored 44 = .ok (.ifCond .eq 16, 3) := by decide +kernel
theorem dX3_isStored_47 : decode cX3_isStored 47 = .ok (.iload_n 3, 1) := by decide +kernel
theorem dX3_isStored_48 : decode cX3_isStored 48 = .ok (.ifCond .eq 12, 3) := by decide +kernel
theorem dX3_isStored_51 : decode cX3_isStored 51 = .ok (.iload 4, 2) := by decide +kernel
theorem dX3_isStored_53 : decode cX3_isStored 53 = .ok (.ifCond .ne 7, 3) := by decide +kernel
theorem dX3_isStored_56 : decode cX3_isStored 56 = .ok (.iconst 1, 1) := by decide +kernel
theorem dX3_isStored_57 : decode cX3_isStored 57 = .ok (.goto 4, 3) := by decide +kernel
theorem dX3_isStored_60 : decode cX3_isStored 60 = .ok (.iconst 0, 1) := by decide +kernel
theorem dX3_isStored_61 : decode cX3_isStored 61 = .ok (.ireturn, 1) := by decide +kernel
theorem dX3_loadIf_0 : decode cX3_loadIf 0 = .ok (.iconst 0, 1) := by decide +kernel
theorem dX3_loadIf_1 : decode cX3_loadIf 1 = .ok (.istore 4, 2) := by decide +kernel
theorem dX3_loadIf_3 : decode cX3_loadIf 3 = .ok (.iconst 0, 1) := by decide +kernel
theorem dX3_loadIf_4 : decode cX3_loadIf 4 = .ok (.istore 5, 2) := by decide +kernel
theorem dX3_loadIf_6 : decode cX3_loadIf 6 = .ok (.iload 5, 2) := by decide +kernel
theorem dX3_loadIf_8 : decode cX3_loadIf 8 = .ok (.aload_n 0, 1) := by decide +kernel
theorem dX3_loadIf_9 : decode cX3_loadIf 9 = .ok (.getfield 32, 3) := by decide +kernel
theorem dX3_loadIf_12 : decode cX3_loadIf 12 = .ok (.if_icmp .ge 53, 3) := by decide +kernel
theorem dX3_loadIf_15 : decode cX3_loadIf 15 = .ok (.iload 5, 2) := by decide +kernel
theorem dX3_loadIf_17 : decode cX3_loadIf 17 = .ok (.iload_n 2, 1) := by decide +kernel
theorem dX3_loadIf_18 : decode cX3_loadIf 18 = .ok (.if_icmp .ne 7, 3) := by decide +kernel
theorem dX3_loadIf_21 : decode cX3_loadIf 21 = .ok (.iload_n 3, 1) := by decide +kernel
theorem dX3_loadIf_22 : decode cX3_loadIf 22 = .ok (.goto 12, 3) := by decide +kernel
theorem dX3_loadIf_25 : decode cX3_loadIf 25 = .ok (.aload_n 0, 1) := by decide +kernel
theorem dX3_loadIf_26 : decode cX3_loadIf 26 = .ok (.getfield 29, 3) := by decide +kernel
theorem dX3_loadIf_29 : decode cX3_loadIf 29 = .ok (.iload 5, 2) := by decide +kernel
theorem dX3_loadIf_31 : decode cX3_loadIf 31 = .ok (.invokevirtual 44, 3) := by decide +kernel
theorem dX3_loadIf_34 : decode cX3_loadIf 34 = .ok (.istore 6, 2) := by decide +kernel
theorem dX3_loadIf_36 : decode cX3_loadIf 36 = .ok (.iload 6, 2) := by decide +kernel
theorem dX3_loadIf_38 : decode cX3_loadIf 38 = .ok (.iload_n 1, 1) := by decide +kernel
theorem dX3_loadIf_39 : decode cX3_loadIf 39 = .ok (.invokestatic 48, 3) := by decide +kernel
theorem dX3_loadIf_42 : decode cX3_loadIf 42 = .ok (.ifCond .eq 17, 3) := by decide +kernel
theorem dX3_loadIf_45 : decode cX3_loadIf 45 = .ok (.iload 4, 2) := by decide +kernel
theorem dX3_loadIf_47 : decode cX3_loadIf 47 = .ok (.aload_n 0, 1) := by decide +kernel
theorem dX3_loadIf_48 : decode cX3_loadIf 48 = .ok (.getfield 14, 3) := by decide +kernel
theorem dX3_loadIf_51 : decode cX3_loadIf 51 = .ok (.iload 5, 2) := by decide +kernel
theorem dX3_loadIf_53 : decode cX3_loadIf 53 = .ok (.invokevirtual 44, 3) := by decide +kernel
theorem dX3_loadIf_56 : decode cX3_loadIf 56 = .ok (.iadd, 1) := by decide +kernel
theorem dX3_loadIf_57 : decode cX3_loadIf 57 = .ok (.istore 4, 2) := by decide +kernel
theorem dX3_loadIf_59 : decode cX3_loadIf 59 = .ok (.iinc 5 1, 3) := by decide +kernel
theorem dX3_loadIf_62 : decode cX3_loadIf 62 = .ok (.goto (-56), 3) := by decide +kernel
theorem dX3_loadIf_65 : decode cX3_loadIf 65 = .ok (.iload 4, 2) := by decide +kernel
theorem dX3_loadIf_67 : decode cX3_loadIf 67 = .ok (.ireturn, 1) := by decide +kernel
theorem dX3_peakIf_0 : decode cX3_peakIf 0 = .ok (.iconst 0, 1) := by decide +kernel
theorem dX3_peakIf_1 : decode cX3_peakIf 1 = .ok (.istore_n 3, 1) := by decide +kernel
theorem dX3_peakIf_2 : decode cX3_peakIf 2 = .ok (.iconst 0, 1) := by decide +kernel
theorem dX3_peakIf_3 : decode cX3_peakIf 3 = .ok (.istore 4, 2) := by decide +kernel
theorem dX3_peakIf_5 : decode cX3_peakIf 5 = .ok (.iload 4, 2) := by decide +kernel
theorem dX3_peakIf_7 : decode cX3_peakIf 7 = .ok (.bipush 30, 2) := by decide +kernel
theorem dX3_peakIf_9 : decode cX3_peakIf 9 = .ok (.if_icmp .ge 22, 3) := by decide +kernel
theorem dX3_peakIf_12 : decode cX3_peakIf 12 = .ok (.iload_n 3, 1) := by decide +kernel
theorem dX3_peakIf_13 : decode cX3_peakIf 13 = .ok (.aload_n 0, 1) := by decide +kernel
theorem dX3_peakIf_14 : decode cX3_peakIf 14 = .ok (.iload 4, 2) := by decide +kernel
theorem dX3_peakIf_16 : decode cX3_peakIf 16 = .ok (.iload_n 1, 1) := by decide +kernel
theorem dX3_peakIf_17 : decode cX3_peakIf 17 = .ok (.iload_n 2, 1) := by decide +kernel
theorem dX3_peakIf_18 : decode cX3_peakIf 18 = .ok (.invokevirtual 52, 3) := by decide +kernel
theorem dX3_peakIf_21 : decode cX3_peakIf 21 = .ok (.invokestatic 56, 3) := by decide +kernel
theorem dX3_peakIf_24 : decode cX3_peakIf 24 = .ok (.istore_n 3, 1) := by decide +kernel
theorem dX3_peakIf_25 : decode cX3_peakIf 25 = .ok (.iinc 4 1, 3) := by decide +kernel
theorem dX3_peakIf_28 : decode cX3_peakIf 28 = .ok (.goto (-23), 3) := by decide +kernel
theorem dX3_peakIf_31 : decode cX3_peakIf 31 = .ok (.iload_n 3, 1) := by decide +kernel
theorem dX3_peakIf_32 : decode cX3_peakIf 32 = .ok (.ireturn, 1) := by decide +kernel
theorem dX3_crewIf_0 : decode cX3_crewIf 0 = .ok (.iconst 0, 1) := by decide +kernel
theorem dX3_crewIf_1 : decode cX3_crewIf 1 = .ok (.istore 4, 2) := by decide +kernel
theorem dX3_crewIf_3 : decode cX3_crewIf 3 = .ok (.iconst 0, 1) := by decide +kernel
theorem dX3_crewIf_4 : decode cX3_crewIf 4 = .ok (.istore 5, 2) := by decide +kernel
theorem dX3_crewIf_6 : decode cX3_crewIf 6 = .ok (.iload 5, 2) := by decide +kernel
theorem dX3_crewIf_8 : decode cX3_crewIf 8 = .ok (.aload_n 0, 1) := by decide +kernel
theorem dX3_crewIf_9 : decode cX3_crewIf 9 = .ok (.getfield 32, 3) := by decide +kernel
theorem dX3_crewIf_12 : decode cX3_crewIf 12 = .ok (.if_icmp .ge 53, 3) := by decide +kernel
theorem dX3_crewIf_15 : decode cX3_crewIf 15 = .ok (.iload 5, 2) := by decide +kernel
theorem dX3_crewIf_17 : decode cX3_crewIf 17 = .ok (.iload_n 2, 1) := by decide +kernel
theorem dX3_crewIf_18 : decode cX3_crewIf 18 = .ok (.if_icmp .ne 7, 3) := by decide +kernel
theorem dX3_crewIf_21 : decode cX3_crewIf 21 = .ok (.iload_n 3, 1) := by decide +kernel
theorem dX3_crewIf_22 : decode cX3_crewIf 22 = .ok (.goto 12, 3) := by decide +kernel
theorem dX3_crewIf_25 : decode cX3_crewIf 25 = .ok (.aload_n 0, 1) := by decide +kernel
theorem dX3_crewIf_26 : decode cX3_crewIf 26 = .ok (.getfield 29, 3) := by decide +kernel
theorem dX3_crewIf_29 : decode cX3_crewIf 29 = .ok (.iload 5, 2) := by decide +kernel
theorem dX3_crewIf_31 : decode cX3_crewIf 31 = .ok (.invokevirtual 44, 3) := by decide +kernel
theorem dX3_crewIf_34 : decode cX3_crewIf 34 = .ok (.istore 6, 2) := by decide +kernel
theorem dX3_crewIf_36 : decode cX3_crewIf 36 = .ok (.iload 6, 2) := by decide +kernel
theorem dX3_crewIf_38 : decode cX3_crewIf 38 = .ok (.iload_n 1, 1) := by decide +kernel
theorem dX3_crewIf_39 : decode cX3_crewIf 39 = .ok (.invokestatic 62, 3) := by decide +kernel
theorem dX3_crewIf_42 : decode cX3_crewIf 42 = .ok (.ifCond .eq 17, 3) := by decide +kernel
theorem dX3_crewIf_45 : decode cX3_crewIf 45 = .ok (.iload 4, 2) := by decide +kernel
theorem dX3_crewIf_47 : decode cX3_crewIf 47 = .ok (.aload_n 0, 1) := by decide +kernel
theorem dX3_crewIf_48 : decode cX3_crewIf 48 = .ok (.getfield 20, 3) := by decide +kernel
theorem dX3_crewIf_51 : decode cX3_crewIf 51 = .ok (.iload 5, 2) := by decide +kernel
theorem dX3_crewIf_53 : decode cX3_crewIf 53 = .ok (.invokevirtual 44, 3) := by decide +kernel
theorem dX3_crewIf_56 : decode cX3_crewIf 56 = .ok (.iadd, 1) := by decide +kernel
theorem dX3_crewIf_57 : decode cX3_crewIf 57 = .ok (.istore 4, 2) := by decide +kernel
theorem dX3_crewIf_59 : decode cX3_crewIf 59 = .ok (.iinc 5 1, 3) := by decide +kernel
theorem dX3_crewIf_62 : decode cX3_crewIf 62 = .ok (.goto (-56), 3) := by decide +kernel
theorem dX3_crewIf_65 : decode cX3_crewIf 65 = .ok (.iload 4, 2) := by decide +kernel
theorem dX3_crewIf_67 : decode cX3_crewIf 67 = .ok (.ireturn, 1) := by decide +kernel
theorem dX3_staffRefusalIf_0 : decode cX3_staffRefusalIf 0 = .ok (.iconst 0, 1) := by decide +kernel
theorem dX3_staffRefusalIf_1 : decode cX3_staffRefusalIf 1 = .ok (.istore 4, 2) := by decide +kernel
theorem dX3_staffRefusalIf_3 : decode cX3_staffRefusalIf 3 = .ok (.iload 4, 2) := by decide +kernel
theorem dX3_staffRefusalIf_5 : decode cX3_staffRefusalIf 5 = .ok (.bipush 30, 2) := by decide +kernel
theorem dX3_staffRefusalIf_7 : decode cX3_staffRefusalIf 7 = .ok (.if_icmp .ge 33, 3) := by decide +kernel
theorem dX3_staffRefusalIf_10 : decode cX3_staffRefusalIf 10 = .ok (.aload_n 0, 1) := by decide +kernel
theorem dX3_staffRefusalIf_11 : decode cX3_staffRefusalIf 11 = .ok (.iload 4, 2) := by decide +kernel
theorem dX3_staffRefusalIf_13 : decode cX3_staffRefusalIf 13 = .ok (.iload_n 2, 1) := by decide +kernel
theorem dX3_staffRefusalIf_14 : decode cX3_staffRefusalIf 14 = .ok (.iload_n 3, 1) := by decide +kernel
theorem dX3_staffRefusalIf_15 : decode cX3_staffRefusalIf 15 = .ok (.invokevirtual 65, 3) := by decide +kernel
theorem dX3_staffRefusalIf_18 : decode cX3_staffRefusalIf 18 = .ok (.iload_n 1, 1) := by decide +kernel
theorem dX3_staffRefusalIf_19 : decode cX3_staffRefusalIf 19 = .ok (.isub, 1) := by decide +kernel
theorem dX3_staffRefusalIf_20 : decode cX3_staffRefusalIf 20 = .ok (.istore 5, 2) := by decide +kernel
theorem dX3_staffRefusalIf_22 : decode cX3_staffRefusalIf 22 = .ok (.iload 5, 2) := by decide +kernel
theorem dX3_staffRefusalIf_24 : decode cX3_staffRefusalIf 24 = .ok (.ifCond .le 10, 3) := by decide +kernel
theorem dX3_staffRefusalIf_27 : decode cX3_staffRefusalIf 27 = .ok (.iconst 2, 1) := by decide +kernel
theorem dX3_staffRefusalIf_28 : decode cX3_staffRefusalIf 28 = .ok (.iload 5, 2) := by decide +kernel
theorem dX3_staffRefusalIf_30 : decode cX3_staffRefusalIf 30 = .ok (.invokestatic 68, 3) := by decide +kernel
theorem dX3_staffRefusalIf_33 : decode cX3_staffRefusalIf 33 = .ok (.ireturn, 1) := by decide +kernel
theorem dX3_staffRefusalIf_34 : decode cX3_staffRefusalIf 34 = .ok (.iinc 4 1, 3) := by decide +kernel
theorem dX3_staffRefusalIf_37 : decode cX3_staffRefusalIf 37 = .ok (.goto (-34), 3) := by decide +kernel
theorem dX3_staffRefusalIf_40 : decode cX3_staffRefusalIf 40 = .ok (.iconst 0, 1) := by decide +kernel
theorem dX3_staffRefusalIf_41 : decode cX3_staffRefusalIf 41 = .ok (.ireturn, 1) := by decide +kernel
theorem dX3_roomRefusalIf_0 : decode cX3_roomRefusalIf 0 = .ok (.iconst 0, 1) := by decide +kernel
theorem dX3_roomRefusalIf_1 : decode cX3_roomRefusalIf 1 = .ok (.istore 4, 2) := by decide +kernel
theorem dX3_roomRefusalIf_3 : decode cX3_roomRefusalIf 3 = .ok (.iload 4, 2) := by decide +kernel
theorem dX3_roomRefusalIf_5 : decode cX3_roomRefusalIf 5 = .ok (.bipush 30, 2) := by decide +kernel
theorem dX3_roomRefusalIf_7 : decode cX3_roomRefusalIf 7 = .ok (.if_icmp .ge 28, 3) := by decide +kernel
theorem dX3_roomRefusalIf_10 : decode cX3_roomRefusalIf 10 = .ok (.aload_n 0, 1) := by decide +kernel
theorem dX3_roomRefusalIf_11 : decode cX3_roomRefusalIf 11 = .ok (.iload 4, 2) := by decide +kernel
theorem dX3_roomRefusalIf_13 : decode cX3_roomRefusalIf 13 = .ok (.iload_n 2, 1) := by decide +kernel
theorem dX3_roomRefusalIf_14 : decode cX3_roomRefusalIf 14 = .ok (.iload_n 3, 1) := by decide +kernel
theorem dX3_roomRefusalIf_15 : decode cX3_roomRefusalIf 15 = .ok (.invokevirtual 52, 3) := by decide +kernel
theorem dX3_roomRefusalIf_18 : decode cX3_roomRefusalIf 18 = .ok (.iload_n 1, 1) := by decide +kernel
theorem dX3_roomRefusalIf_19 : decode cX3_roomRefusalIf 19 = .ok (.if_icmp .le 10, 3) := by decide +kernel
theorem dX3_roomRefusalIf_22 : decode cX3_roomRefusalIf 22 = .ok (.iconst 3, 1) := by decide +kernel
theorem dX3_roomRefusalIf_23 : decode cX3_roomRefusalIf 23 = .ok (.iload 4, 2) := by decide +kernel
theorem dX3_roomRefusalIf_25 : decode cX3_roomRefusalIf 25 = .ok (.invokestatic 68, 3) := by decide +kernel
theorem dX3_roomRefusalIf_28 : decode cX3_roomRefusalIf 28 = .ok (.ireturn, 1) := by decide +kernel
theorem dX3_roomRefusalIf_29 : decode cX3_roomRefusalIf 29 = .ok (.iinc 4 1, 3) := by decide +kernel
theorem dX3_roomRefusalIf_32 : decode cX3_roomRefusalIf 32 = .ok (.goto (-29), 3) := by decide +kernel
theorem dX3_roomRefusalIf_35 : decode cX3_roomRefusalIf 35 = .ok (.iconst 0, 1) := by decide +kernel
theorem dX3_roomRefusalIf_36 : decode cX3_roomRefusalIf 36 = .ok (.ireturn, 1) := by decide +kernel
theorem dX3_copyFrom_0 : decode cX3_copyFrom 0 = .ok (.aload_n 0, 1) := by decide +kernel
theorem dX3_copyFrom_1 : decode cX3_copyFrom 1 = .ok (.aload_n 1, 1) := by decide +kernel
theorem dX3_copyFrom_2 : decode cX3_copyFrom 2 = .ok (.getfield 32, 3) := by decide +kernel
theorem dX3_copyFrom_5 : decode cX3_copyFrom 5 = .ok (.putfield 32, 3) := by decide +kernel
theorem dX3_copyFrom_8 : decode cX3_copyFrom 8 = .ok (.aload_n 0, 1) := by decide +kernel
theorem dX3_copyFrom_9 : decode cX3_copyFrom 9 = .ok (.getfield 14, 3) := by decide +kernel
theorem dX3_copyFrom_12 : decode cX3_copyFrom 12 = .ok (.aload_n 1, 1) := by decide +kernel
theorem dX3_copyFrom_13 : decode cX3_copyFrom 13 = .ok (.getfield 14, 3) := by decide +kernel
theorem dX3_copyFrom_16 : decode cX3_copyFrom 16 = .ok (.invokevirtual 71, 3) := by decide +kernel
theorem dX3_copyFrom_19 : decode cX3_copyFrom 19 = .ok (.aload_n 0, 1) := by decide +kernel
theorem dX3_copyFrom_20 : decode cX3_copyFrom 20 = .ok (.getfield 20, 3) := by decide +kernel
theorem dX3_copyFrom_23 : decode cX3_copyFrom 23 = .ok (.aload_n 1, 1) := by decide +kernel
theorem dX3_copyFrom_24 : decode cX3_copyFrom 24 = .ok (.getfield 20, 3) := by decide +kernel
theorem dX3_copyFrom_27 : decode cX3_copyFrom 27 = .ok (.invokevirtual 71, 3) := by decide +kernel
theorem dX3_copyFrom_30 : decode cX3_copyFrom 30 = .ok (.aload_n 0, 1) := by decide +kernel
theorem dX3_copyFrom_31 : decode cX3_copyFrom 31 = .ok (.getfield 23, 3) := by decide +kernel
theorem dX3_copyFrom_34 : decode cX3_copyFrom 34 = .ok (.aload_n 1, 1) := by decide +kernel
theorem dX3_copyFrom_35 : decode cX3_copyFrom 35 = .ok (.getfield 23, 3) := by decide +kernel
theorem dX3_copyFrom_38 : decode cX3_copyFrom 38 = .ok (.invokevirtual 71, 3) := by decide +kernel
theorem dX3_copyFrom_41 : decode cX3_copyFrom 41 = .ok (.aload_n 0, 1) := by decide +kernel
theorem dX3_copyFrom_42 : decode cX3_copyFrom 42 = .ok (.getfield 26, 3) := by decide +kernel
theorem dX3_copyFrom_45 : decode cX3_copyFrom 45 = .ok (.aload_n 1, 1) := by decide +kernel
theorem dX3_copyFrom_46 : decode cX3_copyFrom 46 = .ok (.getfield 26, 3) := by decide +kernel
theorem dX3_copyFrom_49 : decode cX3_copyFrom 49 = .ok (.invokevirtual 71, 3) := by decide +kernel
theorem dX3_copyFrom_52 : decode cX3_copyFrom 52 = .ok (.aload_n 0, 1) := by decide +kernel
theorem dX3_copyFrom_53 : decode cX3_copyFrom 53 = .ok (.getfield 29, 3) := by decide +kernel
theorem dX3_copyFrom_56 : decode cX3_copyFrom 56 = .ok (.aload_n 1, 1) := by decide +kernel
theorem dX3_copyFrom_57 : decode cX3_copyFrom 57 = .ok (.getfield 29, 3) := by decide +kernel
theorem dX3_copyFrom_60 : decode cX3_copyFrom 60 = .ok (.invokevirtual 71, 3) := by decide +kernel
theorem dX3_copyFrom_63 : decode cX3_copyFrom 63 = .ok (.return_, 1) := by decide +kernel
theorem dX4_init_0 : decode cX4_init 0 = .ok (.aload_n 0, 1) := by decide +kernel
theorem dX4_init_1 : decode cX4_init 1 = .ok (.invokespecial 3, 3) := by decide +kernel
theorem dX4_init_4 : decode cX4_init 4 = .ok (.aload_n 0, 1) := by decide +kernel
theorem dX4_init_5 : decode cX4_init 5 = .ok (.new 9, 3) := by decide +kernel
theorem dX4_init_8 : decode cX4_init 8 = .ok (.dup, 1) := by decide +kernel
theorem dX4_init_9 : decode cX4_init 9 = .ok (.bipush 20, 2) := by decide +kernel
theorem dX4_init_11 : decode cX4_init 11 = .ok (.invokespecial 11, 3) := by decide +kernel
theorem dX4_init_14 : decode cX4_init 14 = .ok (.putfield 14, 3) := by decide +kernel
theorem dX4_init_17 : decode cX4_init 17 = .ok (.aload_n 0, 1) := by decide +kernel
theorem dX4_init_18 : decode cX4_init 18 = .ok (.new 9, 3) := by decide +kernel
theorem dX4_init_21 : decode cX4_init 21 = .ok (.dup, 1) := by decide +kernel
theorem dX4_init_22 : decode cX4_init 22 = .ok (.bipush 20, 2) := by decide +kernel
theorem dX4_init_24 : decode cX4_init 24 = .ok (.invokespecial 11, 3) := by decide +kernel
theorem dX4_init_27 : decode cX4_init 27 = .ok (.putfield 20, 3) := by decide +kernel
theorem dX4_init_30 : decode cX4_init 30 = .ok (.aload_n 0, 1) := by decide +kernel
theorem dX4_init_31 : decode cX4_init 31 = .ok (.new 9, 3) := by decide +kernel
theorem dX4_init_34 : decode cX4_init 34 = .ok (.dup, 1) := by decide +kernel
theorem dX4_init_35 : decode cX4_init 35 = .ok (.bipush 20, 2) := by decide +kernel
theorem dX4_init_37 : decode cX4_init 37 = .ok (.invokespecial 11, 3) := by decide +kernel
theorem dX4_init_40 : decode cX4_init 40 = .ok (.putfield 23, 3) := by decide +kernel
theorem dX4_init_43 : decode cX4_init 43 = .ok (.return_, 1) := by decide +kernel
theorem dX4_countFor_0 : decode cX4_countFor 0 = .ok (.iconst 0, 1) := by decide +kernel
theorem dX4_countFor_1 : decode cX4_countFor 1 = .ok (.istore_n 2, 1) := by decide +kernel
theorem dX4_countFor_2 : decode cX4_countFor 2 = .ok (.iconst 0, 1) := by decide +kernel
theorem dX4_countFor_3 : decode cX4_countFor 3 = .ok (.istore_n 3, 1) := by decide +kernel
theorem dX4_countFor_4 : decode cX4_countFor 4 = .ok (.iload_n 3, 1) := by decide +kernel
theorem dX4_countFor_5 : decode cX4_countFor 5 = .ok (.aload_n 0, 1) := by decide +kernel
theorem dX4_countFor_6 : decode cX4_countFor 6 = .ok (.getfield 26, 3) := by decide +kernel
theorem dX4_countFor_9 : decode cX4_countFor 9 = .ok (.if_icmp .ge 24, 3) := by decide +kernel
theorem dX4_countFor_12 : decode cX4_countFor 12 = .ok (.aload_n 0, 1) := by decide +kernel
theorem dX4_countFor_13 : decode cX4_countFor 13 = .ok (.getfield 14, 3) := by decide +kernel
theorem dX4_countFor_16 : decode cX4_countFor 16 = .ok (.iload_n 3, 1) := by decide +kernel
theorem dX4_countFor_17 : decode cX4_countFor 17 = .ok (.invokevirtual 30, 3) := by decide +kernel
theorem dX4_countFor_20 : decode cX4_countFor 20 = .ok (.iload_n 1, 1) := by decide +kernel
theorem dX4_countFor_21 : decode cX4_countFor 21 = .ok (.if_icmp .ne 6, 3) := by decide +kernel
theorem dX4_countFor_24 : decode cX4_countFor 24 = .ok (.iinc 2 1, 3) := by decide +kernel
theorem dX4_countFor_27 : decode cX4_countFor 27 = .ok (.iinc 3 1, 3) := by decide +kernel
theorem dX4_countFor_30 : decode cX4_countFor 30 = .ok (.goto (-26), 3) := by decide +kernel
theorem dX4_countFor_33 : decode cX4_countFor 33 = .ok (.iload_n 2, 1) := by decide +kernel
theorem dX4_countFor_34 : decode cX4_countFor 34 = .ok (.ireturn, 1) := by decide +kernel
theorem dX4_find_0 : decode cX4_find 0 = .ok (.iconst 0, 1) := by decide +kernel
theorem dX4_find_1 : decode cX4_find 1 = .ok (.istore_n 3, 1) := by decide +kernel
theorem dX4_find_2 : decode cX4_find 2 = .ok (.iconst 0, 1) := by decide +kernel
theorem dX4_find_3 : decode cX4_find 3 = .ok (.istore 4, 2) := by decide +kernel
theorem dX4_find_5 : decode cX4_find 5 = .ok (.iload 4, 2) := by decide +kernel
theorem dX4_find_7 : decode cX4_find 7 = .ok (.aload_n 0, 1) := by decide +kernel
theorem dX4_find_8 : decode cX4_find 8 = .ok (.getfield 26, 3) := by decide +kernel
theorem dX4_find_11 : decode cX4_find 11 = .ok (.if_icmp .ge 33, 3) := by decide +kernel
theorem dX4_find_14 : decode cX4_find 14 = .ok (.aload_n 0, 1) := by decide +kernel
theorem dX4_find_15 : decode cX4_find 15 = .ok (.getfield 14, 3) := by decide +kernel
theorem dX4_find_18 : decode cX4_find 18 = .ok (.iload 4, 2) := by decide +kernel
theorem dX4_find_20 : decode cX4_find 20 = .ok (.invokevirtual 30, 3) := by decide +kernel
theorem dX4_find_23 : decode cX4_find 23 = .ok (.iload_n 1, 1) := by decide +kernel
theorem dX4_find_24 : decode cX4_find 24 = .ok (.if_icmp .ne 14, 3) := by decide +kernel
theorem dX4_find_27 : decode cX4_find 27 = .ok (.iload_n 3, 1) := by decide +kernel
theorem dX4_find_28 : decode cX4_find 28 = .ok (.iload_n 2, 1) := by decide +kernel
theorem dX4_find_29 : decode cX4_find 29 = .ok (.if_icmp .ne 6, 3) := by decide +kernel
theorem dX4_find_32 : decode cX4_find 32 = .ok (.iload 4, 2) := by decide +kernel
theorem dX4_find_34 : decode cX4_find 34 = .ok (.ireturn, 1) := by decide +kernel
theorem dX4_find_35 : decode cX4_find 35 = .ok (.iinc 3 1, 3) := by decide +kernel
theorem dX4_find_38 : decode cX4_find 38 = .ok (.iinc 4 1, 3) := by decide +kernel
theorem dX4_find_41 : decode cX4_find 41 = .ok (.goto (-36), 3) := by decide +kernel
theorem dX4_find_44 : decode cX4_find 44 = .ok (.iconst (-1), 1) := by decide +kernel
theorem dX4_find_45 : decode cX4_find 45 = .ok (.ireturn, 1) := by decide +kernel
theorem dX4_add_0 : decode cX4_add 0 = .ok (.iconst 0, 1) := by decide +kernel
theorem dX4_add_1 : decode cX4_add 1 = .ok (.istore 4, 2) := by decide +kernel
theorem dX4_add_3 : decode cX4_add 3 = .ok (.iconst 0, 1) := by decide +kernel
theorem dX4_add_4 : decode cX4_add 4 = .ok (.istore 5, 2) := by decide +kernel
theorem dX4_add_6 : decode cX4_add 6 = .ok (.iload 5, 2) := by decide +kernel
theorem dX4_add_8 : decode cX4_add 8 = .ok (.aload_n 0, 1) := by decide +kernel
theorem dX4_add_9 : decode cX4_add 9 = .ok (.getfield 26, 3) := by decide +kernel
theorem dX4_add_12 : decode cX4_add 12 = .ok (.if_icmp .ge 41, 3) := by decide +kernel
theorem dX4_add_15 : decode cX4_add 15 = .ok (.aload_n 0, 1) := by decide +kernel
theorem dX4_add_16 : decode cX4_add 16 = .ok (.getfield 14, 3) := by decide +kernel
theorem dX4_add_19 : decode cX4_add 19 = .ok (.iload 5, 2) := by decide +kernel
theorem dX4_add_21 : decode cX4_add 21 = .ok (.invokevirtual 30, 3) := by decide +kernel
theorem dX4_add_24 : decode cX4_add 24 = .ok (.iload_n 1, 1) := by decide +kernel
theorem dX4_add_25 : decode cX4_add 25 = .ok (.if_icmp .ne 22, 3) := by decide +kernel
theorem dX4_add_28 : decode cX4_add 28 = .ok (.aload_n 0, 1) := by decide +kernel
theorem dX4_add_29 : decode cX4_add 29 = .ok (.getfield 23, 3) := by decide +kernel
theorem dX4_add_32 : decode cX4_add 32 = .ok (.iload 5, 2) := by decide +kernel
theorem dX4_add_34 : decode cX4_add 34 = .ok (.invokevirtual 30, 3) := by decide +kernel
theorem dX4_add_37 : decode cX4_add 37 = .ok (.iload_n 3, 1) := by decide +kernel
theorem dX4_add_38 : decode cX4_add 38 = .ok (.if_icmp .ge 6, 3) := by decide +kernel
theorem dX4_add_41 : decode cX4_add 41 = .ok (.goto 12, 3) := by decide +kernel
theorem dX4_add_44 : decode cX4_add 44 = .ok (.iinc 4 1, 3) := by decide +kernel
theorem dX4_add_47 : decode cX4_add 47 = .ok (.iinc 5 1, 3) := by decide +kernel
theorem dX4_add_50 : decode cX4_add 50 = .ok (.goto (-44), 3) := by decide +kernel
theorem dX4_add_53 : decode cX4_add 53 = .ok (.aload_n 0, 1) := by decide +kernel
theorem dX4_add_54 : decode cX4_add 54 = .ok (.getfield 14, 3) := by decide +kernel
theorem dX4_add_57 : decode cX4_add 57 = .ok (.iload 5, 2) := by decide +kernel
theorem dX4_add_59 : decode cX4_add 59 = .ok (.iload_n 1, 1) := by decide +kernel
theorem dX4_add_60 : decode cX4_add 60 = .ok (.invokevirtual 34, 3) := by decide +kernel
theorem dX4_add_63 : decode cX4_add 63 = .ok (.aload_n 0, 1) := by decide +kernel
theorem dX4_add_64 : decode cX4_add 64 = .ok (.getfield 20, 3) := by decide +kernel
theorem dX4_add_67 : decode cX4_add 67 = .ok (.iload 5, 2) := by decide +kernel
theorem dX4_add_69 : decode cX4_add 69 = .ok (.iload_n 2, 1) := by decide +kernel
theorem dX4_add_70 : decode cX4_add 70 = .ok (.invokevirtual 34, 3) := by decide +kernel
theorem dX4_add_73 : decode cX4_add 73 = .ok (.aload_n 0, 1) := by decide +kernel
theorem dX4_add_74 : decode cX4_add 74 = .ok (.getfield 23, 3) := by decide +kernel
theorem dX4_add_77 : decode cX4_add 77 = .ok (.iload 5, 2) := by decide +kernel
theorem dX4_add_79 : decode cX4_add 79 = .ok (.iload_n 3, 1) := by decide +kernel
theorem dX4_add_80 : decode cX4_add 80 = .ok (.invokevirtual 34, 3) := by decide +kernel
theorem dX4_add_83 : decode cX4_add 83 = .ok (.aload_n 0, 1) := by decide +kernel
theorem dX4_add_84 : decode cX4_add 84 = .ok (.dup, 1) := by decide +kernel
theorem dX4_add_85 : decode cX4_add 85 = .ok (.getfield 26, 3) := by decide +kernel
theorem dX4_add_88 : decode cX4_add 88 = .ok (.iconst 1, 1) := by decide +kernel
theorem dX4_add_89 : decode cX4_add 89 = .ok (.iadd, 1) := by decide +kernel
theorem dX4_add_90 : decode cX4_add 90 = .ok (.putfield 26, 3) := by decide +kernel
theorem dX4_add_93 : decode cX4_add 93 = .ok (.iload 4, 2) := by decide +kernel
theorem dX4_add_95 : decode cX4_add 95 = .ok (.ireturn, 1) := by decide +kernel
theorem dX4_copyFrom_0 : decode cX4_copyFrom 0 = .ok (.aload_n 0, 1) := by decide +kernel
theorem dX4_copyFrom_1 : decode cX4_copyFrom 1 = .ok (.aload_n 1, 1) := by decide +kernel
theorem dX4_copyFrom_2 : decode cX4_copyFrom 2 = .ok (.getfield 26, 3) := by decide +kernel
theorem dX4_copyFrom_5 : decode cX4_copyFrom 5 = .ok (.putfield 26, 3) := by decide +kernel
theorem dX4_copyFrom_8 : decode cX4_copyFrom 8 = .ok (.aload_n 0, 1) := by decide +kernel
theorem dX4_copyFrom_9 : decode cX4_copyFrom 9 = .ok (.getfield 14, 3) := by decide +kernel
theorem dX4_copyFrom_12 : decode cX4_copyFrom 12 = .ok (.aload_n 1, 1) := by decide +kernel
theorem dX4_copyFrom_13 : decode cX4_copyFrom 13 = .ok (.getfield 14, 3) := by decide +kernel
theorem dX4_copyFrom_16 : decode cX4_copyFrom 16 = .ok (.invokevirtual 45, 3) := by decide +kernel
theorem dX4_copyFrom_19 : decode cX4_copyFrom 19 = .ok (.aload_n 0, 1) := by decide +kernel
theorem dX4_copyFrom_20 : decode cX4_copyFrom 20 = .ok (.getfield 20, 3) := by decide +kernel
theorem dX4_copyFrom_23 : decode cX4_copyFrom 23 = .ok (.aload_n 1, 1) := by decide +kernel
theorem dX4_copyFrom_24 : decode cX4_copyFrom 24 = .ok (.getfield 20, 3) := by decide +kernel
theorem dX4_copyFrom_27 : decode cX4_copyFrom 27 = .ok (.invokevirtual 45, 3) := by decide +kernel
theorem dX4_copyFrom_30 : decode cX4_copyFrom 30 = .ok (.aload_n 0, 1) := by decide +kernel
theorem dX4_copyFrom_31 : decode cX4_copyFrom 31 = .ok (.getfield 23, 3) := by decide +kernel
theorem dX4_copyFrom_34 : decode cX4_copyFrom 34 = .ok (.aload_n 1, 1) := by decide +kernel
theorem dX4_copyFrom_35 : decode cX4_copyFrom 35 = .ok (.getfield 23, 3) := by decide +kernel
theorem dX4_copyFrom_38 : decode cX4_copyFrom 38 = .ok (.invokevirtual 45, 3) := by decide +kernel
theorem dX4_copyFrom_41 : decode cX4_copyFrom 41 = .ok (.return_, 1) := by decide +kernel
theorem dX5_init_0 : decode cX5_init 0 = .ok (.aload_n 0, 1) := by decide +kernel
theorem dX5_init_1 : decode cX5_init 1 = .ok (.invokespecial 1, 3) := by decide +kernel
theorem dX5_init_4 : decode cX5_init 4 = .ok (.aload_n 0, 1) := by decide +kernel
theorem dX5_init_5 : decode cX5_init 5 = .ok (.iload_n 1, 1) := by decide +kernel
theorem dX5_init_6 : decode cX5_init 6 = .ok (.ifCond .ge 7, 3) := by decide +kernel
theorem dX5_init_9 : decode cX5_init 9 = .ok (.iconst 0, 1) := by decide +kernel
theorem dX5_init_10 : decode cX5_init 10 = .ok (.goto 4, 3) := by decide +kernel
theorem dX5_init_13 : decode cX5_init 13 = .ok (.iload_n 1, 1) := by decide +kernel
theorem dX5_init_14 : decode cX5_init 14 = .ok (.newarray .int, 2) := by decide +kernel
theorem dX5_init_16 : decode cX5_init 16 = .ok (.putfield 7, 3) := by decide +kernel
theorem dX5_init_19 : decode cX5_init 19 = .ok (.return_, 1) := by decide +kernel
theorem dX5_get_0 : decode cX5_get 0 = .ok (.iload_n 1, 1) := by decide +kernel
theorem dX5_get_1 : decode cX5_get 1 = .ok (.ifCond .lt 21, 3) := by decide +kernel
theorem dX5_get_4 : decode cX5_get 4 = .ok (.iload_n 1, 1) := by decide +kernel
theorem dX5_get_5 : decode cX5_get 5 = .ok (.aload_n 0, 1) := by decide +kernel
theorem dX5_get_6 : decode cX5_get 6 = .ok (.getfield 7, 3) := by decide +kernel
theorem dX5_get_9 : decode cX5_get 9 = .ok (.arraylength, 1) := by decide +kernel
theorem dX5_get_10 : decode cX5_get 10 = .ok (.if_icmp .ge 12, 3) := by decide +kernel
theorem dX5_get_13 : decode cX5_get 13 = .ok (.aload_n 0, 1) := by decide +kernel
theorem dX5_get_14 : decode cX5_get 14 = .ok (.getfield 7, 3) := by decide +kernel
theorem dX5_get_17 : decode cX5_get 17 = .ok (.iload_n 1, 1) := by decide +kernel
theorem dX5_get_18 : decode cX5_get 18 = .ok (.iaload, 1) := by decide +kernel
theorem dX5_get_19 : decode cX5_get 19 = .ok (.goto 4, 3) := by decide +kernel
theorem dX5_get_22 : decode cX5_get 22 = .ok (.iconst 0, 1) := by decide +kernel
theorem dX5_get_23 : decode cX5_get 23 = .ok (.ireturn, 1) := by decide +kernel
theorem dX5_set_0 : decode cX5_set 0 = .ok (.iload_n 1, 1) := by decide +kernel
theorem dX5_set_1 : decode cX5_set 1 = .ok (.ifCond .lt 19, 3) := by decide +kernel
theorem dX5_set_4 : decode cX5_set 4 = .ok (.iload_n 1, 1) := by decide +kernel
theorem dX5_set_5 : decode cX5_set 5 = .ok (.aload_n 0, 1) := by decide +kernel
theorem dX5_set_6 : decode cX5_set 6 = .ok (.getfield 7, 3) := by decide +kernel
theorem dX5_set_9 : decode cX5_set 9 = .ok (.arraylength, 1) := by decide +kernel
theorem dX5_set_10 : decode cX5_set 10 = .ok (.if_icmp .ge 10, 3) := by decide +kernel
theorem dX5_set_13 : decode cX5_set 13 = .ok (.aload_n 0, 1) := by decide +kernel
theorem dX5_set_14 : decode cX5_set 14 = .ok (.getfield 7, 3) := by decide +kernel
theorem dX5_set_17 : decode cX5_set 17 = .ok (.iload_n 1, 1) := by decide +kernel
theorem dX5_set_18 : decode cX5_set 18 = .ok (.iload_n 2, 1) := by decide +kernel
theorem dX5_set_19 : decode cX5_set 19 = .ok (.iastore, 1) := by decide +kernel
theorem dX5_set_20 : decode cX5_set 20 = .ok (.return_, 1) := by decide +kernel
theorem dX5_add_0 : decode cX5_add 0 = .ok (.aload_n 0, 1) := by decide +kernel
theorem dX5_add_1 : decode cX5_add 1 = .ok (.iload_n 1, 1) := by decide +kernel
theorem dX5_add_2 : decode cX5_add 2 = .ok (.aload_n 0, 1) := by decide +kernel
theorem dX5_add_3 : decode cX5_add 3 = .ok (.iload_n 1, 1) := by decide +kernel
theorem dX5_add_4 : decode cX5_add 4 = .ok (.invokevirtual 13, 3) := by decide +kernel
theorem dX5_add_7 : decode cX5_add 7 = .ok (.iload_n 2, 1) := by decide +kernel
theorem dX5_add_8 : decode cX5_add 8 = .ok (.iadd, 1) := by decide +kernel
theorem dX5_add_9 : decode cX5_add 9 = .ok (.invokevirtual 17, 3) := by decide +kernel
theorem dX5_add_12 : decode cX5_add 12 = .ok (.return_, 1) := by decide +kernel
theorem dX5_insertAt_0 : decode cX5_insertAt 0 = .ok (.aload_n 0, 1) := by decide +kernel
theorem dX5_insertAt_1 : decode cX5_insertAt 1 = .ok (.getfield 7, 3) := by decide +kernel
theorem dX5_insertAt_4 : decode cX5_insertAt 4 = .ok (.arraylength, 1) := by decide +kernel
theorem dX5_insertAt_5 : decode cX5_insertAt 5 = .ok (.iconst 1, 1) := by decide +kernel
theorem dX5_insertAt_6 : decode cX5_insertAt 6 = .ok (.isub, 1) := by decide +kernel
theorem dX5_insertAt_7 : decode cX5_insertAt 7 = .ok (.istore_n 3, 1) := by decide +kernel
theorem dX5_insertAt_8 : decode cX5_insertAt 8 = .ok (.iload_n 3, 1) := by decide +kernel
theorem dX5_insertAt_9 : decode cX5_insertAt 9 = .ok (.iload_n 1, 1) := by decide +kernel
theorem dX5_insertAt_10 : decode cX5_insertAt 10 = .ok (.if_icmp .le 21, 3) := by decide +kernel
theorem dX5_insertAt_13 : decode cX5_insertAt 13 = .ok (.aload_n 0, 1) := by decide +kernel
theorem dX5_insertAt_14 : decode cX5_insertAt 14 = .ok (.iload_n 3, 1) := by decide +kernel
theorem dX5_insertAt_15 : decode cX5_insertAt 15 = .ok (.aload_n 0, 1) := by decide +kernel
theorem dX5_insertAt_16 : decode cX5_insertAt 16 = .ok (.iload_n 3, 1) := by decide +kernel
theorem dX5_insertAt_17 : decode cX5_insertAt 17 = .ok (.iconst 1, 1) := by decide +kernel
theorem dX5_insertAt_18 : decode cX5_insertAt 18 = .ok (.isub, 1) := by decide +kernel
theorem dX5_insertAt_19 : decode cX5_insertAt 19 = .ok (.invokevirtual 13, 3) := by decide +kernel
theorem dX5_insertAt_22 : decode cX5_insertAt 22 = .ok (.invokevirtual 17, 3) := by decide +kernel
theorem dX5_insertAt_25 : decode cX5_insertAt 25 = .ok (.iinc 3 (-1), 3) := by decide +kernel
theorem dX5_insertAt_28 : decode cX5_insertAt 28 = .ok (.goto (-20), 3) := by decide +kernel
theorem dX5_insertAt_31 : decode cX5_insertAt 31 = .ok (.aload_n 0, 1) := by decide +kernel
theorem dX5_insertAt_32 : decode cX5_insertAt 32 = .ok (.iload_n 1, 1) := by decide +kernel
theorem dX5_insertAt_33 : decode cX5_insertAt 33 = .ok (.iload_n 2, 1) := by decide +kernel
theorem dX5_insertAt_34 : decode cX5_insertAt 34 = .ok (.invokevirtual 17, 3) := by decide +kernel
theorem dX5_insertAt_37 : decode cX5_insertAt 37 = .ok (.return_, 1) := by decide +kernel
theorem dX5_copyFrom_0 : decode cX5_copyFrom 0 = .ok (.aload_n 1, 1) := by decide +kernel
theorem dX5_copyFrom_1 : decode cX5_copyFrom 1 = .ok (.getfield 7, 3) := by decide +kernel
theorem dX5_copyFrom_4 : decode cX5_copyFrom 4 = .ok (.iconst 0, 1) := by decide +kernel
theorem dX5_copyFrom_5 : decode cX5_copyFrom 5 = .ok (.aload_n 0, 1) := by decide +kernel
theorem dX5_copyFrom_6 : decode cX5_copyFrom 6 = .ok (.getfield 7, 3) := by decide +kernel
theorem dX5_copyFrom_9 : decode cX5_copyFrom 9 = .ok (.iconst 0, 1) := by decide +kernel
theorem dX5_copyFrom_10 : decode cX5_copyFrom 10 = .ok (.aload_n 0, 1) := by decide +kernel
theorem dX5_copyFrom_11 : decode cX5_copyFrom 11 = .ok (.getfield 7, 3) := by decide +kernel
theorem dX5_copyFrom_14 : decode cX5_copyFrom 14 = .ok (.arraylength, 1) := by decide +kernel
theorem dX5_copyFrom_15 : decode cX5_copyFrom 15 = .ok (.aload_n 1, 1) := by decide +kernel
theorem dX5_copyFrom_16 : decode cX5_copyFrom 16 = .ok (.getfield 7, 3) := by decide +kernel
theorem dX5_copyFrom_19 : decode cX5_copyFrom 19 = .ok (.arraylength, 1) := by decide +kernel
theorem dX5_copyFrom_20 : decode cX5_copyFrom 20 = .ok (.invokestatic 21, 3) := by decide +kernel
theorem dX5_copyFrom_23 : decode cX5_copyFrom 23 = .ok (.invokestatic 27, 3) := by decide +kernel
theorem dX5_copyFrom_26 : decode cX5_copyFrom 26 = .ok (.return_, 1) := by decide +kernel
theorem dX6_init_0 : decode cX6_init 0 = .ok (.aload_n 0, 1) := by decide +kernel
theorem dX6_init_1 : decode cX6_init 1 = .ok (.invokespecial 3, 3) := by decide +kernel
theorem dX6_init_4 : decode cX6_init 4 = .ok (.aload_n 0, 1) := by decide +kernel
theorem dX6_init_5 : decode cX6_init 5 = .ok (.new 9, 3) := by decide +kernel
theorem dX6_init_8 : decode cX6_init 8 = .ok (.dup, 1) := by decide +kernel
theorem dX6_init_9 : decode cX6_init 9 = .ok (.iconst 3, 1) := by decide +kernel
theorem dX6_init_10 : decode cX6_init 10 = .ok (.invokespecial 11, 3) := by decide +kernel
theorem dX6_init_13 : decode cX6_init 13 = .ok (.putfield 14, 3) := by decide +kernel
theorem dX6_init_16 : decode cX6_init 16 = .ok (.aload_n 0, 1) := by decide +kernel
theorem dX6_init_17 : decode cX6_init 17 = .ok (.bipush 6, 2) := by decide +kernel
theorem dX6_init_19 : decode cX6_init 19 = .ok (.putfield 20, 3) := by decide +kernel
theorem dX6_init_22 : decode cX6_init 22 = .ok (.aload_n 0, 1) := by decide +kernel
theorem dX6_init_23 : decode cX6_init 23 = .ok (.bipush 20, 2) := by decide +kernel
theorem dX6_init_25 : decode cX6_init 25 = .ok (.putfield 24, 3) := by decide +kernel
theorem dX6_init_28 : decode cX6_init 28 = .ok (.aload_n 0, 1) := by decide +kernel
theorem dX6_init_29 : decode cX6_init 29 = .ok (.new 27, 3) := by decide +kernel
theorem dX6_init_32 : decode cX6_init 32 = .ok (.dup, 1) := by decide +kernel
theorem dX6_init_33 : decode cX6_init 33 = .ok (.invokespecial 29, 3) := by decide +kernel
theorem dX6_init_36 : decode cX6_init 36 = .ok (.putfield 30, 3) := by decide +kernel
theorem dX6_init_39 : decode cX6_init 39 = .ok (.aload_n 0, 1) := by decide +kernel
theorem dX6_init_40 : decode cX6_init 40 = .ok (.new 34, 3) := by decide +kernel
theorem dX6_init_43 : decode cX6_init 43 = .ok (.dup, 1) := by decide +kernel
theorem dX6_init_44 : decode cX6_init 44 = .ok (.invokespecial 36, 3) := by decide +kernel
theorem dX6_init_47 : decode cX6_init 47 = .ok (.putfield 37, 3) := by decide +kernel
theorem dX6_init_50 : decode cX6_init 50 = .ok (.aload_n 0, 1) := by decide +kernel
theorem dX6_init_51 : decode cX6_init 51 = .ok (.new 41, 3) := by decide +kernel
theorem dX6_init_54 : decode cX6_init 54 = .ok (.dup, 1) := by decide +kernel
theorem dX6_init_55 : decode cX6_init 55 = .ok (.invokespecial 43, 3) := by decide +kernel
theorem dX6_init_58 : decode cX6_init 58 = .ok (.putfield 44, 3) := by decide +kernel
theorem dX6_init_61 : decode cX6_init 61 = .ok (.aload_n 0, 1) := by decide +kernel
theorem dX6_init_62 : decode cX6_init 62 = .ok (.new 48, 3) := by decide +kernel
theorem dX6_init_65 : decode cX6_init 65 = .ok (.dup, 1) := by decide +kernel
theorem dX6_init_66 : decode cX6_init 66 = .ok (.invokespecial 50, 3) := by decide +kernel
theorem dX6_init_69 : decode cX6_init 69 = .ok (.putfield 51, 3) := by decide +kernel
theorem dX6_init_72 : decode cX6_init 72 = .ok (.aload_n 0, 1) := by decide +kernel
theorem dX6_init_73 : decode cX6_init 73 = .ok (.getfield 14, 3) := by decide +kernel
theorem dX6_init_76 : decode cX6_init 76 = .ok (.iconst 0, 1) := by decide +kernel
theorem dX6_init_77 : decode cX6_init 77 = .ok (.bipush 40, 2) := by decide +kernel
theorem dX6_init_79 : decode cX6_init 79 = .ok (.invokevirtual 55, 3) := by decide +kernel
theorem dX6_init_82 : decode cX6_init 82 = .ok (.aload_n 0, 1) := by decide +kernel
theorem dX6_init_83 : decode cX6_init 83 = .ok (.getfield 14, 3) := by decide +kernel
theorem dX6_init_86 : decode cX6_init 86 = .ok (.iconst 1, 1) := by decide +kernel
theorem dX6_init_87 : decode cX6_init 87 = .ok (.bipush 60, 2) := by decide +kernel
theorem dX6_init_89 : decode cX6_init 89 = .ok (.invokevirtual 55, 3) := by decide +kernel
theorem dX6_init_92 : decode cX6_init 92 = .ok (.aload_n 0, 1) := by decide +kernel
theorem dX6_init_93 : decode cX6_init 93 = .ok (.getfield 14, 3) := by decide +kernel
theorem dX6_init_96 : decode cX6_init 96 = .ok (.iconst 2, 1) := by decide +kernel
theorem dX6_init_97 : decode cX6_init 97 = .ok (.bipush 80, 2) := by decide +kernel
theorem dX6_init_99 : decode cX6_init 99 = .ok (.invokevirtual 55, 3) := by decide +kernel
theorem dX6_init_102 : decode cX6_init 102 = .ok (.return_, 1) := by decide +kernel
theorem dX6_copyFrom_0 : decode cX6_copyFrom 0 = .ok (.aload_n 0, 1) := by decide +kernel
theorem dX6_copyFrom_1 : decode cX6_copyFrom 1 = .ok (.getfield 14, 3) := by decide +kernel
theorem dX6_copyFrom_4 : decode cX6_copyFrom 4 = .ok (.aload_n 1, 1) := by decide +kernel
theorem dX6_copyFrom_5 : decode cX6_copyFrom 5 = .ok (.getfield 14, 3) := by decide +kernel
theorem dX6_copyFrom_8 : decode cX6_copyFrom 8 = .ok (.invokevirtual 59, 3) := by decide +kernel
theorem dX6_copyFrom_11 : decode cX6_copyFrom 11 = .ok (.aload_n 0, 1) := by decide +kernel
theorem dX6_copyFrom_12 : decode cX6_copyFrom 12 = .ok (.aload_n 1, 1) := by decide +kernel
theorem dX6_copyFrom_13 : decode cX6_copyFrom 13 = .ok (.getfield 20, 3) := by decide +kernel
theorem dX6_copyFrom_16 : decode cX6_copyFrom 16 = .ok (.putfield 20, 3) := by decide +kernel
theorem dX6_copyFrom_19 : decode cX6_copyFrom 19 = .ok (.aload_n 0, 1) := by decide +kernel
theorem dX6_copyFrom_20 : decode cX6_copyFrom 20 = .ok (.aload_n 1, 1) := by decide +kernel
theorem dX6_copyFrom_21 : decode cX6_copyFrom 21 = .ok (.getfield 24, 3) := by decide +kernel
theorem dX6_copyFrom_24 : decode cX6_copyFrom 24 = .ok (.putfield 24, 3) := by decide +kernel
theorem dX6_copyFrom_27 : decode cX6_copyFrom 27 = .ok (.aload_n 0, 1) := by decide +kernel
theorem dX6_copyFrom_28 : decode cX6_copyFrom 28 = .ok (.getfield 30, 3) := by decide +kernel
theorem dX6_copyFrom_31 : decode cX6_copyFrom 31 = .ok (.aload_n 1, 1) := by decide +kernel
theorem dX6_copyFrom_32 : decode cX6_copyFrom 32 = .ok (.getfield 30, 3) := by decide +kernel
theorem dX6_copyFrom_35 : decode cX6_copyFrom 35 = .ok (.invokevirtual 63, 3) := by decide +kernel
theorem dX6_copyFrom_38 : decode cX6_copyFrom 38 = .ok (.aload_n 0, 1) := by decide +kernel
theorem dX6_copyFrom_39 : decode cX6_copyFrom 39 = .ok (.getfield 37, 3) := by decide +kernel
theorem dX6_copyFrom_42 : decode cX6_copyFrom 42 = .ok (.aload_n 1, 1) := by decide +kernel
theorem dX6_copyFrom_43 : decode cX6_copyFrom 43 = .ok (.getfield 37, 3) := by decide +kernel
theorem dX6_copyFrom_46 : decode cX6_copyFrom 46 = .ok (.invokevirtual 66, 3) := by decide +kernel
theorem dX6_copyFrom_49 : decode cX6_copyFrom 49 = .ok (.aload_n 0, 1) := by decide +kernel
theorem dX6_copyFrom_50 : decode cX6_copyFrom 50 = .ok (.getfield 44, 3) := by decide +kernel
theorem dX6_copyFrom_53 : decode cX6_copyFrom 53 = .ok (.aload_n 1, 1) := by decide +kernel
theorem dX6_copyFrom_54 : decode cX6_copyFrom 54 = .ok (.getfield 44, 3) := by decide +kernel
theorem dX6_copyFrom_57 : decode cX6_copyFrom 57 = .ok (.invokevirtual 69, 3) := by decide +kernel
theorem dX6_copyFrom_60 : decode cX6_copyFrom 60 = .ok (.aload_n 0, 1) := by decide +kernel
theorem dX6_copyFrom_61 : decode cX6_copyFrom 61 = .ok (.getfield 51, 3) := by decide +kernel
theorem dX6_copyFrom_64 : decode cX6_copyFrom 64 = .ok (.aload_n 1, 1) := by decide +kernel
theorem dX6_copyFrom_65 : decode cX6_copyFrom 65 = .ok (.getfield 51, 3) := by decide +kernel
theorem dX6_copyFrom_68 : decode cX6_copyFrom 68 = .ok (.invokevirtual 72, 3) := by decide +kernel
theorem dX6_copyFrom_71 : decode cX6_copyFrom 71 = .ok (.return_, 1) := by decide +kernel
theorem dX6_makeProduction_0 : decode cX6_makeProduction 0 = .ok (.iload_n 1, 1) := by decide +kernel
theorem dX6_makeProduction_1 : decode cX6_makeProduction 1 = .ok (.iconst 1, 1) := by decide +kernel
theorem dX6_makeProduction_2 : decode cX6_makeProduction 2 = .ok (.bipush 9, 2) := by decide +kernel
theorem dX6_makeProduction_4 : decode cX6_makeProduction 4 = .ok (.invokestatic 79, 3) := by decide +kernel
theorem dX6_makeProduction_7 : decode cX6_makeProduction 7 = .ok (.ifCond .eq 38, 3) := by decide +kernel
theorem dX6_makeProduction_10 : decode cX6_makeProduction 10 = .ok (.iload_n 2, 1) := by decide +kernel
theorem dX6_makeProduction_11 : decode cX6_makeProduction 11 = .ok (.iconst 1, 1) := by decide +kernel
theorem dX6_makeProduction_12 : decode cX6_makeProduction 12 = .ok (.bipush 6, 2) := by decide +kernel
theorem dX6_makeProduction_14 : decode cX6_makeProduction 14 = .ok (.invokestatic 79, 3) := by decide +kernel
theorem dX6_makeProduction_17 : decode cX6_makeProduction 17 = .ok (.ifCond .eq 28, 3) := by decide +kernel
theorem dX6_makeProduction_20 : decode cX6_makeProduction 20 = .ok (.iload_n 3, 1) := by decide +kernel
theorem dX6_makeProduction_21 : decode cX6_makeProduction 21 = .ok (.iconst 1, 1) := by decide +kernel
theorem dX6_makeProduction_22 : decode cX6_makeProduction 22 = .ok (.bipush 50, 2) := by decide +kernel
theorem dX6_makeProduction_24 : decode cX6_makeProduction 24 = .ok (.invokestatic 79, 3) := by decide +kernel
theorem dX6_makeProduction_27 : decode cX6_makeProduction 27 = .ok (.ifCond .eq 18, 3) := by decide +kernel
theorem dX6_makeProduction_30 : decode cX6_makeProduction 30 = .ok (.iload 4, 2) := by decide +kernel
theorem dX6_makeProduction_32 : decode cX6_makeProduction 32 = .ok (.iconst 0, 1) := by decide +kernel
theorem dX6_makeProduction_33 : decode cX6_makeProduction 33 = .ok (.bipush 100, 2) := by decide +kernel
theorem dX6_makeProduction_35 : decode cX6_makeProduction 35 = .ok (.invokestatic 79, 3) := by decide +kernel
theorem dX6_makeProduction_38 : decode cX6_makeProduction 38 = .ok (.ifCond .eq 7, 3) := by decide +kernel
theorem dX6_makeProduction_41 : decode cX6_makeProduction 41 = .ok (.iconst 1, 1) := by decide +kernel
theorem dX6_makeProduction_42 : decode cX6_makeProduction 42 = .ok (.goto 4, 3) := by decide +kernel
theorem dX6_makeProduction_45 : decode cX6_makeProduction 45 = .ok (.iconst 0, 1) := by decide +kernel
theorem dX6_makeProduction_46 : decode cX6_makeProduction 46 = .ok (.istore 5, 2) := by decide +kernel
theorem dX6_makeProduction_48 : decode cX6_makeProduction 48 = .ok (.iload 5, 2) := by decide +kernel
theorem dX6_makeProduction_50 : decode cX6_makeProduction 50 = .ok (.ifCond .ne 6, 3) := by decide +kernel
theorem dX6_makeProduction_53 : decode cX6_makeProduction 53 = .ok (.bipush (-2), 2) := by decide +kernel
theorem dX6_makeProduction_55 : decode cX6_makeProduction 55 = .ok (.ireturn, 1) := by decide +kernel
theorem dX6_makeProduction_56 : decode cX6_makeProduction 56 = .ok (.aload_n 0, 1) := by decide +kernel
theorem dX6_makeProduction_57 : decode cX6_makeProduction 57 = .ok (.getfield 30, 3) := by decide +kernel
theorem dX6_makeProduction_60 : decode cX6_makeProduction 60 = .ok (.getfield 110, 3) := by decide +kernel
theorem dX6_makeProduction_63 : decode cX6_makeProduction 63 = .ok (.bipush 8, 2) := by decide +kernel
theorem dX6_makeProduction_65 : decode cX6_makeProduction 65 = .ok (.if_icmp .ge 18, 3) := by decide +kernel
theorem dX6_makeProduction_68 : decode cX6_makeProduction 68 = .ok (.aload_n 0, 1) := by decide +kernel
theorem dX6_makeProduction_69 : decode cX6_makeProduction 69 = .ok (.getfield 30, 3) := by decide +kernel
theorem dX6_makeProduction_72 : decode cX6_makeProduction 72 = .ok (.iload_n 1, 1) := by decide +kernel
theorem dX6_makeProduction_73 : decode cX6_makeProduction 73 = .ok (.iload_n 2, 1) := by decide +kernel
theorem dX6_makeProduction_74 : decode cX6_makeProduction 74 = .ok (.iload_n 3, 1) := by decide +kernel
theorem dX6_makeProduction_75 : decode cX6_makeProduction 75 = .ok (.iload 4, 2) := by decide +kernel
theorem dX6_makeProduction_77 : decode cX6_makeProduction 77 = .ok (.invokevirtual 111, 3) := by decide +kernel
theorem dX6_makeProduction_80 : decode cX6_makeProduction 80 = .ok (.goto 5, 3) := by decide +kernel
theorem dX6_makeProduction_83 : decode cX6_makeProduction 83 = .ok (.bipush (-3), 2) := by decide +kernel
theorem dX6_makeProduction_85 : decode cX6_makeProduction 85 = .ok (.ireturn, 1) := by decide +kernel
theorem dX6_makePerformance_0 : decode cX6_makePerformance 0 = .ok (.aload_n 0, 1) := by decide +kernel
theorem dX6_makePerformance_1 : decode cX6_makePerformance 1 = .ok (.getfield 30, 3) := by decide +kernel
theorem dX6_makePerformance_4 : decode cX6_makePerformance 4 = .ok (.iload_n 1, 1) := by decide +kernel
theorem dX6_makePerformance_5 : decode cX6_makePerformance 5 = .ok (.invokevirtual 115, 3) := by decide +kernel
theorem dX6_makePerformance_8 : decode cX6_makePerformance 8 = .ok (.ifCond .eq 10, 3) := by decide +kernel
theorem dX6_makePerformance_11 : decode cX6_makePerformance 11 = .ok (.iload_n 2, 1) := by decide +kernel
theorem dX6_makePerformance_12 : decode cX6_makePerformance 12 = .ok (.invokestatic 75, 3) := by decide +kernel
theorem dX6_makePerformance_15 : decode cX6_makePerformance 15 = .ok (.ifCond .ne 5, 3) := by decide +kernel
theorem dX6_makePerformance_18 : decode cX6_makePerformance 18 = .ok (.iconst (-1), 1) := by decide +kernel
theorem dX6_makePerformance_19 : decode cX6_makePerformance 19 = .ok (.ireturn, 1) := by decide +kernel
theorem dX6_makePerformance_20 : decode cX6_makePerformance 20 = .ok (.iload_n 3, 1) := by decide +kernel
theorem dX6_makePerformance_21 : decode cX6_makePerformance 21 = .ok (.invokestatic 118, 3) := by decide +kernel
theorem dX6_makePerformance_24 : decode cX6_makePerformance 24 = .ok (.ifCond .ne 6, 3) := by decide +kernel
theorem dX6_makePerformance_27 : decode cX6_makePerformance 27 = .ok (.bipush (-2), 2) := by decide +kernel
theorem dX6_makePerformance_29 : decode cX6_makePerformance 29 = .ok (.ireturn, 1) := by decide +kernel
theorem dX6_makePerformance_30 : decode cX6_makePerformance 30 = .ok (.aload_n 0, 1) := by decide +kernel
theorem dX6_makePerformance_31 : decode cX6_makePerformance 31 = .ok (.getfield 37, 3) := by decide +kernel
theorem dX6_makePerformance_34 : decode cX6_makePerformance 34 = .ok (.getfield 83, 3) := by decide +kernel
theorem dX6_makePerformance_37 : decode cX6_makePerformance 37 = .ok (.bipush 24, 2) := by decide +kernel
theorem dX6_makePerformance_39 : decode cX6_makePerformance 39 = .ok (.if_icmp .lt 6, 3) := by decide +kernel
theorem dX6_makePerformance_42 : decode cX6_makePerformance 42 = .ok (.bipush (-3), 2) := by decide +kernel
theorem dX6_makePerformance_44 : decode cX6_makePerformance 44 = .ok (.ireturn, 1) := by decide +kernel
theorem dX6_makePerformance_45 : decode cX6_makePerformance 45 = .ok (.aload_n 0, 1) := by decide +kernel
theorem dX6_makePerformance_46 : decode cX6_makePerformance 46 = .ok (.iconst (-1), 1) := by decide +kernel
theorem dX6_makePerformance_47 : decode cX6_makePerformance 47 = .ok (.iload_n 1, 1) := by decide +kernel
theorem dX6_makePerformance_48 : decode cX6_makePerformance 48 = .ok (.iload_n 2, 1) := by decide +kernel
theorem dX6_makePerformance_49 : decode cX6_makePerformance 49 = .ok (.iload_n 3, 1) := by decide +kernel
theorem dX6_makePerformance_50 : decode cX6_makePerformance 50 = .ok (.invokevirtual 121, 3) := by decide +kernel
theorem dX6_makePerformance_53 : decode cX6_makePerformance 53 = .ok (.istore 4, 2) := by decide +kernel
theorem dX6_makePerformance_55 : decode cX6_makePerformance 55 = .ok (.iload 4, 2) := by decide +kernel
theorem dX6_makePerformance_57 : decode cX6_makePerformance 57 = .ok (.ifCond .eq 6, 3) := by decide +kernel
theorem dX6_makePerformance_60 : decode cX6_makePerformance 60 = .ok (.iload 4, 2) := by decide +kernel
theorem dX6_makePerformance_62 : decode cX6_makePerformance 62 = .ok (.ireturn, 1) := by decide +kernel
theorem dX6_makePerformance_63 : decode cX6_makePerformance 63 = .ok (.aload_n 0, 1) := by decide +kernel
theorem dX6_makePerformance_64 : decode cX6_makePerformance 64 = .ok (.getfield 30, 3) := by decide +kernel
theorem dX6_makePerformance_67 : decode cX6_makePerformance 67 = .ok (.getfield 124, 3) := by decide +kernel
theorem dX6_makePerformance_70 : decode cX6_makePerformance 70 = .ok (.iload_n 1, 1) := by decide +kernel
theorem dX6_makePerformance_71 : decode cX6_makePerformance 71 = .ok (.aload_n 0, 1) := by decide +kernel
theorem dX6_makePerformance_72 : decode cX6_makePerformance 72 = .ok (.iconst (-1), 1) := by decide +kernel
theorem dX6_makePerformance_73 : decode cX6_makePerformance 73 = .ok (.iload_n 1, 1) := by decide +kernel
theorem dX6_makePerformance_74 : decode cX6_makePerformance 74 = .ok (.iload_n 3, 1) := by decide +kernel
theorem dX6_makePerformance_75 : decode cX6_makePerformance 75 = .ok (.invokevirtual 127, 3) := by decide +kernel
theorem dX6_makePerformance_78 : decode cX6_makePerformance 78 = .ok (.invokevirtual 55, 3) := by decide +kernel
theorem dX6_makePerformance_81 : decode cX6_makePerformance 81 = .ok (.aload_n 0, 1) := by decide +kernel
theorem dX6_makePerformance_82 : decode cX6_makePerformance 82 = .ok (.getfield 37, 3) := by decide +kernel
theorem dX6_makePerformance_85 : decode cX6_makePerformance 85 = .ok (.iload_n 1, 1) := by decide +kernel
theorem dX6_makePerformance_86 : decode cX6_makePerformance 86 = .ok (.iload_n 2, 1) := by decide +kernel
theorem dX6_makePerformance_87 : decode cX6_makePerformance 87 = .ok (.iload_n 3, 1) := by decide +kernel
theorem dX6_makePerformance_88 : decode cX6_makePerformance 88 = .ok (.invokevirtual 130, 3) := by decide +kernel
theorem dX6_makePerformance_91 : decode cX6_makePerformance 91 = .ok (.ireturn, 1) := by decide +kernel
theorem dX6_datesWith_0 : decode cX6_datesWith 0 = .ok (.aload_n 0, 1) := by decide +kernel
theorem dX6_datesWith_1 : decode cX6_datesWith 1 = .ok (.getfield 30, 3) := by decide +kernel
theorem dX6_datesWith_4 : decode cX6_datesWith 4 = .ok (.getfield 124, 3) := by decide +kernel
theorem dX6_datesWith_7 : decode cX6_datesWith 7 = .ok (.iload_n 2, 1) := by decide +kernel
theorem dX6_datesWith_8 : decode cX6_datesWith 8 = .ok (.invokevirtual 89, 3) := by decide +kernel
theorem dX6_datesWith_11 : decode cX6_datesWith 11 = .ok (.istore 4, 2) := by decide +kernel
theorem dX6_datesWith_13 : decode cX6_datesWith 13 = .ok (.aload_n 0, 1) := by decide +kernel
theorem dX6_datesWith_14 : decode cX6_datesWith 14 = .ok (.getfield 37, 3) := by decide +kernel
theorem dX6_datesWith_17 : decode cX6_datesWith 17 = .ok (.iload_n 1, 1) := by decide +kernel
theorem dX6_datesWith_18 : decode cX6_datesWith 18 = .ok (.invokevirtual 132, 3) := by decide +kernel
theorem dX6_datesWith_21 : decode cX6_datesWith 21 = .ok (.ifCond .eq 23, 3) := by decide +kernel
theorem dX6_datesWith_24 : decode cX6_datesWith 24 = .ok (.iload 4, 2) := by decide +kernel
theorem dX6_datesWith_26 : decode cX6_datesWith 26 = .ok (.iconst 1, 1) := by decide +kernel
theorem dX6_datesWith_27 : decode cX6_datesWith 27 = .ok (.aload_n 0, 1) := by decide +kernel
theorem dX6_datesWith_28 : decode cX6_datesWith 28 = .ok (.getfield 37, 3) := by decide +kernel
theorem dX6_datesWith_31 : decode cX6_datesWith 31 = .ok (.getfield 135, 3) := by decide +kernel
theorem dX6_datesWith_34 : decode cX6_datesWith 34 = .ok (.iload_n 1, 1) := by decide +kernel
theorem dX6_datesWith_35 : decode cX6_datesWith 35 = .ok (.invokevirtual 89, 3) := by decide +kernel
theorem dX6_datesWith_38 : decode cX6_datesWith 38 = .ok (.ishl, 1) := by decide +kernel
theorem dX6_datesWith_39 : decode cX6_datesWith 39 = .ok (.iconst (-1), 1) := by decide +kernel
theorem dX6_datesWith_40 : decode cX6_datesWith 40 = .ok (.ixor, 1) := by decide +kernel
theorem dX6_datesWith_41 : decode cX6_datesWith 41 = .ok (.iand, 1) := by decide +kernel
theorem dX6_datesWith_42 : decode cX6_datesWith 42 = .ok (.istore 4, 2) := by decide +kernel
theorem dX6_datesWith_44 : decode cX6_datesWith 44 = .ok (.iload 4, 2) := by decide +kernel
theorem dX6_datesWith_46 : decode cX6_datesWith 46 = .ok (.iconst 1, 1) := by decide +kernel
theorem dX6_datesWith_47 : decode cX6_datesWith 47 = .ok (.iload_n 3, 1) := by decide +kernel
theorem dX6_datesWith_48 : decode cX6_datesWith 48 = .ok (.ishl, 1) := by decide +kernel
theorem dX6_datesWith_49 : decode cX6_datesWith 49 = .ok (.ior, 1) := by decide +kernel
theorem dX6_datesWith_50 : decode cX6_datesWith 50 = .ok (.ireturn, 1) := by decide +kernel
theorem dX6_placingRefusal_0 : decode cX6_placingRefusal 0 = .ok (.aload_n 0, 1) := by decide +kernel
theorem dX6_placingRefusal_1 : decode cX6_placingRefusal 1 = .ok (.getfield 37, 3) := by decide +kernel
theorem dX6_placingRefusal_4 : decode cX6_placingRefusal 4 = .ok (.iload_n 1, 1) := by decide +kernel
theorem dX6_placingRefusal_5 : decode cX6_placingRefusal 5 = .ok (.iload_n 2, 1) := by decide +kernel
theorem dX6_placingRefusal_6 : decode cX6_placingRefusal 6 = .ok (.iload_n 3, 1) := by decide +kernel
theorem dX6_placingRefusal_7 : decode cX6_placingRefusal 7 = .ok (.iload 4, 2) := by decide +kernel
theorem dX6_placingRefusal_9 : decode cX6_placingRefusal 9 = .ok (.invokevirtual 145, 3) := by decide +kernel
theorem dX6_placingRefusal_12 : decode cX6_placingRefusal 12 = .ok (.istore 5, 2) := by decide +kernel
theorem dX6_placingRefusal_14 : decode cX6_placingRefusal 14 = .ok (.iload 5, 2) := by decide +kernel
theorem dX6_placingRefusal_16 : decode cX6_placingRefusal 16 = .ok (.iconst (-1), 1) := by decide +kernel
theorem dX6_placingRefusal_17 : decode cX6_placingRefusal 17 = .ok (.if_icmp .eq 10, 3) := by decide +kernel
theorem dX6_placingRefusal_20 : decode cX6_placingRefusal 20 = .ok (.iconst 1, 1) := by decide +kernel
theorem dX6_placingRefusal_21 : decode cX6_placingRefusal 21 = .ok (.iload 5, 2) := by decide +kernel
theorem dX6_placingRefusal_23 : decode cX6_placingRefusal 23 = .ok (.invokestatic 96, 3) := by decide +kernel
theorem dX6_placingRefusal_26 : decode cX6_placingRefusal 26 = .ok (.ireturn, 1) := by decide +kernel
theorem dX6_placingRefusal_27 : decode cX6_placingRefusal 27 = .ok (.aload_n 0, 1) := by decide +kernel
theorem dX6_placingRefusal_28 : decode cX6_placingRefusal 28 = .ok (.iload_n 1, 1) := by decide +kernel
theorem dX6_placingRefusal_29 : decode cX6_placingRefusal 29 = .ok (.iload_n 2, 1) := by decide +kernel
theorem dX6_placingRefusal_30 : decode cX6_placingRefusal 30 = .ok (.iload 4, 2) := by decide +kernel
theorem dX6_placingRefusal_32 : decode cX6_placingRefusal 32 = .ok (.invokevirtual 127, 3) := by decide +kernel
theorem dX6_placingRefusal_35 : decode cX6_placingRefusal 35 = .ok (.istore 6, 2) := by decide +kernel
theorem dX6_placingRefusal_37 : decode cX6_placingRefusal 37 = .ok (.aload_n 0, 1) := by decide +kernel
theorem dX6_placingRefusal_38 : decode cX6_placingRefusal 38 = .ok (.getfield 30, 3) := by decide +kernel
theorem dX6_placingRefusal_41 : decode cX6_placingRefusal 41 = .ok (.aload_n 0, 1) := by decide +kernel
theorem dX6_placingRefusal_42 : decode cX6_placingRefusal 42 = .ok (.getfield 20, 3) := by decide +kernel
theorem dX6_placingRefusal_45 : decode cX6_placingRefusal 45 = .ok (.iload_n 2, 1) := by decide +kernel
theorem dX6_placingRefusal_46 : decode cX6_placingRefusal 46 = .ok (.iload 6, 2) := by decide +kernel
theorem dX6_placingRefusal_48 : decode cX6_placingRefusal 48 = .ok (.invokevirtual 103, 3) := by decide +kernel
theorem dX6_placingRefusal_51 : decode cX6_placingRefusal 51 = .ok (.istore 7, 2) := by decide +kernel
theorem dX6_placingRefusal_53 : decode cX6_placingRefusal 53 = .ok (.iload 7, 2) := by decide +kernel
theorem dX6_placingRefusal_55 : decode cX6_placingRefusal 55 = .ok (.ifCond .eq 6, 3) := by decide +kernel
theorem dX6_placingRefusal_58 : decode cX6_placingRefusal 58 = .ok (.iload 7, 2) := by decide +kernel
theorem dX6_placingRefusal_60 : decode cX6_placingRefusal 60 = .ok (.ireturn, 1) := by decide +kernel
theorem dX6_placingRefusal_61 : decode cX6_placingRefusal 61 = .ok (.aload_n 0, 1) := by decide +kernel
theorem dX6_placingRefusal_62 : decode cX6_placingRefusal 62 = .ok (.getfield 30, 3) := by decide +kernel
theorem dX6_placingRefusal_65 : decode cX6_placingRefusal 65 = .ok (.aload_n 0, 1) := by decide +kernel
theorem dX6_placingRefusal_66 : decode cX6_placingRefusal 66 = .ok (.getfield 24, 3) := by decide +kernel
theorem dX6_placingRefusal_69 : decode cX6_placingRefusal 69 = .ok (.iload_n 2, 1) := by decide +kernel
theorem dX6_placingRefusal_70 : decode cX6_placingRefusal 70 = .ok (.iload 6, 2) := by decide +kernel
theorem dX6_placingRefusal_72 : decode cX6_placingRefusal 72 = .ok (.invokevirtual 107, 3) := by decide +kernel
theorem dX6_placingRefusal_75 : decode cX6_placingRefusal 75 = .ok (.ireturn, 1) := by decide +kernel
theorem dX6_sellSeats_0 : decode cX6_sellSeats 0 = .ok (.aload_n 0, 1) := by decide +kernel
theorem dX6_sellSeats_1 : decode cX6_sellSeats 1 = .ok (.getfield 37, 3) := by decide +kernel
theorem dX6_sellSeats_4 : decode cX6_sellSeats 4 = .ok (.iload_n 1, 1) := by decide +kernel
theorem dX6_sellSeats_5 : decode cX6_sellSeats 5 = .ok (.invokevirtual 132, 3) := by decide +kernel
theorem dX6_sellSeats_8 : decode cX6_sellSeats 8 = .ok (.ifCond .ne 5, 3) := by decide +kernel
theorem dX6_sellSeats_11 : decode cX6_sellSeats 11 = .ok (.iconst (-1), 1) := by decide +kernel
theorem dX6_sellSeats_12 : decode cX6_sellSeats 12 = .ok (.ireturn, 1) := by decide +kernel
theorem dX6_sellSeats_13 : decode cX6_sellSeats 13 = .ok (.iload_n 2, 1) := by decide +kernel
theorem dX6_sellSeats_14 : decode cX6_sellSeats 14 = .ok (.iconst 1, 1) := by decide +kernel
theorem dX6_sellSeats_15 : decode cX6_sellSeats 15 = .ok (.bipush 99, 2) := by decide +kernel
theorem dX6_sellSeats_17 : decode cX6_sellSeats 17 = .ok (.invokestatic 79, 3) := by decide +kernel
theorem dX6_sellSeats_20 : decode cX6_sellSeats 20 = .ok (.ifCond .ne 6, 3) := by decide +kernel
theorem dX6_sellSeats_23 : decode cX6_sellSeats 23 = .ok (.bipush (-2), 2) := by decide +kernel
theorem dX6_sellSeats_25 : decode cX6_sellSeats 25 = .ok (.ireturn, 1) := by decide +kernel
theorem dX6_sellSeats_26 : decode cX6_sellSeats 26 = .ok (.aload_n 0, 1) := by decide +kernel
theorem dX6_sellSeats_27 : decode cX6_sellSeats 27 = .ok (.iload_n 1, 1) := by decide +kernel
theorem dX6_sellSeats_28 : decode cX6_sellSeats 28 = .ok (.iconst 2, 1) := by decide +kernel
theorem dX6_sellSeats_29 : decode cX6_sellSeats 29 = .ok (.invokevirtual 151, 3) := by decide +kernel
theorem dX6_sellSeats_32 : decode cX6_sellSeats 32 = .ok (.istore_n 3, 1) := by decide +kernel
theorem dX6_sellSeats_33 : decode cX6_sellSeats 33 = .ok (.iload_n 3, 1) := by decide +kernel
theorem dX6_sellSeats_34 : decode cX6_sellSeats 34 = .ok (.iload_n 2, 1) := by decide +kernel
theorem dX6_sellSeats_35 : decode cX6_sellSeats 35 = .ok (.if_icmp .ge 9, 3) := by decide +kernel
theorem dX6_sellSeats_38 : decode cX6_sellSeats 38 = .ok (.iconst 4, 1) := by decide +kernel
theorem dX6_sellSeats_39 : decode cX6_sellSeats 39 = .ok (.iload_n 3, 1) := by decide +kernel
theorem dX6_sellSeats_40 : decode cX6_sellSeats 40 = .ok (.invokestatic 96, 3) := by decide +kernel
theorem dX6_sellSeats_43 : decode cX6_sellSeats 43 = .ok (.ireturn, 1) := by decide +kernel
theorem dX6_sellSeats_44 : decode cX6_sellSeats 44 = .ok (.aload_n 0, 1) := by decide +kernel
theorem dX6_sellSeats_45 : decode cX6_sellSeats 45 = .ok (.getfield 37, 3) := by decide +kernel
theorem dX6_sellSeats_48 : decode cX6_sellSeats 48 = .ok (.getfield 136, 3) := by decide +kernel
theorem dX6_sellSeats_51 : decode cX6_sellSeats 51 = .ok (.iload_n 1, 1) := by decide +kernel
theorem dX6_sellSeats_52 : decode cX6_sellSeats 52 = .ok (.iload_n 2, 1) := by decide +kernel
theorem dX6_sellSeats_53 : decode cX6_sellSeats 53 = .ok (.invokevirtual 154, 3) := by decide +kernel
theorem dX6_sellSeats_56 : decode cX6_sellSeats 56 = .ok (.iload_n 3, 1) := by decide +kernel
theorem dX6_sellSeats_57 : decode cX6_sellSeats 57 = .ok (.iload_n 2, 1) := by decide +kernel
theorem dX6_sellSeats_58 : decode cX6_sellSeats 58 = .ok (.isub, 1) := by decide +kernel
theorem dX6_sellSeats_59 : decode cX6_sellSeats 59 = .ok (.ireturn, 1) := by decide +kernel
theorem dX6_makeRequest_0 : decode cX6_makeRequest 0 = .ok (.aload_n 0, 1) := by decide +kernel
theorem dX6_makeRequest_1 : decode cX6_makeRequest 1 = .ok (.getfield 37, 3) := by decide +kernel
theorem dX6_makeRequest_4 : decode cX6_makeRequest 4 = .ok (.iload_n 1, 1) := by decide +kernel
theorem dX6_makeRequest_5 : decode cX6_makeRequest 5 = .ok (.invokevirtual 132, 3) := by decide +kernel
theorem dX6_makeRequest_8 : decode cX6_makeRequest 8 = .ok (.ifCond .ne 5, 3) := by decide +kernel
theorem dX6_makeRequest_11 : decode cX6_makeRequest 11 = .ok (.iconst (-1), 1) := by decide +kernel
theorem dX6_makeRequest_12 : decode cX6_makeRequest 12 = .ok (.ireturn, 1) := by decide +kernel
theorem dX6_makeRequest_13 : decode cX6_makeRequest 13 = .ok (.iload_n 2, 1) := by decide +kernel
theorem dX6_makeRequest_14 : decode cX6_makeRequest 14 = .ok (.iconst 1, 1) := by decide +kernel
theorem dX6_makeRequest_15 : decode cX6_makeRequest 15 = .ok (.bipush 99, 2) := by decide +kernel
theorem dX6_makeRequest_17 : decode cX6_makeRequest 17 = .ok (.invokestatic 79, 3) := by decide +kernel
theorem dX6_makeRequest_20 : decode cX6_makeRequest 20 = .ok (.ifCond .eq 13, 3) := by decide +kernel
theorem dX6_makeRequest_23 : decode cX6_makeRequest 23 = .ok (.iload_n 3, 1) := by decide +kernel
theorem dX6_makeRequest_24 : decode cX6_makeRequest 24 = .ok (.iconst 0, 1) := by decide +kernel
theorem dX6_makeRequest_25 : decode cX6_makeRequest 25 = .ok (.bipush 9, 2) := by decide +kernel
theorem dX6_makeRequest_27 : decode cX6_makeRequest 27 = .ok (.invokestatic 79, 3) := by decide +kernel
theorem dX6_makeRequest_30 : decode cX6_makeRequest 30 = .ok (.ifCond .ne 6, 3) := by decide +kernel
theorem dX6_makeRequest_33 : decode cX6_makeRequest 33 = .ok (.bipush (-2), 2) := by decide +kernel
theorem dX6_makeRequest_35 : decode cX6_makeRequest 35 = .ok (.ireturn, 1) := by decide +kernel
theorem dX6_makeRequest_36 : decode cX6_makeRequest 36 = .ok (.aload_n 0, 1) := by decide +kernel
theorem dX6_makeRequest_37 : decode cX6_makeRequest 37 = .ok (.getfield 51, 3) := by decide +kernel
theorem dX6_makeRequest_40 : decode cX6_makeRequest 40 = .ok (.getfield 159, 3) := by decide +kernel
theorem dX6_makeRequest_43 : decode cX6_makeRequest 43 = .ok (.bipush 20, 2) := by decide +kernel
theorem dX6_makeRequest_45 : decode cX6_makeRequest 45 = .ok (.if_icmp .lt 11, 3) := by decide +kernel
theorem dX6_makeRequest_48 : decode cX6_makeRequest 48 = .ok (.bipush 8, 2) := by decide +kernel
theorem dX6_makeRequest_50 : decode cX6_makeRequest 50 = .ok (.bipush 20, 2) := by decide +kernel
theorem dX6_makeRequest_52 : decode cX6_makeRequest 52 = .ok (.invokestatic 96, 3) := by decide +kernel
theorem dX6_makeRequest_55 : decode cX6_makeRequest 55 = .ok (.ireturn, 1) := by decide +kernel
theorem dX6_makeRequest_56 : decode cX6_makeRequest 56 = .ok (.aload_n 0, 1) := by decide +kernel
theorem dX6_makeRequest_57 : decode cX6_makeRequest 57 = .ok (.getfield 51, 3) := by decide +kernel
theorem dX6_makeRequest_60 : decode cX6_makeRequest 60 = .ok (.iload_n 1, 1) := by decide +kernel
theorem dX6_makeRequest_61 : decode cX6_makeRequest 61 = .ok (.iload_n 2, 1) := by decide +kernel
theorem dX6_makeRequest_62 : decode cX6_makeRequest 62 = .ok (.iload_n 3, 1) := by decide +kernel
theorem dX6_makeRequest_63 : decode cX6_makeRequest 63 = .ok (.invokevirtual 160, 3) := by decide +kernel
theorem dX6_makeRequest_66 : decode cX6_makeRequest 66 = .ok (.ireturn, 1) := by decide +kernel
theorem dX6_makeSubscription_0 : decode cX6_makeSubscription 0 = .ok (.iload_n 1, 1) := by decide +kernel
theorem dX6_makeSubscription_1 : decode cX6_makeSubscription 1 = .ok (.iconst 1, 1) := by decide +kernel
theorem dX6_makeSubscription_2 : decode cX6_makeSubscription 2 = .ok (.bipush 6, 2) := by decide +kernel
theorem dX6_makeSubscription_4 : decode cX6_makeSubscription 4 = .ok (.invokestatic 79, 3) := by decide +kernel
theorem dX6_makeSubscription_7 : decode cX6_makeSubscription 7 = .ok (.ifCond .ne 6, 3) := by decide +kernel
theorem dX6_makeSubscription_10 : decode cX6_makeSubscription 10 = .ok (.bipush (-2), 2) := by decide +kernel
theorem dX6_makeSubscription_12 : decode cX6_makeSubscription 12 = .ok (.ireturn, 1) := by decide +kernel
theorem dX6_makeSubscription_13 : decode cX6_makeSubscription 13 = .ok (.aload_n 0, 1) := by decide +kernel
theorem dX6_makeSubscription_14 : decode cX6_makeSubscription 14 = .ok (.getfield 44, 3) := by decide +kernel
theorem dX6_makeSubscription_17 : decode cX6_makeSubscription 17 = .ok (.getfield 168, 3) := by decide +kernel
theorem dX6_makeSubscription_20 : decode cX6_makeSubscription 20 = .ok (.bipush 10, 2) := by decide +kernel
theorem dX6_makeSubscription_22 : decode cX6_makeSubscription 22 = .ok (.if_icmp .ge 14, 3) := by decide +kernel
theorem dX6_makeSubscription_25 : decode cX6_makeSubscription 25 = .ok (.aload_n 0, 1) := by decide +kernel
theorem dX6_makeSubscription_26 : decode cX6_makeSubscription 26 = .ok (.getfield 44, 3) := by decide +kernel
theorem dX6_makeSubscription_29 : decode cX6_makeSubscription 29 = .ok (.iload_n 1, 1) := by decide +kernel
theorem dX6_makeSubscription_30 : decode cX6_makeSubscription 30 = .ok (.invokevirtual 169, 3) := by decide +kernel
theorem dX6_makeSubscription_33 : decode cX6_makeSubscription 33 = .ok (.goto 5, 3) := by decide +kernel
theorem dX6_makeSubscription_36 : decode cX6_makeSubscription 36 = .ok (.bipush (-3), 2) := by decide +kernel
theorem dX6_makeSubscription_38 : decode cX6_makeSubscription 38 = .ok (.ireturn, 1) := by decide +kernel
theorem dX6_holdSeats_0 : decode cX6_holdSeats 0 = .ok (.aload_n 0, 1) := by decide +kernel
theorem dX6_holdSeats_1 : decode cX6_holdSeats 1 = .ok (.getfield 44, 3) := by decide +kernel
theorem dX6_holdSeats_4 : decode cX6_holdSeats 4 = .ok (.iload_n 1, 1) := by decide +kernel
theorem dX6_holdSeats_5 : decode cX6_holdSeats 5 = .ok (.invokevirtual 171, 3) := by decide +kernel
theorem dX6_holdSeats_8 : decode cX6_holdSeats 8 = .ok (.ifCond .eq 14, 3) := by decide +kernel
theorem dX6_holdSeats_11 : decode cX6_holdSeats 11 = .ok (.aload_n 0, 1) := by decide +kernel
theorem dX6_holdSeats_12 : decode cX6_holdSeats 12 = .ok (.getfield 37, 3) := by decide +kernel
theorem dX6_holdSeats_15 : decode cX6_holdSeats 15 = .ok (.iload_n 2, 1) := by decide +kernel
theorem dX6_holdSeats_16 : decode cX6_holdSeats 16 = .ok (.invokevirtual 132, 3) := by decide +kernel
theorem dX6_holdSeats_19 : decode cX6_holdSeats 19 = .ok (.ifCond .ne 5, 3) := by decide +kernel
theorem dX6_holdSeats_22 : decode cX6_holdSeats 22 = .ok (.iconst (-1), 1) := by decide +kernel
theorem dX6_holdSeats_23 : decode cX6_holdSeats 23 = .ok (.ireturn, 1) := by decide +kernel
theorem dX6_holdSeats_24 : decode cX6_holdSeats 24 = .ok (.aload_n 0, 1) := by decide +kernel
theorem dX6_holdSeats_25 : decode cX6_holdSeats 25 = .ok (.getfield 44, 3) := by decide +kernel
theorem dX6_holdSeats_28 : decode cX6_holdSeats 28 = .ok (.getfield 172, 3) := by decide +kernel
theorem dX6_holdSeats_31 : decode cX6_holdSeats 31 = .ok (.iload_n 1, 1) := by decide +kernel
theorem dX6_holdSeats_32 : decode cX6_holdSeats 32 = .ok (.invokevirtual 89, 3) := by decide +kernel
theorem dX6_holdSeats_35 : decode cX6_holdSeats 35 = .ok (.istore_n 3, 1) := by decide +kernel
theorem dX6_holdSeats_36 : decode cX6_holdSeats 36 = .ok (.aload_n 0, 1) := by decide +kernel
theorem dX6_holdSeats_37 : decode cX6_holdSeats 37 = .ok (.iload_n 2, 1) := by decide +kernel
theorem dX6_holdSeats_38 : decode cX6_holdSeats 38 = .ok (.iconst 2, 1) := by decide +kernel
theorem dX6_holdSeats_39 : decode cX6_holdSeats 39 = .ok (.invokevirtual 151, 3) := by decide +kernel
theorem dX6_holdSeats_42 : decode cX6_holdSeats 42 = .ok (.istore 4, 2) := by decide +kernel
theorem dX6_holdSeats_44 : decode cX6_holdSeats 44 = .ok (.iload 4, 2) := by decide +kernel
theorem dX6_holdSeats_46 : decode cX6_holdSeats 46 = .ok (.iload_n 3, 1) := by decide +kernel
theorem dX6_holdSeats_47 : decode cX6_holdSeats 47 = .ok (.if_icmp .ge 10, 3) := by decide +kernel
theorem dX6_holdSeats_50 : decode cX6_holdSeats 50 = .ok (.iconst 4, 1) := by decide +kernel
theorem dX6_holdSeats_51 : decode cX6_holdSeats 51 = .ok (.iload 4, 2) := by decide +kernel
theorem dX6_holdSeats_53 : decode cX6_holdSeats 53 = .ok (.invokestatic 96, 3) := by decide +kernel
theorem dX6_holdSeats_56 : decode cX6_holdSeats 56 = .ok (.ireturn, 1) := by decide +kernel
theorem dX6_holdSeats_57 : decode cX6_holdSeats 57 = .ok (.aload_n 0, 1) := by decide +kernel
theorem dX6_holdSeats_58 : decode cX6_holdSeats 58 = .ok (.getfield 37, 3) := by decide +kernel
theorem dX6_holdSeats_61 : decode cX6_holdSeats 61 = .ok (.iload_n 1, 1) := by decide +kernel
theorem dX6_holdSeats_62 : decode cX6_holdSeats 62 = .ok (.iload_n 2, 1) := by decide +kernel
theorem dX6_holdSeats_63 : decode cX6_holdSeats 63 = .ok (.invokevirtual 173, 3) := by decide +kernel
theorem dX6_holdSeats_66 : decode cX6_holdSeats 66 = .ok (.ifCond .eq 9, 3) := by decide +kernel
theorem dX6_holdSeats_69 : decode cX6_holdSeats 69 = .ok (.iconst 5, 1) := by decide +kernel
theorem dX6_holdSeats_70 : decode cX6_holdSeats 70 = .ok (.iload_n 2, 1) := by decide +kernel
theorem dX6_holdSeats_71 : decode cX6_holdSeats 71 = .ok (.invokestatic 96, 3) := by decide +kernel
theorem dX6_holdSeats_74 : decode cX6_holdSeats 74 = .ok (.ireturn, 1) := by decide +kernel
theorem dX6_holdSeats_75 : decode cX6_holdSeats 75 = .ok (.aload_n 0, 1) := by decide +kernel
theorem dX6_holdSeats_76 : decode cX6_holdSeats 76 = .ok (.getfield 37, 3) := by decide +kernel
theorem dX6_holdSeats_79 : decode cX6_holdSeats 79 = .ok (.iload_n 1, 1) := by decide +kernel
theorem dX6_holdSeats_80 : decode cX6_holdSeats 80 = .ok (.iload_n 2, 1) := by decide +kernel
theorem dX6_holdSeats_81 : decode cX6_holdSeats 81 = .ok (.iload_n 3, 1) := by decide +kernel
theorem dX6_holdSeats_82 : decode cX6_holdSeats 82 = .ok (.invokevirtual 177, 3) := by decide +kernel
theorem dX6_holdSeats_85 : decode cX6_holdSeats 85 = .ok (.aload_n 0, 1) := by decide +kernel
theorem dX6_holdSeats_86 : decode cX6_holdSeats 86 = .ok (.getfield 37, 3) := by decide +kernel
theorem dX6_holdSeats_89 : decode cX6_holdSeats 89 = .ok (.iload_n 1, 1) := by decide +kernel
theorem dX6_holdSeats_90 : decode cX6_holdSeats 90 = .ok (.invokevirtual 181, 3) := by decide +kernel
theorem dX6_holdSeats_93 : decode cX6_holdSeats 93 = .ok (.invokestatic 184, 3) := by decide +kernel
theorem dX6_holdSeats_96 : decode cX6_holdSeats 96 = .ok (.ireturn, 1) := by decide +kernel
theorem dX6_seatsAt_0 : decode cX6_seatsAt 0 = .ok (.iload_n 2, 1) := by decide +kernel
theorem dX6_seatsAt_1 : decode cX6_seatsAt 1 = .ok (.ifCond .ne 15, 3) := by decide +kernel
theorem dX6_seatsAt_4 : decode cX6_seatsAt 4 = .ok (.aload_n 0, 1) := by decide +kernel
theorem dX6_seatsAt_5 : decode cX6_seatsAt 5 = .ok (.getfield 37, 3) := by decide +kernel
theorem dX6_seatsAt_8 : decode cX6_seatsAt 8 = .ok (.getfield 136, 3) := by decide +kernel
theorem dX6_seatsAt_11 : decode cX6_seatsAt 11 = .ok (.iload_n 1, 1) := by decide +kernel
theorem dX6_seatsAt_12 : decode cX6_seatsAt 12 = .ok (.invokevirtual 89, 3) := by decide +kernel
theorem dX6_seatsAt_15 : decode cX6_seatsAt 15 = .ok (.ireturn, 1) := by decide +kernel
theorem dX6_seatsAt_16 : decode cX6_seatsAt 16 = .ok (.iload_n 2, 1) := by decide +kernel
theorem dX6_seatsAt_17 : decode cX6_seatsAt 17 = .ok (.iconst 1, 1) := by decide +kernel
theorem dX6_seatsAt_18 : decode cX6_seatsAt 18 = .ok (.if_icmp .ne 15, 3) := by decide +kernel
theorem dX6_seatsAt_21 : decode cX6_seatsAt 21 = .ok (.aload_n 0, 1) := by decide +kernel
theorem dX6_seatsAt_22 : decode cX6_seatsAt 22 = .ok (.getfield 37, 3) := by decide +kernel
theorem dX6_seatsAt_25 : decode cX6_seatsAt 25 = .ok (.getfield 198, 3) := by decide +kernel
theorem dX6_seatsAt_28 : decode cX6_seatsAt 28 = .ok (.iload_n 1, 1) := by decide +kernel
theorem dX6_seatsAt_29 : decode cX6_seatsAt 29 = .ok (.invokevirtual 89, 3) := by decide +kernel
theorem dX6_seatsAt_32 : decode cX6_seatsAt 32 = .ok (.ireturn, 1) := by decide +kernel
theorem dX6_seatsAt_33 : decode cX6_seatsAt 33 = .ok (.aload_n 0, 1) := by decide +kernel
theorem dX6_seatsAt_34 : decode cX6_seatsAt 34 = .ok (.getfield 14, 3) := by decide +kernel
theorem dX6_seatsAt_37 : decode cX6_seatsAt 37 = .ok (.aload_n 0, 1) := by decide +kernel
theorem dX6_seatsAt_38 : decode cX6_seatsAt 38 = .ok (.getfield 37, 3) := by decide +kernel
theorem dX6_seatsAt_41 : decode cX6_seatsAt 41 = .ok (.getfield 86, 3) := by decide +kernel
theorem dX6_seatsAt_44 : decode cX6_seatsAt 44 = .ok (.iload_n 1, 1) := by decide +kernel
theorem dX6_seatsAt_45 : decode cX6_seatsAt 45 = .ok (.invokevirtual 89, 3) := by decide +kernel
theorem dX6_seatsAt_48 : decode cX6_seatsAt 48 = .ok (.invokevirtual 89, 3) := by decide +kernel
theorem dX6_seatsAt_51 : decode cX6_seatsAt 51 = .ok (.aload_n 0, 1) := by decide +kernel
theorem dX6_seatsAt_52 : decode cX6_seatsAt 52 = .ok (.getfield 37, 3) := by decide +kernel
theorem dX6_seatsAt_55 : decode cX6_seatsAt 55 = .ok (.iload_n 1, 1) := by decide +kernel
theorem dX6_seatsAt_56 : decode cX6_seatsAt 56 = .ok (.invokevirtual 93, 3) := by decide +kernel
theorem dX6_seatsAt_59 : decode cX6_seatsAt 59 = .ok (.isub, 1) := by decide +kernel
theorem dX6_seatsAt_60 : decode cX6_seatsAt 60 = .ok (.ireturn, 1) := by decide +kernel
theorem dX6_seatsOfAll_0 : decode cX6_seatsOfAll 0 = .ok (.iconst 0, 1) := by decide +kernel
theorem dX6_seatsOfAll_1 : decode cX6_seatsOfAll 1 = .ok (.istore_n 2, 1) := by decide +kernel
theorem dX6_seatsOfAll_2 : decode cX6_seatsOfAll 2 = .ok (.iconst 0, 1) := by decide +kernel
theorem dX6_seatsOfAll_3 : decode cX6_seatsOfAll 3 = .ok (.istore_n 3, 1) := by decide +kernel
theorem dX6_seatsOfAll_4 : decode cX6_seatsOfAll 4 = .ok (.iload_n 3, 1) := by decide +kernel
theorem dX6_seatsOfAll_5 : decode cX6_seatsOfAll 5 = .ok (.aload_n 0, 1) := by decide +kernel
theorem dX6_seatsOfAll_6 : decode cX6_seatsOfAll 6 = .ok (.getfield 37, 3) := by decide +kernel
theorem dX6_seatsOfAll_9 : decode cX6_seatsOfAll 9 = .ok (.getfield 83, 3) := by decide +kernel
theorem dX6_seatsOfAll_12 : decode cX6_seatsOfAll 12 = .ok (.if_icmp .ge 18, 3) := by decide +kernel
theorem dX6_seatsOfAll_15 : decode cX6_seatsOfAll 15 = .ok (.iload_n 2, 1) := by decide +kernel
theorem dX6_seatsOfAll_16 : decode cX6_seatsOfAll 16 = .ok (.aload_n 0, 1) := by decide +kernel
theorem dX6_seatsOfAll_17 : decode cX6_seatsOfAll 17 = .ok (.iload_n 3, 1) := by decide +kernel
theorem dX6_seatsOfAll_18 : decode cX6_seatsOfAll 18 = .ok (.iload_n 1, 1) := by decide +kernel
theorem dX6_seatsOfAll_19 : decode cX6_seatsOfAll 19 = .ok (.invokevirtual 151, 3) := by decide +kernel
theorem dX6_seatsOfAll_22 : decode cX6_seatsOfAll 22 = .ok (.iadd, 1) := by decide +kernel
theorem dX6_seatsOfAll_23 : decode cX6_seatsOfAll 23 = .ok (.istore_n 2, 1) := by decide +kernel
theorem dX6_seatsOfAll_24 : decode cX6_seatsOfAll 24 = .ok (.iinc 3 1, 3) := by decide +kernel
theorem dX6_seatsOfAll_27 : decode cX6_seatsOfAll 27 = .ok (.goto (-23), 3) := by decide +kernel
theorem dX6_seatsOfAll_30 : decode cX6_seatsOfAll 30 = .ok (.iload_n 2, 1) := by decide +kernel
theorem dX6_seatsOfAll_31 : decode cX6_seatsOfAll 31 = .ok (.ireturn, 1) := by decide +kernel
theorem dX6_seatsOnStage_0 : decode cX6_seatsOnStage 0 = .ok (.aload_n 0, 1) := by decide +kernel
theorem dX6_seatsOnStage_1 : decode cX6_seatsOnStage 1 = .ok (.getfield 37, 3) := by decide +kernel
theorem dX6_seatsOnStage_4 : decode cX6_seatsOnStage 4 = .ok (.iload_n 1, 1) := by decide +kernel
theorem dX6_seatsOnStage_5 : decode cX6_seatsOnStage 5 = .ok (.iload_n 2, 1) := by decide +kernel
theorem dX6_seatsOnStage_6 : decode cX6_seatsOnStage 6 = .ok (.invokevirtual 201, 3) := by decide +kernel
theorem dX6_seatsOnStage_9 : decode cX6_seatsOnStage 9 = .ok (.istore 4, 2) := by decide +kernel
theorem dX6_seatsOnStage_11 : decode cX6_seatsOnStage 11 = .ok (.iload 4, 2) := by decide +kernel
theorem dX6_seatsOnStage_13 : decode cX6_seatsOnStage 13 = .ok (.iconst (-1), 1) := by decide +kernel
theorem dX6_seatsOnStage_14 : decode cX6_seatsOnStage 14 = .ok (.if_icmp .ne 5, 3) := by decide +kernel
theorem dX6_seatsOnStage_17 : decode cX6_seatsOnStage 17 = .ok (.iconst 0, 1) := by decide +kernel
theorem dX6_seatsOnStage_18 : decode cX6_seatsOnStage 18 = .ok (.ireturn, 1) := by decide +kernel
theorem dX6_seatsOnStage_19 : decode cX6_seatsOnStage 19 = .ok (.aload_n 0, 1) := by decide +kernel
theorem dX6_seatsOnStage_20 : decode cX6_seatsOnStage 20 = .ok (.getfield 37, 3) := by decide +kernel
theorem dX6_seatsOnStage_23 : decode cX6_seatsOnStage 23 = .ok (.getfield 136, 3) := by decide +kernel
theorem dX6_seatsOnStage_26 : decode cX6_seatsOnStage 26 = .ok (.iload 4, 2) := by decide +kernel
theorem dX6_seatsOnStage_28 : decode cX6_seatsOnStage 28 = .ok (.invokevirtual 89, 3) := by decide +kernel
theorem dX6_seatsOnStage_31 : decode cX6_seatsOnStage 31 = .ok (.istore 5, 2) := by decide +kernel
theorem dX6_seatsOnStage_33 : decode cX6_seatsOnStage 33 = .ok (.iload_n 3, 1) := by decide +kernel
theorem dX6_seatsOnStage_34 : decode cX6_seatsOnStage 34 = .ok (.ifCond .ne 6, 3) := by decide +kernel
theorem dX6_seatsOnStage_37 : decode cX6_seatsOnStage 37 = .ok (.iload 5, 2) := by decide +kernel
theorem dX6_seatsOnStage_39 : decode cX6_seatsOnStage 39 = .ok (.ireturn, 1) := by decide +kernel
theorem dX6_seatsOnStage_40 : decode cX6_seatsOnStage 40 = .ok (.iconst 0, 1) := by decide +kernel
theorem dX6_seatsOnStage_41 : decode cX6_seatsOnStage 41 = .ok (.istore 6, 2) := by decide +kernel
theorem dX6_seatsOnStage_43 : decode cX6_seatsOnStage 43 = .ok (.iconst 0, 1) := by decide +kernel
theorem dX6_seatsOnStage_44 : decode cX6_seatsOnStage 44 = .ok (.istore 7, 2) := by decide +kernel
theorem dX6_seatsOnStage_46 : decode cX6_seatsOnStage 46 = .ok (.iload 7, 2) := by decide +kernel
theorem dX6_seatsOnStage_48 : decode cX6_seatsOnStage 48 = .ok (.aload_n 0, 1) := by decide +kernel
theorem dX6_seatsOnStage_49 : decode cX6_seatsOnStage 49 = .ok (.getfield 44, 3) := by decide +kernel
theorem dX6_seatsOnStage_52 : decode cX6_seatsOnStage 52 = .ok (.getfield 168, 3) := by decide +kernel
theorem dX6_seatsOnStage_55 : decode cX6_seatsOnStage 55 = .ok (.if_icmp .ge 40, 3) := by decide +kernel
theorem dX6_seatsOnStage_58 : decode cX6_seatsOnStage 58 = .ok (.aload_n 0, 1) := by decide +kernel
theorem dX6_seatsOnStage_59 : decode cX6_seatsOnStage 59 = .ok (.getfield 37, 3) := by decide +kernel
theorem dX6_seatsOnStage_62 : decode cX6_seatsOnStage 62 = .ok (.iload 7, 2) := by decide +kernel
theorem dX6_seatsOnStage_64 : decode cX6_seatsOnStage 64 = .ok (.iload 4, 2) := by decide +kernel
theorem dX6_seatsOnStage_66 : decode cX6_seatsOnStage 66 = .ok (.invokevirtual 173, 3) := by decide +kernel
theorem dX6_seatsOnStage_69 : decode cX6_seatsOnStage 69 = .ok (.ifCond .eq 20, 3) := by decide +kernel
theorem dX6_seatsOnStage_72 : decode cX6_seatsOnStage 72 = .ok (.iload 6, 2) := by decide +kernel
theorem dX6_seatsOnStage_74 : decode cX6_seatsOnStage 74 = .ok (.aload_n 0, 1) := by decide +kernel
theorem dX6_seatsOnStage_75 : decode cX6_seatsOnStage 75 = .ok (.getfield 44, 3) := by decide +kernel
theorem dX6_seatsOnStage_78 : decode cX6_seatsOnStage 78 = .ok (.getfield 172, 3) := by decide +kernel
theorem dX6_seatsOnStage_81 : decode cX6_seatsOnStage 81 = .ok (.iload 7, 2) := by decide +kernel
theorem dX6_seatsOnStage_83 : decode cX6_seatsOnStage 83 = .ok (.invokevirtual 89, 3) := by decide +kernel
theorem dX6_seatsOnStage_86 : decode cX6_seatsOnStage 86 = .ok (.iadd, 1) := by decide +kernel
theorem dX6_seatsOnStage_87 : decode cX6_seatsOnStage 87 = .ok (.istore 6, 2) := by decide +kernel
theorem dX6_seatsOnStage_89 : decode cX6_seatsOnStage 89 = .ok (.iinc 7 1, 3) := by decide +kernel
theorem dX6_seatsOnStage_92 : decode cX6_seatsOnStage 92 = .ok (.goto (-46), 3) := by decide +kernel
theorem dX6_seatsOnStage_95 : decode cX6_seatsOnStage 95 = .ok (.iload_n 3, 1) := by decide +kernel
theorem dX6_seatsOnStage_96 : decode cX6_seatsOnStage 96 = .ok (.iconst 1, 1) := by decide +kernel
theorem dX6_seatsOnStage_97 : decode cX6_seatsOnStage 97 = .ok (.if_icmp .ne 8, 3) := by decide +kernel
theorem dX6_seatsOnStage_100 : decode cX6_seatsOnStage 100 = .ok (.iload 6, 2) := by decide +kernel
theorem dX6_seatsOnStage_102 : decode cX6_seatsOnStage 102 = .ok (.goto 17, 3) := by decide +kernel
theorem dX6_seatsOnStage_105 : decode cX6_seatsOnStage 105 = .ok (.aload_n 0, 1) := by decide +kernel
theorem dX6_seatsOnStage_106 : decode cX6_seatsOnStage 106 = .ok (.getfield 14, 3) := by decide +kernel
theorem dX6_seatsOnStage_109 : decode cX6_seatsOnStage 109 = .ok (.iload_n 1, 1) := by decide +kernel
theorem dX6_seatsOnStage_110 : decode cX6_seatsOnStage 110 = .ok (.invokevirtual 89, 3) := by decide +kernel
theorem dX6_seatsOnStage_113 : decode cX6_seatsOnStage 113 = .ok (.iload 5, 2) := by decide +kernel
theorem dX6_seatsOnStage_115 : decode cX6_seatsOnStage 115 = .ok (.isub, 1) := by decide +kernel
theorem dX6_seatsOnStage_116 : decode cX6_seatsOnStage 116 = .ok (.iload 6, 2) := by decide +kernel
theorem dX6_seatsOnStage_118 : decode cX6_seatsOnStage 118 = .ok (.isub, 1) := by decide +kernel
theorem dX6_seatsOnStage_119 : decode cX6_seatsOnStage 119 = .ok (.ireturn, 1) := by decide +kernel
theorem dX6_seatsOfProduction_0 : decode cX6_seatsOfProduction 0 = .ok (.iconst 0, 1) := by decide +kernel
theorem dX6_seatsOfProduction_1 : decode cX6_seatsOfProduction 1 = .ok (.istore_n 3, 1) := by decide +kernel
theorem dX6_seatsOfProduction_2 : decode cX6_seatsOfProduction 2 = .ok (.iconst 0, 1) := by decide +kernel
theorem dX6_seatsOfProduction_3 : decode cX6_seatsOfProduction 3 = .ok (.istore 4, 2) := by decide +kernel
theorem dX6_seatsOfProduction_5 : decode cX6_seatsOfProduction 5 = .ok (.iload 4, 2) := by decide +kernel
theorem dX6_seatsOfProduction_7 : decode cX6_seatsOfProduction 7 = .ok (.aload_n 0, 1) := by decide +kernel
theorem dX6_seatsOfProduction_8 : decode cX6_seatsOfProduction 8 = .ok (.getfield 37, 3) := by decide +kernel
theorem dX6_seatsOfProduction_11 : decode cX6_seatsOfProduction 11 = .ok (.getfield 83, 3) := by decide +kernel
theorem dX6_seatsOfProduction_14 : decode cX6_seatsOfProduction 14 = .ok (.if_icmp .ge 67, 3) := by decide +kernel
theorem dX6_seatsOfProduction_17 : decode cX6_seatsOfProduction 17 = .ok (.aload_n 0, 1) := by decide +kernel
theorem dX6_seatsOfProduction_18 : decode cX6_seatsOfProduction 18 = .ok (.getfield 37, 3) := by decide +kernel
theorem dX6_seatsOfProduction_21 : decode cX6_seatsOfProduction 21 = .ok (.getfield 133, 3) := by decide +kernel
theorem dX6_seatsOfProduction_24 : decode cX6_seatsOfProduction 24 = .ok (.iload 4, 2) := by decide +kernel
theorem dX6_seatsOfProduction_26 : decode cX6_seatsOfProduction 26 = .ok (.invokevirtual 89, 3) := by decide +kernel
theorem dX6_seatsOfProduction_29 : decode cX6_seatsOfProduction 29 = .ok (.iload_n 1, 1) := by decide +kernel
theorem dX6_seatsOfProduction_30 : decode cX6_seatsOfProduction 30 = .ok (.if_icmp .ne 45, 3) := by decide +kernel
theorem dX6_seatsOfProduction_33 : decode cX6_seatsOfProduction 33 = .ok (.aload_n 0, 1) := by decide +kernel
theorem dX6_seatsOfProduction_34 : decode cX6_seatsOfProduction 34 = .ok (.getfield 14, 3) := by decide +kernel
theorem dX6_seatsOfProduction_37 : decode cX6_seatsOfProduction 37 = .ok (.aload_n 0, 1) := by decide +kernel
theorem dX6_seatsOfProduction_38 : decode cX6_seatsOfProduction 38 = .ok (.getfield 37, 3) := by decide +kernel
theorem dX6_seatsOfProduction_41 : decode cX6_seatsOfProduction 41 = .ok (.getfield 86, 3) := by decide +kernel
theorem dX6_seatsOfProduction_44 : decode cX6_seatsOfProduction 44 = .ok (.iload 4, 2) := by decide +kernel
theorem dX6_seatsOfProduction_46 : decode cX6_seatsOfProduction 46 = .ok (.invokevirtual 89, 3) := by decide +kernel
theorem dX6_seatsOfProduction_49 : decode cX6_seatsOfProduction 49 = .ok (.invokevirtual 89, 3) := by decide +kernel
theorem dX6_seatsOfProduction_52 : decode cX6_seatsOfProduction 52 = .ok (.istore 5, 2) := by decide +kernel
theorem dX6_seatsOfProduction_54 : decode cX6_seatsOfProduction 54 = .ok (.iload_n 3, 1) := by decide +kernel
theorem dX6_seatsOfProduction_55 : decode cX6_seatsOfProduction 55 = .ok (.iload_n 2, 1) := by decide +kernel
theorem dX6_seatsOfProduction_56 : decode cX6_seatsOfProduction 56 = .ok (.ifCond .eq 8, 3) := by decide +kernel
theorem dX6_seatsOfProduction_59 : decode cX6_seatsOfProduction 59 = .ok (.iload 5, 2) := by decide +kernel
theorem dX6_seatsOfProduction_61 : decode cX6_seatsOfProduction 61 = .ok (.goto 12, 3) := by decide +kernel
theorem dX6_seatsOfProduction_64 : decode cX6_seatsOfProduction 64 = .ok (.aload_n 0, 1) := by decide +kernel
theorem dX6_seatsOfProduction_65 : decode cX6_seatsOfProduction 65 = .ok (.getfield 37, 3) := by decide +kernel
theorem dX6_seatsOfProduction_68 : decode cX6_seatsOfProduction 68 = .ok (.iload 4, 2) := by decide +kernel
theorem dX6_seatsOfProduction_70 : decode cX6_seatsOfProduction 70 = .ok (.invokevirtual 93, 3) := by decide +kernel
theorem dX6_seatsOfProduction_73 : decode cX6_seatsOfProduction 73 = .ok (.iadd, 1) := by decide +kernel
theorem dX6_seatsOfProduction_74 : decode cX6_seatsOfProduction 74 = .ok (.istore_n 3, 1) := by decide +kernel
theorem dX6_seatsOfProduction_75 : decode cX6_seatsOfProduction 75 = .ok (.iinc 4 1, 3) := by decide +kernel
theorem dX6_seatsOfProduction_78 : decode cX6_seatsOfProduction 78 = .ok (.goto (-73), 3) := by decide +kernel
theorem dX6_seatsOfProduction_81 : decode cX6_seatsOfProduction 81 = .ok (.iload_n 3, 1) := by decide +kernel
theorem dX6_seatsOfProduction_82 : decode cX6_seatsOfProduction 82 = .ok (.ireturn, 1) := by decide +kernel
theorem dX6_takingsOf_0 : decode cX6_takingsOf 0 = .ok (.aload_n 0, 1) := by decide +kernel
theorem dX6_takingsOf_1 : decode cX6_takingsOf 1 = .ok (.getfield 30, 3) := by decide +kernel
theorem dX6_takingsOf_4 : decode cX6_takingsOf 4 = .ok (.getfield 202, 3) := by decide +kernel
theorem dX6_takingsOf_7 : decode cX6_takingsOf 7 = .ok (.iload_n 1, 1) := by decide +kernel
theorem dX6_takingsOf_8 : decode cX6_takingsOf 8 = .ok (.invokevirtual 89, 3) := by decide +kernel
theorem dX6_takingsOf_11 : decode cX6_takingsOf 11 = .ok (.istore_n 2, 1) := by decide +kernel
theorem dX6_takingsOf_12 : decode cX6_takingsOf 12 = .ok (.iconst 0, 1) := by decide +kernel
theorem dX6_takingsOf_13 : decode cX6_takingsOf 13 = .ok (.istore_n 3, 1) := by decide +kernel
theorem dX6_takingsOf_14 : decode cX6_takingsOf 14 = .ok (.iconst 0, 1) := by decide +kernel
theorem dX6_takingsOf_15 : decode cX6_takingsOf 15 = .ok (.istore 4, 2) := by decide +kernel
theorem dX6_takingsOf_17 : decode cX6_takingsOf 17 = .ok (.iload 4, 2) := by decide +kernel
theorem dX6_takingsOf_19 : decode cX6_takingsOf 19 = .ok (.aload_n 0, 1) := by decide +kernel
theorem dX6_takingsOf_20 : decode cX6_takingsOf 20 = .ok (.getfield 37, 3) := by decide +kernel
theorem dX6_takingsOf_23 : decode cX6_takingsOf 23 = .ok (.getfield 83, 3) := by decide +kernel
theorem dX6_takingsOf_26 : decode cX6_takingsOf 26 = .ok (.if_icmp .ge 63, 3) := by decide +kernel
theorem dX6_takingsOf_29 : decode cX6_takingsOf 29 = .ok (.aload_n 0, 1) := by decide +kernel
theorem dX6_takingsOf_30 : decode cX6_takingsOf 30 = .ok (.getfield 37, 3) := by decide +kernel
theorem dX6_takingsOf_33 : decode cX6_takingsOf 33 = .ok (.getfield 133, 3) := by decide +kernel
theorem dX6_takingsOf_36 : decode cX6_takingsOf 36 = .ok (.iload 4, 2) := by decide +kernel
theorem dX6_takingsOf_38 : decode cX6_takingsOf 38 = .ok (.invokevirtual 89, 3) := by decide +kernel
theorem dX6_takingsOf_41 : decode cX6_takingsOf 41 = .ok (.iload_n 1, 1) := by decide +kernel
theorem dX6_takingsOf_42 : decode cX6_takingsOf 42 = .ok (.if_icmp .ne 41, 3) := by decide +kernel
theorem dX6_takingsOf_45 : decode cX6_takingsOf 45 = .ok (.iload_n 3, 1) := by decide +kernel
theorem dX6_takingsOf_46 : decode cX6_takingsOf 46 = .ok (.iload_n 2, 1) := by decide +kernel
theorem dX6_takingsOf_47 : decode cX6_takingsOf 47 = .ok (.aload_n 0, 1) := by decide +kernel
theorem dX6_takingsOf_48 : decode cX6_takingsOf 48 = .ok (.getfield 37, 3) := by decide +kernel
theorem dX6_takingsOf_51 : decode cX6_takingsOf 51 = .ok (.getfield 136, 3) := by decide +kernel
theorem dX6_takingsOf_54 : decode cX6_takingsOf 54 = .ok (.iload 4, 2) := by decide +kernel
theorem dX6_takingsOf_56 : decode cX6_takingsOf 56 = .ok (.invokevirtual 89, 3) := by decide +kernel
theorem dX6_takingsOf_59 : decode cX6_takingsOf 59 = .ok (.imul, 1) := by decide +kernel
theorem dX6_takingsOf_60 : decode cX6_takingsOf 60 = .ok (.iadd, 1) := by decide +kernel
theorem dX6_takingsOf_61 : decode cX6_takingsOf 61 = .ok (.istore_n 3, 1) := by decide +kernel
theorem dX6_takingsOf_62 : decode cX6_takingsOf 62 = .ok (.iload_n 3, 1) := by decide +kernel
theorem dX6_takingsOf_63 : decode cX6_takingsOf 63 = .ok (.iload_n 2, 1) := by decide +kernel
theorem dX6_takingsOf_64 : decode cX6_takingsOf 64 = .ok (.iconst 4, 1) := by decide +kernel
theorem dX6_takingsOf_65 : decode cX6_takingsOf 65 = .ok (.imul, 1) := by decide +kernel
theorem dX6_takingsOf_66 : decode cX6_takingsOf 66 = .ok (.iconst 5, 1) := by decide +kernel
theorem dX6_takingsOf_67 : decode cX6_takingsOf 67 = .ok (.idiv, 1) := by decide +kernel
theorem dX6_takingsOf_68 : decode cX6_takingsOf 68 = .ok (.aload_n 0, 1) := by decide +kernel
theorem dX6_takingsOf_69 : decode cX6_takingsOf 69 = .ok (.getfield 37, 3) := by decide +kernel
theorem dX6_takingsOf_72 : decode cX6_takingsOf 72 = .ok (.getfield 198, 3) := by decide +kernel
theorem dX6_takingsOf_75 : decode cX6_takingsOf 75 = .ok (.iload 4, 2) := by decide +kernel
theorem dX6_takingsOf_77 : decode cX6_takingsOf 77 = .ok (.invokevirtual 89, 3) := by decide +kernel
theorem dX6_takingsOf_80 : decode cX6_takingsOf 80 = .ok (.imul, 1) := by decide +kernel
theorem dX6_takingsOf_81 : decode cX6_takingsOf 81 = .ok (.iadd, 1) := by decide +kernel
theorem dX6_takingsOf_82 : decode cX6_takingsOf 82 = .ok (.istore_n 3, 1) := by decide +kernel
theorem dX6_takingsOf_83 : decode cX6_takingsOf 83 = .ok (.iinc 4 1, 3) := by decide +kernel
theorem dX6_takingsOf_86 : decode cX6_takingsOf 86 = .ok (.goto (-69), 3) := by decide +kernel
theorem dX6_takingsOf_89 : decode cX6_takingsOf 89 = .ok (.iload_n 3, 1) := by decide +kernel
theorem dX6_takingsOf_90 : decode cX6_takingsOf 90 = .ok (.ireturn, 1) := by decide +kernel
theorem dX6_takingsOfAll_0 : decode cX6_takingsOfAll 0 = .ok (.iconst 0, 1) := by decide +kernel
theorem dX6_takingsOfAll_1 : decode cX6_takingsOfAll 1 = .ok (.istore_n 1, 1) := by decide +kernel
theorem dX6_takingsOfAll_2 : decode cX6_takingsOfAll 2 = .ok (.iconst 0, 1) := by decide +kernel
theorem dX6_takingsOfAll_3 : decode cX6_takingsOfAll 3 = .ok (.istore_n 2, 1) := by decide +kernel
theorem dX6_takingsOfAll_4 : decode cX6_takingsOfAll 4 = .ok (.iload_n 2, 1) := by decide +kernel
theorem dX6_takingsOfAll_5 : decode cX6_takingsOfAll 5 = .ok (.aload_n 0, 1) := by decide +kernel
theorem dX6_takingsOfAll_6 : decode cX6_takingsOfAll 6 = .ok (.getfield 30, 3) := by decide +kernel
theorem dX6_takingsOfAll_9 : decode cX6_takingsOfAll 9 = .ok (.getfield 110, 3) := by decide +kernel
theorem dX6_takingsOfAll_12 : decode cX6_takingsOfAll 12 = .ok (.if_icmp .ge 17, 3) := by decide +kernel
theorem dX6_takingsOfAll_15 : decode cX6_takingsOfAll 15 = .ok (.iload_n 1, 1) := by decide +kernel
theorem dX6_takingsOfAll_16 : decode cX6_takingsOfAll 16 = .ok (.aload_n 0, 1) := by decide +kernel
theorem dX6_takingsOfAll_17 : decode cX6_takingsOfAll 17 = .ok (.iload_n 2, 1) := by decide +kernel
theorem dX6_takingsOfAll_18 : decode cX6_takingsOfAll 18 = .ok (.invokevirtual 205, 3) := by decide +kernel
theorem dX6_takingsOfAll_21 : decode cX6_takingsOfAll 21 = .ok (.iadd, 1) := by decide +kernel
theorem dX6_takingsOfAll_22 : decode cX6_takingsOfAll 22 = .ok (.istore_n 1, 1) := by decide +kernel
theorem dX6_takingsOfAll_23 : decode cX6_takingsOfAll 23 = .ok (.iinc 2 1, 3) := by decide +kernel
theorem dX6_takingsOfAll_26 : decode cX6_takingsOfAll 26 = .ok (.goto (-22), 3) := by decide +kernel
theorem dX6_takingsOfAll_29 : decode cX6_takingsOfAll 29 = .ok (.iload_n 1, 1) := by decide +kernel
theorem dX6_takingsOfAll_30 : decode cX6_takingsOfAll 30 = .ok (.ireturn, 1) := by decide +kernel
theorem dX7_init_0 : decode cX7_init 0 = .ok (.aload_n 0, 1) := by decide +kernel
theorem dX7_init_1 : decode cX7_init 1 = .ok (.invokespecial 3, 3) := by decide +kernel
theorem dX7_init_4 : decode cX7_init 4 = .ok (.aload_n 0, 1) := by decide +kernel
theorem dX7_init_5 : decode cX7_init 5 = .ok (.new 9, 3) := by decide +kernel
theorem dX7_init_8 : decode cX7_init 8 = .ok (.dup, 1) := by decide +kernel
theorem dX7_init_9 : decode cX7_init 9 = .ok (.bipush 10, 2) := by decide +kernel
theorem dX7_init_11 : decode cX7_init 11 = .ok (.invokespecial 11, 3) := by decide +kernel
theorem dX7_init_14 : decode cX7_init 14 = .ok (.putfield 14, 3) := by decide +kernel
theorem dX7_init_17 : decode cX7_init 17 = .ok (.aload_n 0, 1) := by decide +kernel
theorem dX7_init_18 : decode cX7_init 18 = .ok (.new 9, 3) := by decide +kernel
theorem dX7_init_21 : decode cX7_init 21 = .ok (.dup, 1) := by decide +kernel
theorem dX7_init_22 : decode cX7_init 22 = .ok (.bipush 10, 2) := by decide +kernel
theorem dX7_init_24 : decode cX7_init 24 = .ok (.invokespecial 11, 3) := by decide +kernel
theorem dX7_init_27 : decode cX7_init 27 = .ok (.putfield 20, 3) := by decide +kernel
theorem dX7_init_30 : decode cX7_init 30 = .ok (.return_, 1) := by decide +kernel
theorem dX7_has_0 : decode cX7_has 0 = .ok (.iload_n 1, 1) := by decide +kernel
theorem dX7_has_1 : decode cX7_has 1 = .ok (.iconst 0, 1) := by decide +kernel
theorem dX7_has_2 : decode cX7_has 2 = .ok (.aload_n 0, 1) := by decide +kernel
theorem dX7_has_3 : decode cX7_has 3 = .ok (.getfield 23, 3) := by decide +kernel
theorem dX7_has_6 : decode cX7_has 6 = .ok (.iconst 1, 1) := by decide +kernel
theorem dX7_has_7 : decode cX7_has 7 = .ok (.isub, 1) := by decide +kernel
theorem dX7_has_8 : decode cX7_has 8 = .ok (.invokestatic 27, 3) := by decide +kernel
theorem dX7_has_11 : decode cX7_has 11 = .ok (.ireturn, 1) := by decide +kernel
theorem dX7_add_0 : decode cX7_add 0 = .ok (.aload_n 0, 1) := by decide +kernel
theorem dX7_add_1 : decode cX7_add 1 = .ok (.getfield 23, 3) := by decide +kernel
theorem dX7_add_4 : decode cX7_add 4 = .ok (.istore_n 2, 1) := by decide +kernel
theorem dX7_add_5 : decode cX7_add 5 = .ok (.aload_n 0, 1) := by decide +kernel
theorem dX7_add_6 : decode cX7_add 6 = .ok (.getfield 14, 3) := by decide +kernel
theorem dX7_add_9 : decode cX7_add 9 = .ok (.iload_n 2, 1) := by decide +kernel
theorem dX7_add_10 : decode cX7_add 10 = .ok (.iload_n 1, 1) := by decide +kernel
theorem dX7_add_11 : decode cX7_add 11 = .ok (.invokevirtual 31, 3) := by decide +kernel
theorem dX7_add_14 : decode cX7_add 14 = .ok (.aload_n 0, 1) := by decide +kernel
theorem dX7_add_15 : decode cX7_add 15 = .ok (.getfield 20, 3) := by decide +kernel
theorem dX7_add_18 : decode cX7_add 18 = .ok (.iload_n 2, 1) := by decide +kernel
theorem dX7_add_19 : decode cX7_add 19 = .ok (.iconst 0, 1) := by decide +kernel
theorem dX7_add_20 : decode cX7_add 20 = .ok (.invokevirtual 31, 3) := by decide +kernel
theorem dX7_add_23 : decode cX7_add 23 = .ok (.aload_n 0, 1) := by decide +kernel
theorem dX7_add_24 : decode cX7_add 24 = .ok (.dup, 1) := by decide +kernel
theorem dX7_add_25 : decode cX7_add 25 = .ok (.getfield 23, 3) := by decide +kernel
theorem dX7_add_28 : decode cX7_add 28 = .ok (.iconst 1, 1) := by decide +kernel
theorem dX7_add_29 : decode cX7_add 29 = .ok (.iadd, 1) := by decide +kernel
theorem dX7_add_30 : decode cX7_add 30 = .ok (.putfield 23, 3) := by decide +kernel
theorem dX7_add_33 : decode cX7_add 33 = .ok (.iload_n 2, 1) := by decide +kernel
theorem dX7_add_34 : decode cX7_add 34 = .ok (.ireturn, 1) := by decide +kernel
theorem dX7_copyFrom_0 : decode cX7_copyFrom 0 = .ok (.aload_n 0, 1) := by decide +kernel
theorem dX7_copyFrom_1 : decode cX7_copyFrom 1 = .ok (.aload_n 1, 1) := by decide +kernel
theorem dX7_copyFrom_2 : decode cX7_copyFrom 2 = .ok (.getfield 23, 3) := by decide +kernel
theorem dX7_copyFrom_5 : decode cX7_copyFrom 5 = .ok (.putfield 23, 3) := by decide +kernel
theorem dX7_copyFrom_8 : decode cX7_copyFrom 8 = .ok (.aload_n 0, 1) := by decide +kernel
theorem dX7_copyFrom_9 : decode cX7_copyFrom 9 = .ok (.getfield 14, 3) := by decide +kernel
theorem dX7_copyFrom_12 : decode cX7_copyFrom 12 = .ok (.aload_n 1, 1) := by decide +kernel
theorem dX7_copyFrom_13 : decode cX7_copyFrom 13 = .ok (.getfield 14, 3) := by decide +kernel
theorem dX7_copyFrom_16 : decode cX7_copyFrom 16 = .ok (.invokevirtual 35, 3) := by decide +kernel
theorem dX7_copyFrom_19 : decode cX7_copyFrom 19 = .ok (.aload_n 0, 1) := by decide +kernel
theorem dX7_copyFrom_20 : decode cX7_copyFrom 20 = .ok (.getfield 20, 3) := by decide +kernel
theorem dX7_copyFrom_23 : decode cX7_copyFrom 23 = .ok (.aload_n 1, 1) := by decide +kernel
theorem dX7_copyFrom_24 : decode cX7_copyFrom 24 = .ok (.getfield 20, 3) := by decide +kernel
theorem dX7_copyFrom_27 : decode cX7_copyFrom 27 = .ok (.invokevirtual 35, 3) := by decide +kernel
theorem dX7_copyFrom_30 : decode cX7_copyFrom 30 = .ok (.return_, 1) := by decide +kernel
theorem dX8_init_0 : decode cX8_init 0 = .ok (.aload_n 0, 1) := by decide +kernel
theorem dX8_init_1 : decode cX8_init 1 = .ok (.invokespecial 1, 3) := by decide +kernel
theorem dX8_init_4 : decode cX8_init 4 = .ok (.aload_n 0, 1) := by decide +kernel
theorem dX8_init_5 : decode cX8_init 5 = .ok (.new 7, 3) := by decide +kernel
theorem dX8_init_8 : decode cX8_init 8 = .ok (.dup, 1) := by decide +kernel
theorem dX8_init_9 : decode cX8_init 9 = .ok (.invokespecial 9, 3) := by decide +kernel
theorem dX8_init_12 : decode cX8_init 12 = .ok (.putfield 10, 3) := by decide +kernel
theorem dX8_init_15 : decode cX8_init 15 = .ok (.aload_n 0, 1) := by decide +kernel
theorem dX8_init_16 : decode cX8_init 16 = .ok (.new 7, 3) := by decide +kernel
theorem dX8_init_19 : decode cX8_init 19 = .ok (.dup, 1) := by decide +kernel
theorem dX8_init_20 : decode cX8_init 20 = .ok (.invokespecial 9, 3) := by decide +kernel
theorem dX8_init_23 : decode cX8_init 23 = .ok (.putfield 16, 3) := by decide +kernel
theorem dX8_init_26 : decode cX8_init 26 = .ok (.aload_n 0, 1) := by decide +kernel
theorem dX8_init_27 : decode cX8_init 27 = .ok (.new 19, 3) := by decide +kernel
theorem dX8_init_30 : decode cX8_init 30 = .ok (.dup, 1) := by decide +kernel
theorem dX8_init_31 : decode cX8_init 31 = .ok (.invokespecial 21, 3) := by decide +kernel
theorem dX8_init_34 : decode cX8_init 34 = .ok (.putfield 22, 3) := by decide +kernel
theorem dX8_init_37 : decode cX8_init 37 = .ok (.aload_n 0, 1) := by decide +kernel
theorem dX8_init_38 : decode cX8_init 38 = .ok (.new 26, 3) := by decide +kernel
theorem dX8_init_41 : decode cX8_init 41 = .ok (.dup, 1) := by decide +kernel
theorem dX8_init_42 : decode cX8_init 42 = .ok (.invokespecial 28, 3) := by decide +kernel
theorem dX8_init_45 : decode cX8_init 45 = .ok (.putfield 29, 3) := by decide +kernel
theorem dX8_init_48 : decode cX8_init 48 = .ok (.aload_n 0, 1) := by decide +kernel
theorem dX8_init_49 : decode cX8_init 49 = .ok (.iconst (-1), 1) := by decide +kernel
theorem dX8_init_50 : decode cX8_init 50 = .ok (.putfield 33, 3) := by decide +kernel
theorem dX8_init_53 : decode cX8_init 53 = .ok (.aload_n 0, 1) := by decide +kernel
theorem dX8_init_54 : decode cX8_init 54 = .ok (.iconst (-1), 1) := by decide +kernel
theorem dX8_init_55 : decode cX8_init 55 = .ok (.putfield 37, 3) := by decide +kernel
theorem dX8_init_58 : decode cX8_init 58 = .ok (.aload_n 0, 1) := by decide +kernel
theorem dX8_init_59 : decode cX8_init 59 = .ok (.iconst (-1), 1) := by decide +kernel
theorem dX8_init_60 : decode cX8_init 60 = .ok (.putfield 40, 3) := by decide +kernel
theorem dX8_init_63 : decode cX8_init 63 = .ok (.return_, 1) := by decide +kernel
theorem dX8_addProduction_0 : decode cX8_addProduction 0 = .ok (.aload_n 0, 1) := by decide +kernel
theorem dX8_addProduction_1 : decode cX8_addProduction 1 = .ok (.getfield 22, 3) := by decide +kernel
theorem dX8_addProduction_4 : decode cX8_addProduction 4 = .ok (.aload_n 0, 1) := by decide +kernel
theorem dX8_addProduction_5 : decode cX8_addProduction 5 = .ok (.getfield 10, 3) := by decide +kernel
theorem dX8_addProduction_8 : decode cX8_addProduction 8 = .ok (.invokevirtual 43, 3) := by decide +kernel
theorem dX8_addProduction_11 : decode cX8_addProduction 11 = .ok (.aload_n 0, 1) := by decide +kernel
theorem dX8_addProduction_12 : decode cX8_addProduction 12 = .ok (.aload_n 0, 1) := by decide +kernel
theorem dX8_addProduction_13 : decode cX8_addProduction 13 = .ok (.getfield 10, 3) := by decide +kernel
theorem dX8_addProduction_16 : decode cX8_addProduction 16 = .ok (.iload_n 1, 1) := by decide +kernel
theorem dX8_addProduction_17 : decode cX8_addProduction 17 = .ok (.iload_n 2, 1) := by decide +kernel
theorem dX8_addProduction_18 : decode cX8_addProduction 18 = .ok (.iload_n 3, 1) := by decide +kernel
theorem dX8_addProduction_19 : decode cX8_addProduction 19 = .ok (.iload 4, 2) := by decide +kernel
theorem dX8_addProduction_21 : decode cX8_addProduction 21 = .ok (.invokevirtual 61, 3) := by decide +kernel
theorem dX8_addProduction_24 : decode cX8_addProduction 24 = .ok (.invokevirtual 51, 3) := by decide +kernel
theorem dX8_addProduction_27 : decode cX8_addProduction 27 = .ok (.ireturn, 1) := by decide +kernel
theorem dX8_production_0 : decode cX8_production 0 = .ok (.aload_n 0, 1) := by decide +kernel
theorem dX8_production_1 : decode cX8_production 1 = .ok (.getfield 10, 3) := by decide +kernel
theorem dX8_production_4 : decode cX8_production 4 = .ok (.getfield 65, 3) := by decide +kernel
theorem dX8_production_7 : decode cX8_production 7 = .ok (.iload_n 1, 1) := by decide +kernel
theorem dX8_production_8 : decode cX8_production 8 = .ok (.invokevirtual 69, 3) := by decide +kernel
theorem dX8_production_11 : decode cX8_production 11 = .ok (.invokestatic 75, 3) := by decide +kernel
theorem dX8_production_14 : decode cX8_production 14 = .ok (.aload_n 0, 1) := by decide +kernel
theorem dX8_production_15 : decode cX8_production 15 = .ok (.getfield 10, 3) := by decide +kernel
theorem dX8_production_18 : decode cX8_production 18 = .ok (.getfield 65, 3) := by decide +kernel
theorem dX8_production_21 : decode cX8_production 21 = .ok (.astore_n 3, 1) := by decide +kernel
theorem dX8_production_22 : decode cX8_production 22 = .ok (.aload_n 3, 1) := by decide +kernel
theorem dX8_production_23 : decode cX8_production 23 = .ok (.getfield 79, 3) := by decide +kernel
theorem dX8_production_26 : decode cX8_production 26 = .ok (.iload_n 1, 1) := by decide +kernel
theorem dX8_production_27 : decode cX8_production 27 = .ok (.invokevirtual 83, 3) := by decide +kernel
theorem dX8_production_30 : decode cX8_production 30 = .ok (.istore 4, 2) := by decide +kernel
theorem dX8_production_32 : decode cX8_production 32 = .ok (.iload_n 2, 1) := by decide +kernel
theorem dX8_production_33 : decode cX8_production 33 = .ok (.tableswitch 110 0 7 #[47, 56, 65, 74, 83, 89, 95, 101], 47) := by decide +kernel
theorem dX8_production_80 : decode cX8_production 80 = .ok (.aload_n 3, 1) := by decide +kernel
theorem dX8_production_81 : decode cX8_production 81 = .ok (.getfield 88, 3) := by decide +kernel
theorem dX8_production_84 : decode cX8_production 84 = .ok (.iload_n 1, 1) := by decide +kernel
theorem dX8_production_85 : decode cX8_production 85 = .ok (.invokevirtual 83, 3) := by decide +kernel
theorem dX8_production_88 : decode cX8_production 88 = .ok (.ireturn, 1) := by decide +kernel
theorem dX8_production_89 : decode cX8_production 89 = .ok (.aload_n 3, 1) := by decide +kernel
theorem dX8_production_90 : decode cX8_production 90 = .ok (.getfield 91, 3) := by decide +kernel
theorem dX8_production_93 : decode cX8_production 93 = .ok (.iload_n 1, 1) := by decide +kernel
theorem dX8_production_94 : decode cX8_production 94 = .ok (.invokevirtual 83, 3) := by decide +kernel
theorem dX8_production_97 : decode cX8_production 97 = .ok (.ireturn, 1) := by decide +kernel
theorem dX8_production_98 : decode cX8_production 98 = .ok (.aload_n 3, 1) := by decide +kernel
theorem dX8_production_99 : decode cX8_production 99 = .ok (.getfield 94, 3) := by decide +kernel
theorem dX8_production_102 : decode cX8_production 102 = .ok (.iload_n 1, 1) := by decide +kernel
theorem dX8_production_103 : decode cX8_production 103 = .ok (.invokevirtual 83, 3) := by decide +kernel
theorem dX8_production_106 : decode cX8_production 106 = .ok (.ireturn, 1) := by decide +kernel
theorem dX8_production_107 : decode cX8_production 107 = .ok (.aload_n 3, 1) := by decide +kernel
theorem dX8_production_108 : decode cX8_production 108 = .ok (.getfield 97, 3) := by decide +kernel
theorem dX8_production_111 : decode cX8_production 111 = .ok (.iload_n 1, 1) := by decide +kernel
theorem dX8_production_112 : decode cX8_production 112 = .ok (.invokevirtual 83, 3) := by decide +kernel
theorem dX8_production_115 : decode cX8_production 115 = .ok (.ireturn, 1) := by decide +kernel
theorem dX8_production_116 : decode cX8_production 116 = .ok (.iload 4, 2) := by decide +kernel
theorem dX8_production_118 : decode cX8_production 118 = .ok (.invokestatic 100, 3) := by decide +kernel
theorem dX8_production_121 : decode cX8_production 121 = .ok (.ireturn, 1) := by decide +kernel
theorem dX8_production_122 : decode cX8_production 122 = .ok (.iload 4, 2) := by decide +kernel
theorem dX8_production_124 : decode cX8_production 124 = .ok (.invokestatic 105, 3) := by decide +kernel
theorem dX8_production_127 : decode cX8_production 127 = .ok (.ireturn, 1) := by decide +kernel
theorem dX8_production_128 : decode cX8_production 128 = .ok (.iload 4, 2) := by decide +kernel
theorem dX8_production_130 : decode cX8_production 130 = .ok (.invokestatic 108, 3) := by decide +kernel
theorem dX8_production_133 : decode cX8_production 133 = .ok (.ireturn, 1) := by decide +kernel
theorem dX8_production_134 : decode cX8_production 134 = .ok (.aload_n 0, 1) := by decide +kernel
theorem dX8_production_135 : decode cX8_production 135 = .ok (.getfield 10, 3) := by decide +kernel
theorem dX8_production_138 : decode cX8_production 138 = .ok (.iload_n 1, 1) := by decide +kernel
theorem dX8_production_139 : decode cX8_production 139 = .ok (.invokevirtual 111, 3) := by decide +kernel
theorem dX8_production_142 : decode cX8_production 142 = .ok (.ireturn, 1) := by decide +kernel
theorem dX8_production_143 : decode cX8_production 143 = .ok (.new 114, 3) := by decide +kernel
theorem dX8_production_146 : decode cX8_production 146 = .ok (.dup, 1) := by decide +kernel
theorem dX8_production_147 : decode cX8_production 147 = .ok (.ldc 116, 2) := by decide +kernel
theorem dX8_production_149 : decode cX8_production 149 = .ok (.invokespecial 118, 3) := by decide +kernel
theorem dX8_production_152 : decode cX8_production 152 = .ok (.athrow, 1) := by decide +kernel
theorem dX8_perform_0 : decode cX8_perform 0 = .ok (.aload_n 0, 1) := by decide +kernel
theorem dX8_perform_1 : decode cX8_perform 1 = .ok (.getfield 22, 3) := by decide +kernel
theorem dX8_perform_4 : decode cX8_perform 4 = .ok (.aload_n 0, 1) := by decide +kernel
theorem dX8_perform_5 : decode cX8_perform 5 = .ok (.getfield 10, 3) := by decide +kernel
theorem dX8_perform_8 : decode cX8_perform 8 = .ok (.invokevirtual 43, 3) := by decide +kernel
theorem dX8_perform_11 : decode cX8_perform 11 = .ok (.aload_n 0, 1) := by decide +kernel
theorem dX8_perform_12 : decode cX8_perform 12 = .ok (.aload_n 0, 1) := by decide +kernel
theorem dX8_perform_13 : decode cX8_perform 13 = .ok (.getfield 10, 3) := by decide +kernel
theorem dX8_perform_16 : decode cX8_perform 16 = .ok (.iload_n 1, 1) := by decide +kernel
theorem dX8_perform_17 : decode cX8_perform 17 = .ok (.iload_n 2, 1) := by decide +kernel
theorem dX8_perform_18 : decode cX8_perform 18 = .ok (.iload_n 3, 1) := by decide +kernel
theorem dX8_perform_19 : decode cX8_perform 19 = .ok (.invokevirtual 121, 3) := by decide +kernel
theorem dX8_perform_22 : decode cX8_perform 22 = .ok (.invokevirtual 51, 3) := by decide +kernel
theorem dX8_perform_25 : decode cX8_perform 25 = .ok (.ireturn, 1) := by decide +kernel
theorem dX8_performance_0 : decode cX8_performance 0 = .ok (.aload_n 0, 1) := by decide +kernel
theorem dX8_performance_1 : decode cX8_performance 1 = .ok (.getfield 10, 3) := by decide +kernel
theorem dX8_performance_4 : decode cX8_performance 4 = .ok (.getfield 131, 3) := by decide +kernel
theorem dX8_performance_7 : decode cX8_performance 7 = .ok (.iload_n 1, 1) := by decide +kernel
theorem dX8_performance_8 : decode cX8_performance 8 = .ok (.invokevirtual 135, 3) := by decide +kernel
theorem dX8_performance_11 : decode cX8_performance 11 = .ok (.invokestatic 75, 3) := by decide +kernel
theorem dX8_performance_14 : decode cX8_performance 14 = .ok (.aload_n 0, 1) := by decide +kernel
theorem dX8_performance_15 : decode cX8_performance 15 = .ok (.getfield 10, 3) := by decide +kernel
theorem dX8_performance_18 : decode cX8_performance 18 = .ok (.getfield 131, 3) := by decide +kernel
theorem dX8_performance_21 : decode cX8_performance 21 = .ok (.astore_n 3, 1) := by decide +kernel
theorem dX8_performance_22 : decode cX8_performance 22 = .ok (.iload_n 2, 1) := by decide +kernel
theorem dX8_performance_23 : decode cX8_performance 23 = .ok (.tableswitch 123 0 7 #[45, 54, 63, 72, 82, 92, 102, 114], 45) := by decide +kernel
theorem dX8_performance_68 : decode cX8_performance 68 = .ok (.aload_n 3, 1) := by decide +kernel
theorem dX8_performance_69 : decode cX8_performance 69 = .ok (.getfield 138, 3) := by decide +kernel
theorem dX8_performance_72 : decode cX8_performance 72 = .ok (.iload_n 1, 1) := by decide +kernel
theorem dX8_performance_73 : decode cX8_performance 73 = .ok (.invokevirtual 83, 3) := by decide +kernel
theorem dX8_performance_76 : decode cX8_performance 76 = .ok (.ireturn, 1) := by decide +kernel
theorem dX8_performance_77 : decode cX8_performance 77 = .ok (.aload_n 3, 1) := by decide +kernel
theorem dX8_performance_78 : decode cX8_performance 78 = .ok (.getfield 140, 3) := by decide +kernel
theorem dX8_performance_81 : decode cX8_performance 81 = .ok (.iload_n 1, 1) := by decide +kernel
theorem dX8_performance_82 : decode cX8_performance 82 = .ok (.invokevirtual 83, 3) := by decide +kernel
theorem dX8_performance_85 : decode cX8_performance 85 = .ok (.ireturn, 1) := by decide +kernel
theorem dX8_performance_86 : decode cX8_performance 86 = .ok (.aload_n 3, 1) := by decide +kernel
theorem dX8_performance_87 : decode cX8_performance 87 = .ok (.getfield 143, 3) := by decide +kernel
theorem dX8_performance_90 : decode cX8_performance 90 = .ok (.iload_n 1, 1) := by decide +kernel
theorem dX8_performance_91 : decode cX8_performance 91 = .ok (.invokevirtual 83, 3) := by decide +kernel
theorem dX8_performance_94 : decode cX8_performance 94 = .ok (.ireturn, 1) := by decide +kernel
theorem dX8_performance_95 : decode cX8_performance 95 = .ok (.aload_n 0, 1) := by decide +kernel
theorem dX8_performance_96 : decode cX8_performance 96 = .ok (.getfield 10, 3) := by decide +kernel
theorem dX8_performance_99 : decode cX8_performance 99 = .ok (.iload_n 1, 1) := by decide +kernel
theorem dX8_performance_100 : decode cX8_performance 100 = .ok (.iconst 0, 1) := by decide +kernel
theorem dX8_performance_101 : decode cX8_performance 101 = .ok (.invokevirtual 144, 3) := by decide +kernel
theorem dX8_performance_104 : decode cX8_performance 104 = .ok (.ireturn, 1) := by decide +kernel
theorem dX8_performance_105 : decode cX8_performance 105 = .ok (.aload_n 0, 1) := by decide +kernel
theorem dX8_performance_106 : decode cX8_performance 106 = .ok (.getfield 10, 3) := by decide +kernel
theorem dX8_performance_109 : decode cX8_performance 109 = .ok (.iload_n 1, 1) := by decide +kernel
theorem dX8_performance_110 : decode cX8_performance 110 = .ok (.iconst 1, 1) := by decide +kernel
theorem dX8_performance_111 : decode cX8_performance 111 = .ok (.invokevirtual 144, 3) := by decide +kernel
theorem dX8_performance_114 : decode cX8_performance 114 = .ok (.ireturn, 1) := by decide +kernel
theorem dX8_performance_115 : decode cX8_performance 115 = .ok (.aload_n 0, 1) := by decide +kernel
theorem dX8_performance_116 : decode cX8_performance 116 = .ok (.getfield 10, 3) := by decide +kernel
theorem dX8_performance_119 : decode cX8_performance 119 = .ok (.iload_n 1, 1) := by decide +kernel
theorem dX8_performance_120 : decode cX8_performance 120 = .ok (.iconst 2, 1) := by decide +kernel
theorem dX8_performance_121 : decode cX8_performance 121 = .ok (.invokevirtual 144, 3) := by decide +kernel
theorem dX8_performance_124 : decode cX8_performance 124 = .ok (.ireturn, 1) := by decide +kernel
theorem dX8_performance_125 : decode cX8_performance 125 = .ok (.aload_n 0, 1) := by decide +kernel
theorem dX8_performance_126 : decode cX8_performance 126 = .ok (.getfield 10, 3) := by decide +kernel
theorem dX8_performance_129 : decode cX8_performance 129 = .ok (.getfield 147, 3) := by decide +kernel
theorem dX8_performance_132 : decode cX8_performance 132 = .ok (.iload_n 1, 1) := by decide +kernel
theorem dX8_performance_133 : decode cX8_performance 133 = .ok (.invokevirtual 151, 3) := by decide +kernel
theorem dX8_performance_136 : decode cX8_performance 136 = .ok (.ireturn, 1) := by decide +kernel
theorem dX8_performance_137 : decode cX8_performance 137 = .ok (.aload_n 3, 1) := by decide +kernel
theorem dX8_performance_138 : decode cX8_performance 138 = .ok (.getfield 156, 3) := by decide +kernel
theorem dX8_performance_141 : decode cX8_performance 141 = .ok (.iload_n 1, 1) := by decide +kernel
theorem dX8_performance_142 : decode cX8_performance 142 = .ok (.invokevirtual 83, 3) := by decide +kernel
theorem dX8_performance_145 : decode cX8_performance 145 = .ok (.ireturn, 1) := by decide +kernel
theorem dX8_performance_146 : decode cX8_performance 146 = .ok (.new 114, 3) := by decide +kernel
theorem dX8_performance_149 : decode cX8_performance 149 = .ok (.dup, 1) := by decide +kernel
theorem dX8_performance_150 : decode cX8_performance 150 = .ok (.ldc 116, 2) := by decide +kernel
theorem dX8_performance_152 : decode cX8_performance 152 = .ok (.invokespecial 118, 3) := by decide +kernel
theorem dX8_performance_155 : decode cX8_performance 155 = .ok (.athrow, 1) := by decide +kernel
theorem dX8_on_0 : decode cX8_on 0 = .ok (.iload_n 1, 1) := by decide +kernel
theorem dX8_on_1 : decode cX8_on 1 = .ok (.invokestatic 159, 3) := by decide +kernel
theorem dX8_on_4 : decode cX8_on 4 = .ok (.invokestatic 75, 3) := by decide +kernel
theorem dX8_on_7 : decode cX8_on 7 = .ok (.iload_n 2, 1) := by decide +kernel
theorem dX8_on_8 : decode cX8_on 8 = .ok (.invokestatic 162, 3) := by decide +kernel
theorem dX8_on_11 : decode cX8_on 11 = .ok (.invokestatic 165, 3) := by decide +kernel
theorem dX8_on_14 : decode cX8_on 14 = .ok (.aload_n 0, 1) := by decide +kernel
theorem dX8_on_15 : decode cX8_on 15 = .ok (.getfield 10, 3) := by decide +kernel
theorem dX8_on_18 : decode cX8_on 18 = .ok (.getfield 131, 3) := by decide +kernel
theorem dX8_on_21 : decode cX8_on 21 = .ok (.iload_n 1, 1) := by decide +kernel
theorem dX8_on_22 : decode cX8_on 22 = .ok (.iload_n 2, 1) := by decide +kernel
theorem dX8_on_23 : decode cX8_on 23 = .ok (.invokevirtual 168, 3) := by decide +kernel
theorem dX8_on_26 : decode cX8_on 26 = .ok (.istore_n 3, 1) := by decide +kernel
theorem dX8_on_27 : decode cX8_on 27 = .ok (.iload_n 3, 1) := by decide +kernel
theorem dX8_on_28 : decode cX8_on 28 = .ok (.iconst (-1), 1) := by decide +kernel
theorem dX8_on_29 : decode cX8_on 29 = .ok (.if_icmp .ne 13, 3) := by decide +kernel
theorem dX8_on_32 : decode cX8_on 32 = .ok (.new 171, 3) := by decide +kernel
theorem dX8_on_35 : decode cX8_on 35 = .ok (.dup, 1) := by decide +kernel
theorem dX8_on_36 : decode cX8_on 36 = .ok (.ldc 173, 2) := by decide +kernel
theorem dX8_on_38 : decode cX8_on 38 = .ok (.invokespecial 175, 3) := by decide +kernel
theorem dX8_on_41 : decode cX8_on 41 = .ok (.athrow, 1) := by decide +kernel
theorem dX8_on_42 : decode cX8_on 42 = .ok (.iload_n 3, 1) := by decide +kernel
theorem dX8_on_43 : decode cX8_on 43 = .ok (.ireturn, 1) := by decide +kernel
theorem dX8_load_0 : decode cX8_load 0 = .ok (.iload_n 1, 1) := by decide +kernel
theorem dX8_load_1 : decode cX8_load 1 = .ok (.invokestatic 162, 3) := by decide +kernel
theorem dX8_load_4 : decode cX8_load 4 = .ok (.invokestatic 165, 3) := by decide +kernel
theorem dX8_load_7 : decode cX8_load 7 = .ok (.aload_n 0, 1) := by decide +kernel
theorem dX8_load_8 : decode cX8_load 8 = .ok (.getfield 10, 3) := by decide +kernel
theorem dX8_load_11 : decode cX8_load 11 = .ok (.getfield 65, 3) := by decide +kernel
theorem dX8_load_14 : decode cX8_load 14 = .ok (.iload_n 1, 1) := by decide +kernel
theorem dX8_load_15 : decode cX8_load 15 = .ok (.iconst (-1), 1) := by decide +kernel
theorem dX8_load_16 : decode cX8_load 16 = .ok (.iconst 0, 1) := by decide +kernel
theorem dX8_load_17 : decode cX8_load 17 = .ok (.invokevirtual 186, 3) := by decide +kernel
theorem dX8_load_20 : decode cX8_load 20 = .ok (.ireturn, 1) := by decide +kernel
theorem dX8_peak_0 : decode cX8_peak 0 = .ok (.aload_n 0, 1) := by decide +kernel
theorem dX8_peak_1 : decode cX8_peak 1 = .ok (.getfield 10, 3) := by decide +kernel
theorem dX8_peak_4 : decode cX8_peak 4 = .ok (.getfield 65, 3) := by decide +kernel
theorem dX8_peak_7 : decode cX8_peak 7 = .ok (.iconst (-1), 1) := by decide +kernel
theorem dX8_peak_8 : decode cX8_peak 8 = .ok (.iconst 0, 1) := by decide +kernel
theorem dX8_peak_9 : decode cX8_peak 9 = .ok (.invokevirtual 189, 3) := by decide +kernel
theorem dX8_peak_12 : decode cX8_peak 12 = .ok (.ireturn, 1) := by decide +kernel
theorem dX8_sell_0 : decode cX8_sell 0 = .ok (.aload_n 0, 1) := by decide +kernel
theorem dX8_sell_1 : decode cX8_sell 1 = .ok (.getfield 22, 3) := by decide +kernel
theorem dX8_sell_4 : decode cX8_sell 4 = .ok (.aload_n 0, 1) := by decide +kernel
theorem dX8_sell_5 : decode cX8_sell 5 = .ok (.getfield 10, 3) := by decide +kernel
theorem dX8_sell_8 : decode cX8_sell 8 = .ok (.invokevirtual 43, 3) := by decide +kernel
theorem dX8_sell_11 : decode cX8_sell 11 = .ok (.aload_n 0, 1) := by decide +kernel
theorem dX8_sell_12 : decode cX8_sell 12 = .ok (.aload_n 0, 1) := by decide +kernel
theorem dX8_sell_13 : decode cX8_sell 13 = .ok (.getfield 10, 3) := by decide +kernel
theorem dX8_sell_16 : decode cX8_sell 16 = .ok (.iload_n 1, 1) := by decide +kernel
theorem dX8_sell_17 : decode cX8_sell 17 = .ok (.iload_n 2, 1) := by decide +kernel
theorem dX8_sell_18 : decode cX8_sell 18 = .ok (.invokevirtual 192, 3) := by decide +kernel
theorem dX8_sell_21 : decode cX8_sell 21 = .ok (.invokevirtual 51, 3) := by decide +kernel
theorem dX8_sell_24 : decode cX8_sell 24 = .ok (.ireturn, 1) := by decide +kernel
theorem dX8_request_0 : decode cX8_request 0 = .ok (.aload_n 0, 1) := by decide +kernel
theorem dX8_request_1 : decode cX8_request 1 = .ok (.getfield 22, 3) := by decide +kernel
theorem dX8_request_4 : decode cX8_request 4 = .ok (.aload_n 0, 1) := by decide +kernel
theorem dX8_request_5 : decode cX8_request 5 = .ok (.getfield 10, 3) := by decide +kernel
theorem dX8_request_8 : decode cX8_request 8 = .ok (.invokevirtual 43, 3) := by decide +kernel
theorem dX8_request_11 : decode cX8_request 11 = .ok (.aload_n 0, 1) := by decide +kernel
theorem dX8_request_12 : decode cX8_request 12 = .ok (.aload_n 0, 1) := by decide +kernel
theorem dX8_request_13 : decode cX8_request 13 = .ok (.getfield 10, 3) := by decide +kernel
theorem dX8_request_16 : decode cX8_request 16 = .ok (.iload_n 1, 1) := by decide +kernel
theorem dX8_request_17 : decode cX8_request 17 = .ok (.iload_n 2, 1) := by decide +kernel
theorem dX8_request_18 : decode cX8_request 18 = .ok (.iload_n 3, 1) := by decide +kernel
theorem dX8_request_19 : decode cX8_request 19 = .ok (.invokevirtual 198, 3) := by decide +kernel
theorem dX8_request_22 : decode cX8_request 22 = .ok (.invokevirtual 51, 3) := by decide +kernel
theorem dX8_request_25 : decode cX8_request 25 = .ok (.ireturn, 1) := by decide +kernel
theorem dX8_waiting_0 : decode cX8_waiting 0 = .ok (.aload_n 0, 1) := by decide +kernel
theorem dX8_waiting_1 : decode cX8_waiting 1 = .ok (.getfield 10, 3) := by decide +kernel
theorem dX8_waiting_4 : decode cX8_waiting 4 = .ok (.getfield 131, 3) := by decide +kernel
theorem dX8_waiting_7 : decode cX8_waiting 7 = .ok (.iload_n 1, 1) := by decide +kernel
theorem dX8_waiting_8 : decode cX8_waiting 8 = .ok (.invokevirtual 135, 3) := by decide +kernel
theorem dX8_waiting_11 : decode cX8_waiting 11 = .ok (.invokestatic 75, 3) := by decide +kernel
theorem dX8_waiting_14 : decode cX8_waiting 14 = .ok (.aload_n 0, 1) := by decide +kernel
theorem dX8_waiting_15 : decode cX8_waiting 15 = .ok (.getfield 10, 3) := by decide +kernel
theorem dX8_waiting_18 : decode cX8_waiting 18 = .ok (.getfield 147, 3) := by decide +kernel
theorem dX8_waiting_21 : decode cX8_waiting 21 = .ok (.iload_n 1, 1) := by decide +kernel
theorem dX8_waiting_22 : decode cX8_waiting 22 = .ok (.iload_n 2, 1) := by decide +kernel
theorem dX8_waiting_23 : decode cX8_waiting 23 = .ok (.invokevirtual 201, 3) := by decide +kernel
theorem dX8_waiting_26 : decode cX8_waiting 26 = .ok (.istore 4, 2) := by decide +kernel
theorem dX8_waiting_28 : decode cX8_waiting 28 = .ok (.iload 4, 2) := by decide +kernel
theorem dX8_waiting_30 : decode cX8_waiting 30 = .ok (.iconst (-1), 1) := by decide +kernel
theorem dX8_waiting_31 : decode cX8_waiting 31 = .ok (.if_icmp .ne 13, 3) := by decide +kernel
theorem dX8_waiting_34 : decode cX8_waiting 34 = .ok (.new 171, 3) := by decide +kernel
theorem dX8_waiting_37 : decode cX8_waiting 37 = .ok (.dup, 1) := by decide +kernel
theorem dX8_waiting_38 : decode cX8_waiting 38 = .ok (.ldc 202, 2) := by decide +kernel
theorem dX8_waiting_40 : decode cX8_waiting 40 = .ok (.invokespecial 175, 3) := by decide +kernel
theorem dX8_waiting_43 : decode cX8_waiting 43 = .ok (.athrow, 1) := by decide +kernel
theorem dX8_waiting_44 : decode cX8_waiting 44 = .ok (.iload_n 3, 1) := by decide +kernel
theorem dX8_waiting_45 : decode cX8_waiting 45 = .ok (.ifCond .eq 21, 3) := by decide +kernel
theorem dX8_waiting_48 : decode cX8_waiting 48 = .ok (.aload_n 0, 1) := by decide +kernel
theorem dX8_waiting_49 : decode cX8_waiting 49 = .ok (.getfield 10, 3) := by decide +kernel
theorem dX8_waiting_52 : decode cX8_waiting 52 = .ok (.getfield 147, 3) := by decide +kernel
theorem dX8_waiting_55 : decode cX8_waiting 55 = .ok (.getfield 204, 3) := by decide +kernel
theorem dX8_waiting_58 : decode cX8_waiting 58 = .ok (.iload 4, 2) := by decide +kernel
theorem dX8_waiting_60 : decode cX8_waiting 60 = .ok (.invokevirtual 83, 3) := by decide +kernel
theorem dX8_waiting_63 : decode cX8_waiting 63 = .ok (.goto 18, 3) := by decide +kernel
theorem dX8_waiting_66 : decode cX8_waiting 66 = .ok (.aload_n 0, 1) := by decide +kernel
theorem dX8_waiting_67 : decode cX8_waiting 67 = .ok (.getfield 10, 3) := by decide +kernel
theorem dX8_waiting_70 : decode cX8_waiting 70 = .ok (.getfield 147, 3) := by decide +kernel
theorem dX8_waiting_73 : decode cX8_waiting 73 = .ok (.getfield 207, 3) := by decide +kernel
theorem dX8_waiting_76 : decode cX8_waiting 76 = .ok (.iload 4, 2) := by decide +kernel
theorem dX8_waiting_78 : decode cX8_waiting 78 = .ok (.invokevirtual 83, 3) := by decide +kernel
theorem dX8_waiting_81 : decode cX8_waiting 81 = .ok (.ireturn, 1) := by decide +kernel
theorem dX8_seats_0 : decode cX8_seats 0 = .ok (.iload_n 1, 1) := by decide +kernel
theorem dX8_seats_1 : decode cX8_seats 1 = .ok (.invokestatic 162, 3) := by decide +kernel
theorem dX8_seats_4 : decode cX8_seats 4 = .ok (.ifCond .eq 14, 3) := by decide +kernel
theorem dX8_seats_7 : decode cX8_seats 7 = .ok (.iload_n 2, 1) := by decide +kernel
theorem dX8_seats_8 : decode cX8_seats 8 = .ok (.invokestatic 210, 3) := by decide +kernel
theorem dX8_seats_11 : decode cX8_seats 11 = .ok (.ifCond .eq 7, 3) := by decide +kernel
theorem dX8_seats_14 : decode cX8_seats 14 = .ok (.iconst 1, 1) := by decide +kernel
theorem dX8_seats_15 : decode cX8_seats 15 = .ok (.goto 4, 3) := by decide +kernel
theorem dX8_seats_18 : decode cX8_seats 18 = .ok (.iconst 0, 1) := by decide +kernel
theorem dX8_seats_19 : decode cX8_seats 19 = .ok (.invokestatic 165, 3) := by decide +kernel
theorem dX8_seats_22 : decode cX8_seats 22 = .ok (.iconst 0, 1) := by decide +kernel
theorem dX8_seats_23 : decode cX8_seats 23 = .ok (.istore_n 3, 1) := by decide +kernel
theorem dX8_seats_24 : decode cX8_seats 24 = .ok (.iconst 0, 1) := by decide +kernel
theorem dX8_seats_25 : decode cX8_seats 25 = .ok (.istore 4, 2) := by decide +kernel
theorem dX8_seats_27 : decode cX8_seats 27 = .ok (.iload 4, 2) := by decide +kernel
theorem dX8_seats_29 : decode cX8_seats 29 = .ok (.aload_n 0, 1) := by decide +kernel
theorem dX8_seats_30 : decode cX8_seats 30 = .ok (.getfield 10, 3) := by decide +kernel
theorem dX8_seats_33 : decode cX8_seats 33 = .ok (.getfield 131, 3) := by decide +kernel
theorem dX8_seats_36 : decode cX8_seats 36 = .ok (.getfield 213, 3) := by decide +kernel
theorem dX8_seats_39 : decode cX8_seats 39 = .ok (.if_icmp .ge 41, 3) := by decide +kernel
theorem dX8_seats_42 : decode cX8_seats 42 = .ok (.aload_n 0, 1) := by decide +kernel
theorem dX8_seats_43 : decode cX8_seats 43 = .ok (.getfield 10, 3) := by decide +kernel
theorem dX8_seats_46 : decode cX8_seats 46 = .ok (.getfield 131, 3) := by decide +kernel
theorem dX8_seats_49 : decode cX8_seats 49 = .ok (.getfield 143, 3) := by decide +kernel
theorem dX8_seats_52 : decode cX8_seats 52 = .ok (.iload 4, 2) := by decide +kernel
theorem dX8_seats_54 : decode cX8_seats 54 = .ok (.invokevirtual 83, 3) := by decide +kernel
theorem dX8_seats_57 : decode cX8_seats 57 = .ok (.iload_n 1, 1) := by decide +kernel
theorem dX8_seats_58 : decode cX8_seats 58 = .ok (.if_icmp .ne 16, 3) := by decide +kernel
theorem dX8_seats_61 : decode cX8_seats 61 = .ok (.iload_n 3, 1) := by decide +kernel
theorem dX8_seats_62 : decode cX8_seats 62 = .ok (.aload_n 0, 1) := by decide +kernel
theorem dX8_seats_63 : decode cX8_seats 63 = .ok (.getfield 10, 3) := by decide +kernel
theorem dX8_seats_66 : decode cX8_seats 66 = .ok (.iload 4, 2) := by decide +kernel
theorem dX8_seats_68 : decode cX8_seats 68 = .ok (.iload_n 2, 1) := by decide +kernel
theorem dX8_seats_69 : decode cX8_seats 69 = .ok (.invokevirtual 144, 3) := by decide +kernel
theorem dX8_seats_72 : decode cX8_seats 72 = .ok (.iadd, 1) := by decide +kernel
theorem dX8_seats_73 : decode cX8_seats 73 = .ok (.istore_n 3, 1) := by decide +kernel
theorem dX8_seats_74 : decode cX8_seats 74 = .ok (.iinc 4 1, 3) := by decide +kernel
theorem dX8_seats_77 : decode cX8_seats 77 = .ok (.goto (-50), 3) := by decide +kernel
theorem dX8_seats_80 : decode cX8_seats 80 = .ok (.iload_n 3, 1) := by decide +kernel
theorem dX8_seats_81 : decode cX8_seats 81 = .ok (.ireturn, 1) := by decide +kernel
theorem dX8_seatsAgain_0 : decode cX8_seatsAgain 0 = .ok (.iload_n 1, 1) := by decide +kernel
theorem dX8_seatsAgain_1 : decode cX8_seatsAgain 1 = .ok (.invokestatic 162, 3) := by decide +kernel
theorem dX8_seatsAgain_4 : decode cX8_seatsAgain 4 = .ok (.ifCond .eq 14, 3) := by decide +kernel
theorem dX8_seatsAgain_7 : decode cX8_seatsAgain 7 = .ok (.iload_n 2, 1) := by decide +kernel
theorem dX8_seatsAgain_8 : decode cX8_seatsAgain 8 = .ok (.invokestatic 210, 3) := by decide +kernel
theorem dX8_seatsAgain_11 : decode cX8_seatsAgain 11 = .ok (.ifCond .eq 7, 3) := by decide +kernel
theorem dX8_seatsAgain_14 : decode cX8_seatsAgain 14 = .ok (.iconst 1, 1) := by decide +kernel
theorem dX8_seatsAgain_15 : decode cX8_seatsAgain 15 = .ok (.goto 4, 3) := by decide +kernel
theorem dX8_seatsAgain_18 : decode cX8_seatsAgain 18 = .ok (.iconst 0, 1) := by decide +kernel
theorem dX8_seatsAgain_19 : decode cX8_seatsAgain 19 = .ok (.invokestatic 165, 3) := by decide +kernel
theorem dX8_seatsAgain_22 : decode cX8_seatsAgain 22 = .ok (.iconst 0, 1) := by decide +kernel
theorem dX8_seatsAgain_23 : decode cX8_seatsAgain 23 = .ok (.istore_n 3, 1) := by decide +kernel
theorem dX8_seatsAgain_24 : decode cX8_seatsAgain 24 = .ok (.iconst 0, 1) := by decide +kernel
theorem dX8_seatsAgain_25 : decode cX8_seatsAgain 25 = .ok (.istore 4, 2) := by decide +kernel
theorem dX8_seatsAgain_27 : decode cX8_seatsAgain 27 = .ok (.iload 4, 2) := by decide +kernel
theorem dX8_seatsAgain_29 : decode cX8_seatsAgain 29 = .ok (.iconst 3, 1) := by decide +kernel
theorem dX8_seatsAgain_30 : decode cX8_seatsAgain 30 = .ok (.if_icmp .ge 23, 3) := by decide +kernel
theorem dX8_seatsAgain_33 : decode cX8_seatsAgain 33 = .ok (.iload_n 3, 1) := by decide +kernel
theorem dX8_seatsAgain_34 : decode cX8_seatsAgain 34 = .ok (.aload_n 0, 1) := by decide +kernel
theorem dX8_seatsAgain_35 : decode cX8_seatsAgain 35 = .ok (.getfield 10, 3) := by decide +kernel
theorem dX8_seatsAgain_38 : decode cX8_seatsAgain 38 = .ok (.iload 4, 2) := by decide +kernel
theorem dX8_seatsAgain_40 : decode cX8_seatsAgain 40 = .ok (.iload_n 1, 1) := by decide +kernel
theorem dX8_seatsAgain_41 : decode cX8_seatsAgain 41 = .ok (.iload_n 2, 1) := by decide +kernel
theorem dX8_seatsAgain_42 : decode cX8_seatsAgain 42 = .ok (.invokevirtual 216, 3) := by decide +kernel
theorem dX8_seatsAgain_45 : decode cX8_seatsAgain 45 = .ok (.iadd, 1) := by decide +kernel
theorem dX8_seatsAgain_46 : decode cX8_seatsAgain 46 = .ok (.istore_n 3, 1) := by decide +kernel
theorem dX8_seatsAgain_47 : decode cX8_seatsAgain 47 = .ok (.iinc 4 1, 3) := by decide +kernel
theorem dX8_seatsAgain_50 : decode cX8_seatsAgain 50 = .ok (.goto (-23), 3) := by decide +kernel
theorem dX8_seatsAgain_53 : decode cX8_seatsAgain 53 = .ok (.iload_n 3, 1) := by decide +kernel
theorem dX8_seatsAgain_54 : decode cX8_seatsAgain 54 = .ok (.ireturn, 1) := by decide +kernel
theorem dX8_subscribe_0 : decode cX8_subscribe 0 = .ok (.aload_n 0, 1) := by decide +kernel
theorem dX8_subscribe_1 : decode cX8_subscribe 1 = .ok (.getfield 22, 3) := by decide +kernel
theorem dX8_subscribe_4 : decode cX8_subscribe 4 = .ok (.aload_n 0, 1) := by decide +kernel
theorem dX8_subscribe_5 : decode cX8_subscribe 5 = .ok (.getfield 10, 3) := by decide +kernel
theorem dX8_subscribe_8 : decode cX8_subscribe 8 = .ok (.invokevirtual 43, 3) := by decide +kernel
theorem dX8_subscribe_11 : decode cX8_subscribe 11 = .ok (.aload_n 0, 1) := by decide +kernel
theorem dX8_subscribe_12 : decode cX8_subscribe 12 = .ok (.aload_n 0, 1) := by decide +kernel
theorem dX8_subscribe_13 : decode cX8_subscribe 13 = .ok (.getfield 10, 3) := by decide +kernel
theorem dX8_subscribe_16 : decode cX8_subscribe 16 = .ok (.iload_n 1, 1) := by decide +kernel
theorem dX8_subscribe_17 : decode cX8_subscribe 17 = .ok (.invokevirtual 219, 3) := by decide +kernel
theorem dX8_subscribe_20 : decode cX8_subscribe 20 = .ok (.invokevirtual 51, 3) := by decide +kernel
theorem dX8_subscribe_23 : decode cX8_subscribe 23 = .ok (.ireturn, 1) := by decide +kernel
theorem dX8_hold_0 : decode cX8_hold 0 = .ok (.aload_n 0, 1) := by decide +kernel
theorem dX8_hold_1 : decode cX8_hold 1 = .ok (.getfield 22, 3) := by decide +kernel
theorem dX8_hold_4 : decode cX8_hold 4 = .ok (.aload_n 0, 1) := by decide +kernel
theorem dX8_hold_5 : decode cX8_hold 5 = .ok (.getfield 10, 3) := by decide +kernel
theorem dX8_hold_8 : decode cX8_hold 8 = .ok (.invokevirtual 43, 3) := by decide +kernel
theorem dX8_hold_11 : decode cX8_hold 11 = .ok (.aload_n 0, 1) := by decide +kernel
theorem dX8_hold_12 : decode cX8_hold 12 = .ok (.aload_n 0, 1) := by decide +kernel
theorem dX8_hold_13 : decode cX8_hold 13 = .ok (.getfield 10, 3) := by decide +kernel
theorem dX8_hold_16 : decode cX8_hold 16 = .ok (.iload_n 1, 1) := by decide +kernel
theorem dX8_hold_17 : decode cX8_hold 17 = .ok (.iload_n 2, 1) := by decide +kernel
theorem dX8_hold_18 : decode cX8_hold 18 = .ok (.invokevirtual 222, 3) := by decide +kernel
theorem dX8_hold_21 : decode cX8_hold 21 = .ok (.invokevirtual 51, 3) := by decide +kernel
theorem dX8_hold_24 : decode cX8_hold 24 = .ok (.ireturn, 1) := by decide +kernel
theorem dX8_subscription_0 : decode cX8_subscription 0 = .ok (.aload_n 0, 1) := by decide +kernel
theorem dX8_subscription_1 : decode cX8_subscription 1 = .ok (.getfield 10, 3) := by decide +kernel
theorem dX8_subscription_4 : decode cX8_subscription 4 = .ok (.getfield 231, 3) := by decide +kernel
theorem dX8_subscription_7 : decode cX8_subscription 7 = .ok (.iload_n 1, 1) := by decide +kernel
theorem dX8_subscription_8 : decode cX8_subscription 8 = .ok (.invokevirtual 235, 3) := by decide +kernel
theorem dX8_subscription_11 : decode cX8_subscription 11 = .ok (.invokestatic 75, 3) := by decide +kernel
theorem dX8_subscription_14 : decode cX8_subscription 14 = .ok (.aload_n 0, 1) := by decide +kernel
theorem dX8_subscription_15 : decode cX8_subscription 15 = .ok (.getfield 10, 3) := by decide +kernel
theorem dX8_subscription_18 : decode cX8_subscription 18 = .ok (.getfield 131, 3) := by decide +kernel
theorem dX8_subscription_21 : decode cX8_subscription 21 = .ok (.iload_n 1, 1) := by decide +kernel
theorem dX8_subscription_22 : decode cX8_subscription 22 = .ok (.invokevirtual 238, 3) := by decide +kernel
theorem dX8_subscription_25 : decode cX8_subscription 25 = .ok (.istore_n 3, 1) := by decide +kernel
theorem dX8_subscription_26 : decode cX8_subscription 26 = .ok (.iload_n 2, 1) := by decide +kernel
theorem dX8_subscription_27 : decode cX8_subscription 27 = .ok (.tableswitch 66 0 3 #[29, 44, 49, 64], 29) := by decide +kernel
theorem dX8_subscription_56 : decode cX8_subscription 56 = .ok (.aload_n 0, 1) := by decide +kernel
theorem dX8_subscription_57 : decode cX8_subscription 57 = .ok (.getfield 10, 3) := by decide +kernel
theorem dX8_subscription_60 : decode cX8_subscription 60 = .ok (.getfield 231, 3) := by decide +kernel
theorem dX8_subscription_63 : decode cX8_subscription 63 = .ok (.getfield 241, 3) := by decide +kernel
theorem dX8_subscription_66 : decode cX8_subscription 66 = .ok (.iload_n 1, 1) := by decide +kernel
theorem dX8_subscription_67 : decode cX8_subscription 67 = .ok (.invokevirtual 83, 3) := by decide +kernel
theorem dX8_subscription_70 : decode cX8_subscription 70 = .ok (.ireturn, 1) := by decide +kernel
theorem dX8_subscription_71 : decode cX8_subscription 71 = .ok (.iload_n 3, 1) := by decide +kernel
theorem dX8_subscription_72 : decode cX8_subscription 72 = .ok (.invokestatic 100, 3) := by decide +kernel
theorem dX8_subscription_75 : decode cX8_subscription 75 = .ok (.ireturn, 1) := by decide +kernel
theorem dX8_subscription_76 : decode cX8_subscription 76 = .ok (.aload_n 0, 1) := by decide +kernel
theorem dX8_subscription_77 : decode cX8_subscription 77 = .ok (.getfield 10, 3) := by decide +kernel
theorem dX8_subscription_80 : decode cX8_subscription 80 = .ok (.getfield 231, 3) := by decide +kernel
theorem dX8_subscription_83 : decode cX8_subscription 83 = .ok (.getfield 242, 3) := by decide +kernel
theorem dX8_subscription_86 : decode cX8_subscription 86 = .ok (.iload_n 1, 1) := by decide +kernel
theorem dX8_subscription_87 : decode cX8_subscription 87 = .ok (.invokevirtual 83, 3) := by decide +kernel
theorem dX8_subscription_90 : decode cX8_subscription 90 = .ok (.ireturn, 1) := by decide +kernel
theorem dX8_subscription_91 : decode cX8_subscription 91 = .ok (.iload_n 3, 1) := by decide +kernel
theorem dX8_subscription_92 : decode cX8_subscription 92 = .ok (.ireturn, 1) := by decide +kernel
theorem dX8_subscription_93 : decode cX8_subscription 93 = .ok (.new 114, 3) := by decide +kernel
theorem dX8_subscription_96 : decode cX8_subscription 96 = .ok (.dup, 1) := by decide +kernel
theorem dX8_subscription_97 : decode cX8_subscription 97 = .ok (.ldc 245, 2) := by decide +kernel
theorem dX8_subscription_99 : decode cX8_subscription 99 = .ok (.invokespecial 118, 3) := by decide +kernel
theorem dX8_subscription_102 : decode cX8_subscription 102 = .ok (.athrow, 1) := by decide +kernel
theorem dX8_partner_0 : decode cX8_partner 0 = .ok (.aload_n 0, 1) := by decide +kernel
theorem dX8_partner_1 : decode cX8_partner 1 = .ok (.getfield 10, 3) := by decide +kernel
theorem dX8_partner_4 : decode cX8_partner 4 = .ok (.getfield 65, 3) := by decide +kernel
theorem dX8_partner_7 : decode cX8_partner 7 = .ok (.iload_n 1, 1) := by decide +kernel
theorem dX8_partner_8 : decode cX8_partner 8 = .ok (.invokevirtual 69, 3) := by decide +kernel
theorem dX8_partner_11 : decode cX8_partner 11 = .ok (.invokestatic 75, 3) := by decide +kernel
theorem dX8_partner_14 : decode cX8_partner 14 = .ok (.aload_n 0, 1) := by decide +kernel
theorem dX8_partner_15 : decode cX8_partner 15 = .ok (.getfield 10, 3) := by decide +kernel
theorem dX8_partner_18 : decode cX8_partner 18 = .ok (.getfield 65, 3) := by decide +kernel
theorem dX8_partner_21 : decode cX8_partner 21 = .ok (.getfield 97, 3) := by decide +kernel
theorem dX8_partner_24 : decode cX8_partner 24 = .ok (.iload_n 1, 1) := by decide +kernel
theorem dX8_partner_25 : decode cX8_partner 25 = .ok (.invokevirtual 83, 3) := by decide +kernel
theorem dX8_partner_28 : decode cX8_partner 28 = .ok (.istore_n 2, 1) := by decide +kernel
theorem dX8_partner_29 : decode cX8_partner 29 = .ok (.aload_n 0, 1) := by decide +kernel
theorem dX8_partner_30 : decode cX8_partner 30 = .ok (.getfield 10, 3) := by decide +kernel
theorem dX8_partner_33 : decode cX8_partner 33 = .ok (.iload_n 1, 1) := by decide +kernel
theorem dX8_partner_34 : decode cX8_partner 34 = .ok (.invokevirtual 111, 3) := by decide +kernel
theorem dX8_partner_37 : decode cX8_partner 37 = .ok (.i2f, 1) := by decide +kernel
theorem dX8_partner_38 : decode cX8_partner 38 = .ok (.iload_n 2, 1) := by decide +kernel
theorem dX8_partner_39 : decode cX8_partner 39 = .ok (.i2f, 1) := by decide +kernel
theorem dX8_partner_40 : decode cX8_partner 40 = .ok (.fmul, 1) := by decide +kernel
theorem dX8_partner_41 : decode cX8_partner 41 = .ok (.ldc 247, 2) := by decide +kernel
theorem dX8_partner_43 : decode cX8_partner 43 = .ok (.fdiv, 1) := by decide +kernel
theorem dX8_partner_44 : decode cX8_partner 44 = .ok (.freturn, 1) := by decide +kernel
theorem dX8_fullness_0 : decode cX8_fullness 0 = .ok (.aload_n 0, 1) := by decide +kernel
theorem dX8_fullness_1 : decode cX8_fullness 1 = .ok (.getfield 10, 3) := by decide +kernel
theorem dX8_fullness_4 : decode cX8_fullness 4 = .ok (.getfield 65, 3) := by decide +kernel
theorem dX8_fullness_7 : decode cX8_fullness 7 = .ok (.iload_n 1, 1) := by decide +kernel
theorem dX8_fullness_8 : decode cX8_fullness 8 = .ok (.invokevirtual 69, 3) := by decide +kernel
theorem dX8_fullness_11 : decode cX8_fullness 11 = .ok (.invokestatic 75, 3) := by decide +kernel
theorem dX8_fullness_14 : decode cX8_fullness 14 = .ok (.aload_n 0, 1) := by decide +kernel
theorem dX8_fullness_15 : decode cX8_fullness 15 = .ok (.getfield 10, 3) := by decide +kernel
theorem dX8_fullness_18 : decode cX8_fullness 18 = .ok (.iload_n 1, 1) := by decide +kernel
theorem dX8_fullness_19 : decode cX8_fullness 19 = .ok (.iconst 1, 1) := by decide +kernel
theorem dX8_fullness_20 : decode cX8_fullness 20 = .ok (.invokevirtual 248, 3) := by decide +kernel
theorem dX8_fullness_23 : decode cX8_fullness 23 = .ok (.istore_n 2, 1) := by decide +kernel
theorem dX8_fullness_24 : decode cX8_fullness 24 = .ok (.iload_n 2, 1) := by decide +kernel
theorem dX8_fullness_25 : decode cX8_fullness 25 = .ok (.ifCond .gt 13, 3) := by decide +kernel
theorem dX8_fullness_28 : decode cX8_fullness 28 = .ok (.new 252, 3) := by decide +kernel
theorem dX8_fullness_31 : decode cX8_fullness 31 = .ok (.dup, 1) := by decide +kernel
theorem dX8_fullness_32 : decode cX8_fullness 32 = .ok (.ldc 254, 2) := by decide +kernel
theorem dX8_fullness_34 : decode cX8_fullness 34 = .ok (.invokespecial 256, 3) := by decide +kernel
theorem dX8_fullness_37 : decode cX8_fullness 37 = .ok (.athrow, 1) := by decide +kernel
theorem dX8_fullness_38 : decode cX8_fullness 38 = .ok (.aload_n 0, 1) := by decide +kernel
theorem dX8_fullness_39 : decode cX8_fullness 39 = .ok (.getfield 10, 3) := by decide +kernel
theorem dX8_fullness_42 : decode cX8_fullness 42 = .ok (.iload_n 1, 1) := by decide +kernel
theorem dX8_fullness_43 : decode cX8_fullness 43 = .ok (.iconst 0, 1) := by decide +kernel
theorem dX8_fullness_44 : decode cX8_fullness 44 = .ok (.invokevirtual 248, 3) := by decide +kernel
theorem dX8_fullness_47 : decode cX8_fullness 47 = .ok (.i2d, 1) := by decide +kernel
theorem dX8_fullness_48 : decode cX8_fullness 48 = .ok (.iload_n 2, 1) := by decide +kernel
theorem dX8_fullness_49 : decode cX8_fullness 49 = .ok (.i2d, 1) := by decide +kernel
theorem dX8_fullness_50 : decode cX8_fullness 50 = .ok (.ddiv, 1) := by decide +kernel
theorem dX8_fullness_51 : decode cX8_fullness 51 = .ok (.dreturn, 1) := by decide +kernel
theorem dX8_reason_0 : decode cX8_reason 0 = .ok (.aload_n 0, 1) := by decide +kernel
theorem dX8_reason_1 : decode cX8_reason 1 = .ok (.getfield 33, 3) := by decide +kernel
theorem dX8_reason_4 : decode cX8_reason 4 = .ok (.iconst (-1), 1) := by decide +kernel
theorem dX8_reason_5 : decode cX8_reason 5 = .ok (.if_icmp .ne 14, 3) := by decide +kernel
theorem dX8_reason_8 : decode cX8_reason 8 = .ok (.new 171, 3) := by decide +kernel
theorem dX8_reason_11 : decode cX8_reason 11 = .ok (.dup, 1) := by decide +kernel
theorem dX8_reason_12 : decode cX8_reason 12 = .ok (.ldc_w 257, 3) := by decide +kernel
theorem dX8_reason_15 : decode cX8_reason 15 = .ok (.invokespecial 175, 3) := by decide +kernel
theorem dX8_reason_18 : decode cX8_reason 18 = .ok (.athrow, 1) := by decide +kernel
theorem dX8_reason_19 : decode cX8_reason 19 = .ok (.iload_n 1, 1) := by decide +kernel
theorem dX8_reason_20 : decode cX8_reason 20 = .ok (.ifCond .eq 10, 3) := by decide +kernel
theorem dX8_reason_23 : decode cX8_reason 23 = .ok (.aload_n 0, 1) := by decide +kernel
theorem dX8_reason_24 : decode cX8_reason 24 = .ok (.getfield 37, 3) := by decide +kernel
theorem dX8_reason_27 : decode cX8_reason 27 = .ok (.goto 7, 3) := by decide +kernel
theorem dX8_reason_30 : decode cX8_reason 30 = .ok (.aload_n 0, 1) := by decide +kernel
theorem dX8_reason_31 : decode cX8_reason 31 = .ok (.getfield 33, 3) := by decide +kernel
theorem dX8_reason_34 : decode cX8_reason 34 = .ok (.ireturn, 1) := by decide +kernel
theorem dX8_account_0 : decode cX8_account 0 = .ok (.iload_n 1, 1) := by decide +kernel
theorem dX8_account_1 : decode cX8_account 1 = .ok (.tableswitch 222 0 14 #[75, 86, 97, 108, 119, 128, 137, 146, 154, 162, 170, 182, 194, 206, 214], 75) := by decide +kernel
theorem dX8_account_76 : decode cX8_account 76 = .ok (.aload_n 0, 1) := by decide +kernel
theorem dX8_account_77 : decode cX8_account 77 = .ok (.getfield 10, 3) := by decide +kernel
theorem dX8_account_80 : decode cX8_account 80 = .ok (.getfield 65, 3) := by decide +kernel
theorem dX8_account_83 : decode cX8_account 83 = .ok (.getfield 259, 3) := by decide +kernel
theorem dX8_account_86 : decode cX8_account 86 = .ok (.ireturn, 1) := by decide +kernel
theorem dX8_account_87 : decode cX8_account 87 = .ok (.aload_n 0, 1) := by decide +kernel
theorem dX8_account_88 : decode cX8_account 88 = .ok (.getfield 10, 3) := by decide +kernel
theorem dX8_account_91 : decode cX8_account 91 = .ok (.getfield 131, 3) := by decide +kernel
theorem dX8_account_94 : decode cX8_account 94 = .ok (.getfield 213, 3) := by decide +kernel
theorem dX8_account_97 : decode cX8_account 97 = .ok (.ireturn, 1) := by decide +kernel
theorem dX8_account_98 : decode cX8_account 98 = .ok (.aload_n 0, 1) := by decide +kernel
theorem dX8_account_99 : decode cX8_account 99 = .ok (.getfield 10, 3) := by decide +kernel
theorem dX8_account_102 : decode cX8_account 102 = .ok (.getfield 231, 3) := by decide +kernel
theorem dX8_account_105 : decode cX8_account 105 = .ok (.getfield 260, 3) := by decide +kernel
theorem dX8_account_108 : decode cX8_account 108 = .ok (.ireturn, 1) := by decide +kernel
theorem dX8_account_109 : decode cX8_account 109 = .ok (.aload_n 0, 1) := by decide +kernel
theorem dX8_account_110 : decode cX8_account 110 = .ok (.getfield 10, 3) := by decide +kernel
theorem dX8_account_113 : decode cX8_account 113 = .ok (.getfield 147, 3) := by decide +kernel
theorem dX8_account_116 : decode cX8_account 116 = .ok (.getfield 261, 3) := by decide +kernel
theorem dX8_account_119 : decode cX8_account 119 = .ok (.ireturn, 1) := by decide +kernel
theorem dX8_account_120 : decode cX8_account 120 = .ok (.aload_n 0, 1) := by decide +kernel
theorem dX8_account_121 : decode cX8_account 121 = .ok (.getfield 10, 3) := by decide +kernel
theorem dX8_account_124 : decode cX8_account 124 = .ok (.iconst 0, 1) := by decide +kernel
theorem dX8_account_125 : decode cX8_account 125 = .ok (.invokevirtual 262, 3) := by decide +kernel
theorem dX8_account_128 : decode cX8_account 128 = .ok (.ireturn, 1) := by decide +kernel
theorem dX8_account_129 : decode cX8_account 129 = .ok (.aload_n 0, 1) := by decide +kernel
theorem dX8_account_130 : decode cX8_account 130 = .ok (.getfield 10, 3) := by decide +kernel
theorem dX8_account_133 : decode cX8_account 133 = .ok (.iconst 1, 1) := by decide +kernel
theorem dX8_account_134 : decode cX8_account 134 = .ok (.invokevirtual 262, 3) := by decide +kernel
theorem dX8_account_137 : decode cX8_account 137 = .ok (.ireturn, 1) := by decide +kernel
theorem dX8_account_138 : decode cX8_account 138 = .ok (.aload_n 0, 1) := by decide +kernel
theorem dX8_account_139 : decode cX8_account 139 = .ok (.getfield 10, 3) := by decide +kernel
theorem dX8_account_142 : decode cX8_account 142 = .ok (.iconst 2, 1) := by decide +kernel
theorem dX8_account_143 : decode cX8_account 143 = .ok (.invokevirtual 262, 3) := by decide +kernel
theorem dX8_account_146 : decode cX8_account 146 = .ok (.ireturn, 1) := by decide +kernel
theorem dX8_account_147 : decode cX8_account 147 = .ok (.aload_n 0, 1) := by decide +kernel
theorem dX8_account_148 : decode cX8_account 148 = .ok (.getfield 10, 3) := by decide +kernel
theorem dX8_account_151 : decode cX8_account 151 = .ok (.getfield 265, 3) := by decide +kernel
theorem dX8_account_154 : decode cX8_account 154 = .ok (.ireturn, 1) := by decide +kernel
theorem dX8_account_155 : decode cX8_account 155 = .ok (.aload_n 0, 1) := by decide +kernel
theorem dX8_account_156 : decode cX8_account 156 = .ok (.getfield 10, 3) := by decide +kernel
theorem dX8_account_159 : decode cX8_account 159 = .ok (.getfield 268, 3) := by decide +kernel
theorem dX8_account_162 : decode cX8_account 162 = .ok (.ireturn, 1) := by decide +kernel
theorem dX8_account_163 : decode cX8_account 163 = .ok (.aload_n 0, 1) := by decide +kernel
theorem dX8_account_164 : decode cX8_account 164 = .ok (.getfield 10, 3) := by decide +kernel
theorem dX8_account_167 : decode cX8_account 167 = .ok (.invokevirtual 271, 3) := by decide +kernel
theorem dX8_account_170 : decode cX8_account 170 = .ok (.ireturn, 1) := by decide +kernel
theorem dX8_account_171 : decode cX8_account 171 = .ok (.aload_n 0, 1) := by decide +kernel
theorem dX8_account_172 : decode cX8_account 172 = .ok (.getfield 10, 3) := by decide +kernel
theorem dX8_account_175 : decode cX8_account 175 = .ok (.getfield 275, 3) := by decide +kernel
theorem dX8_account_178 : decode cX8_account 178 = .ok (.iconst 0, 1) := by decide +kernel
theorem dX8_account_179 : decode cX8_account 179 = .ok (.invokevirtual 83, 3) := by decide +kernel
theorem dX8_account_182 : decode cX8_account 182 = .ok (.ireturn, 1) := by decide +kernel
theorem dX8_account_183 : decode cX8_account 183 = .ok (.aload_n 0, 1) := by decide +kernel
theorem dX8_account_184 : decode cX8_account 184 = .ok (.getfield 10, 3) := by decide +kernel
theorem dX8_account_187 : decode cX8_account 187 = .ok (.getfield 275, 3) := by decide +kernel
theorem dX8_account_190 : decode cX8_account 190 = .ok (.iconst 1, 1) := by decide +kernel
theorem dX8_account_191 : decode cX8_account 191 = .ok (.invokevirtual 83, 3) := by decide +kernel
theorem dX8_account_194 : decode cX8_account 194 = .ok (.ireturn, 1) := by decide +kernel
theorem dX8_account_195 : decode cX8_account 195 = .ok (.aload_n 0, 1) := by decide +kernel
theorem dX8_account_196 : decode cX8_account 196 = .ok (.getfield 10, 3) := by decide +kernel
theorem dX8_account_199 : decode cX8_account 199 = .ok (.getfield 275, 3) := by decide +kernel
theorem dX8_account_202 : decode cX8_account 202 = .ok (.iconst 2, 1) := by decide +kernel
theorem dX8_account_203 : decode cX8_account 203 = .ok (.invokevirtual 83, 3) := by decide +kernel
theorem dX8_account_206 : decode cX8_account 206 = .ok (.ireturn, 1) := by decide +kernel
theorem dX8_account_207 : decode cX8_account 207 = .ok (.aload_n 0, 1) := by decide +kernel
theorem dX8_account_208 : decode cX8_account 208 = .ok (.getfield 29, 3) := by decide +kernel
theorem dX8_account_211 : decode cX8_account 211 = .ok (.getfield 278, 3) := by decide +kernel
theorem dX8_account_214 : decode cX8_account 214 = .ok (.ireturn, 1) := by decide +kernel
theorem dX8_account_215 : decode cX8_account 215 = .ok (.aload_n 0, 1) := by decide +kernel
theorem dX8_account_216 : decode cX8_account 216 = .ok (.getfield 22, 3) := by decide +kernel
theorem dX8_account_219 : decode cX8_account 219 = .ok (.getfield 281, 3) := by decide +kernel
theorem dX8_account_222 : decode cX8_account 222 = .ok (.ireturn, 1) := by decide +kernel
theorem dX8_account_223 : decode cX8_account 223 = .ok (.new 114, 3) := by decide +kernel
theorem dX8_account_226 : decode cX8_account 226 = .ok (.dup, 1) := by decide +kernel
theorem dX8_account_227 : decode cX8_account 227 = .ok (.ldc_w 282, 3) := by decide +kernel
theorem dX8_account_230 : decode cX8_account 230 = .ok (.invokespecial 118, 3) := by decide +kernel
theorem dX8_account_233 : decode cX8_account 233 = .ok (.athrow, 1) := by decide +kernel
theorem dX8_closeChange_0 : decode cX8_closeChange 0 = .ok (.iload_n 1, 1) := by decide +kernel
theorem dX8_closeChange_1 : decode cX8_closeChange 1 = .ok (.ifCond .lt 12, 3) := by decide +kernel
theorem dX8_closeChange_4 : decode cX8_closeChange 4 = .ok (.aload_n 0, 1) := by decide +kernel
theorem dX8_closeChange_5 : decode cX8_closeChange 5 = .ok (.getfield 22, 3) := by decide +kernel
theorem dX8_closeChange_8 : decode cX8_closeChange 8 = .ok (.invokevirtual 317, 3) := by decide +kernel
theorem dX8_closeChange_11 : decode cX8_closeChange 11 = .ok (.iload_n 1, 1) := by decide +kernel
theorem dX8_closeChange_12 : decode cX8_closeChange 12 = .ok (.ireturn, 1) := by decide +kernel
theorem dX8_closeChange_13 : decode cX8_closeChange 13 = .ok (.iload_n 1, 1) := by decide +kernel
theorem dX8_closeChange_14 : decode cX8_closeChange 14 = .ok (.iconst (-1), 1) := by decide +kernel
theorem dX8_closeChange_15 : decode cX8_closeChange 15 = .ok (.if_icmp .eq 7, 3) := by decide +kernel
theorem dX8_closeChange_18 : decode cX8_closeChange 18 = .ok (.iconst 1, 1) := by decide +kernel
theorem dX8_closeChange_19 : decode cX8_closeChange 19 = .ok (.goto 4, 3) := by decide +kernel
theorem dX8_closeChange_22 : decode cX8_closeChange 22 = .ok (.iconst 0, 1) := by decide +kernel
theorem dX8_closeChange_23 : decode cX8_closeChange 23 = .ok (.invokestatic 75, 3) := by decide +kernel
theorem dX8_closeChange_26 : decode cX8_closeChange 26 = .ok (.iload_n 1, 1) := by decide +kernel
theorem dX8_closeChange_27 : decode cX8_closeChange 27 = .ok (.bipush (-2), 2) := by decide +kernel
theorem dX8_closeChange_29 : decode cX8_closeChange 29 = .ok (.if_icmp .eq 7, 3) := by decide +kernel
theorem dX8_closeChange_32 : decode cX8_closeChange 32 = .ok (.iconst 1, 1) := by decide +kernel
theorem dX8_closeChange_33 : decode cX8_closeChange 33 = .ok (.goto 4, 3) := by decide +kernel
theorem dX8_closeChange_36 : decode cX8_closeChange 36 = .ok (.iconst 0, 1) := by decide +kernel
theorem dX8_closeChange_37 : decode cX8_closeChange 37 = .ok (.invokestatic 165, 3) := by decide +kernel
theorem dX8_closeChange_40 : decode cX8_closeChange 40 = .ok (.iload_n 1, 1) := by decide +kernel
theorem dX8_closeChange_41 : decode cX8_closeChange 41 = .ok (.bipush (-3), 2) := by decide +kernel
theorem dX8_closeChange_43 : decode cX8_closeChange 43 = .ok (.if_icmp .ne 14, 3) := by decide +kernel
theorem dX8_closeChange_46 : decode cX8_closeChange 46 = .ok (.new 292, 3) := by decide +kernel
theorem dX8_closeChange_49 : decode cX8_closeChange 49 = .ok (.dup, 1) := by decide +kernel
theorem dX8_closeChange_50 : decode cX8_closeChange 50 = .ok (.ldc_w 339, 3) := by decide +kernel
theorem dX8_closeChange_53 : decode cX8_closeChange 53 = .ok (.invokespecial 296, 3) := by decide +kernel
theorem dX8_closeChange_56 : decode cX8_closeChange 56 = .ok (.athrow, 1) := by decide +kernel
theorem dX8_closeChange_57 : decode cX8_closeChange 57 = .ok (.aload_n 0, 1) := by decide +kernel
theorem dX8_closeChange_58 : decode cX8_closeChange 58 = .ok (.iload_n 1, 1) := by decide +kernel
theorem dX8_closeChange_59 : decode cX8_closeChange 59 = .ok (.invokevirtual 311, 3) := by decide +kernel
theorem dX8_closeChange_62 : decode cX8_closeChange 62 = .ok (.new 341, 3) := by decide +kernel
theorem dX8_closeChange_65 : decode cX8_closeChange 65 = .ok (.dup, 1) := by decide +kernel
theorem dX8_closeChange_66 : decode cX8_closeChange 66 = .ok (.ldc_w 343, 3) := by decide +kernel
theorem dX8_closeChange_69 : decode cX8_closeChange 69 = .ok (.invokespecial 345, 3) := by decide +kernel
theorem dX8_closeChange_72 : decode cX8_closeChange 72 = .ok (.athrow, 1) := by decide +kernel
theorem dX8_keepRefusal_0 : decode cX8_keepRefusal 0 = .ok (.iload_n 1, 1) := by decide +kernel
theorem dX8_keepRefusal_1 : decode cX8_keepRefusal 1 = .ok (.sipush (-1000), 3) := by decide +kernel
theorem dX8_keepRefusal_4 : decode cX8_keepRefusal 4 = .ok (.if_icmp .gt 23, 3) := by decide +kernel
theorem dX8_keepRefusal_7 : decode cX8_keepRefusal 7 = .ok (.aload_n 0, 1) := by decide +kernel
theorem dX8_keepRefusal_8 : decode cX8_keepRefusal 8 = .ok (.iload_n 1, 1) := by decide +kernel
theorem dX8_keepRefusal_9 : decode cX8_keepRefusal 9 = .ok (.ineg, 1) := by decide +kernel
theorem dX8_keepRefusal_10 : decode cX8_keepRefusal 10 = .ok (.sipush 1000, 3) := by decide +kernel
theorem dX8_keepRefusal_13 : decode cX8_keepRefusal 13 = .ok (.idiv, 1) := by decide +kernel
theorem dX8_keepRefusal_14 : decode cX8_keepRefusal 14 = .ok (.putfield 33, 3) := by decide +kernel
theorem dX8_keepRefusal_17 : decode cX8_keepRefusal 17 = .ok (.aload_n 0, 1) := by decide +kernel
theorem dX8_keepRefusal_18 : decode cX8_keepRefusal 18 = .ok (.iload_n 1, 1) := by decide +kernel
theorem dX8_keepRefusal_19 : decode cX8_keepRefusal 19 = .ok (.ineg, 1) := by decide +kernel
theorem dX8_keepRefusal_20 : decode cX8_keepRefusal 20 = .ok (.sipush 1000, 3) := by decide +kernel
theorem dX8_keepRefusal_23 : decode cX8_keepRefusal 23 = .ok (.irem, 1) := by decide +kernel
theorem dX8_keepRefusal_24 : decode cX8_keepRefusal 24 = .ok (.putfield 37, 3) := by decide +kernel
theorem dX8_keepRefusal_27 : decode cX8_keepRefusal 27 = .ok (.return_, 1) := by decide +kernel
theorem dX8_checkIndex_0 : decode cX8_checkIndex 0 = .ok (.iload_n 0, 1) := by decide +kernel
theorem dX8_checkIndex_1 : decode cX8_checkIndex 1 = .ok (.ifCond .ne 14, 3) := by decide +kernel
theorem dX8_checkIndex_4 : decode cX8_checkIndex 4 = .ok (.new 346, 3) := by decide +kernel
theorem dX8_checkIndex_7 : decode cX8_checkIndex 7 = .ok (.dup, 1) := by decide +kernel
theorem dX8_checkIndex_8 : decode cX8_checkIndex 8 = .ok (.ldc_w 348, 3) := by decide +kernel
theorem dX8_checkIndex_11 : decode cX8_checkIndex 11 = .ok (.invokespecial 350, 3) := by decide +kernel
theorem dX8_checkIndex_14 : decode cX8_checkIndex 14 = .ok (.athrow, 1) := by decide +kernel
theorem dX8_checkIndex_15 : decode cX8_checkIndex 15 = .ok (.return_, 1) := by decide +kernel
theorem dX8_checkArgument_0 : decode cX8_checkArgument 0 = .ok (.iload_n 0, 1) := by decide +kernel
theorem dX8_checkArgument_1 : decode cX8_checkArgument 1 = .ok (.ifCond .ne 14, 3) := by decide +kernel
theorem dX8_checkArgument_4 : decode cX8_checkArgument 4 = .ok (.new 114, 3) := by decide +kernel
theorem dX8_checkArgument_7 : decode cX8_checkArgument 7 = .ok (.dup, 1) := by decide +kernel
theorem dX8_checkArgument_8 : decode cX8_checkArgument 8 = .ok (.ldc_w 351, 3) := by decide +kernel
theorem dX8_checkArgument_11 : decode cX8_checkArgument 11 = .ok (.invokespecial 118, 3) := by decide +kernel
theorem dX8_checkArgument_14 : decode cX8_checkArgument 14 = .ok (.athrow, 1) := by decide +kernel
theorem dX8_checkArgument_15 : decode cX8_checkArgument 15 = .ok (.return_, 1) := by decide +kernel
theorem dX8_isWithin_0 : decode cX8_isWithin 0 = .ok (.iload_n 0, 1) := by decide +kernel
theorem dX8_isWithin_1 : decode cX8_isWithin 1 = .ok (.iload_n 1, 1) := by decide +kernel
theorem dX8_isWithin_2 : decode cX8_isWithin 2 = .ok (.if_icmp .lt 12, 3) := by decide +kernel
theorem dX8_isWithin_5 : decode cX8_isWithin 5 = .ok (.iload_n 0, 1) := by decide +kernel
theorem dX8_isWithin_6 : decode cX8_isWithin 6 = .ok (.iload_n 2, 1) := by decide +kernel
theorem dX8_isWithin_7 : decode cX8_isWithin 7 = .ok (.if_icmp .gt 7, 3) := by decide +kernel
theorem dX8_isWithin_10 : decode cX8_isWithin 10 = .ok (.iconst 1, 1) := by decide +kernel
theorem dX8_isWithin_11 : decode cX8_isWithin 11 = .ok (.goto 4, 3) := by decide +kernel
theorem dX8_isWithin_14 : decode cX8_isWithin 14 = .ok (.iconst 0, 1) := by decide +kernel
theorem dX8_isWithin_15 : decode cX8_isWithin 15 = .ok (.ireturn, 1) := by decide +kernel
theorem dX8_isStage_0 : decode cX8_isStage 0 = .ok (.iload_n 0, 1) := by decide +kernel
theorem dX8_isStage_1 : decode cX8_isStage 1 = .ok (.iconst 0, 1) := by decide +kernel
theorem dX8_isStage_2 : decode cX8_isStage 2 = .ok (.iconst 2, 1) := by decide +kernel
theorem dX8_isStage_3 : decode cX8_isStage 3 = .ok (.invokestatic 284, 3) := by decide +kernel
theorem dX8_isStage_6 : decode cX8_isStage 6 = .ok (.ireturn, 1) := by decide +kernel
theorem dX8_isDate_0 : decode cX8_isDate 0 = .ok (.iload_n 0, 1) := by decide +kernel
theorem dX8_isDate_1 : decode cX8_isDate 1 = .ok (.iconst 0, 1) := by decide +kernel
theorem dX8_isDate_2 : decode cX8_isDate 2 = .ok (.bipush 29, 2) := by decide +kernel
theorem dX8_isDate_4 : decode cX8_isDate 4 = .ok (.invokestatic 284, 3) := by decide +kernel
theorem dX8_isDate_7 : decode cX8_isDate 7 = .ok (.ireturn, 1) := by decide +kernel
theorem dX8_isSeatKind_0 : decode cX8_isSeatKind 0 = .ok (.iload_n 0, 1) := by decide +kernel
theorem dX8_isSeatKind_1 : decode cX8_isSeatKind 1 = .ok (.iconst 0, 1) := by decide +kernel
theorem dX8_isSeatKind_2 : decode cX8_isSeatKind 2 = .ok (.iconst 2, 1) := by decide +kernel
theorem dX8_isSeatKind_3 : decode cX8_isSeatKind 3 = .ok (.invokestatic 284, 3) := by decide +kernel
theorem dX8_isSeatKind_6 : decode cX8_isSeatKind 6 = .ok (.ireturn, 1) := by decide +kernel
theorem dX8_refusal_0 : decode cX8_refusal 0 = .ok (.iload_n 0, 1) := by decide +kernel
theorem dX8_refusal_1 : decode cX8_refusal 1 = .ok (.sipush 1000, 3) := by decide +kernel
theorem dX8_refusal_4 : decode cX8_refusal 4 = .ok (.imul, 1) := by decide +kernel
theorem dX8_refusal_5 : decode cX8_refusal 5 = .ok (.iload_n 1, 1) := by decide +kernel
theorem dX8_refusal_6 : decode cX8_refusal 6 = .ok (.iadd, 1) := by decide +kernel
theorem dX8_refusal_7 : decode cX8_refusal 7 = .ok (.ineg, 1) := by decide +kernel
theorem dX8_refusal_8 : decode cX8_refusal 8 = .ok (.ireturn, 1) := by decide +kernel
theorem dX8_isInSet_0 : decode cX8_isInSet 0 = .ok (.iload_n 0, 1) := by decide +kernel
theorem dX8_isInSet_1 : decode cX8_isInSet 1 = .ok (.iload_n 1, 1) := by decide +kernel
theorem dX8_isInSet_2 : decode cX8_isInSet 2 = .ok (.ishr, 1) := by decide +kernel
theorem dX8_isInSet_3 : decode cX8_isInSet 3 = .ok (.iconst 1, 1) := by decide +kernel
theorem dX8_isInSet_4 : decode cX8_isInSet 4 = .ok (.iand, 1) := by decide +kernel
theorem dX8_isInSet_5 : decode cX8_isInSet 5 = .ok (.ifCond .eq 7, 3) := by decide +kernel
theorem dX8_isInSet_8 : decode cX8_isInSet 8 = .ok (.iconst 1, 1) := by decide +kernel
theorem dX8_isInSet_9 : decode cX8_isInSet 9 = .ok (.goto 4, 3) := by decide +kernel
theorem dX8_isInSet_12 : decode cX8_isInSet 12 = .ok (.iconst 0, 1) := by decide +kernel
theorem dX8_isInSet_13 : decode cX8_isInSet 13 = .ok (.ireturn, 1) := by decide +kernel
theorem dX8_firstDate_0 : decode cX8_firstDate 0 = .ok (.iconst 0, 1) := by decide +kernel
theorem dX8_firstDate_1 : decode cX8_firstDate 1 = .ok (.istore_n 1, 1) := by decide +kernel
theorem dX8_firstDate_2 : decode cX8_firstDate 2 = .ok (.iload_n 1, 1) := by decide +kernel
theorem dX8_firstDate_3 : decode cX8_firstDate 3 = .ok (.bipush 30, 2) := by decide +kernel
theorem dX8_firstDate_5 : decode cX8_firstDate 5 = .ok (.if_icmp .ge 19, 3) := by decide +kernel
theorem dX8_firstDate_8 : decode cX8_firstDate 8 = .ok (.iload_n 0, 1) := by decide +kernel
theorem dX8_firstDate_9 : decode cX8_firstDate 9 = .ok (.iload_n 1, 1) := by decide +kernel
theorem dX8_firstDate_10 : decode cX8_firstDate 10 = .ok (.invokestatic 371, 3) := by decide +kernel
theorem dX8_firstDate_13 : decode cX8_firstDate 13 = .ok (.ifCond .eq 5, 3) := by decide +kernel
theorem dX8_firstDate_16 : decode cX8_firstDate 16 = .ok (.iload_n 1, 1) := by decide +kernel
theorem dX8_firstDate_17 : decode cX8_firstDate 17 = .ok (.ireturn, 1) := by decide +kernel
theorem dX8_firstDate_18 : decode cX8_firstDate 18 = .ok (.iinc 1 1, 3) := by decide +kernel
theorem dX8_firstDate_21 : decode cX8_firstDate 21 = .ok (.goto (-19), 3) := by decide +kernel
theorem dX8_firstDate_24 : decode cX8_firstDate 24 = .ok (.iconst (-1), 1) := by decide +kernel
theorem dX8_firstDate_25 : decode cX8_firstDate 25 = .ok (.ireturn, 1) := by decide +kernel
theorem dX8_lastDate_0 : decode cX8_lastDate 0 = .ok (.bipush 29, 2) := by decide +kernel
theorem dX8_lastDate_2 : decode cX8_lastDate 2 = .ok (.istore_n 1, 1) := by decide +kernel
theorem dX8_lastDate_3 : decode cX8_lastDate 3 = .ok (.iload_n 1, 1) := by decide +kernel
theorem dX8_lastDate_4 : decode cX8_lastDate 4 = .ok (.ifCond .lt 19, 3) := by decide +kernel
theorem dX8_lastDate_7 : decode cX8_lastDate 7 = .ok (.iload_n 0, 1) := by decide +kernel
theorem dX8_lastDate_8 : decode cX8_lastDate 8 = .ok (.iload_n 1, 1) := by decide +kernel
theorem dX8_lastDate_9 : decode cX8_lastDate 9 = .ok (.invokestatic 371, 3) := by decide +kernel
theorem dX8_lastDate_12 : decode cX8_lastDate 12 = .ok (.ifCond .eq 5, 3) := by decide +kernel
theorem dX8_lastDate_15 : decode cX8_lastDate 15 = .ok (.iload_n 1, 1) := by decide +kernel
theorem dX8_lastDate_16 : decode cX8_lastDate 16 = .ok (.ireturn, 1) := by decide +kernel
theorem dX8_lastDate_17 : decode cX8_lastDate 17 = .ok (.iinc 1 (-1), 3) := by decide +kernel
theorem dX8_lastDate_20 : decode cX8_lastDate 20 = .ok (.goto (-17), 3) := by decide +kernel
theorem dX8_lastDate_23 : decode cX8_lastDate 23 = .ok (.iconst (-1), 1) := by decide +kernel
theorem dX8_lastDate_24 : decode cX8_lastDate 24 = .ok (.ireturn, 1) := by decide +kernel
theorem dJ6_bitCount_0f7a4_0 : decode cJ6_bitCount_0f7a4 0 = .ok (.iload_n 0, 1) := by decide +kernel
theorem dJ6_bitCount_0f7a4_1 : decode cJ6_bitCount_0f7a4 1 = .ok (.iload_n 0, 1) := by decide +kernel
theorem dJ6_bitCount_0f7a4_2 : decode cJ6_bitCount_0f7a4 2 = .ok (.iconst 1, 1) := by decide +kernel
theorem dJ6_bitCount_0f7a4_3 : decode cJ6_bitCount_0f7a4 3 = .ok (.iushr, 1) := by decide +kernel
theorem dJ6_bitCount_0f7a4_4 : decode cJ6_bitCount_0f7a4 4 = .ok (.ldc_w 265, 3) := by decide +kernel
theorem dJ6_bitCount_0f7a4_7 : decode cJ6_bitCount_0f7a4 7 = .ok (.iand, 1) := by decide +kernel
theorem dJ6_bitCount_0f7a4_8 : decode cJ6_bitCount_0f7a4 8 = .ok (.isub, 1) := by decide +kernel
theorem dJ6_bitCount_0f7a4_9 : decode cJ6_bitCount_0f7a4 9 = .ok (.istore_n 0, 1) := by decide +kernel
theorem dJ6_bitCount_0f7a4_10 : decode cJ6_bitCount_0f7a4 10 = .ok (.iload_n 0, 1) := by decide +kernel
theorem dJ6_bitCount_0f7a4_11 : decode cJ6_bitCount_0f7a4 11 = .ok (.ldc_w 266, 3) := by decide +kernel
theorem dJ6_bitCount_0f7a4_14 : decode cJ6_bitCount_0f7a4 14 = .ok (.iand, 1) := by decide +kernel
theorem dJ6_bitCount_0f7a4_15 : decode cJ6_bitCount_0f7a4 15 = .ok (.iload_n 0, 1) := by decide +kernel
theorem dJ6_bitCount_0f7a4_16 : decode cJ6_bitCount_0f7a4 16 = .ok (.iconst 2, 1) := by decide +kernel
theorem dJ6_bitCount_0f7a4_17 : decode cJ6_bitCount_0f7a4 17 = .ok (.iushr, 1) := by decide +kernel
theorem dJ6_bitCount_0f7a4_18 : decode cJ6_bitCount_0f7a4 18 = .ok (.ldc_w 266, 3) := by decide +kernel
theorem dJ6_bitCount_0f7a4_21 : decode cJ6_bitCount_0f7a4 21 = .ok (.iand, 1) := by decide +kernel
theorem dJ6_bitCount_0f7a4_22 : decode cJ6_bitCount_0f7a4 22 = .ok (.iadd, 1) := by decide +kernel
theorem dJ6_bitCount_0f7a4_23 : decode cJ6_bitCount_0f7a4 23 = .ok (.istore_n 0, 1) := by decide +kernel
theorem dJ6_bitCount_0f7a4_24 : decode cJ6_bitCount_0f7a4 24 = .ok (.iload_n 0, 1) := by decide +kernel
theorem dJ6_bitCount_0f7a4_25 : decode cJ6_bitCount_0f7a4 25 = .ok (.iload_n 0, 1) := by decide +kernel
theorem dJ6_bitCount_0f7a4_26 : decode cJ6_bitCount_0f7a4 26 = .ok (.iconst 4, 1) := by decide +kernel
theorem dJ6_bitCount_0f7a4_27 : decode cJ6_bitCount_0f7a4 27 = .ok (.iushr, 1) := by decide +kernel
theorem dJ6_bitCount_0f7a4_28 : decode cJ6_bitCount_0f7a4 28 = .ok (.iadd, 1) := by decide +kernel
theorem dJ6_bitCount_0f7a4_29 : decode cJ6_bitCount_0f7a4 29 = .ok (.ldc_w 267, 3) := by decide +kernel
theorem dJ6_bitCount_0f7a4_32 : decode cJ6_bitCount_0f7a4 32 = .ok (.iand, 1) := by decide +kernel
theorem dJ6_bitCount_0f7a4_33 : decode cJ6_bitCount_0f7a4 33 = .ok (.istore_n 0, 1) := by decide +kernel
theorem dJ6_bitCount_0f7a4_34 : decode cJ6_bitCount_0f7a4 34 = .ok (.iload_n 0, 1) := by decide +kernel
theorem dJ6_bitCount_0f7a4_35 : decode cJ6_bitCount_0f7a4 35 = .ok (.iload_n 0, 1) := by decide +kernel
theorem dJ6_bitCount_0f7a4_36 : decode cJ6_bitCount_0f7a4 36 = .ok (.bipush 8, 2) := by decide +kernel
theorem dJ6_bitCount_0f7a4_38 : decode cJ6_bitCount_0f7a4 38 = .ok (.iushr, 1) := by decide +kernel
theorem dJ6_bitCount_0f7a4_39 : decode cJ6_bitCount_0f7a4 39 = .ok (.iadd, 1) := by decide +kernel
theorem dJ6_bitCount_0f7a4_40 : decode cJ6_bitCount_0f7a4 40 = .ok (.istore_n 0, 1) := by decide +kernel
theorem dJ6_bitCount_0f7a4_41 : decode cJ6_bitCount_0f7a4 41 = .ok (.iload_n 0, 1) := by decide +kernel
theorem dJ6_bitCount_0f7a4_42 : decode cJ6_bitCount_0f7a4 42 = .ok (.iload_n 0, 1) := by decide +kernel
theorem dJ6_bitCount_0f7a4_43 : decode cJ6_bitCount_0f7a4 43 = .ok (.bipush 16, 2) := by decide +kernel
theorem dJ6_bitCount_0f7a4_45 : decode cJ6_bitCount_0f7a4 45 = .ok (.iushr, 1) := by decide +kernel
theorem dJ6_bitCount_0f7a4_46 : decode cJ6_bitCount_0f7a4 46 = .ok (.iadd, 1) := by decide +kernel
theorem dJ6_bitCount_0f7a4_47 : decode cJ6_bitCount_0f7a4 47 = .ok (.istore_n 0, 1) := by decide +kernel
theorem dJ6_bitCount_0f7a4_48 : decode cJ6_bitCount_0f7a4 48 = .ok (.iload_n 0, 1) := by decide +kernel
theorem dJ6_bitCount_0f7a4_49 : decode cJ6_bitCount_0f7a4 49 = .ok (.bipush 63, 2) := by decide +kernel
theorem dJ6_bitCount_0f7a4_51 : decode cJ6_bitCount_0f7a4 51 = .ok (.iand, 1) := by decide +kernel
theorem dJ6_bitCount_0f7a4_52 : decode cJ6_bitCount_0f7a4 52 = .ok (.ireturn, 1) := by decide +kernel
theorem dJ9_max_7cf53_0 : decode cJ9_max_7cf53 0 = .ok (.iload_n 0, 1) := by decide +kernel
theorem dJ9_max_7cf53_1 : decode cJ9_max_7cf53 1 = .ok (.iload_n 1, 1) := by decide +kernel
theorem dJ9_max_7cf53_2 : decode cJ9_max_7cf53 2 = .ok (.if_icmp .lt 7, 3) := by decide +kernel
theorem dJ9_max_7cf53_5 : decode cJ9_max_7cf53 5 = .ok (.iload_n 0, 1) := by decide +kernel
theorem dJ9_max_7cf53_6 : decode cJ9_max_7cf53 6 = .ok (.goto 4, 3) := by decide +kernel
theorem dJ9_max_7cf53_9 : decode cJ9_max_7cf53 9 = .ok (.iload_n 1, 1) := by decide +kernel
theorem dJ9_max_7cf53_10 : decode cJ9_max_7cf53 10 = .ok (.ireturn, 1) := by decide +kernel
theorem dJ9_min_7cf53_0 : decode cJ9_min_7cf53 0 = .ok (.iload_n 0, 1) := by decide +kernel
theorem dJ9_min_7cf53_1 : decode cJ9_min_7cf53 1 = .ok (.iload_n 1, 1) := by decide +kernel
theorem dJ9_min_7cf53_2 : decode cJ9_min_7cf53 2 = .ok (.if_icmp .gt 7, 3) := by decide +kernel
theorem dJ9_min_7cf53_5 : decode cJ9_min_7cf53 5 = .ok (.iload_n 0, 1) := by decide +kernel
theorem dJ9_min_7cf53_6 : decode cJ9_min_7cf53 6 = .ok (.goto 4, 3) := by decide +kernel
theorem dJ9_min_7cf53_9 : decode cJ9_min_7cf53 9 = .ok (.iload_n 1, 1) := by decide +kernel
theorem dJ9_min_7cf53_10 : decode cJ9_min_7cf53 10 = .ok (.ireturn, 1) := by decide +kernel
theorem dL_cell_0 : decode cL_cell 0 = .ok (.iload_n 1, 1) := by decide +kernel
theorem dL_cell_1 : decode cL_cell 1 = .ok (.aload_n 0, 1) := by decide +kernel
theorem dL_cell_2 : decode cL_cell 2 = .ok (.arraylength, 1) := by decide +kernel
theorem dL_cell_3 : decode cL_cell 3 = .ok (.if_icmp .ge 9, 3) := by decide +kernel
theorem dL_cell_6 : decode cL_cell 6 = .ok (.aload_n 0, 1) := by decide +kernel
theorem dL_cell_7 : decode cL_cell 7 = .ok (.iload_n 1, 1) := by decide +kernel
theorem dL_cell_8 : decode cL_cell 8 = .ok (.iaload, 1) := by decide +kernel
theorem dL_cell_9 : decode cL_cell 9 = .ok (.goto 11, 3) := by decide +kernel
theorem dL_cell_12 : decode cL_cell 12 = .ok (.sipush 7919, 3) := by decide +kernel
theorem dL_cell_15 : decode cL_cell 15 = .ok (.iload_n 1, 1) := by decide +kernel
theorem dL_cell_16 : decode cL_cell 16 = .ok (.imul, 1) := by decide +kernel
theorem dL_cell_17 : decode cL_cell 17 = .ok (.bipush 12, 2) := by decide +kernel
theorem dL_cell_19 : decode cL_cell 19 = .ok (.iadd, 1) := by decide +kernel
theorem dL_cell_20 : decode cL_cell 20 = .ok (.ireturn, 1) := by decide +kernel
theorem dL_some_0 : decode cL_some 0 = .ok (.aload_n 0, 1) := by decide +kernel
theorem dL_some_1 : decode cL_some 1 = .ok (.iload_n 1, 1) := by decide +kernel
theorem dL_some_2 : decode cL_some 2 = .ok (.invokestatic 7, 3) := by decide +kernel
theorem dL_some_5 : decode cL_some 5 = .ok (.iconst 3, 1) := by decide +kernel
theorem dL_some_6 : decode cL_some 6 = .ok (.iushr, 1) := by decide +kernel
theorem dL_some_7 : decode cL_some 7 = .ok (.iload_n 2, 1) := by decide +kernel
theorem dL_some_8 : decode cL_some 8 = .ok (.irem, 1) := by decide +kernel
theorem dL_some_9 : decode cL_some 9 = .ok (.ireturn, 1) := by decide +kernel
theorem dL_perform_0 : decode cL_perform 0 = .ok (.aload_n 0, 1) := by decide +kernel
theorem dL_perform_1 : decode cL_perform 1 = .ok (.iload_n 1, 1) := by decide +kernel
theorem dL_perform_2 : decode cL_perform 2 = .ok (.iload_n 2, 1) := by decide +kernel
theorem dL_perform_3 : decode cL_perform 3 = .ok (.iload_n 3, 1) := by decide +kernel
theorem dL_perform_4 : decode cL_perform 4 = .ok (.invokevirtual 13, 3) := by decide +kernel
theorem dL_perform_7 : decode cL_perform 7 = .ok (.ireturn, 1) := by decide +kernel
theorem dL_perform_8 : decode cL_perform 8 = .ok (.astore 4, 2) := by decide +kernel
theorem dL_perform_10 : decode cL_perform 10 = .ok (.sipush (-2000), 3) := by decide +kernel
theorem dL_perform_13 : decode cL_perform 13 = .ok (.ireturn, 1) := by decide +kernel
theorem dL_perform_14 : decode cL_perform 14 = .ok (.astore 4, 2) := by decide +kernel
theorem dL_perform_16 : decode cL_perform 16 = .ok (.sipush (-1000), 3) := by decide +kernel
theorem dL_perform_19 : decode cL_perform 19 = .ok (.aload_n 0, 1) := by decide +kernel
theorem dL_perform_20 : decode cL_perform 20 = .ok (.iconst 0, 1) := by decide +kernel
theorem dL_perform_21 : decode cL_perform 21 = .ok (.invokevirtual 23, 3) := by decide +kernel
theorem dL_perform_24 : decode cL_perform 24 = .ok (.isub, 1) := by decide +kernel
theorem dL_perform_25 : decode cL_perform 25 = .ok (.ireturn, 1) := by decide +kernel
theorem dL_sell_0 : decode cL_sell 0 = .ok (.aload_n 0, 1) := by decide +kernel
theorem dL_sell_1 : decode cL_sell 1 = .ok (.iload_n 1, 1) := by decide +kernel
theorem dL_sell_2 : decode cL_sell 2 = .ok (.iload_n 2, 1) := by decide +kernel
theorem dL_sell_3 : decode cL_sell 3 = .ok (.invokevirtual 35, 3) := by decide +kernel
theorem dL_sell_6 : decode cL_sell 6 = .ok (.ireturn, 1) := by decide +kernel
theorem dL_sell_7 : decode cL_sell 7 = .ok (.astore_n 3, 1) := by decide +kernel
theorem dL_sell_8 : decode cL_sell 8 = .ok (.sipush (-1000), 3) := by decide +kernel
theorem dL_sell_11 : decode cL_sell 11 = .ok (.aload_n 0, 1) := by decide +kernel
theorem dL_sell_12 : decode cL_sell 12 = .ok (.iconst 0, 1) := by decide +kernel
theorem dL_sell_13 : decode cL_sell 13 = .ok (.invokevirtual 23, 3) := by decide +kernel
theorem dL_sell_16 : decode cL_sell 16 = .ok (.isub, 1) := by decide +kernel
theorem dL_sell_17 : decode cL_sell 17 = .ok (.ireturn, 1) := by decide +kernel
theorem dL_request_0 : decode cL_request 0 = .ok (.aload_n 0, 1) := by decide +kernel
theorem dL_request_1 : decode cL_request 1 = .ok (.iload_n 1, 1) := by decide +kernel
theorem dL_request_2 : decode cL_request 2 = .ok (.iload_n 2, 1) := by decide +kernel
theorem dL_request_3 : decode cL_request 3 = .ok (.iload_n 3, 1) := by decide +kernel
theorem dL_request_4 : decode cL_request 4 = .ok (.invokevirtual 41, 3) := by decide +kernel
theorem dL_request_7 : decode cL_request 7 = .ok (.ireturn, 1) := by decide +kernel
theorem dL_request_8 : decode cL_request 8 = .ok (.astore 4, 2) := by decide +kernel
theorem dL_request_10 : decode cL_request 10 = .ok (.sipush (-1000), 3) := by decide +kernel
theorem dL_request_13 : decode cL_request 13 = .ok (.aload_n 0, 1) := by decide +kernel
theorem dL_request_14 : decode cL_request 14 = .ok (.iconst 0, 1) := by decide +kernel
theorem dL_request_15 : decode cL_request 15 = .ok (.invokevirtual 23, 3) := by decide +kernel
theorem dL_request_18 : decode cL_request 18 = .ok (.isub, 1) := by decide +kernel
theorem dL_request_19 : decode cL_request 19 = .ok (.ireturn, 1) := by decide +kernel
theorem dL_hold_0 : decode cL_hold 0 = .ok (.aload_n 0, 1) := by decide +kernel
theorem dL_hold_1 : decode cL_hold 1 = .ok (.iload_n 1, 1) := by decide +kernel
theorem dL_hold_2 : decode cL_hold 2 = .ok (.iload_n 2, 1) := by decide +kernel
theorem dL_hold_3 : decode cL_hold 3 = .ok (.invokevirtual 44, 3) := by decide +kernel
theorem dL_hold_6 : decode cL_hold 6 = .ok (.ireturn, 1) := by decide +kernel
theorem dL_hold_7 : decode cL_hold 7 = .ok (.astore_n 3, 1) := by decide +kernel
theorem dL_hold_8 : decode cL_hold 8 = .ok (.sipush (-1000), 3) := by decide +kernel
theorem dL_hold_11 : decode cL_hold 11 = .ok (.aload_n 0, 1) := by decide +kernel
theorem dL_hold_12 : decode cL_hold 12 = .ok (.iconst 0, 1) := by decide +kernel
theorem dL_hold_13 : decode cL_hold 13 = .ok (.invokevirtual 23, 3) := by decide +kernel
theorem dL_hold_16 : decode cL_hold 16 = .ok (.isub, 1) := by decide +kernel
theorem dL_hold_17 : decode cL_hold 17 = .ok (.ireturn, 1) := by decide +kernel
theorem dL_build_0 : decode cL_build 0 = .ok (.iconst 2, 1) := by decide +kernel
theorem dL_build_1 : decode cL_build 1 = .ok (.aload_n 1, 1) := by decide +kernel
theorem dL_build_2 : decode cL_build 2 = .ok (.iconst 0, 1) := by decide +kernel
theorem dL_build_3 : decode cL_build 3 = .ok (.iconst 3, 1) := by decide +kernel
theorem dL_build_4 : decode cL_build 4 = .ok (.invokestatic 53, 3) := by decide +kernel
theorem dL_build_7 : decode cL_build 7 = .ok (.iadd, 1) := by decide +kernel
theorem dL_build_8 : decode cL_build 8 = .ok (.istore_n 2, 1) := by decide +kernel
theorem dL_build_9 : decode cL_build 9 = .ok (.iconst 0, 1) := by decide +kernel
theorem dL_build_10 : decode cL_build 10 = .ok (.istore_n 3, 1) := by decide +kernel
theorem dL_build_11 : decode cL_build 11 = .ok (.iload_n 3, 1) := by decide +kernel
theorem dL_build_12 : decode cL_build 12 = .ok (.iload_n 2, 1) := by decide +kernel
theorem dL_build_13 : decode cL_build 13 = .ok (.if_icmp .ge 58, 3) := by decide +kernel
theorem dL_build_16 : decode cL_build 16 = .ok (.aload_n 0, 1) := by decide +kernel
theorem dL_build_17 : decode cL_build 17 = .ok (.iconst 1, 1) := by decide +kernel
theorem dL_build_18 : decode cL_build 18 = .ok (.aload_n 1, 1) := by decide +kernel
theorem dL_build_19 : decode cL_build 19 = .ok (.iconst 1, 1) := by decide +kernel
theorem dL_build_20 : decode cL_build 20 = .ok (.iload_n 3, 1) := by decide +kernel
theorem dL_build_21 : decode cL_build 21 = .ok (.iadd, 1) := by decide +kernel
theorem dL_build_22 : decode cL_build 22 = .ok (.bipush 9, 2) := by decide +kernel
theorem dL_build_24 : decode cL_build 24 = .ok (.invokestatic 53, 3) := by decide +kernel
theorem dL_build_27 : decode cL_build 27 = .ok (.iadd, 1) := by decide +kernel
theorem dL_build_28 : decode cL_build 28 = .ok (.iconst 1, 1) := by decide +kernel
theorem dL_build_29 : decode cL_build 29 = .ok (.aload_n 1, 1) := by decide +kernel
theorem dL_build_30 : decode cL_build 30 = .ok (.bipush 6, 2) := by decide +kernel
theorem dL_build_32 : decode cL_build 32 = .ok (.iload_n 3, 1) := by decide +kernel
theorem dL_build_33 : decode cL_build 33 = .ok (.iadd, 1) := by decide +kernel
theorem dL_build_34 : decode cL_build 34 = .ok (.iconst 4, 1) := by decide +kernel
theorem dL_build_35 : decode cL_build 35 = .ok (.invokestatic 53, 3) := by decide +kernel
theorem dL_build_38 : decode cL_build 38 = .ok (.iadd, 1) := by decide +kernel
theorem dL_build_39 : decode cL_build 39 = .ok (.iconst 1, 1) := by decide +kernel
theorem dL_build_40 : decode cL_build 40 = .ok (.aload_n 1, 1) := by decide +kernel
theorem dL_build_41 : decode cL_build 41 = .ok (.bipush 11, 2) := by decide +kernel
theorem dL_build_43 : decode cL_build 43 = .ok (.iload_n 3, 1) := by decide +kernel
theorem dL_build_44 : decode cL_build 44 = .ok (.iadd, 1) := by decide +kernel
theorem dL_build_45 : decode cL_build 45 = .ok (.bipush 50, 2) := by decide +kernel
theorem dL_build_47 : decode cL_build 47 = .ok (.invokestatic 53, 3) := by decide +kernel
theorem dL_build_50 : decode cL_build 50 = .ok (.iadd, 1) := by decide +kernel
theorem dL_build_51 : decode cL_build 51 = .ok (.aload_n 1, 1) := by decide +kernel
theorem dL_build_52 : decode cL_build 52 = .ok (.bipush 16, 2) := by decide +kernel
theorem dL_build_54 : decode cL_build 54 = .ok (.iload_n 3, 1) := by decide +kernel
theorem dL_build_55 : decode cL_build 55 = .ok (.iadd, 1) := by decide +kernel
theorem dL_build_56 : decode cL_build 56 = .ok (.bipush 101, 2) := by decide +kernel
theorem dL_build_58 : decode cL_build 58 = .ok (.invokestatic 53, 3) := by decide +kernel
theorem dL_build_61 : decode cL_build 61 = .ok (.invokevirtual 57, 3) := by decide +kernel
theorem dL_build_64 : decode cL_build 64 = .ok (.pop, 1) := by decide +kernel
theorem dL_build_65 : decode cL_build 65 = .ok (.iinc 3 1, 3) := by decide +kernel
theorem dL_build_68 : decode cL_build 68 = .ok (.goto (-57), 3) := by decide +kernel
theorem dL_build_71 : decode cL_build 71 = .ok (.iconst 0, 1) := by decide +kernel
theorem dL_build_72 : decode cL_build 72 = .ok (.istore_n 3, 1) := by decide +kernel
theorem dL_build_73 : decode cL_build 73 = .ok (.iload_n 3, 1) := by decide +kernel
theorem dL_build_74 : decode cL_build 74 = .ok (.bipush 10, 2) := by decide +kernel
theorem dL_build_76 : decode cL_build 76 = .ok (.if_icmp .ge 42, 3) := by decide +kernel
theorem dL_build_79 : decode cL_build 79 = .ok (.aload_n 0, 1) := by decide +kernel
theorem dL_build_80 : decode cL_build 80 = .ok (.aload_n 1, 1) := by decide +kernel
theorem dL_build_81 : decode cL_build 81 = .ok (.bipush 21, 2) := by decide +kernel
theorem dL_build_83 : decode cL_build 83 = .ok (.iload_n 3, 1) := by decide +kernel
theorem dL_build_84 : decode cL_build 84 = .ok (.iadd, 1) := by decide +kernel
theorem dL_build_85 : decode cL_build 85 = .ok (.iload_n 2, 1) := by decide +kernel
theorem dL_build_86 : decode cL_build 86 = .ok (.invokestatic 53, 3) := by decide +kernel
theorem dL_build_89 : decode cL_build 89 = .ok (.aload_n 1, 1) := by decide +kernel
theorem dL_build_90 : decode cL_build 90 = .ok (.bipush 32, 2) := by decide +kernel
theorem dL_build_92 : decode cL_build 92 = .ok (.iload_n 3, 1) := by decide +kernel
theorem dL_build_93 : decode cL_build 93 = .ok (.iadd, 1) := by decide +kernel
theorem dL_build_94 : decode cL_build 94 = .ok (.iconst 3, 1) := by decide +kernel
theorem dL_build_95 : decode cL_build 95 = .ok (.invokestatic 53, 3) := by decide +kernel
theorem dL_build_98 : decode cL_build 98 = .ok (.aload_n 1, 1) := by decide +kernel
theorem dL_build_99 : decode cL_build 99 = .ok (.bipush 43, 2) := by decide +kernel
theorem dL_build_101 : decode cL_build 101 = .ok (.iload_n 3, 1) := by decide +kernel
theorem dL_build_102 : decode cL_build 102 = .ok (.iadd, 1) := by decide +kernel
theorem dL_build_103 : decode cL_build 103 = .ok (.bipush 12, 2) := by decide +kernel
theorem dL_build_105 : decode cL_build 105 = .ok (.invokestatic 53, 3) := by decide +kernel
theorem dL_build_108 : decode cL_build 108 = .ok (.invokestatic 61, 3) := by decide +kernel
theorem dL_build_111 : decode cL_build 111 = .ok (.pop, 1) := by decide +kernel
theorem dL_build_112 : decode cL_build 112 = .ok (.iinc 3 1, 3) := by decide +kernel
theorem dL_build_115 : decode cL_build 115 = .ok (.goto (-42), 3) := by decide +kernel
theorem dL_build_118 : decode cL_build 118 = .ok (.aload_n 0, 1) := by decide +kernel
theorem dL_build_119 : decode cL_build 119 = .ok (.iconst 1, 1) := by decide +kernel
theorem dL_build_120 : decode cL_build 120 = .ok (.invokevirtual 64, 3) := by decide +kernel
theorem dL_build_123 : decode cL_build 123 = .ok (.istore_n 3, 1) := by decide +kernel
theorem dL_build_124 : decode cL_build 124 = .ok (.iconst 0, 1) := by decide +kernel
theorem dL_build_125 : decode cL_build 125 = .ok (.istore 4, 2) := by decide +kernel
theorem dL_build_127 : decode cL_build 127 = .ok (.iload 4, 2) := by decide +kernel
theorem dL_build_129 : decode cL_build 129 = .ok (.iconst 4, 1) := by decide +kernel
theorem dL_build_130 : decode cL_build 130 = .ok (.if_icmp .ge 27, 3) := by decide +kernel
theorem dL_build_133 : decode cL_build 133 = .ok (.aload_n 0, 1) := by decide +kernel
theorem dL_build_134 : decode cL_build 134 = .ok (.iconst 1, 1) := by decide +kernel
theorem dL_build_135 : decode cL_build 135 = .ok (.aload_n 1, 1) := by decide +kernel
theorem dL_build_136 : decode cL_build 136 = .ok (.bipush 54, 2) := by decide +kernel
theorem dL_build_138 : decode cL_build 138 = .ok (.iload 4, 2) := by decide +kernel
theorem dL_build_140 : decode cL_build 140 = .ok (.iadd, 1) := by decide +kernel
theorem dL_build_141 : decode cL_build 141 = .ok (.bipush 6, 2) := by decide +kernel
theorem dL_build_143 : decode cL_build 143 = .ok (.invokestatic 53, 3) := by decide +kernel
theorem dL_build_146 : decode cL_build 146 = .ok (.iadd, 1) := by decide +kernel
theorem dL_build_147 : decode cL_build 147 = .ok (.invokevirtual 67, 3) := by decide +kernel
theorem dL_build_150 : decode cL_build 150 = .ok (.pop, 1) := by decide +kernel
theorem dL_build_151 : decode cL_build 151 = .ok (.iinc 4 1, 3) := by decide +kernel
theorem dL_build_154 : decode cL_build 154 = .ok (.goto (-27), 3) := by decide +kernel
theorem dL_build_157 : decode cL_build 157 = .ok (.iload_n 3, 1) := by decide +kernel
theorem dL_build_158 : decode cL_build 158 = .ok (.ifCond .ne 4, 3) := by decide +kernel
theorem dL_build_161 : decode cL_build 161 = .ok (.return_, 1) := by decide +kernel
theorem dL_build_162 : decode cL_build 162 = .ok (.iconst 0, 1) := by decide +kernel
theorem dL_build_163 : decode cL_build 163 = .ok (.istore 4, 2) := by decide +kernel
theorem dL_build_165 : decode cL_build 165 = .ok (.iload 4, 2) := by decide +kernel
theorem dL_build_167 : decode cL_build 167 = .ok (.bipush 6, 2) := by decide +kernel
theorem dL_build_169 : decode cL_build 169 = .ok (.if_icmp .ge 34, 3) := by decide +kernel
theorem dL_build_172 : decode cL_build 172 = .ok (.aload_n 0, 1) := by decide +kernel
theorem dL_build_173 : decode cL_build 173 = .ok (.aload_n 1, 1) := by decide +kernel
theorem dL_build_174 : decode cL_build 174 = .ok (.bipush 59, 2) := by decide +kernel
theorem dL_build_176 : decode cL_build 176 = .ok (.iload 4, 2) := by decide +kernel
theorem dL_build_178 : decode cL_build 178 = .ok (.iadd, 1) := by decide +kernel
theorem dL_build_179 : decode cL_build 179 = .ok (.iconst 4, 1) := by decide +kernel
theorem dL_build_180 : decode cL_build 180 = .ok (.invokestatic 53, 3) := by decide +kernel
theorem dL_build_183 : decode cL_build 183 = .ok (.aload_n 1, 1) := by decide +kernel
theorem dL_build_184 : decode cL_build 184 = .ok (.bipush 66, 2) := by decide +kernel
theorem dL_build_186 : decode cL_build 186 = .ok (.iload 4, 2) := by decide +kernel
theorem dL_build_188 : decode cL_build 188 = .ok (.iadd, 1) := by decide +kernel
theorem dL_build_189 : decode cL_build 189 = .ok (.iload_n 3, 1) := by decide +kernel
theorem dL_build_190 : decode cL_build 190 = .ok (.invokestatic 53, 3) := by decide +kernel
theorem dL_build_193 : decode cL_build 193 = .ok (.invokestatic 70, 3) := by decide +kernel
theorem dL_build_196 : decode cL_build 196 = .ok (.pop, 1) := by decide +kernel
theorem dL_build_197 : decode cL_build 197 = .ok (.iinc 4 1, 3) := by decide +kernel
theorem dL_build_200 : decode cL_build 200 = .ok (.goto (-35), 3) := by decide +kernel
theorem dL_build_203 : decode cL_build 203 = .ok (.iconst 0, 1) := by decide +kernel
theorem dL_build_204 : decode cL_build 204 = .ok (.istore 4, 2) := by decide +kernel
theorem dL_build_206 : decode cL_build 206 = .ok (.iload 4, 2) := by decide +kernel
theorem dL_build_208 : decode cL_build 208 = .ok (.bipush 6, 2) := by decide +kernel
theorem dL_build_210 : decode cL_build 210 = .ok (.if_icmp .ge 37, 3) := by decide +kernel
theorem dL_build_213 : decode cL_build 213 = .ok (.aload_n 0, 1) := by decide +kernel
theorem dL_build_214 : decode cL_build 214 = .ok (.aload_n 1, 1) := by decide +kernel
theorem dL_build_215 : decode cL_build 215 = .ok (.bipush 73, 2) := by decide +kernel
theorem dL_build_217 : decode cL_build 217 = .ok (.iload 4, 2) := by decide +kernel
theorem dL_build_219 : decode cL_build 219 = .ok (.iadd, 1) := by decide +kernel
theorem dL_build_220 : decode cL_build 220 = .ok (.iload_n 3, 1) := by decide +kernel
theorem dL_build_221 : decode cL_build 221 = .ok (.invokestatic 53, 3) := by decide +kernel
theorem dL_build_224 : decode cL_build 224 = .ok (.iconst 1, 1) := by decide +kernel
theorem dL_build_225 : decode cL_build 225 = .ok (.aload_n 1, 1) := by decide +kernel
theorem dL_build_226 : decode cL_build 226 = .ok (.bipush 80, 2) := by decide +kernel
theorem dL_build_228 : decode cL_build 228 = .ok (.iload 4, 2) := by decide +kernel
theorem dL_build_230 : decode cL_build 230 = .ok (.iadd, 1) := by decide +kernel
theorem dL_build_231 : decode cL_build 231 = .ok (.bipush 60, 2) := by decide +kernel
theorem dL_build_233 : decode cL_build 233 = .ok (.invokestatic 53, 3) := by decide +kernel
theorem dL_build_236 : decode cL_build 236 = .ok (.iadd, 1) := by decide +kernel
theorem dL_build_237 : decode cL_build 237 = .ok (.invokestatic 73, 3) := by decide +kernel
theorem dL_build_240 : decode cL_build 240 = .ok (.pop, 1) := by decide +kernel
theorem dL_build_241 : decode cL_build 241 = .ok (.iinc 4 1, 3) := by decide +kernel
theorem dL_build_244 : decode cL_build 244 = .ok (.goto (-38), 3) := by decide +kernel
theorem dL_build_247 : decode cL_build 247 = .ok (.iconst 0, 1) := by decide +kernel
theorem dL_build_248 : decode cL_build 248 = .ok (.istore 4, 2) := by decide +kernel
theorem dL_build_250 : decode cL_build 250 = .ok (.iload 4, 2) := by decide +kernel
theorem dL_build_252 : decode cL_build 252 = .ok (.iconst 5, 1) := by decide +kernel
theorem dL_build_253 : decode cL_build 253 = .ok (.if_icmp .ge 47, 3) := by decide +kernel
theorem dL_build_256 : decode cL_build 256 = .ok (.aload_n 0, 1) := by decide +kernel
theorem dL_build_257 : decode cL_build 257 = .ok (.aload_n 1, 1) := by decide +kernel
theorem dL_build_258 : decode cL_build 258 = .ok (.bipush 87, 2) := by decide +kernel
theorem dL_build_260 : decode cL_build 260 = .ok (.iload 4, 2) := by decide +kernel
theorem dL_build_262 : decode cL_build 262 = .ok (.iadd, 1) := by decide +kernel
theorem dL_build_263 : decode cL_build 263 = .ok (.iload_n 3, 1) := by decide +kernel
theorem dL_build_264 : decode cL_build 264 = .ok (.invokestatic 53, 3) := by decide +kernel
theorem dL_build_267 : decode cL_build 267 = .ok (.iconst 1, 1) := by decide +kernel
theorem dL_build_268 : decode cL_build 268 = .ok (.aload_n 1, 1) := by decide +kernel
theorem dL_build_269 : decode cL_build 269 = .ok (.bipush 93, 2) := by decide +kernel
theorem dL_build_271 : decode cL_build 271 = .ok (.iload 4, 2) := by decide +kernel
theorem dL_build_273 : decode cL_build 273 = .ok (.iadd, 1) := by decide +kernel
theorem dL_build_274 : decode cL_build 274 = .ok (.bipush 30, 2) := by decide +kernel
theorem dL_build_276 : decode cL_build 276 = .ok (.invokestatic 53, 3) := by decide +kernel
theorem dL_build_279 : decode cL_build 279 = .ok (.iadd, 1) := by decide +kernel
theorem dL_build_280 : decode cL_build 280 = .ok (.aload_n 1, 1) := by decide +kernel
theorem dL_build_281 : decode cL_build 281 = .ok (.bipush 99, 2) := by decide +kernel
theorem dL_build_283 : decode cL_build 283 = .ok (.iload 4, 2) := by decide +kernel
theorem dL_build_285 : decode cL_build 285 = .ok (.iadd, 1) := by decide +kernel
theorem dL_build_286 : decode cL_build 286 = .ok (.iconst 4, 1) := by decide +kernel
theorem dL_build_287 : decode cL_build 287 = .ok (.invokestatic 53, 3) := by decide +kernel
theorem dL_build_290 : decode cL_build 290 = .ok (.invokestatic 75, 3) := by decide +kernel
theorem dL_build_293 : decode cL_build 293 = .ok (.pop, 1) := by decide +kernel
theorem dL_build_294 : decode cL_build 294 = .ok (.iinc 4 1, 3) := by decide +kernel
theorem dL_build_297 : decode cL_build 297 = .ok (.goto (-47), 3) := by decide +kernel
theorem dL_build_300 : decode cL_build 300 = .ok (.return_, 1) := by decide +kernel
