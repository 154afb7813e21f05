theorem dX0_init_0 : decode cX0_init 0 = .ok (.aload_n 0, 1) := by decide +kernel
theorem dX0_init_1 : decode cX0_init 1 = .ok (.invokespecial 3, 3) := by decide +kernel
theorem dX0_init_4 : decode cX0_init 4 = .ok (.aload_n 0, 1) := by decide +kernel
theorem dX0_init_5 : decode cX0_init 5 = .ok (.bipush 20, 2) := by decide +kernel
theorem dX0_init_7 : decode cX0_init 7 = .ok (.anewarray 9, 3) := by decide +kernel
theorem dX0_init_10 : decode cX0_init 10 = .ok (.putfield 11, 3) := by decide +kernel
theorem dX0_init_13 : decode cX0_init 13 = .ok (.iconst 0, 1) := by decide +kernel
theorem dX0_init_14 : decode cX0_init 14 = .ok (.istore_n 1, 1) := by decide +kernel
theorem dX0_init_15 : decode cX0_init 15 = .ok (.iload_n 1, 1) := by decide +kernel
theorem dX0_init_16 : decode cX0_init 16 = .ok (.bipush 20, 2) := by decide +kernel
theorem dX0_init_18 : decode cX0_init 18 = .ok (.if_icmp .ge 22, 3) := by decide +kernel
theorem dX0_init_21 : decode cX0_init 21 = .ok (.aload_n 0, 1) := by decide +kernel
theorem dX0_init_22 : decode cX0_init 22 = .ok (.getfield 11, 3) := by decide +kernel
theorem dX0_init_25 : decode cX0_init 25 = .ok (.iload_n 1, 1) := by decide +kernel
theorem dX0_init_26 : decode cX0_init 26 = .ok (.new 9, 3) := by decide +kernel
theorem dX0_init_29 : decode cX0_init 29 = .ok (.dup, 1) := by decide +kernel
theorem dX0_init_30 : decode cX0_init 30 = .ok (.invokespecial 17, 3) := by decide +kernel
theorem dX0_init_33 : decode cX0_init 33 = .ok (.aastore, 1) := by decide +kernel
theorem dX0_init_34 : decode cX0_init 34 = .ok (.iinc 1 1, 3) := by decide +kernel
theorem dX0_init_37 : decode cX0_init 37 = .ok (.goto (-22), 3) := by decide +kernel
theorem dX0_init_40 : decode cX0_init 40 = .ok (.aload_n 0, 1) := by decide +kernel
theorem dX0_init_41 : decode cX0_init 41 = .ok (.bipush 12, 2) := by decide +kernel
theorem dX0_init_43 : decode cX0_init 43 = .ok (.newarray .int, 2) := by decide +kernel
theorem dX0_init_45 : decode cX0_init 45 = .ok (.putfield 18, 3) := by decide +kernel
theorem dX0_init_48 : decode cX0_init 48 = .ok (.aload_n 0, 1) := by decide +kernel
theorem dX0_init_49 : decode cX0_init 49 = .ok (.bipush 6, 2) := by decide +kernel
theorem dX0_init_51 : decode cX0_init 51 = .ok (.newarray .int, 2) := by decide +kernel
theorem dX0_init_53 : decode cX0_init 53 = .ok (.putfield 22, 3) := by decide +kernel
theorem dX0_init_56 : decode cX0_init 56 = .ok (.getstatic 25, 3) := by decide +kernel
theorem dX0_init_59 : decode cX0_init 59 = .ok (.iconst 0, 1) := by decide +kernel
theorem dX0_init_60 : decode cX0_init 60 = .ok (.aload_n 0, 1) := by decide +kernel
theorem dX0_init_61 : decode cX0_init 61 = .ok (.getfield 22, 3) := by decide +kernel
theorem dX0_init_64 : decode cX0_init 64 = .ok (.iconst 0, 1) := by decide +kernel
theorem dX0_init_65 : decode cX0_init 65 = .ok (.bipush 6, 2) := by decide +kernel
theorem dX0_init_67 : decode cX0_init 67 = .ok (.invokestatic 28, 3) := by decide +kernel
theorem dX0_init_70 : decode cX0_init 70 = .ok (.return_, 1) := by decide +kernel
theorem dX0_copyFrom_0 : decode cX0_copyFrom 0 = .ok (.aload_n 0, 1) := by decide +kernel
theorem dX0_copyFrom_1 : decode cX0_copyFrom 1 = .ok (.aload_n 1, 1) := by decide +kernel
theorem dX0_copyFrom_2 : decode cX0_copyFrom 2 = .ok (.getfield 34, 3) := by decide +kernel
theorem dX0_copyFrom_5 : decode cX0_copyFrom 5 = .ok (.putfield 34, 3) := by decide +kernel
theorem dX0_copyFrom_8 : decode cX0_copyFrom 8 = .ok (.iconst 0, 1) := by decide +kernel
theorem dX0_copyFrom_9 : decode cX0_copyFrom 9 = .ok (.istore_n 2, 1) := by decide +kernel
theorem dX0_copyFrom_10 : decode cX0_copyFrom 10 = .ok (.iload_n 2, 1) := by decide +kernel
theorem dX0_copyFrom_11 : decode cX0_copyFrom 11 = .ok (.aload_n 0, 1) := by decide +kernel
theorem dX0_copyFrom_12 : decode cX0_copyFrom 12 = .ok (.getfield 34, 3) := by decide +kernel
theorem dX0_copyFrom_15 : decode cX0_copyFrom 15 = .ok (.if_icmp .ge 24, 3) := by decide +kernel
theorem dX0_copyFrom_18 : decode cX0_copyFrom 18 = .ok (.aload_n 0, 1) := by decide +kernel
theorem dX0_copyFrom_19 : decode cX0_copyFrom 19 = .ok (.getfield 11, 3) := by decide +kernel
theorem dX0_copyFrom_22 : decode cX0_copyFrom 22 = .ok (.iload_n 2, 1) := by decide +kernel
theorem dX0_copyFrom_23 : decode cX0_copyFrom 23 = .ok (.aaload, 1) := by decide +kernel
theorem dX0_copyFrom_24 : decode cX0_copyFrom 24 = .ok (.aload_n 1, 1) := by decide +kernel
theorem dX0_copyFrom_25 : decode cX0_copyFrom 25 = .ok (.getfield 11, 3) := by decide +kernel
theorem dX0_copyFrom_28 : decode cX0_copyFrom 28 = .ok (.iload_n 2, 1) := by decide +kernel
theorem dX0_copyFrom_29 : decode cX0_copyFrom 29 = .ok (.aaload, 1) := by decide +kernel
theorem dX0_copyFrom_30 : decode cX0_copyFrom 30 = .ok (.invokevirtual 38, 3) := by decide +kernel
theorem dX0_copyFrom_33 : decode cX0_copyFrom 33 = .ok (.iinc 2 1, 3) := by decide +kernel
theorem dX0_copyFrom_36 : decode cX0_copyFrom 36 = .ok (.goto (-26), 3) := by decide +kernel
theorem dX0_copyFrom_39 : decode cX0_copyFrom 39 = .ok (.aload_n 0, 1) := by decide +kernel
theorem dX0_copyFrom_40 : decode cX0_copyFrom 40 = .ok (.aload_n 1, 1) := by decide +kernel
theorem dX0_copyFrom_41 : decode cX0_copyFrom 41 = .ok (.getfield 42, 3) := by decide +kernel
theorem dX0_copyFrom_44 : decode cX0_copyFrom 44 = .ok (.putfield 42, 3) := by decide +kernel
theorem dX0_copyFrom_47 : decode cX0_copyFrom 47 = .ok (.aload_n 1, 1) := by decide +kernel
theorem dX0_copyFrom_48 : decode cX0_copyFrom 48 = .ok (.getfield 18, 3) := by decide +kernel
theorem dX0_copyFrom_51 : decode cX0_copyFrom 51 = .ok (.iconst 0, 1) := by decide +kernel
theorem dX0_copyFrom_52 : decode cX0_copyFrom 52 = .ok (.aload_n 0, 1) := by decide +kernel
theorem dX0_copyFrom_53 : decode cX0_copyFrom 53 = .ok (.getfield 18, 3) := by decide +kernel
theorem dX0_copyFrom_56 : decode cX0_copyFrom 56 = .ok (.iconst 0, 1) := by decide +kernel
theorem dX0_copyFrom_57 : decode cX0_copyFrom 57 = .ok (.bipush 12, 2) := by decide +kernel
theorem dX0_copyFrom_59 : decode cX0_copyFrom 59 = .ok (.invokestatic 28, 3) := by decide +kernel
theorem dX0_copyFrom_62 : decode cX0_copyFrom 62 = .ok (.aload_n 1, 1) := by decide +kernel
theorem dX0_copyFrom_63 : decode cX0_copyFrom 63 = .ok (.getfield 22, 3) := by decide +kernel
theorem dX0_copyFrom_66 : decode cX0_copyFrom 66 = .ok (.iconst 0, 1) := by decide +kernel
theorem dX0_copyFrom_67 : decode cX0_copyFrom 67 = .ok (.aload_n 0, 1) := by decide +kernel
theorem dX0_copyFrom_68 : decode cX0_copyFrom 68 = .ok (.getfield 22, 3) := by decide +kernel
theorem dX0_copyFrom_71 : decode cX0_copyFrom 71 = .ok (.iconst 0, 1) := by decide +kernel
theorem dX0_copyFrom_72 : decode cX0_copyFrom 72 = .ok (.bipush 6, 2) := by decide +kernel
theorem dX0_copyFrom_74 : decode cX0_copyFrom 74 = .ok (.invokestatic 28, 3) := by decide +kernel
theorem dX0_copyFrom_77 : decode cX0_copyFrom 77 = .ok (.return_, 1) := by decide +kernel
theorem dX0_copyTimesFrom_0 : decode cX0_copyTimesFrom 0 = .ok (.iconst 0, 1) := by decide +kernel
theorem dX0_copyTimesFrom_1 : decode cX0_copyTimesFrom 1 = .ok (.istore_n 2, 1) := by decide +kernel
theorem dX0_copyTimesFrom_2 : decode cX0_copyTimesFrom 2 = .ok (.iload_n 2, 1) := by decide +kernel
theorem dX0_copyTimesFrom_3 : decode cX0_copyTimesFrom 3 = .ok (.aload_n 0, 1) := by decide +kernel
theorem dX0_copyTimesFrom_4 : decode cX0_copyTimesFrom 4 = .ok (.getfield 34, 3) := by decide +kernel
theorem dX0_copyTimesFrom_7 : decode cX0_copyTimesFrom 7 = .ok (.if_icmp .ge 45, 3) := by decide +kernel
theorem dX0_copyTimesFrom_10 : decode cX0_copyTimesFrom 10 = .ok (.aload_n 0, 1) := by decide +kernel
theorem dX0_copyTimesFrom_11 : decode cX0_copyTimesFrom 11 = .ok (.getfield 11, 3) := by decide +kernel
theorem dX0_copyTimesFrom_14 : decode cX0_copyTimesFrom 14 = .ok (.iload_n 2, 1) := by decide +kernel
theorem dX0_copyTimesFrom_15 : decode cX0_copyTimesFrom 15 = .ok (.aaload, 1) := by decide +kernel
theorem dX0_copyTimesFrom_16 : decode cX0_copyTimesFrom 16 = .ok (.aload_n 1, 1) := by decide +kernel
theorem dX0_copyTimesFrom_17 : decode cX0_copyTimesFrom 17 = .ok (.getfield 11, 3) := by decide +kernel
theorem dX0_copyTimesFrom_20 : decode cX0_copyTimesFrom 20 = .ok (.iload_n 2, 1) := by decide +kernel
theorem dX0_copyTimesFrom_21 : decode cX0_copyTimesFrom 21 = .ok (.aaload, 1) := by decide +kernel
theorem dX0_copyTimesFrom_22 : decode cX0_copyTimesFrom 22 = .ok (.getfield 45, 3) := by decide +kernel
theorem dX0_copyTimesFrom_25 : decode cX0_copyTimesFrom 25 = .ok (.putfield 45, 3) := by decide +kernel
theorem dX0_copyTimesFrom_28 : decode cX0_copyTimesFrom 28 = .ok (.aload_n 0, 1) := by decide +kernel
theorem dX0_copyTimesFrom_29 : decode cX0_copyTimesFrom 29 = .ok (.getfield 11, 3) := by decide +kernel
theorem dX0_copyTimesFrom_32 : decode cX0_copyTimesFrom 32 = .ok (.iload_n 2, 1) := by decide +kernel
theorem dX0_copyTimesFrom_33 : decode cX0_copyTimesFrom 33 = .ok (.aaload, 1) := by decide +kernel
theorem dX0_copyTimesFrom_34 : decode cX0_copyTimesFrom 34 = .ok (.aload_n 1, 1) := by decide +kernel
theorem dX0_copyTimesFrom_35 : decode cX0_copyTimesFrom 35 = .ok (.getfield 11, 3) := by decide +kernel
theorem dX0_copyTimesFrom_38 : decode cX0_copyTimesFrom 38 = .ok (.iload_n 2, 1) := by decide +kernel
theorem dX0_copyTimesFrom_39 : decode cX0_copyTimesFrom 39 = .ok (.aaload, 1) := by decide +kernel
theorem dX0_copyTimesFrom_40 : decode cX0_copyTimesFrom 40 = .ok (.getfield 48, 3) := by decide +kernel
theorem dX0_copyTimesFrom_43 : decode cX0_copyTimesFrom 43 = .ok (.putfield 48, 3) := by decide +kernel
theorem dX0_copyTimesFrom_46 : decode cX0_copyTimesFrom 46 = .ok (.iinc 2 1, 3) := by decide +kernel
theorem dX0_copyTimesFrom_49 : decode cX0_copyTimesFrom 49 = .ok (.goto (-47), 3) := by decide +kernel
theorem dX0_copyTimesFrom_52 : decode cX0_copyTimesFrom 52 = .ok (.return_, 1) := by decide +kernel
theorem dX0_has_0 : decode cX0_has 0 = .ok (.iload_n 1, 1) := by decide +kernel
theorem dX0_has_1 : decode cX0_has 1 = .ok (.ifCond .lt 15, 3) := by decide +kernel
theorem dX0_has_4 : decode cX0_has 4 = .ok (.iload_n 1, 1) := by decide +kernel
theorem dX0_has_5 : decode cX0_has 5 = .ok (.aload_n 0, 1) := by decide +kernel
theorem dX0_has_6 : decode cX0_has 6 = .ok (.getfield 34, 3) := by decide +kernel
theorem dX0_has_9 : decode cX0_has 9 = .ok (.if_icmp .ge 7, 3) := by decide +kernel
theorem dX0_has_12 : decode cX0_has 12 = .ok (.iconst 1, 1) := by decide +kernel
theorem dX0_has_13 : decode cX0_has 13 = .ok (.goto 4, 3) := by decide +kernel
theorem dX0_has_16 : decode cX0_has 16 = .ok (.iconst 0, 1) := by decide +kernel
theorem dX0_has_17 : decode cX0_has 17 = .ok (.ireturn, 1) := by decide +kernel
theorem dX0_endBefore_0 : decode cX0_endBefore 0 = .ok (.iload_n 1, 1) := by decide +kernel
theorem dX0_endBefore_1 : decode cX0_endBefore 1 = .ok (.ifCond .le 17, 3) := by decide +kernel
theorem dX0_endBefore_4 : decode cX0_endBefore 4 = .ok (.aload_n 0, 1) := by decide +kernel
theorem dX0_endBefore_5 : decode cX0_endBefore 5 = .ok (.getfield 11, 3) := by decide +kernel
theorem dX0_endBefore_8 : decode cX0_endBefore 8 = .ok (.iload_n 1, 1) := by decide +kernel
theorem dX0_endBefore_9 : decode cX0_endBefore 9 = .ok (.iconst 1, 1) := by decide +kernel
theorem dX0_endBefore_10 : decode cX0_endBefore 10 = .ok (.isub, 1) := by decide +kernel
theorem dX0_endBefore_11 : decode cX0_endBefore 11 = .ok (.aaload, 1) := by decide +kernel
theorem dX0_endBefore_12 : decode cX0_endBefore 12 = .ok (.getfield 48, 3) := by decide +kernel
theorem dX0_endBefore_15 : decode cX0_endBefore 15 = .ok (.goto 4, 3) := by decide +kernel
theorem dX0_endBefore_18 : decode cX0_endBefore 18 = .ok (.iconst 0, 1) := by decide +kernel
theorem dX0_endBefore_19 : decode cX0_endBefore 19 = .ok (.ireturn, 1) := by decide +kernel
theorem dX0_startBehind_0 : decode cX0_startBehind 0 = .ok (.iload_n 1, 1) := by decide +kernel
theorem dX0_startBehind_1 : decode cX0_startBehind 1 = .ok (.aload_n 0, 1) := by decide +kernel
theorem dX0_startBehind_2 : decode cX0_startBehind 2 = .ok (.getfield 34, 3) := by decide +kernel
theorem dX0_startBehind_5 : decode cX0_startBehind 5 = .ok (.iconst 1, 1) := by decide +kernel
theorem dX0_startBehind_6 : decode cX0_startBehind 6 = .ok (.isub, 1) := by decide +kernel
theorem dX0_startBehind_7 : decode cX0_startBehind 7 = .ok (.if_icmp .ge 17, 3) := by decide +kernel
theorem dX0_startBehind_10 : decode cX0_startBehind 10 = .ok (.aload_n 0, 1) := by decide +kernel
theorem dX0_startBehind_11 : decode cX0_startBehind 11 = .ok (.getfield 11, 3) := by decide +kernel
theorem dX0_startBehind_14 : decode cX0_startBehind 14 = .ok (.iload_n 1, 1) := by decide +kernel
theorem dX0_startBehind_15 : decode cX0_startBehind 15 = .ok (.iconst 1, 1) := by decide +kernel
theorem dX0_startBehind_16 : decode cX0_startBehind 16 = .ok (.iadd, 1) := by decide +kernel
theorem dX0_startBehind_17 : decode cX0_startBehind 17 = .ok (.aaload, 1) := by decide +kernel
theorem dX0_startBehind_18 : decode cX0_startBehind 18 = .ok (.getfield 45, 3) := by decide +kernel
theorem dX0_startBehind_21 : decode cX0_startBehind 21 = .ok (.goto 6, 3) := by decide +kernel
theorem dX0_startBehind_24 : decode cX0_startBehind 24 = .ok (.sipush 5000, 3) := by decide +kernel
theorem dX0_startBehind_27 : decode cX0_startBehind 27 = .ok (.ireturn, 1) := by decide +kernel
theorem dX0_reasonAgainst_0 : decode cX0_reasonAgainst 0 = .ok (.iload_n 1, 1) := by decide +kernel
theorem dX0_reasonAgainst_1 : decode cX0_reasonAgainst 1 = .ok (.iload_n 2, 1) := by decide +kernel
theorem dX0_reasonAgainst_2 : decode cX0_reasonAgainst 2 = .ok (.if_icmp .lt 5, 3) := by decide +kernel
theorem dX0_reasonAgainst_5 : decode cX0_reasonAgainst 5 = .ok (.iconst 1, 1) := by decide +kernel
theorem dX0_reasonAgainst_6 : decode cX0_reasonAgainst 6 = .ok (.ireturn, 1) := by decide +kernel
theorem dX0_reasonAgainst_7 : decode cX0_reasonAgainst 7 = .ok (.iconst 0, 1) := by decide +kernel
theorem dX0_reasonAgainst_8 : decode cX0_reasonAgainst 8 = .ok (.istore_n 3, 1) := by decide +kernel
theorem dX0_reasonAgainst_9 : decode cX0_reasonAgainst 9 = .ok (.iload_n 3, 1) := by decide +kernel
theorem dX0_reasonAgainst_10 : decode cX0_reasonAgainst 10 = .ok (.aload_n 0, 1) := by decide +kernel
theorem dX0_reasonAgainst_11 : decode cX0_reasonAgainst 11 = .ok (.getfield 34, 3) := by decide +kernel
theorem dX0_reasonAgainst_14 : decode cX0_reasonAgainst 14 = .ok (.if_icmp .ge 37, 3) := by decide +kernel
theorem dX0_reasonAgainst_17 : decode cX0_reasonAgainst 17 = .ok (.iload_n 1, 1) := by decide +kernel
theorem dX0_reasonAgainst_18 : decode cX0_reasonAgainst 18 = .ok (.aload_n 0, 1) := by decide +kernel
theorem dX0_reasonAgainst_19 : decode cX0_reasonAgainst 19 = .ok (.getfield 11, 3) := by decide +kernel
theorem dX0_reasonAgainst_22 : decode cX0_reasonAgainst 22 = .ok (.iload_n 3, 1) := by decide +kernel
theorem dX0_reasonAgainst_23 : decode cX0_reasonAgainst 23 = .ok (.aaload, 1) := by decide +kernel
theorem dX0_reasonAgainst_24 : decode cX0_reasonAgainst 24 = .ok (.getfield 48, 3) := by decide +kernel
theorem dX0_reasonAgainst_27 : decode cX0_reasonAgainst 27 = .ok (.if_icmp .ge 18, 3) := by decide +kernel
theorem dX0_reasonAgainst_30 : decode cX0_reasonAgainst 30 = .ok (.aload_n 0, 1) := by decide +kernel
theorem dX0_reasonAgainst_31 : decode cX0_reasonAgainst 31 = .ok (.getfield 11, 3) := by decide +kernel
theorem dX0_reasonAgainst_34 : decode cX0_reasonAgainst 34 = .ok (.iload_n 3, 1) := by decide +kernel
theorem dX0_reasonAgainst_35 : decode cX0_reasonAgainst 35 = .ok (.aaload, 1) := by decide +kernel
theorem dX0_reasonAgainst_36 : decode cX0_reasonAgainst 36 = .ok (.getfield 45, 3) := by decide +kernel
theorem dX0_reasonAgainst_39 : decode cX0_reasonAgainst 39 = .ok (.iload_n 2, 1) := by decide +kernel
theorem dX0_reasonAgainst_40 : decode cX0_reasonAgainst 40 = .ok (.if_icmp .ge 5, 3) := by decide +kernel
theorem dX0_reasonAgainst_43 : decode cX0_reasonAgainst 43 = .ok (.iconst 2, 1) := by decide +kernel
theorem dX0_reasonAgainst_44 : decode cX0_reasonAgainst 44 = .ok (.ireturn, 1) := by decide +kernel
theorem dX0_reasonAgainst_45 : decode cX0_reasonAgainst 45 = .ok (.iinc 3 1, 3) := by decide +kernel
theorem dX0_reasonAgainst_48 : decode cX0_reasonAgainst 48 = .ok (.goto (-39), 3) := by decide +kernel
theorem dX0_reasonAgainst_51 : decode cX0_reasonAgainst 51 = .ok (.aload_n 0, 1) := by decide +kernel
theorem dX0_reasonAgainst_52 : decode cX0_reasonAgainst 52 = .ok (.getfield 34, 3) := by decide +kernel
theorem dX0_reasonAgainst_55 : decode cX0_reasonAgainst 55 = .ok (.bipush 20, 2) := by decide +kernel
theorem dX0_reasonAgainst_57 : decode cX0_reasonAgainst 57 = .ok (.if_icmp .lt 7, 3) := by decide +kernel
theorem dX0_reasonAgainst_60 : decode cX0_reasonAgainst 60 = .ok (.iconst 3, 1) := by decide +kernel
theorem dX0_reasonAgainst_61 : decode cX0_reasonAgainst 61 = .ok (.goto 4, 3) := by decide +kernel
theorem dX0_reasonAgainst_64 : decode cX0_reasonAgainst 64 = .ok (.iconst 0, 1) := by decide +kernel
theorem dX0_reasonAgainst_65 : decode cX0_reasonAgainst 65 = .ok (.ireturn, 1) := by decide +kernel
theorem dX0_openRowAt_0 : decode cX0_openRowAt 0 = .ok (.iconst 0, 1) := by decide +kernel
theorem dX0_openRowAt_1 : decode cX0_openRowAt 1 = .ok (.istore_n 2, 1) := by decide +kernel
theorem dX0_openRowAt_2 : decode cX0_openRowAt 2 = .ok (.iconst 0, 1) := by decide +kernel
theorem dX0_openRowAt_3 : decode cX0_openRowAt 3 = .ok (.istore_n 3, 1) := by decide +kernel
theorem dX0_openRowAt_4 : decode cX0_openRowAt 4 = .ok (.iload_n 3, 1) := by decide +kernel
theorem dX0_openRowAt_5 : decode cX0_openRowAt 5 = .ok (.aload_n 0, 1) := by decide +kernel
theorem dX0_openRowAt_6 : decode cX0_openRowAt 6 = .ok (.getfield 34, 3) := by decide +kernel
theorem dX0_openRowAt_9 : decode cX0_openRowAt 9 = .ok (.if_icmp .ge 25, 3) := by decide +kernel
theorem dX0_openRowAt_12 : decode cX0_openRowAt 12 = .ok (.aload_n 0, 1) := by decide +kernel
theorem dX0_openRowAt_13 : decode cX0_openRowAt 13 = .ok (.getfield 11, 3) := by decide +kernel
theorem dX0_openRowAt_16 : decode cX0_openRowAt 16 = .ok (.iload_n 3, 1) := by decide +kernel
theorem dX0_openRowAt_17 : decode cX0_openRowAt 17 = .ok (.aaload, 1) := by decide +kernel
theorem dX0_openRowAt_18 : decode cX0_openRowAt 18 = .ok (.getfield 45, 3) := by decide +kernel
theorem dX0_openRowAt_21 : decode cX0_openRowAt 21 = .ok (.iload_n 1, 1) := by decide +kernel
theorem dX0_openRowAt_22 : decode cX0_openRowAt 22 = .ok (.if_icmp .ge 6, 3) := by decide +kernel
theorem dX0_openRowAt_25 : decode cX0_openRowAt 25 = .ok (.iinc 2 1, 3) := by decide +kernel
theorem dX0_openRowAt_28 : decode cX0_openRowAt 28 = .ok (.iinc 3 1, 3) := by decide +kernel
theorem dX0_openRowAt_31 : decode cX0_openRowAt 31 = .ok (.goto (-27), 3) := by decide +kernel
theorem dX0_openRowAt_34 : decode cX0_openRowAt 34 = .ok (.aload_n 0, 1) := by decide +kernel
theorem dX0_openRowAt_35 : decode cX0_openRowAt 35 = .ok (.iload_n 2, 1) := by decide +kernel
theorem dX0_openRowAt_36 : decode cX0_openRowAt 36 = .ok (.invokevirtual 51, 3) := by decide +kernel
theorem dX0_openRowAt_39 : decode cX0_openRowAt 39 = .ok (.iload_n 2, 1) := by decide +kernel
theorem dX0_openRowAt_40 : decode cX0_openRowAt 40 = .ok (.ireturn, 1) := by decide +kernel
theorem dX0_openRow_0 : decode cX0_openRow 0 = .ok (.aload_n 0, 1) := by decide +kernel
theorem dX0_openRow_1 : decode cX0_openRow 1 = .ok (.getfield 11, 3) := by decide +kernel
theorem dX0_openRow_4 : decode cX0_openRow 4 = .ok (.aload_n 0, 1) := by decide +kernel
theorem dX0_openRow_5 : decode cX0_openRow 5 = .ok (.getfield 34, 3) := by decide +kernel
theorem dX0_openRow_8 : decode cX0_openRow 8 = .ok (.aaload, 1) := by decide +kernel
theorem dX0_openRow_9 : decode cX0_openRow 9 = .ok (.astore_n 2, 1) := by decide +kernel
theorem dX0_openRow_10 : decode cX0_openRow 10 = .ok (.aload_n 0, 1) := by decide +kernel
theorem dX0_openRow_11 : decode cX0_openRow 11 = .ok (.getfield 34, 3) := by decide +kernel
theorem dX0_openRow_14 : decode cX0_openRow 14 = .ok (.istore_n 3, 1) := by decide +kernel
theorem dX0_openRow_15 : decode cX0_openRow 15 = .ok (.iload_n 3, 1) := by decide +kernel
theorem dX0_openRow_16 : decode cX0_openRow 16 = .ok (.iload_n 1, 1) := by decide +kernel
theorem dX0_openRow_17 : decode cX0_openRow 17 = .ok (.if_icmp .le 23, 3) := by decide +kernel
theorem dX0_openRow_20 : decode cX0_openRow 20 = .ok (.aload_n 0, 1) := by decide +kernel
theorem dX0_openRow_21 : decode cX0_openRow 21 = .ok (.getfield 11, 3) := by decide +kernel
theorem dX0_openRow_24 : decode cX0_openRow 24 = .ok (.iload_n 3, 1) := by decide +kernel
theorem dX0_openRow_25 : decode cX0_openRow 25 = .ok (.aload_n 0, 1) := by decide +kernel
theorem dX0_openRow_26 : decode cX0_openRow 26 = .ok (.getfield 11, 3) := by decide +kernel
theorem dX0_openRow_29 : decode cX0_openRow 29 = .ok (.iload_n 3, 1) := by decide +kernel
theorem dX0_openRow_30 : decode cX0_openRow 30 = .ok (.iconst 1, 1) := by decide +kernel
theorem dX0_openRow_31 : decode cX0_openRow 31 = .ok (.isub, 1) := by decide +kernel
theorem dX0_openRow_32 : decode cX0_openRow 32 = .ok (.aaload, 1) := by decide +kernel
theorem dX0_openRow_33 : decode cX0_openRow 33 = .ok (.aastore, 1) := by decide +kernel
theorem dX0_openRow_34 : decode cX0_openRow 34 = .ok (.iinc 3 (-1), 3) := by decide +kernel
theorem dX0_openRow_37 : decode cX0_openRow 37 = .ok (.goto (-22), 3) := by decide +kernel
theorem dX0_openRow_40 : decode cX0_openRow 40 = .ok (.aload_n 0, 1) := by decide +kernel
theorem dX0_openRow_41 : decode cX0_openRow 41 = .ok (.getfield 11, 3) := by decide +kernel
theorem dX0_openRow_44 : decode cX0_openRow 44 = .ok (.iload_n 1, 1) := by decide +kernel
theorem dX0_openRow_45 : decode cX0_openRow 45 = .ok (.aload_n 2, 1) := by decide +kernel
theorem dX0_openRow_46 : decode cX0_openRow 46 = .ok (.aastore, 1) := by decide +kernel
theorem dX0_openRow_47 : decode cX0_openRow 47 = .ok (.aload_n 0, 1) := by decide +kernel
theorem dX0_openRow_48 : decode cX0_openRow 48 = .ok (.dup, 1) := by decide +kernel
theorem dX0_openRow_49 : decode cX0_openRow 49 = .ok (.getfield 34, 3) := by decide +kernel
theorem dX0_openRow_52 : decode cX0_openRow 52 = .ok (.iconst 1, 1) := by decide +kernel
theorem dX0_openRow_53 : decode cX0_openRow 53 = .ok (.iadd, 1) := by decide +kernel
theorem dX0_openRow_54 : decode cX0_openRow 54 = .ok (.putfield 34, 3) := by decide +kernel
theorem dX0_openRow_57 : decode cX0_openRow 57 = .ok (.return_, 1) := by decide +kernel
theorem dX0_closeRow_0 : decode cX0_closeRow 0 = .ok (.aload_n 0, 1) := by decide +kernel
theorem dX0_closeRow_1 : decode cX0_closeRow 1 = .ok (.getfield 11, 3) := by decide +kernel
theorem dX0_closeRow_4 : decode cX0_closeRow 4 = .ok (.iload_n 1, 1) := by decide +kernel
theorem dX0_closeRow_5 : decode cX0_closeRow 5 = .ok (.aaload, 1) := by decide +kernel
theorem dX0_closeRow_6 : decode cX0_closeRow 6 = .ok (.astore_n 2, 1) := by decide +kernel
theorem dX0_closeRow_7 : decode cX0_closeRow 7 = .ok (.iload_n 1, 1) := by decide +kernel
theorem dX0_closeRow_8 : decode cX0_closeRow 8 = .ok (.istore_n 3, 1) := by decide +kernel
theorem dX0_closeRow_9 : decode cX0_closeRow 9 = .ok (.iload_n 3, 1) := by decide +kernel
theorem dX0_closeRow_10 : decode cX0_closeRow 10 = .ok (.aload_n 0, 1) := by decide +kernel
theorem dX0_closeRow_11 : decode cX0_closeRow 11 = .ok (.getfield 34, 3) := by decide +kernel
theorem dX0_closeRow_14 : decode cX0_closeRow 14 = .ok (.iconst 1, 1) := by decide +kernel
theorem dX0_closeRow_15 : decode cX0_closeRow 15 = .ok (.isub, 1) := by decide +kernel
theorem dX0_closeRow_16 : decode cX0_closeRow 16 = .ok (.if_icmp .ge 23, 3) := by decide +kernel
theorem dX0_closeRow_19 : decode cX0_closeRow 19 = .ok (.aload_n 0, 1) := by decide +kernel
theorem dX0_closeRow_20 : decode cX0_closeRow 20 = .ok (.getfield 11, 3) := by decide +kernel
theorem dX0_closeRow_23 : decode cX0_closeRow 23 = .ok (.iload_n 3, 1) := by decide +kernel
theorem dX0_closeRow_24 : decode cX0_closeRow 24 = .ok (.aload_n 0, 1) := by decide +kernel
theorem dX0_closeRow_25 : decode cX0_closeRow 25 = .ok (.getfield 11, 3) := by decide +kernel
theorem dX0_closeRow_28 : decode cX0_closeRow 28 = .ok (.iload_n 3, 1) := by decide +kernel
theorem dX0_closeRow_29 : decode cX0_closeRow 29 = .ok (.iconst 1, 1) := by decide +kernel
theorem dX0_closeRow_30 : decode cX0_closeRow 30 = .ok (.iadd, 1) := by decide +kernel
theorem dX0_closeRow_31 : decode cX0_closeRow 31 = .ok (.aaload, 1) := by decide +kernel
theorem dX0_closeRow_32 : decode cX0_closeRow 32 = .ok (.aastore, 1) := by decide +kernel
theorem dX0_closeRow_33 : decode cX0_closeRow 33 = .ok (.iinc 3 1, 3) := by decide +kernel
theorem dX0_closeRow_36 : decode cX0_closeRow 36 = .ok (.goto (-27), 3) := by decide +kernel
theorem dX0_closeRow_39 : decode cX0_closeRow 39 = .ok (.aload_n 0, 1) := by decide +kernel
theorem dX0_closeRow_40 : decode cX0_closeRow 40 = .ok (.dup, 1) := by decide +kernel
theorem dX0_closeRow_41 : decode cX0_closeRow 41 = .ok (.getfield 34, 3) := by decide +kernel
theorem dX0_closeRow_44 : decode cX0_closeRow 44 = .ok (.iconst 1, 1) := by decide +kernel
theorem dX0_closeRow_45 : decode cX0_closeRow 45 = .ok (.isub, 1) := by decide +kernel
theorem dX0_closeRow_46 : decode cX0_closeRow 46 = .ok (.putfield 34, 3) := by decide +kernel
theorem dX0_closeRow_49 : decode cX0_closeRow 49 = .ok (.aload_n 0, 1) := by decide +kernel
theorem dX0_closeRow_50 : decode cX0_closeRow 50 = .ok (.getfield 11, 3) := by decide +kernel
theorem dX0_closeRow_53 : decode cX0_closeRow 53 = .ok (.aload_n 0, 1) := by decide +kernel
theorem dX0_closeRow_54 : decode cX0_closeRow 54 = .ok (.getfield 34, 3) := by decide +kernel
theorem dX0_closeRow_57 : decode cX0_closeRow 57 = .ok (.aload_n 2, 1) := by decide +kernel
theorem dX0_closeRow_58 : decode cX0_closeRow 58 = .ok (.aastore, 1) := by decide +kernel
theorem dX0_closeRow_59 : decode cX0_closeRow 59 = .ok (.return_, 1) := by decide +kernel
theorem dX0_splitRow_0 : decode cX0_splitRow 0 = .ok (.aload_n 0, 1) := by decide +kernel
theorem dX0_splitRow_1 : decode cX0_splitRow 1 = .ok (.iload_n 1, 1) := by decide +kernel
theorem dX0_splitRow_2 : decode cX0_splitRow 2 = .ok (.iconst 1, 1) := by decide +kernel
theorem dX0_splitRow_3 : decode cX0_splitRow 3 = .ok (.iadd, 1) := by decide +kernel
theorem dX0_splitRow_4 : decode cX0_splitRow 4 = .ok (.invokevirtual 51, 3) := by decide +kernel
theorem dX0_splitRow_7 : decode cX0_splitRow 7 = .ok (.aload_n 0, 1) := by decide +kernel
theorem dX0_splitRow_8 : decode cX0_splitRow 8 = .ok (.getfield 11, 3) := by decide +kernel
theorem dX0_splitRow_11 : decode cX0_splitRow 11 = .ok (.iload_n 1, 1) := by decide +kernel
theorem dX0_splitRow_12 : decode cX0_splitRow 12 = .ok (.aaload, 1) := by decide +kernel
theorem dX0_splitRow_13 : decode cX0_splitRow 13 = .ok (.astore_n 3, 1) := by decide +kernel
theorem dX0_splitRow_14 : decode cX0_splitRow 14 = .ok (.aload_n 0, 1) := by decide +kernel
theorem dX0_splitRow_15 : decode cX0_splitRow 15 = .ok (.getfield 11, 3) := by decide +kernel
theorem dX0_splitRow_18 : decode cX0_splitRow 18 = .ok (.iload_n 1, 1) := by decide +kernel
theorem dX0_splitRow_19 : decode cX0_splitRow 19 = .ok (.iconst 1, 1) := by decide +kernel
theorem dX0_splitRow_20 : decode cX0_splitRow 20 = .ok (.iadd, 1) := by decide +kernel
theorem dX0_splitRow_21 : decode cX0_splitRow 21 = .ok (.aaload, 1) := by decide +kernel
theorem dX0_splitRow_22 : decode cX0_splitRow 22 = .ok (.astore 4, 2) := by decide +kernel
theorem dX0_splitRow_24 : decode cX0_splitRow 24 = .ok (.aload 4, 2) := by decide +kernel
theorem dX0_splitRow_26 : decode cX0_splitRow 26 = .ok (.aload_n 3, 1) := by decide +kernel
theorem dX0_splitRow_27 : decode cX0_splitRow 27 = .ok (.getfield 55, 3) := by decide +kernel
theorem dX0_splitRow_30 : decode cX0_splitRow 30 = .ok (.iload_n 2, 1) := by decide +kernel
theorem dX0_splitRow_31 : decode cX0_splitRow 31 = .ok (.iconst 1, 1) := by decide +kernel
theorem dX0_splitRow_32 : decode cX0_splitRow 32 = .ok (.iadd, 1) := by decide +kernel
theorem dX0_splitRow_33 : decode cX0_splitRow 33 = .ok (.aload_n 3, 1) := by decide +kernel
theorem dX0_splitRow_34 : decode cX0_splitRow 34 = .ok (.getfield 59, 3) := by decide +kernel
theorem dX0_splitRow_37 : decode cX0_splitRow 37 = .ok (.iload_n 2, 1) := by decide +kernel
theorem dX0_splitRow_38 : decode cX0_splitRow 38 = .ok (.isub, 1) := by decide +kernel
theorem dX0_splitRow_39 : decode cX0_splitRow 39 = .ok (.iconst 1, 1) := by decide +kernel
theorem dX0_splitRow_40 : decode cX0_splitRow 40 = .ok (.isub, 1) := by decide +kernel
theorem dX0_splitRow_41 : decode cX0_splitRow 41 = .ok (.invokevirtual 62, 3) := by decide +kernel
theorem dX0_splitRow_44 : decode cX0_splitRow 44 = .ok (.aload_n 3, 1) := by decide +kernel
theorem dX0_splitRow_45 : decode cX0_splitRow 45 = .ok (.iload_n 2, 1) := by decide +kernel
theorem dX0_splitRow_46 : decode cX0_splitRow 46 = .ok (.putfield 59, 3) := by decide +kernel
theorem dX0_splitRow_49 : decode cX0_splitRow 49 = .ok (.aload_n 3, 1) := by decide +kernel
theorem dX0_splitRow_50 : decode cX0_splitRow 50 = .ok (.invokevirtual 66, 3) := by decide +kernel
theorem dX0_splitRow_53 : decode cX0_splitRow 53 = .ok (.aload_n 0, 1) := by decide +kernel
theorem dX0_splitRow_54 : decode cX0_splitRow 54 = .ok (.getfield 22, 3) := by decide +kernel
theorem dX0_splitRow_57 : decode cX0_splitRow 57 = .ok (.iconst 1, 1) := by decide +kernel
theorem dX0_splitRow_58 : decode cX0_splitRow 58 = .ok (.iaload, 1) := by decide +kernel
theorem dX0_splitRow_59 : decode cX0_splitRow 59 = .ok (.isub, 1) := by decide +kernel
theorem dX0_splitRow_60 : decode cX0_splitRow 60 = .ok (.istore 5, 2) := by decide +kernel
theorem dX0_splitRow_62 : decode cX0_splitRow 62 = .ok (.iload 5, 2) := by decide +kernel
theorem dX0_splitRow_64 : decode cX0_splitRow 64 = .ok (.aload_n 3, 1) := by decide +kernel
theorem dX0_splitRow_65 : decode cX0_splitRow 65 = .ok (.getfield 59, 3) := by decide +kernel
theorem dX0_splitRow_68 : decode cX0_splitRow 68 = .ok (.imul, 1) := by decide +kernel
theorem dX0_splitRow_69 : decode cX0_splitRow 69 = .ok (.aload_n 3, 1) := by decide +kernel
theorem dX0_splitRow_70 : decode cX0_splitRow 70 = .ok (.getfield 59, 3) := by decide +kernel
theorem dX0_splitRow_73 : decode cX0_splitRow 73 = .ok (.aload 4, 2) := by decide +kernel
theorem dX0_splitRow_75 : decode cX0_splitRow 75 = .ok (.getfield 59, 3) := by decide +kernel
theorem dX0_splitRow_78 : decode cX0_splitRow 78 = .ok (.iadd, 1) := by decide +kernel
theorem dX0_splitRow_79 : decode cX0_splitRow 79 = .ok (.invokestatic 70, 3) := by decide +kernel
theorem dX0_splitRow_82 : decode cX0_splitRow 82 = .ok (.istore 6, 2) := by decide +kernel
theorem dX0_splitRow_84 : decode cX0_splitRow 84 = .ok (.aload 4, 2) := by decide +kernel
theorem dX0_splitRow_86 : decode cX0_splitRow 86 = .ok (.aload_n 3, 1) := by decide +kernel
theorem dX0_splitRow_87 : decode cX0_splitRow 87 = .ok (.getfield 48, 3) := by decide +kernel
theorem dX0_splitRow_90 : decode cX0_splitRow 90 = .ok (.putfield 48, 3) := by decide +kernel
theorem dX0_splitRow_93 : decode cX0_splitRow 93 = .ok (.aload_n 3, 1) := by decide +kernel
theorem dX0_splitRow_94 : decode cX0_splitRow 94 = .ok (.aload_n 3, 1) := by decide +kernel
theorem dX0_splitRow_95 : decode cX0_splitRow 95 = .ok (.getfield 45, 3) := by decide +kernel
theorem dX0_splitRow_98 : decode cX0_splitRow 98 = .ok (.iconst 1, 1) := by decide +kernel
theorem dX0_splitRow_99 : decode cX0_splitRow 99 = .ok (.iload 6, 2) := by decide +kernel
theorem dX0_splitRow_101 : decode cX0_splitRow 101 = .ok (.iload 5, 2) := by decide +kernel
theorem dX0_splitRow_103 : decode cX0_splitRow 103 = .ok (.iconst 1, 1) := by decide +kernel
theorem dX0_splitRow_104 : decode cX0_splitRow 104 = .ok (.isub, 1) := by decide +kernel
theorem dX0_splitRow_105 : decode cX0_splitRow 105 = .ok (.invokestatic 74, 3) := by decide +kernel
theorem dX0_splitRow_108 : decode cX0_splitRow 108 = .ok (.invokestatic 79, 3) := by decide +kernel
theorem dX0_splitRow_111 : decode cX0_splitRow 111 = .ok (.iadd, 1) := by decide +kernel
theorem dX0_splitRow_112 : decode cX0_splitRow 112 = .ok (.putfield 48, 3) := by decide +kernel
theorem dX0_splitRow_115 : decode cX0_splitRow 115 = .ok (.aload 4, 2) := by decide +kernel
theorem dX0_splitRow_117 : decode cX0_splitRow 117 = .ok (.aload_n 3, 1) := by decide +kernel
theorem dX0_splitRow_118 : decode cX0_splitRow 118 = .ok (.getfield 48, 3) := by decide +kernel
theorem dX0_splitRow_121 : decode cX0_splitRow 121 = .ok (.aload_n 0, 1) := by decide +kernel
theorem dX0_splitRow_122 : decode cX0_splitRow 122 = .ok (.getfield 22, 3) := by decide +kernel
theorem dX0_splitRow_125 : decode cX0_splitRow 125 = .ok (.iconst 1, 1) := by decide +kernel
theorem dX0_splitRow_126 : decode cX0_splitRow 126 = .ok (.iaload, 1) := by decide +kernel
theorem dX0_splitRow_127 : decode cX0_splitRow 127 = .ok (.iadd, 1) := by decide +kernel
theorem dX0_splitRow_128 : decode cX0_splitRow 128 = .ok (.putfield 45, 3) := by decide +kernel
theorem dX0_splitRow_131 : decode cX0_splitRow 131 = .ok (.return_, 1) := by decide +kernel
theorem dX0_joinRows_0 : decode cX0_joinRows 0 = .ok (.aload_n 0, 1) := by decide +kernel
theorem dX0_joinRows_1 : decode cX0_joinRows 1 = .ok (.getfield 11, 3) := by decide +kernel
theorem dX0_joinRows_4 : decode cX0_joinRows 4 = .ok (.iload_n 1, 1) := by decide +kernel
theorem dX0_joinRows_5 : decode cX0_joinRows 5 = .ok (.aaload, 1) := by decide +kernel
theorem dX0_joinRows_6 : decode cX0_joinRows 6 = .ok (.astore_n 2, 1) := by decide +kernel
theorem dX0_joinRows_7 : decode cX0_joinRows 7 = .ok (.aload_n 0, 1) := by decide +kernel
theorem dX0_joinRows_8 : decode cX0_joinRows 8 = .ok (.getfield 11, 3) := by decide +kernel
theorem dX0_joinRows_11 : decode cX0_joinRows 11 = .ok (.iload_n 1, 1) := by decide +kernel
theorem dX0_joinRows_12 : decode cX0_joinRows 12 = .ok (.iconst 1, 1) := by decide +kernel
theorem dX0_joinRows_13 : decode cX0_joinRows 13 = .ok (.iadd, 1) := by decide +kernel
theorem dX0_joinRows_14 : decode cX0_joinRows 14 = .ok (.aaload, 1) := by decide +kernel
theorem dX0_joinRows_15 : decode cX0_joinRows 15 = .ok (.astore_n 3, 1) := by decide +kernel
theorem dX0_joinRows_16 : decode cX0_joinRows 16 = .ok (.aload_n 2, 1) := by decide +kernel
theorem dX0_joinRows_17 : decode cX0_joinRows 17 = .ok (.getfield 55, 3) := by decide +kernel
theorem dX0_joinRows_20 : decode cX0_joinRows 20 = .ok (.aload_n 2, 1) := by decide +kernel
theorem dX0_joinRows_21 : decode cX0_joinRows 21 = .ok (.getfield 59, 3) := by decide +kernel
theorem dX0_joinRows_24 : decode cX0_joinRows 24 = .ok (.bipush 32, 2) := by decide +kernel
theorem dX0_joinRows_26 : decode cX0_joinRows 26 = .ok (.castore, 1) := by decide +kernel
theorem dX0_joinRows_27 : decode cX0_joinRows 27 = .ok (.aload_n 3, 1) := by decide +kernel
theorem dX0_joinRows_28 : decode cX0_joinRows 28 = .ok (.getfield 55, 3) := by decide +kernel
theorem dX0_joinRows_31 : decode cX0_joinRows 31 = .ok (.iconst 0, 1) := by decide +kernel
theorem dX0_joinRows_32 : decode cX0_joinRows 32 = .ok (.aload_n 2, 1) := by decide +kernel
theorem dX0_joinRows_33 : decode cX0_joinRows 33 = .ok (.getfield 55, 3) := by decide +kernel
theorem dX0_joinRows_36 : decode cX0_joinRows 36 = .ok (.aload_n 2, 1) := by decide +kernel
theorem dX0_joinRows_37 : decode cX0_joinRows 37 = .ok (.getfield 59, 3) := by decide +kernel
theorem dX0_joinRows_40 : decode cX0_joinRows 40 = .ok (.iconst 1, 1) := by decide +kernel
theorem dX0_joinRows_41 : decode cX0_joinRows 41 = .ok (.iadd, 1) := by decide +kernel
theorem dX0_joinRows_42 : decode cX0_joinRows 42 = .ok (.aload_n 3, 1) := by decide +kernel
theorem dX0_joinRows_43 : decode cX0_joinRows 43 = .ok (.getfield 59, 3) := by decide +kernel
theorem dX0_joinRows_46 : decode cX0_joinRows 46 = .ok (.invokestatic 28, 3) := by decide +kernel
theorem dX0_joinRows_49 : decode cX0_joinRows 49 = .ok (.aload_n 2, 1) := by decide +kernel
theorem dX0_joinRows_50 : decode cX0_joinRows 50 = .ok (.dup, 1) := by decide +kernel
theorem dX0_joinRows_51 : decode cX0_joinRows 51 = .ok (.getfield 59, 3) := by decide +kernel
theorem dX0_joinRows_54 : decode cX0_joinRows 54 = .ok (.iconst 1, 1) := by decide +kernel
theorem dX0_joinRows_55 : decode cX0_joinRows 55 = .ok (.aload_n 3, 1) := by decide +kernel
theorem dX0_joinRows_56 : decode cX0_joinRows 56 = .ok (.getfield 59, 3) := by decide +kernel
theorem dX0_joinRows_59 : decode cX0_joinRows 59 = .ok (.iadd, 1) := by decide +kernel
theorem dX0_joinRows_60 : decode cX0_joinRows 60 = .ok (.iadd, 1) := by decide +kernel
theorem dX0_joinRows_61 : decode cX0_joinRows 61 = .ok (.putfield 59, 3) := by decide +kernel
theorem dX0_joinRows_64 : decode cX0_joinRows 64 = .ok (.aload_n 2, 1) := by decide +kernel
theorem dX0_joinRows_65 : decode cX0_joinRows 65 = .ok (.aload_n 3, 1) := by decide +kernel
theorem dX0_joinRows_66 : decode cX0_joinRows 66 = .ok (.getfield 48, 3) := by decide +kernel
theorem dX0_joinRows_69 : decode cX0_joinRows 69 = .ok (.putfield 48, 3) := by decide +kernel
theorem dX0_joinRows_72 : decode cX0_joinRows 72 = .ok (.aload_n 0, 1) := by decide +kernel
theorem dX0_joinRows_73 : decode cX0_joinRows 73 = .ok (.iload_n 1, 1) := by decide +kernel
theorem dX0_joinRows_74 : decode cX0_joinRows 74 = .ok (.iconst 1, 1) := by decide +kernel
theorem dX0_joinRows_75 : decode cX0_joinRows 75 = .ok (.iadd, 1) := by decide +kernel
theorem dX0_joinRows_76 : decode cX0_joinRows 76 = .ok (.invokevirtual 82, 3) := by decide +kernel
theorem dX0_joinRows_79 : decode cX0_joinRows 79 = .ok (.return_, 1) := by decide +kernel
theorem dX0_framesNeededBy_0 : decode cX0_framesNeededBy 0 = .ok (.aload_n 0, 1) := by decide +kernel
theorem dX0_framesNeededBy_1 : decode cX0_framesNeededBy 1 = .ok (.getfield 22, 3) := by decide +kernel
theorem dX0_framesNeededBy_4 : decode cX0_framesNeededBy 4 = .ok (.iconst 0, 1) := by decide +kernel
theorem dX0_framesNeededBy_5 : decode cX0_framesNeededBy 5 = .ok (.iaload, 1) := by decide +kernel
theorem dX0_framesNeededBy_6 : decode cX0_framesNeededBy 6 = .ok (.istore_n 2, 1) := by decide +kernel
theorem dX0_framesNeededBy_7 : decode cX0_framesNeededBy 7 = .ok (.aload_n 0, 1) := by decide +kernel
theorem dX0_framesNeededBy_8 : decode cX0_framesNeededBy 8 = .ok (.getfield 22, 3) := by decide +kernel
theorem dX0_framesNeededBy_11 : decode cX0_framesNeededBy 11 = .ok (.iconst 2, 1) := by decide +kernel
theorem dX0_framesNeededBy_12 : decode cX0_framesNeededBy 12 = .ok (.iaload, 1) := by decide +kernel
theorem dX0_framesNeededBy_13 : decode cX0_framesNeededBy 13 = .ok (.bipush 25, 2) := by decide +kernel
theorem dX0_framesNeededBy_15 : decode cX0_framesNeededBy 15 = .ok (.aload_n 1, 1) := by decide +kernel
theorem dX0_framesNeededBy_16 : decode cX0_framesNeededBy 16 = .ok (.getfield 59, 3) := by decide +kernel
theorem dX0_framesNeededBy_19 : decode cX0_framesNeededBy 19 = .ok (.imul, 1) := by decide +kernel
theorem dX0_framesNeededBy_20 : decode cX0_framesNeededBy 20 = .ok (.iload_n 2, 1) := by decide +kernel
theorem dX0_framesNeededBy_21 : decode cX0_framesNeededBy 21 = .ok (.iadd, 1) := by decide +kernel
theorem dX0_framesNeededBy_22 : decode cX0_framesNeededBy 22 = .ok (.iconst 1, 1) := by decide +kernel
theorem dX0_framesNeededBy_23 : decode cX0_framesNeededBy 23 = .ok (.isub, 1) := by decide +kernel
theorem dX0_framesNeededBy_24 : decode cX0_framesNeededBy 24 = .ok (.iload_n 2, 1) := by decide +kernel
theorem dX0_framesNeededBy_25 : decode cX0_framesNeededBy 25 = .ok (.invokestatic 70, 3) := by decide +kernel
theorem dX0_framesNeededBy_28 : decode cX0_framesNeededBy 28 = .ok (.invokestatic 79, 3) := by decide +kernel
theorem dX0_framesNeededBy_31 : decode cX0_framesNeededBy 31 = .ok (.ireturn, 1) := by decide +kernel
theorem dX0_seatAll_0 : decode cX0_seatAll 0 = .ok (.iconst 0, 1) := by decide +kernel
theorem dX0_seatAll_1 : decode cX0_seatAll 1 = .ok (.istore_n 2, 1) := by decide +kernel
theorem dX0_seatAll_2 : decode cX0_seatAll 2 = .ok (.iconst 0, 1) := by decide +kernel
theorem dX0_seatAll_3 : decode cX0_seatAll 3 = .ok (.istore_n 3, 1) := by decide +kernel
theorem dX0_seatAll_4 : decode cX0_seatAll 4 = .ok (.iload_n 3, 1) := by decide +kernel
theorem dX0_seatAll_5 : decode cX0_seatAll 5 = .ok (.aload_n 0, 1) := by decide +kernel
theorem dX0_seatAll_6 : decode cX0_seatAll 6 = .ok (.getfield 34, 3) := by decide +kernel
theorem dX0_seatAll_9 : decode cX0_seatAll 9 = .ok (.if_icmp .ge 83, 3) := by decide +kernel
theorem dX0_seatAll_12 : decode cX0_seatAll 12 = .ok (.iload_n 3, 1) := by decide +kernel
theorem dX0_seatAll_13 : decode cX0_seatAll 13 = .ok (.ifCond .le 19, 3) := by decide +kernel
theorem dX0_seatAll_16 : decode cX0_seatAll 16 = .ok (.aload_n 0, 1) := by decide +kernel
theorem dX0_seatAll_17 : decode cX0_seatAll 17 = .ok (.getfield 11, 3) := by decide +kernel
theorem dX0_seatAll_20 : decode cX0_seatAll 20 = .ok (.iload_n 3, 1) := by decide +kernel
theorem dX0_seatAll_21 : decode cX0_seatAll 21 = .ok (.iconst 1, 1) := by decide +kernel
theorem dX0_seatAll_22 : decode cX0_seatAll 22 = .ok (.isub, 1) := by decide +kernel
theorem dX0_seatAll_23 : decode cX0_seatAll 23 = .ok (.aaload, 1) := by decide +kernel
theorem dX0_seatAll_24 : decode cX0_seatAll 24 = .ok (.getfield 48, 3) := by decide +kernel
theorem dX0_seatAll_27 : decode cX0_seatAll 27 = .ok (.iload_n 1, 1) := by decide +kernel
theorem dX0_seatAll_28 : decode cX0_seatAll 28 = .ok (.iadd, 1) := by decide +kernel
theorem dX0_seatAll_29 : decode cX0_seatAll 29 = .ok (.goto 4, 3) := by decide +kernel
theorem dX0_seatAll_32 : decode cX0_seatAll 32 = .ok (.iconst 0, 1) := by decide +kernel
theorem dX0_seatAll_33 : decode cX0_seatAll 33 = .ok (.istore 4, 2) := by decide +kernel
theorem dX0_seatAll_35 : decode cX0_seatAll 35 = .ok (.iload_n 3, 1) := by decide +kernel
theorem dX0_seatAll_36 : decode cX0_seatAll 36 = .ok (.aload_n 0, 1) := by decide +kernel
theorem dX0_seatAll_37 : decode cX0_seatAll 37 = .ok (.getfield 34, 3) := by decide +kernel
theorem dX0_seatAll_40 : decode cX0_seatAll 40 = .ok (.iconst 1, 1) := by decide +kernel
theorem dX0_seatAll_41 : decode cX0_seatAll 41 = .ok (.isub, 1) := by decide +kernel
theorem dX0_seatAll_42 : decode cX0_seatAll 42 = .ok (.if_icmp .ge 19, 3) := by decide +kernel
theorem dX0_seatAll_45 : decode cX0_seatAll 45 = .ok (.aload_n 0, 1) := by decide +kernel
theorem dX0_seatAll_46 : decode cX0_seatAll 46 = .ok (.getfield 11, 3) := by decide +kernel
theorem dX0_seatAll_49 : decode cX0_seatAll 49 = .ok (.iload_n 3, 1) := by decide +kernel
theorem dX0_seatAll_50 : decode cX0_seatAll 50 = .ok (.iconst 1, 1) := by decide +kernel
theorem dX0_seatAll_51 : decode cX0_seatAll 51 = .ok (.iadd, 1) := by decide +kernel
theorem dX0_seatAll_52 : decode cX0_seatAll 52 = .ok (.aaload, 1) := by decide +kernel
theorem dX0_seatAll_53 : decode cX0_seatAll 53 = .ok (.getfield 45, 3) := by decide +kernel
theorem dX0_seatAll_56 : decode cX0_seatAll 56 = .ok (.iload_n 1, 1) := by decide +kernel
theorem dX0_seatAll_57 : decode cX0_seatAll 57 = .ok (.isub, 1) := by decide +kernel
theorem dX0_seatAll_58 : decode cX0_seatAll 58 = .ok (.goto 6, 3) := by decide +kernel
theorem dX0_seatAll_61 : decode cX0_seatAll 61 = .ok (.sipush 5000, 3) := by decide +kernel
theorem dX0_seatAll_64 : decode cX0_seatAll 64 = .ok (.istore 5, 2) := by decide +kernel
theorem dX0_seatAll_66 : decode cX0_seatAll 66 = .ok (.aload_n 0, 1) := by decide +kernel
theorem dX0_seatAll_67 : decode cX0_seatAll 67 = .ok (.aload_n 0, 1) := by decide +kernel
theorem dX0_seatAll_68 : decode cX0_seatAll 68 = .ok (.getfield 11, 3) := by decide +kernel
theorem dX0_seatAll_71 : decode cX0_seatAll 71 = .ok (.iload_n 3, 1) := by decide +kernel
theorem dX0_seatAll_72 : decode cX0_seatAll 72 = .ok (.aaload, 1) := by decide +kernel
theorem dX0_seatAll_73 : decode cX0_seatAll 73 = .ok (.iload 4, 2) := by decide +kernel
theorem dX0_seatAll_75 : decode cX0_seatAll 75 = .ok (.iload 5, 2) := by decide +kernel
theorem dX0_seatAll_77 : decode cX0_seatAll 77 = .ok (.invokevirtual 85, 3) := by decide +kernel
theorem dX0_seatAll_80 : decode cX0_seatAll 80 = .ok (.ifCond .eq 6, 3) := by decide +kernel
theorem dX0_seatAll_83 : decode cX0_seatAll 83 = .ok (.iinc 2 1, 3) := by decide +kernel
theorem dX0_seatAll_86 : decode cX0_seatAll 86 = .ok (.iinc 3 1, 3) := by decide +kernel
theorem dX0_seatAll_89 : decode cX0_seatAll 89 = .ok (.goto (-85), 3) := by decide +kernel
theorem dX0_seatAll_92 : decode cX0_seatAll 92 = .ok (.iload_n 2, 1) := by decide +kernel
theorem dX0_seatAll_93 : decode cX0_seatAll 93 = .ok (.ireturn, 1) := by decide +kernel
theorem dX0_seatRow_0 : decode cX0_seatRow 0 = .ok (.aload_n 1, 1) := by decide +kernel
theorem dX0_seatRow_1 : decode cX0_seatRow 1 = .ok (.getfield 45, 3) := by decide +kernel
theorem dX0_seatRow_4 : decode cX0_seatRow 4 = .ok (.istore 4, 2) := by decide +kernel
theorem dX0_seatRow_6 : decode cX0_seatRow 6 = .ok (.aload_n 1, 1) := by decide +kernel
theorem dX0_seatRow_7 : decode cX0_seatRow 7 = .ok (.getfield 48, 3) := by decide +kernel
theorem dX0_seatRow_10 : decode cX0_seatRow 10 = .ok (.istore 5, 2) := by decide +kernel
theorem dX0_seatRow_12 : decode cX0_seatRow 12 = .ok (.aload_n 0, 1) := by decide +kernel
theorem dX0_seatRow_13 : decode cX0_seatRow 13 = .ok (.aload_n 1, 1) := by decide +kernel
theorem dX0_seatRow_14 : decode cX0_seatRow 14 = .ok (.invokevirtual 89, 3) := by decide +kernel
theorem dX0_seatRow_17 : decode cX0_seatRow 17 = .ok (.istore 6, 2) := by decide +kernel
theorem dX0_seatRow_19 : decode cX0_seatRow 19 = .ok (.aload_n 1, 1) := by decide +kernel
theorem dX0_seatRow_20 : decode cX0_seatRow 20 = .ok (.invokevirtual 66, 3) := by decide +kernel
theorem dX0_seatRow_23 : decode cX0_seatRow 23 = .ok (.iload 6, 2) := by decide +kernel
theorem dX0_seatRow_25 : decode cX0_seatRow 25 = .ok (.if_icmp .ge 25, 3) := by decide +kernel
theorem dX0_seatRow_28 : decode cX0_seatRow 28 = .ok (.aload_n 1, 1) := by decide +kernel
theorem dX0_seatRow_29 : decode cX0_seatRow 29 = .ok (.aload_n 1, 1) := by decide +kernel
theorem dX0_seatRow_30 : decode cX0_seatRow 30 = .ok (.getfield 48, 3) := by decide +kernel
theorem dX0_seatRow_33 : decode cX0_seatRow 33 = .ok (.aload_n 1, 1) := by decide +kernel
theorem dX0_seatRow_34 : decode cX0_seatRow 34 = .ok (.getfield 45, 3) := by decide +kernel
theorem dX0_seatRow_37 : decode cX0_seatRow 37 = .ok (.iload 6, 2) := by decide +kernel
theorem dX0_seatRow_39 : decode cX0_seatRow 39 = .ok (.iadd, 1) := by decide +kernel
theorem dX0_seatRow_40 : decode cX0_seatRow 40 = .ok (.iload_n 3, 1) := by decide +kernel
theorem dX0_seatRow_41 : decode cX0_seatRow 41 = .ok (.invokestatic 74, 3) := by decide +kernel
theorem dX0_seatRow_44 : decode cX0_seatRow 44 = .ok (.invokestatic 79, 3) := by decide +kernel
theorem dX0_seatRow_47 : decode cX0_seatRow 47 = .ok (.putfield 48, 3) := by decide +kernel
theorem dX0_seatRow_50 : decode cX0_seatRow 50 = .ok (.aload_n 1, 1) := by decide +kernel
theorem dX0_seatRow_51 : decode cX0_seatRow 51 = .ok (.invokevirtual 66, 3) := by decide +kernel
theorem dX0_seatRow_54 : decode cX0_seatRow 54 = .ok (.iload 6, 2) := by decide +kernel
theorem dX0_seatRow_56 : decode cX0_seatRow 56 = .ok (.if_icmp .ge 25, 3) := by decide +kernel
theorem dX0_seatRow_59 : decode cX0_seatRow 59 = .ok (.aload_n 1, 1) := by decide +kernel
theorem dX0_seatRow_60 : decode cX0_seatRow 60 = .ok (.aload_n 1, 1) := by decide +kernel
theorem dX0_seatRow_61 : decode cX0_seatRow 61 = .ok (.getfield 45, 3) := by decide +kernel
theorem dX0_seatRow_64 : decode cX0_seatRow 64 = .ok (.aload_n 1, 1) := by decide +kernel
theorem dX0_seatRow_65 : decode cX0_seatRow 65 = .ok (.getfield 48, 3) := by decide +kernel
theorem dX0_seatRow_68 : decode cX0_seatRow 68 = .ok (.iload 6, 2) := by decide +kernel
theorem dX0_seatRow_70 : decode cX0_seatRow 70 = .ok (.isub, 1) := by decide +kernel
theorem dX0_seatRow_71 : decode cX0_seatRow 71 = .ok (.iload_n 2, 1) := by decide +kernel
theorem dX0_seatRow_72 : decode cX0_seatRow 72 = .ok (.invokestatic 79, 3) := by decide +kernel
theorem dX0_seatRow_75 : decode cX0_seatRow 75 = .ok (.invokestatic 74, 3) := by decide +kernel
theorem dX0_seatRow_78 : decode cX0_seatRow 78 = .ok (.putfield 45, 3) := by decide +kernel
theorem dX0_seatRow_81 : decode cX0_seatRow 81 = .ok (.aload_n 0, 1) := by decide +kernel
theorem dX0_seatRow_82 : decode cX0_seatRow 82 = .ok (.aload_n 1, 1) := by decide +kernel
theorem dX0_seatRow_83 : decode cX0_seatRow 83 = .ok (.getfield 48, 3) := by decide +kernel
theorem dX0_seatRow_86 : decode cX0_seatRow 86 = .ok (.invokevirtual 93, 3) := by decide +kernel
theorem dX0_seatRow_89 : decode cX0_seatRow 89 = .ok (.istore 7, 2) := by decide +kernel
theorem dX0_seatRow_91 : decode cX0_seatRow 91 = .ok (.iload 7, 2) := by decide +kernel
theorem dX0_seatRow_93 : decode cX0_seatRow 93 = .ok (.bipush (-6), 2) := by decide +kernel
theorem dX0_seatRow_95 : decode cX0_seatRow 95 = .ok (.if_icmp .eq 46, 3) := by decide +kernel
theorem dX0_seatRow_98 : decode cX0_seatRow 98 = .ok (.iload 7, 2) := by decide +kernel
theorem dX0_seatRow_100 : decode cX0_seatRow 100 = .ok (.aload_n 1, 1) := by decide +kernel
theorem dX0_seatRow_101 : decode cX0_seatRow 101 = .ok (.getfield 48, 3) := by decide +kernel
theorem dX0_seatRow_104 : decode cX0_seatRow 104 = .ok (.isub, 1) := by decide +kernel
theorem dX0_seatRow_105 : decode cX0_seatRow 105 = .ok (.invokestatic 97, 3) := by decide +kernel
theorem dX0_seatRow_108 : decode cX0_seatRow 108 = .ok (.aload_n 0, 1) := by decide +kernel
theorem dX0_seatRow_109 : decode cX0_seatRow 109 = .ok (.getfield 22, 3) := by decide +kernel
theorem dX0_seatRow_112 : decode cX0_seatRow 112 = .ok (.iconst 5, 1) := by decide +kernel
theorem dX0_seatRow_113 : decode cX0_seatRow 113 = .ok (.iaload, 1) := by decide +kernel
theorem dX0_seatRow_114 : decode cX0_seatRow 114 = .ok (.if_icmp .gt 27, 3) := by decide +kernel
theorem dX0_seatRow_117 : decode cX0_seatRow 117 = .ok (.iload 7, 2) := by decide +kernel
theorem dX0_seatRow_119 : decode cX0_seatRow 119 = .ok (.iload_n 3, 1) := by decide +kernel
theorem dX0_seatRow_120 : decode cX0_seatRow 120 = .ok (.if_icmp .gt 21, 3) := by decide +kernel
theorem dX0_seatRow_123 : decode cX0_seatRow 123 = .ok (.iload 7, 2) := by decide +kernel
theorem dX0_seatRow_125 : decode cX0_seatRow 125 = .ok (.aload_n 1, 1) := by decide +kernel
theorem dX0_seatRow_126 : decode cX0_seatRow 126 = .ok (.getfield 45, 3) := by decide +kernel
theorem dX0_seatRow_129 : decode cX0_seatRow 129 = .ok (.isub, 1) := by decide +kernel
theorem dX0_seatRow_130 : decode cX0_seatRow 130 = .ok (.iload 6, 2) := by decide +kernel
theorem dX0_seatRow_132 : decode cX0_seatRow 132 = .ok (.if_icmp .lt 9, 3) := by decide +kernel
theorem dX0_seatRow_135 : decode cX0_seatRow 135 = .ok (.aload_n 1, 1) := by decide +kernel
theorem dX0_seatRow_136 : decode cX0_seatRow 136 = .ok (.iload 7, 2) := by decide +kernel
theorem dX0_seatRow_138 : decode cX0_seatRow 138 = .ok (.putfield 48, 3) := by decide +kernel
theorem dX0_seatRow_141 : decode cX0_seatRow 141 = .ok (.aload_n 1, 1) := by decide +kernel
theorem dX0_seatRow_142 : decode cX0_seatRow 142 = .ok (.getfield 45, 3) := by decide +kernel
theorem dX0_seatRow_145 : decode cX0_seatRow 145 = .ok (.iload 4, 2) := by decide +kernel
theorem dX0_seatRow_147 : decode cX0_seatRow 147 = .ok (.if_icmp .ne 12, 3) := by decide +kernel
theorem dX0_seatRow_150 : decode cX0_seatRow 150 = .ok (.aload_n 1, 1) := by decide +kernel
theorem dX0_seatRow_151 : decode cX0_seatRow 151 = .ok (.getfield 48, 3) := by decide +kernel
theorem dX0_seatRow_154 : decode cX0_seatRow 154 = .ok (.iload 5, 2) := by decide +kernel
theorem dX0_seatRow_156 : decode cX0_seatRow 156 = .ok (.if_icmp .eq 7, 3) := by decide +kernel
theorem dX0_seatRow_159 : decode cX0_seatRow 159 = .ok (.iconst 1, 1) := by decide +kernel
theorem dX0_seatRow_160 : decode cX0_seatRow 160 = .ok (.goto 4, 3) := by decide +kernel
theorem dX0_seatRow_163 : decode cX0_seatRow 163 = .ok (.iconst 0, 1) := by decide +kernel
theorem dX0_seatRow_164 : decode cX0_seatRow 164 = .ok (.ireturn, 1) := by decide +kernel
theorem dX0_nearestCutTo_0 : decode cX0_nearestCutTo 0 = .ok (.bipush (-6), 2) := by decide +kernel
theorem dX0_nearestCutTo_2 : decode cX0_nearestCutTo 2 = .ok (.istore_n 2, 1) := by decide +kernel
theorem dX0_nearestCutTo_3 : decode cX0_nearestCutTo 3 = .ok (.iconst 0, 1) := by decide +kernel
theorem dX0_nearestCutTo_4 : decode cX0_nearestCutTo 4 = .ok (.istore_n 3, 1) := by decide +kernel
theorem dX0_nearestCutTo_5 : decode cX0_nearestCutTo 5 = .ok (.iload_n 3, 1) := by decide +kernel
theorem dX0_nearestCutTo_6 : decode cX0_nearestCutTo 6 = .ok (.aload_n 0, 1) := by decide +kernel
theorem dX0_nearestCutTo_7 : decode cX0_nearestCutTo 7 = .ok (.getfield 42, 3) := by decide +kernel
theorem dX0_nearestCutTo_10 : decode cX0_nearestCutTo 10 = .ok (.if_icmp .ge 42, 3) := by decide +kernel
theorem dX0_nearestCutTo_13 : decode cX0_nearestCutTo 13 = .ok (.iload_n 2, 1) := by decide +kernel
theorem dX0_nearestCutTo_14 : decode cX0_nearestCutTo 14 = .ok (.bipush (-6), 2) := by decide +kernel
theorem dX0_nearestCutTo_16 : decode cX0_nearestCutTo 16 = .ok (.if_icmp .eq 23, 3) := by decide +kernel
theorem dX0_nearestCutTo_19 : decode cX0_nearestCutTo 19 = .ok (.aload_n 0, 1) := by decide +kernel
theorem dX0_nearestCutTo_20 : decode cX0_nearestCutTo 20 = .ok (.getfield 18, 3) := by decide +kernel
theorem dX0_nearestCutTo_23 : decode cX0_nearestCutTo 23 = .ok (.iload_n 3, 1) := by decide +kernel
theorem dX0_nearestCutTo_24 : decode cX0_nearestCutTo 24 = .ok (.iaload, 1) := by decide +kernel
theorem dX0_nearestCutTo_25 : decode cX0_nearestCutTo 25 = .ok (.iload_n 1, 1) := by decide +kernel
theorem dX0_nearestCutTo_26 : decode cX0_nearestCutTo 26 = .ok (.isub, 1) := by decide +kernel
theorem dX0_nearestCutTo_27 : decode cX0_nearestCutTo 27 = .ok (.invokestatic 97, 3) := by decide +kernel
theorem dX0_nearestCutTo_30 : decode cX0_nearestCutTo 30 = .ok (.iload_n 2, 1) := by decide +kernel
theorem dX0_nearestCutTo_31 : decode cX0_nearestCutTo 31 = .ok (.iload_n 1, 1) := by decide +kernel
theorem dX0_nearestCutTo_32 : decode cX0_nearestCutTo 32 = .ok (.isub, 1) := by decide +kernel
theorem dX0_nearestCutTo_33 : decode cX0_nearestCutTo 33 = .ok (.invokestatic 97, 3) := by decide +kernel
theorem dX0_nearestCutTo_36 : decode cX0_nearestCutTo 36 = .ok (.if_icmp .ge 10, 3) := by decide +kernel
theorem dX0_nearestCutTo_39 : decode cX0_nearestCutTo 39 = .ok (.aload_n 0, 1) := by decide +kernel
theorem dX0_nearestCutTo_40 : decode cX0_nearestCutTo 40 = .ok (.getfield 18, 3) := by decide +kernel
theorem dX0_nearestCutTo_43 : decode cX0_nearestCutTo 43 = .ok (.iload_n 3, 1) := by decide +kernel
theorem dX0_nearestCutTo_44 : decode cX0_nearestCutTo 44 = .ok (.iaload, 1) := by decide +kernel
theorem dX0_nearestCutTo_45 : decode cX0_nearestCutTo 45 = .ok (.istore_n 2, 1) := by decide +kernel
theorem dX0_nearestCutTo_46 : decode cX0_nearestCutTo 46 = .ok (.iinc 3 1, 3) := by decide +kernel
theorem dX0_nearestCutTo_49 : decode cX0_nearestCutTo 49 = .ok (.goto (-44), 3) := by decide +kernel
theorem dX0_nearestCutTo_52 : decode cX0_nearestCutTo 52 = .ok (.iload_n 2, 1) := by decide +kernel
theorem dX0_nearestCutTo_53 : decode cX0_nearestCutTo 53 = .ok (.ireturn, 1) := by decide +kernel
theorem dX0_faultsOf_0 : decode cX0_faultsOf 0 = .ok (.aload_n 0, 1) := by decide +kernel
theorem dX0_faultsOf_1 : decode cX0_faultsOf 1 = .ok (.getfield 11, 3) := by decide +kernel
theorem dX0_faultsOf_4 : decode cX0_faultsOf 4 = .ok (.iload_n 1, 1) := by decide +kernel
theorem dX0_faultsOf_5 : decode cX0_faultsOf 5 = .ok (.aaload, 1) := by decide +kernel
theorem dX0_faultsOf_6 : decode cX0_faultsOf 6 = .ok (.astore_n 2, 1) := by decide +kernel
theorem dX0_faultsOf_7 : decode cX0_faultsOf 7 = .ok (.iconst 0, 1) := by decide +kernel
theorem dX0_faultsOf_8 : decode cX0_faultsOf 8 = .ok (.istore_n 3, 1) := by decide +kernel
theorem dX0_faultsOf_9 : decode cX0_faultsOf 9 = .ok (.aload_n 2, 1) := by decide +kernel
theorem dX0_faultsOf_10 : decode cX0_faultsOf 10 = .ok (.aload_n 0, 1) := by decide +kernel
theorem dX0_faultsOf_11 : decode cX0_faultsOf 11 = .ok (.getfield 22, 3) := by decide +kernel
theorem dX0_faultsOf_14 : decode cX0_faultsOf 14 = .ok (.iconst 0, 1) := by decide +kernel
theorem dX0_faultsOf_15 : decode cX0_faultsOf 15 = .ok (.iaload, 1) := by decide +kernel
theorem dX0_faultsOf_16 : decode cX0_faultsOf 16 = .ok (.invokevirtual 100, 3) := by decide +kernel
theorem dX0_faultsOf_19 : decode cX0_faultsOf 19 = .ok (.ifCond .eq 6, 3) := by decide +kernel
theorem dX0_faultsOf_22 : decode cX0_faultsOf 22 = .ok (.iinc 3 1, 3) := by decide +kernel
theorem dX0_faultsOf_25 : decode cX0_faultsOf 25 = .ok (.aload_n 2, 1) := by decide +kernel
theorem dX0_faultsOf_26 : decode cX0_faultsOf 26 = .ok (.invokevirtual 66, 3) := by decide +kernel
theorem dX0_faultsOf_29 : decode cX0_faultsOf 29 = .ok (.aload_n 0, 1) := by decide +kernel
theorem dX0_faultsOf_30 : decode cX0_faultsOf 30 = .ok (.getfield 22, 3) := by decide +kernel
theorem dX0_faultsOf_33 : decode cX0_faultsOf 33 = .ok (.iconst 2, 1) := by decide +kernel
theorem dX0_faultsOf_34 : decode cX0_faultsOf 34 = .ok (.iaload, 1) := by decide +kernel
theorem dX0_faultsOf_35 : decode cX0_faultsOf 35 = .ok (.if_icmp .ge 6, 3) := by decide +kernel
theorem dX0_faultsOf_38 : decode cX0_faultsOf 38 = .ok (.iinc 3 2, 3) := by decide +kernel
theorem dX0_faultsOf_41 : decode cX0_faultsOf 41 = .ok (.aload_n 2, 1) := by decide +kernel
theorem dX0_faultsOf_42 : decode cX0_faultsOf 42 = .ok (.invokevirtual 66, 3) := by decide +kernel
theorem dX0_faultsOf_45 : decode cX0_faultsOf 45 = .ok (.aload_n 0, 1) := by decide +kernel
theorem dX0_faultsOf_46 : decode cX0_faultsOf 46 = .ok (.getfield 22, 3) := by decide +kernel
theorem dX0_faultsOf_49 : decode cX0_faultsOf 49 = .ok (.iconst 3, 1) := by decide +kernel
theorem dX0_faultsOf_50 : decode cX0_faultsOf 50 = .ok (.iaload, 1) := by decide +kernel
theorem dX0_faultsOf_51 : decode cX0_faultsOf 51 = .ok (.if_icmp .le 6, 3) := by decide +kernel
theorem dX0_faultsOf_54 : decode cX0_faultsOf 54 = .ok (.iinc 3 4, 3) := by decide +kernel
theorem dX0_faultsOf_57 : decode cX0_faultsOf 57 = .ok (.iload_n 1, 1) := by decide +kernel
theorem dX0_faultsOf_58 : decode cX0_faultsOf 58 = .ok (.aload_n 0, 1) := by decide +kernel
theorem dX0_faultsOf_59 : decode cX0_faultsOf 59 = .ok (.getfield 34, 3) := by decide +kernel
theorem dX0_faultsOf_62 : decode cX0_faultsOf 62 = .ok (.iconst 1, 1) := by decide +kernel
theorem dX0_faultsOf_63 : decode cX0_faultsOf 63 = .ok (.isub, 1) := by decide +kernel
theorem dX0_faultsOf_64 : decode cX0_faultsOf 64 = .ok (.if_icmp .ge 31, 3) := by decide +kernel
theorem dX0_faultsOf_67 : decode cX0_faultsOf 67 = .ok (.aload_n 0, 1) := by decide +kernel
theorem dX0_faultsOf_68 : decode cX0_faultsOf 68 = .ok (.getfield 11, 3) := by decide +kernel
theorem dX0_faultsOf_71 : decode cX0_faultsOf 71 = .ok (.iload_n 1, 1) := by decide +kernel
theorem dX0_faultsOf_72 : decode cX0_faultsOf 72 = .ok (.iconst 1, 1) := by decide +kernel
theorem dX0_faultsOf_73 : decode cX0_faultsOf 73 = .ok (.iadd, 1) := by decide +kernel
theorem dX0_faultsOf_74 : decode cX0_faultsOf 74 = .ok (.aaload, 1) := by decide +kernel
theorem dX0_faultsOf_75 : decode cX0_faultsOf 75 = .ok (.getfield 45, 3) := by decide +kernel
theorem dX0_faultsOf_78 : decode cX0_faultsOf 78 = .ok (.aload_n 2, 1) := by decide +kernel
theorem dX0_faultsOf_79 : decode cX0_faultsOf 79 = .ok (.getfield 48, 3) := by decide +kernel
theorem dX0_faultsOf_82 : decode cX0_faultsOf 82 = .ok (.isub, 1) := by decide +kernel
theorem dX0_faultsOf_83 : decode cX0_faultsOf 83 = .ok (.aload_n 0, 1) := by decide +kernel
theorem dX0_faultsOf_84 : decode cX0_faultsOf 84 = .ok (.getfield 22, 3) := by decide +kernel
theorem dX0_faultsOf_87 : decode cX0_faultsOf 87 = .ok (.iconst 1, 1) := by decide +kernel
theorem dX0_faultsOf_88 : decode cX0_faultsOf 88 = .ok (.iaload, 1) := by decide +kernel
theorem dX0_faultsOf_89 : decode cX0_faultsOf 89 = .ok (.if_icmp .ge 6, 3) := by decide +kernel
theorem dX0_faultsOf_92 : decode cX0_faultsOf 92 = .ok (.iinc 3 8, 3) := by decide +kernel
theorem dX0_faultsOf_95 : decode cX0_faultsOf 95 = .ok (.aload_n 0, 1) := by decide +kernel
theorem dX0_faultsOf_96 : decode cX0_faultsOf 96 = .ok (.aload_n 2, 1) := by decide +kernel
theorem dX0_faultsOf_97 : decode cX0_faultsOf 97 = .ok (.invokevirtual 104, 3) := by decide +kernel
theorem dX0_faultsOf_100 : decode cX0_faultsOf 100 = .ok (.ifCond .eq 6, 3) := by decide +kernel
theorem dX0_faultsOf_103 : decode cX0_faultsOf 103 = .ok (.iinc 3 16, 3) := by decide +kernel
theorem dX0_faultsOf_106 : decode cX0_faultsOf 106 = .ok (.aload_n 2, 1) := by decide +kernel
theorem dX0_faultsOf_107 : decode cX0_faultsOf 107 = .ok (.aload_n 0, 1) := by decide +kernel
theorem dX0_faultsOf_108 : decode cX0_faultsOf 108 = .ok (.getfield 22, 3) := by decide +kernel
theorem dX0_faultsOf_111 : decode cX0_faultsOf 111 = .ok (.iconst 4, 1) := by decide +kernel
theorem dX0_faultsOf_112 : decode cX0_faultsOf 112 = .ok (.iaload, 1) := by decide +kernel
theorem dX0_faultsOf_113 : decode cX0_faultsOf 113 = .ok (.invokevirtual 108, 3) := by decide +kernel
theorem dX0_faultsOf_116 : decode cX0_faultsOf 116 = .ok (.ifCond .ne 6, 3) := by decide +kernel
theorem dX0_faultsOf_119 : decode cX0_faultsOf 119 = .ok (.iinc 3 32, 3) := by decide +kernel
theorem dX0_faultsOf_122 : decode cX0_faultsOf 122 = .ok (.iload_n 3, 1) := by decide +kernel
theorem dX0_faultsOf_123 : decode cX0_faultsOf 123 = .ok (.ireturn, 1) := by decide +kernel
theorem dX0_hasCutNearItsTimes_0 : decode cX0_hasCutNearItsTimes 0 = .ok (.iconst 0, 1) := by decide +kernel
theorem dX0_hasCutNearItsTimes_1 : decode cX0_hasCutNearItsTimes 1 = .ok (.istore_n 2, 1) := by decide +kernel
theorem dX0_hasCutNearItsTimes_2 : decode cX0_hasCutNearItsTimes 2 = .ok (.iload_n 2, 1) := by decide +kernel
theorem dX0_hasCutNearItsTimes_3 : decode cX0_hasCutNearItsTimes 3 = .ok (.aload_n 0, 1) := by decide +kernel
theorem dX0_hasCutNearItsTimes_4 : decode cX0_hasCutNearItsTimes 4 = .ok (.getfield 42, 3) := by decide +kernel
theorem dX0_hasCutNearItsTimes_7 : decode cX0_hasCutNearItsTimes 7 = .ok (.if_icmp .ge 66, 3) := by decide +kernel
theorem dX0_hasCutNearItsTimes_10 : decode cX0_hasCutNearItsTimes 10 = .ok (.aload_n 0, 1) := by decide +kernel
theorem dX0_hasCutNearItsTimes_11 : decode cX0_hasCutNearItsTimes 11 = .ok (.getfield 18, 3) := by decide +kernel
theorem dX0_hasCutNearItsTimes_14 : decode cX0_hasCutNearItsTimes 14 = .ok (.iload_n 2, 1) := by decide +kernel
theorem dX0_hasCutNearItsTimes_15 : decode cX0_hasCutNearItsTimes 15 = .ok (.iaload, 1) := by decide +kernel
theorem dX0_hasCutNearItsTimes_16 : decode cX0_hasCutNearItsTimes 16 = .ok (.aload_n 1, 1) := by decide +kernel
theorem dX0_hasCutNearItsTimes_17 : decode cX0_hasCutNearItsTimes 17 = .ok (.getfield 45, 3) := by decide +kernel
theorem dX0_hasCutNearItsTimes_20 : decode cX0_hasCutNearItsTimes 20 = .ok (.isub, 1) := by decide +kernel
theorem dX0_hasCutNearItsTimes_21 : decode cX0_hasCutNearItsTimes 21 = .ok (.istore_n 3, 1) := by decide +kernel
theorem dX0_hasCutNearItsTimes_22 : decode cX0_hasCutNearItsTimes 22 = .ok (.aload_n 1, 1) := by decide +kernel
theorem dX0_hasCutNearItsTimes_23 : decode cX0_hasCutNearItsTimes 23 = .ok (.getfield 48, 3) := by decide +kernel
theorem dX0_hasCutNearItsTimes_26 : decode cX0_hasCutNearItsTimes 26 = .ok (.aload_n 0, 1) := by decide +kernel
theorem dX0_hasCutNearItsTimes_27 : decode cX0_hasCutNearItsTimes 27 = .ok (.getfield 18, 3) := by decide +kernel
theorem dX0_hasCutNearItsTimes_30 : decode cX0_hasCutNearItsTimes 30 = .ok (.iload_n 2, 1) := by decide +kernel
theorem dX0_hasCutNearItsTimes_31 : decode cX0_hasCutNearItsTimes 31 = .ok (.iaload, 1) := by decide +kernel
theorem dX0_hasCutNearItsTimes_32 : decode cX0_hasCutNearItsTimes 32 = .ok (.isub, 1) := by decide +kernel
theorem dX0_hasCutNearItsTimes_33 : decode cX0_hasCutNearItsTimes 33 = .ok (.istore 4, 2) := by decide +kernel
theorem dX0_hasCutNearItsTimes_35 : decode cX0_hasCutNearItsTimes 35 = .ok (.iload_n 3, 1) := by decide +kernel
theorem dX0_hasCutNearItsTimes_36 : decode cX0_hasCutNearItsTimes 36 = .ok (.ifCond .le 31, 3) := by decide +kernel
theorem dX0_hasCutNearItsTimes_39 : decode cX0_hasCutNearItsTimes 39 = .ok (.iload 4, 2) := by decide +kernel
theorem dX0_hasCutNearItsTimes_41 : decode cX0_hasCutNearItsTimes 41 = .ok (.ifCond .le 26, 3) := by decide +kernel
theorem dX0_hasCutNearItsTimes_44 : decode cX0_hasCutNearItsTimes 44 = .ok (.iload_n 3, 1) := by decide +kernel
theorem dX0_hasCutNearItsTimes_45 : decode cX0_hasCutNearItsTimes 45 = .ok (.aload_n 0, 1) := by decide +kernel
theorem dX0_hasCutNearItsTimes_46 : decode cX0_hasCutNearItsTimes 46 = .ok (.getfield 22, 3) := by decide +kernel
theorem dX0_hasCutNearItsTimes_49 : decode cX0_hasCutNearItsTimes 49 = .ok (.iconst 5, 1) := by decide +kernel
theorem dX0_hasCutNearItsTimes_50 : decode cX0_hasCutNearItsTimes 50 = .ok (.iaload, 1) := by decide +kernel
theorem dX0_hasCutNearItsTimes_51 : decode cX0_hasCutNearItsTimes 51 = .ok (.if_icmp .lt 14, 3) := by decide +kernel
theorem dX0_hasCutNearItsTimes_54 : decode cX0_hasCutNearItsTimes 54 = .ok (.iload 4, 2) := by decide +kernel
theorem dX0_hasCutNearItsTimes_56 : decode cX0_hasCutNearItsTimes 56 = .ok (.aload_n 0, 1) := by decide +kernel
theorem dX0_hasCutNearItsTimes_57 : decode cX0_hasCutNearItsTimes 57 = .ok (.getfield 22, 3) := by decide +kernel
theorem dX0_hasCutNearItsTimes_60 : decode cX0_hasCutNearItsTimes 60 = .ok (.iconst 5, 1) := by decide +kernel
theorem dX0_hasCutNearItsTimes_61 : decode cX0_hasCutNearItsTimes 61 = .ok (.iaload, 1) := by decide +kernel
theorem dX0_hasCutNearItsTimes_62 : decode cX0_hasCutNearItsTimes 62 = .ok (.if_icmp .ge 5, 3) := by decide +kernel
theorem dX0_hasCutNearItsTimes_65 : decode cX0_hasCutNearItsTimes 65 = .ok (.iconst 1, 1) := by decide +kernel
theorem dX0_hasCutNearItsTimes_66 : decode cX0_hasCutNearItsTimes 66 = .ok (.ireturn, 1) := by decide +kernel
theorem dX0_hasCutNearItsTimes_67 : decode cX0_hasCutNearItsTimes 67 = .ok (.iinc 2 1, 3) := by decide +kernel
theorem dX0_hasCutNearItsTimes_70 : decode cX0_hasCutNearItsTimes 70 = .ok (.goto (-68), 3) := by decide +kernel
theorem dX0_hasCutNearItsTimes_73 : decode cX0_hasCutNearItsTimes 73 = .ok (.iconst 0, 1) := by decide +kernel
theorem dX0_hasCutNearItsTimes_74 : decode cX0_hasCutNearItsTimes 74 = .ok (.ireturn, 1) := by decide +kernel
theorem dX0_countFaulty_0 : decode cX0_countFaulty 0 = .ok (.iconst 0, 1) := by decide +kernel
theorem dX0_countFaulty_1 : decode cX0_countFaulty 1 = .ok (.istore_n 2, 1) := by decide +kernel
theorem dX0_countFaulty_2 : decode cX0_countFaulty 2 = .ok (.iconst 0, 1) := by decide +kernel
theorem dX0_countFaulty_3 : decode cX0_countFaulty 3 = .ok (.istore_n 3, 1) := by decide +kernel
theorem dX0_countFaulty_4 : decode cX0_countFaulty 4 = .ok (.iload_n 3, 1) := by decide +kernel
theorem dX0_countFaulty_5 : decode cX0_countFaulty 5 = .ok (.aload_n 0, 1) := by decide +kernel
theorem dX0_countFaulty_6 : decode cX0_countFaulty 6 = .ok (.getfield 34, 3) := by decide +kernel
theorem dX0_countFaulty_9 : decode cX0_countFaulty 9 = .ok (.if_icmp .ge 22, 3) := by decide +kernel
theorem dX0_countFaulty_12 : decode cX0_countFaulty 12 = .ok (.aload_n 0, 1) := by decide +kernel
theorem dX0_countFaulty_13 : decode cX0_countFaulty 13 = .ok (.iload_n 3, 1) := by decide +kernel
theorem dX0_countFaulty_14 : decode cX0_countFaulty 14 = .ok (.invokevirtual 111, 3) := by decide +kernel
theorem dX0_countFaulty_17 : decode cX0_countFaulty 17 = .ok (.iload_n 1, 1) := by decide +kernel
theorem dX0_countFaulty_18 : decode cX0_countFaulty 18 = .ok (.iand, 1) := by decide +kernel
theorem dX0_countFaulty_19 : decode cX0_countFaulty 19 = .ok (.ifCond .eq 6, 3) := by decide +kernel
theorem dX0_countFaulty_22 : decode cX0_countFaulty 22 = .ok (.iinc 2 1, 3) := by decide +kernel
theorem dX0_countFaulty_25 : decode cX0_countFaulty 25 = .ok (.iinc 3 1, 3) := by decide +kernel
theorem dX0_countFaulty_28 : decode cX0_countFaulty 28 = .ok (.goto (-24), 3) := by decide +kernel
theorem dX0_countFaulty_31 : decode cX0_countFaulty 31 = .ok (.iload_n 2, 1) := by decide +kernel
theorem dX0_countFaulty_32 : decode cX0_countFaulty 32 = .ok (.ireturn, 1) := by decide +kernel
theorem dX0_countTooFastFor_0 : decode cX0_countTooFastFor 0 = .ok (.iconst 0, 1) := by decide +kernel
theorem dX0_countTooFastFor_1 : decode cX0_countTooFastFor 1 = .ok (.istore_n 2, 1) := by decide +kernel
theorem dX0_countTooFastFor_2 : decode cX0_countTooFastFor 2 = .ok (.iconst 0, 1) := by decide +kernel
theorem dX0_countTooFastFor_3 : decode cX0_countTooFastFor 3 = .ok (.istore_n 3, 1) := by decide +kernel
theorem dX0_countTooFastFor_4 : decode cX0_countTooFastFor 4 = .ok (.iload_n 3, 1) := by decide +kernel
theorem dX0_countTooFastFor_5 : decode cX0_countTooFastFor 5 = .ok (.aload_n 0, 1) := by decide +kernel
theorem dX0_countTooFastFor_6 : decode cX0_countTooFastFor 6 = .ok (.getfield 34, 3) := by decide +kernel
theorem dX0_countTooFastFor_9 : decode cX0_countTooFastFor 9 = .ok (.if_icmp .ge 25, 3) := by decide +kernel
theorem dX0_countTooFastFor_12 : decode cX0_countTooFastFor 12 = .ok (.aload_n 0, 1) := by decide +kernel
theorem dX0_countTooFastFor_13 : decode cX0_countTooFastFor 13 = .ok (.getfield 11, 3) := by decide +kernel
theorem dX0_countTooFastFor_16 : decode cX0_countTooFastFor 16 = .ok (.iload_n 3, 1) := by decide +kernel
theorem dX0_countTooFastFor_17 : decode cX0_countTooFastFor 17 = .ok (.aaload, 1) := by decide +kernel
theorem dX0_countTooFastFor_18 : decode cX0_countTooFastFor 18 = .ok (.iload_n 1, 1) := by decide +kernel
theorem dX0_countTooFastFor_19 : decode cX0_countTooFastFor 19 = .ok (.invokevirtual 100, 3) := by decide +kernel
theorem dX0_countTooFastFor_22 : decode cX0_countTooFastFor 22 = .ok (.ifCond .eq 6, 3) := by decide +kernel
theorem dX0_countTooFastFor_25 : decode cX0_countTooFastFor 25 = .ok (.iinc 2 1, 3) := by decide +kernel
theorem dX0_countTooFastFor_28 : decode cX0_countTooFastFor 28 = .ok (.iinc 3 1, 3) := by decide +kernel
theorem dX0_countTooFastFor_31 : decode cX0_countTooFastFor 31 = .ok (.goto (-27), 3) := by decide +kernel
theorem dX0_countTooFastFor_34 : decode cX0_countTooFastFor 34 = .ok (.iload_n 2, 1) := by decide +kernel
theorem dX0_countTooFastFor_35 : decode cX0_countTooFastFor 35 = .ok (.ireturn, 1) := by decide +kernel
theorem dX0_framesOfAll_0 : decode cX0_framesOfAll 0 = .ok (.iconst 0, 1) := by decide +kernel
theorem dX0_framesOfAll_1 : decode cX0_framesOfAll 1 = .ok (.istore_n 1, 1) := by decide +kernel
theorem dX0_framesOfAll_2 : decode cX0_framesOfAll 2 = .ok (.iconst 0, 1) := by decide +kernel
theorem dX0_framesOfAll_3 : decode cX0_framesOfAll 3 = .ok (.istore_n 2, 1) := by decide +kernel
theorem dX0_framesOfAll_4 : decode cX0_framesOfAll 4 = .ok (.iload_n 2, 1) := by decide +kernel
theorem dX0_framesOfAll_5 : decode cX0_framesOfAll 5 = .ok (.aload_n 0, 1) := by decide +kernel
theorem dX0_framesOfAll_6 : decode cX0_framesOfAll 6 = .ok (.getfield 34, 3) := by decide +kernel
theorem dX0_framesOfAll_9 : decode cX0_framesOfAll 9 = .ok (.if_icmp .ge 21, 3) := by decide +kernel
theorem dX0_framesOfAll_12 : decode cX0_framesOfAll 12 = .ok (.iload_n 1, 1) := by decide +kernel
theorem dX0_framesOfAll_13 : decode cX0_framesOfAll 13 = .ok (.aload_n 0, 1) := by decide +kernel
theorem dX0_framesOfAll_14 : decode cX0_framesOfAll 14 = .ok (.getfield 11, 3) := by decide +kernel
theorem dX0_framesOfAll_17 : decode cX0_framesOfAll 17 = .ok (.iload_n 2, 1) := by decide +kernel
theorem dX0_framesOfAll_18 : decode cX0_framesOfAll 18 = .ok (.aaload, 1) := by decide +kernel
theorem dX0_framesOfAll_19 : decode cX0_framesOfAll 19 = .ok (.invokevirtual 66, 3) := by decide +kernel
theorem dX0_framesOfAll_22 : decode cX0_framesOfAll 22 = .ok (.iadd, 1) := by decide +kernel
theorem dX0_framesOfAll_23 : decode cX0_framesOfAll 23 = .ok (.istore_n 1, 1) := by decide +kernel
theorem dX0_framesOfAll_24 : decode cX0_framesOfAll 24 = .ok (.iinc 2 1, 3) := by decide +kernel
theorem dX0_framesOfAll_27 : decode cX0_framesOfAll 27 = .ok (.goto (-23), 3) := by decide +kernel
theorem dX0_framesOfAll_30 : decode cX0_framesOfAll 30 = .ok (.iload_n 1, 1) := by decide +kernel
theorem dX0_framesOfAll_31 : decode cX0_framesOfAll 31 = .ok (.ireturn, 1) := by decide +kernel
theorem dX0_lengthOfAll_0 : decode cX0_lengthOfAll 0 = .ok (.iconst 0, 1) := by decide +kernel
theorem dX0_lengthOfAll_1 : decode cX0_lengthOfAll 1 = .ok (.istore_n 1, 1) := by decide +kernel
theorem dX0_lengthOfAll_2 : decode cX0_lengthOfAll 2 = .ok (.iconst 0, 1) := by decide +kernel
theorem dX0_lengthOfAll_3 : decode cX0_lengthOfAll 3 = .ok (.istore_n 2, 1) := by decide +kernel
theorem dX0_lengthOfAll_4 : decode cX0_lengthOfAll 4 = .ok (.iload_n 2, 1) := by decide +kernel
theorem dX0_lengthOfAll_5 : decode cX0_lengthOfAll 5 = .ok (.aload_n 0, 1) := by decide +kernel
theorem dX0_lengthOfAll_6 : decode cX0_lengthOfAll 6 = .ok (.getfield 34, 3) := by decide +kernel
theorem dX0_lengthOfAll_9 : decode cX0_lengthOfAll 9 = .ok (.if_icmp .ge 21, 3) := by decide +kernel
theorem dX0_lengthOfAll_12 : decode cX0_lengthOfAll 12 = .ok (.iload_n 1, 1) := by decide +kernel
theorem dX0_lengthOfAll_13 : decode cX0_lengthOfAll 13 = .ok (.aload_n 0, 1) := by decide +kernel
theorem dX0_lengthOfAll_14 : decode cX0_lengthOfAll 14 = .ok (.getfield 11, 3) := by decide +kernel
theorem dX0_lengthOfAll_17 : decode cX0_lengthOfAll 17 = .ok (.iload_n 2, 1) := by decide +kernel
theorem dX0_lengthOfAll_18 : decode cX0_lengthOfAll 18 = .ok (.aaload, 1) := by decide +kernel
theorem dX0_lengthOfAll_19 : decode cX0_lengthOfAll 19 = .ok (.getfield 59, 3) := by decide +kernel
theorem dX0_lengthOfAll_22 : decode cX0_lengthOfAll 22 = .ok (.iadd, 1) := by decide +kernel
theorem dX0_lengthOfAll_23 : decode cX0_lengthOfAll 23 = .ok (.istore_n 1, 1) := by decide +kernel
theorem dX0_lengthOfAll_24 : decode cX0_lengthOfAll 24 = .ok (.iinc 2 1, 3) := by decide +kernel
theorem dX0_lengthOfAll_27 : decode cX0_lengthOfAll 27 = .ok (.goto (-23), 3) := by decide +kernel
theorem dX0_lengthOfAll_30 : decode cX0_lengthOfAll 30 = .ok (.iload_n 1, 1) := by decide +kernel
theorem dX0_lengthOfAll_31 : decode cX0_lengthOfAll 31 = .ok (.ireturn, 1) := by decide +kernel
theorem dX0_findCut_0 : decode cX0_findCut 0 = .ok (.iconst 0, 1) := by decide +kernel
theorem dX0_findCut_1 : decode cX0_findCut 1 = .ok (.istore_n 2, 1) := by decide +kernel
theorem dX0_findCut_2 : decode cX0_findCut 2 = .ok (.iload_n 2, 1) := by decide +kernel
theorem dX0_findCut_3 : decode cX0_findCut 3 = .ok (.aload_n 0, 1) := by decide +kernel
theorem dX0_findCut_4 : decode cX0_findCut 4 = .ok (.getfield 42, 3) := by decide +kernel
theorem dX0_findCut_7 : decode cX0_findCut 7 = .ok (.if_icmp .ge 21, 3) := by decide +kernel
theorem dX0_findCut_10 : decode cX0_findCut 10 = .ok (.aload_n 0, 1) := by decide +kernel
theorem dX0_findCut_11 : decode cX0_findCut 11 = .ok (.getfield 18, 3) := by decide +kernel
theorem dX0_findCut_14 : decode cX0_findCut 14 = .ok (.iload_n 2, 1) := by decide +kernel
theorem dX0_findCut_15 : decode cX0_findCut 15 = .ok (.iaload, 1) := by decide +kernel
theorem dX0_findCut_16 : decode cX0_findCut 16 = .ok (.iload_n 1, 1) := by decide +kernel
theorem dX0_findCut_17 : decode cX0_findCut 17 = .ok (.if_icmp .ne 5, 3) := by decide +kernel
theorem dX0_findCut_20 : decode cX0_findCut 20 = .ok (.iload_n 2, 1) := by decide +kernel
theorem dX0_findCut_21 : decode cX0_findCut 21 = .ok (.ireturn, 1) := by decide +kernel
theorem dX0_findCut_22 : decode cX0_findCut 22 = .ok (.iinc 2 1, 3) := by decide +kernel
theorem dX0_findCut_25 : decode cX0_findCut 25 = .ok (.goto (-23), 3) := by decide +kernel
theorem dX0_findCut_28 : decode cX0_findCut 28 = .ok (.bipush (-6), 2) := by decide +kernel
theorem dX0_findCut_30 : decode cX0_findCut 30 = .ok (.ireturn, 1) := by decide +kernel
theorem dX0_addCut_0 : decode cX0_addCut 0 = .ok (.aload_n 0, 1) := by decide +kernel
theorem dX0_addCut_1 : decode cX0_addCut 1 = .ok (.getfield 42, 3) := by decide +kernel
theorem dX0_addCut_4 : decode cX0_addCut 4 = .ok (.istore_n 2, 1) := by decide +kernel
theorem dX0_addCut_5 : decode cX0_addCut 5 = .ok (.iload_n 2, 1) := by decide +kernel
theorem dX0_addCut_6 : decode cX0_addCut 6 = .ok (.ifCond .le 35, 3) := by decide +kernel
theorem dX0_addCut_9 : decode cX0_addCut 9 = .ok (.aload_n 0, 1) := by decide +kernel
theorem dX0_addCut_10 : decode cX0_addCut 10 = .ok (.getfield 18, 3) := by decide +kernel
theorem dX0_addCut_13 : decode cX0_addCut 13 = .ok (.iload_n 2, 1) := by decide +kernel
theorem dX0_addCut_14 : decode cX0_addCut 14 = .ok (.iconst 1, 1) := by decide +kernel
theorem dX0_addCut_15 : decode cX0_addCut 15 = .ok (.isub, 1) := by decide +kernel
theorem dX0_addCut_16 : decode cX0_addCut 16 = .ok (.iaload, 1) := by decide +kernel
theorem dX0_addCut_17 : decode cX0_addCut 17 = .ok (.iload_n 1, 1) := by decide +kernel
theorem dX0_addCut_18 : decode cX0_addCut 18 = .ok (.if_icmp .le 23, 3) := by decide +kernel
theorem dX0_addCut_21 : decode cX0_addCut 21 = .ok (.aload_n 0, 1) := by decide +kernel
theorem dX0_addCut_22 : decode cX0_addCut 22 = .ok (.getfield 18, 3) := by decide +kernel
theorem dX0_addCut_25 : decode cX0_addCut 25 = .ok (.iload_n 2, 1) := by decide +kernel
theorem dX0_addCut_26 : decode cX0_addCut 26 = .ok (.aload_n 0, 1) := by decide +kernel
theorem dX0_addCut_27 : decode cX0_addCut 27 = .ok (.getfield 18, 3) := by decide +kernel
theorem dX0_addCut_30 : decode cX0_addCut 30 = .ok (.iload_n 2, 1) := by decide +kernel
theorem dX0_addCut_31 : decode cX0_addCut 31 = .ok (.iconst 1, 1) := by decide +kernel
theorem dX0_addCut_32 : decode cX0_addCut 32 = .ok (.isub, 1) := by decide +kernel
theorem dX0_addCut_33 : decode cX0_addCut 33 = .ok (.iaload, 1) := by decide +kernel
theorem dX0_addCut_34 : decode cX0_addCut 34 = .ok (.iastore, 1) := by decide +kernel
theorem dX0_addCut_35 : decode cX0_addCut 35 = .ok (.iinc 2 (-1), 3) := by decide +kernel
theorem dX0_addCut_38 : decode cX0_addCut 38 = .ok (.goto (-33), 3) := by decide +kernel
theorem dX0_addCut_41 : decode cX0_addCut 41 = .ok (.aload_n 0, 1) := by decide +kernel
theorem dX0_addCut_42 : decode cX0_addCut 42 = .ok (.getfield 18, 3) := by decide +kernel
theorem dX0_addCut_45 : decode cX0_addCut 45 = .ok (.iload_n 2, 1) := by decide +kernel
theorem dX0_addCut_46 : decode cX0_addCut 46 = .ok (.iload_n 1, 1) := by decide +kernel
theorem dX0_addCut_47 : decode cX0_addCut 47 = .ok (.iastore, 1) := by decide +kernel
theorem dX0_addCut_48 : decode cX0_addCut 48 = .ok (.aload_n 0, 1) := by decide +kernel
theorem dX0_addCut_49 : decode cX0_addCut 49 = .ok (.dup, 1) := by decide +kernel
theorem dX0_addCut_50 : decode cX0_addCut 50 = .ok (.getfield 42, 3) := by decide +kernel
theorem dX0_addCut_53 : decode cX0_addCut 53 = .ok (.iconst 1, 1) := by decide +kernel
theorem dX0_addCut_54 : decode cX0_addCut 54 = .ok (.iadd, 1) := by decide +kernel
theorem dX0_addCut_55 : decode cX0_addCut 55 = .ok (.putfield 42, 3) := by decide +kernel
theorem dX0_addCut_58 : decode cX0_addCut 58 = .ok (.return_, 1) := by decide +kernel
theorem dX0_removeCut_0 : decode cX0_removeCut 0 = .ok (.aload_n 0, 1) := by decide +kernel
theorem dX0_removeCut_1 : decode cX0_removeCut 1 = .ok (.dup, 1) := by decide +kernel
theorem dX0_removeCut_2 : decode cX0_removeCut 2 = .ok (.getfield 42, 3) := by decide +kernel
theorem dX0_removeCut_5 : decode cX0_removeCut 5 = .ok (.iconst 1, 1) := by decide +kernel
theorem dX0_removeCut_6 : decode cX0_removeCut 6 = .ok (.isub, 1) := by decide +kernel
theorem dX0_removeCut_7 : decode cX0_removeCut 7 = .ok (.putfield 42, 3) := by decide +kernel
theorem dX0_removeCut_10 : decode cX0_removeCut 10 = .ok (.iload_n 1, 1) := by decide +kernel
theorem dX0_removeCut_11 : decode cX0_removeCut 11 = .ok (.istore_n 2, 1) := by decide +kernel
theorem dX0_removeCut_12 : decode cX0_removeCut 12 = .ok (.iload_n 2, 1) := by decide +kernel
theorem dX0_removeCut_13 : decode cX0_removeCut 13 = .ok (.aload_n 0, 1) := by decide +kernel
theorem dX0_removeCut_14 : decode cX0_removeCut 14 = .ok (.getfield 42, 3) := by decide +kernel
theorem dX0_removeCut_17 : decode cX0_removeCut 17 = .ok (.if_icmp .ge 23, 3) := by decide +kernel
theorem dX0_removeCut_20 : decode cX0_removeCut 20 = .ok (.aload_n 0, 1) := by decide +kernel
theorem dX0_removeCut_21 : decode cX0_removeCut 21 = .ok (.getfield 18, 3) := by decide +kernel
theorem dX0_removeCut_24 : decode cX0_removeCut 24 = .ok (.iload_n 2, 1) := by decide +kernel
theorem dX0_removeCut_25 : decode cX0_removeCut 25 = .ok (.aload_n 0, 1) := by decide +kernel
theorem dX0_removeCut_26 : decode cX0_removeCut 26 = .ok (.getfield 18, 3) := by decide +kernel
theorem dX0_removeCut_29 : decode cX0_removeCut 29 = .ok (.iload_n 2, 1) := by decide +kernel
theorem dX0_removeCut_30 : decode cX0_removeCut 30 = .ok (.iconst 1, 1) := by decide +kernel
theorem dX0_removeCut_31 : decode cX0_removeCut 31 = .ok (.iadd, 1) := by decide +kernel
theorem dX0_removeCut_32 : decode cX0_removeCut 32 = .ok (.iaload, 1) := by decide +kernel
theorem dX0_removeCut_33 : decode cX0_removeCut 33 = .ok (.iastore, 1) := by decide +kernel
theorem dX0_removeCut_34 : decode cX0_removeCut 34 = .ok (.iinc 2 1, 3) := by decide +kernel
theorem dX0_removeCut_37 : decode cX0_removeCut 37 = .ok (.goto (-25), 3) := by decide +kernel
theorem dX0_removeCut_40 : decode cX0_removeCut 40 = .ok (.return_, 1) := by decide +kernel
theorem dX0_quotient_0 : decode cX0_quotient 0 = .ok (.iload_n 1, 1) := by decide +kernel
theorem dX0_quotient_1 : decode cX0_quotient 1 = .ok (.iconst 1, 1) := by decide +kernel
theorem dX0_quotient_2 : decode cX0_quotient 2 = .ok (.if_icmp .ge 7, 3) := by decide +kernel
theorem dX0_quotient_5 : decode cX0_quotient 5 = .ok (.iconst 0, 1) := by decide +kernel
theorem dX0_quotient_6 : decode cX0_quotient 6 = .ok (.goto 6, 3) := by decide +kernel
theorem dX0_quotient_9 : decode cX0_quotient 9 = .ok (.iload_n 0, 1) := by decide +kernel
theorem dX0_quotient_10 : decode cX0_quotient 10 = .ok (.iload_n 1, 1) := by decide +kernel
theorem dX0_quotient_11 : decode cX0_quotient 11 = .ok (.idiv, 1) := by decide +kernel
theorem dX0_quotient_12 : decode cX0_quotient 12 = .ok (.ireturn, 1) := by decide +kernel
theorem dX1_init_0 : decode cX1_init 0 = .ok (.aload_n 0, 1) := by decide +kernel
theorem dX1_init_1 : decode cX1_init 1 = .ok (.invokespecial 3, 3) := by decide +kernel
theorem dX1_init_4 : decode cX1_init 4 = .ok (.aload_n 0, 1) := by decide +kernel
theorem dX1_init_5 : decode cX1_init 5 = .ok (.iconst 4, 1) := by decide +kernel
theorem dX1_init_6 : decode cX1_init 6 = .ok (.anewarray 9, 3) := by decide +kernel
theorem dX1_init_9 : decode cX1_init 9 = .ok (.putfield 11, 3) := by decide +kernel
theorem dX1_init_12 : decode cX1_init 12 = .ok (.iconst 0, 1) := by decide +kernel
theorem dX1_init_13 : decode cX1_init 13 = .ok (.istore_n 1, 1) := by decide +kernel
theorem dX1_init_14 : decode cX1_init 14 = .ok (.iload_n 1, 1) := by decide +kernel
theorem dX1_init_15 : decode cX1_init 15 = .ok (.iconst 4, 1) := by decide +kernel
theorem dX1_init_16 : decode cX1_init 16 = .ok (.if_icmp .ge 22, 3) := by decide +kernel
theorem dX1_init_19 : decode cX1_init 19 = .ok (.aload_n 0, 1) := by decide +kernel
theorem dX1_init_20 : decode cX1_init 20 = .ok (.getfield 11, 3) := by decide +kernel
theorem dX1_init_23 : decode cX1_init 23 = .ok (.iload_n 1, 1) := by decide +kernel
theorem dX1_init_24 : decode cX1_init 24 = .ok (.new 9, 3) := by decide +kernel
theorem dX1_init_27 : decode cX1_init 27 = .ok (.dup, 1) := by decide +kernel
theorem dX1_init_28 : decode cX1_init 28 = .ok (.invokespecial 17, 3) := by decide +kernel
theorem dX1_init_31 : decode cX1_init 31 = .ok (.aastore, 1) := by decide +kernel
theorem dX1_init_32 : decode cX1_init 32 = .ok (.iinc 1 1, 3) := by decide +kernel
theorem dX1_init_35 : decode cX1_init 35 = .ok (.goto (-21), 3) := by decide +kernel
theorem dX1_init_38 : decode cX1_init 38 = .ok (.return_, 1) := by decide +kernel
theorem dX1_record_0 : decode cX1_record 0 = .ok (.aload_n 0, 1) := by decide +kernel
theorem dX1_record_1 : decode cX1_record 1 = .ok (.aload_n 0, 1) := by decide +kernel
theorem dX1_record_2 : decode cX1_record 2 = .ok (.getfield 18, 3) := by decide +kernel
theorem dX1_record_5 : decode cX1_record 5 = .ok (.iconst 3, 1) := by decide +kernel
theorem dX1_record_6 : decode cX1_record 6 = .ok (.if_icmp .ge 12, 3) := by decide +kernel
theorem dX1_record_9 : decode cX1_record 9 = .ok (.aload_n 0, 1) := by decide +kernel
theorem dX1_record_10 : decode cX1_record 10 = .ok (.getfield 18, 3) := by decide +kernel
theorem dX1_record_13 : decode cX1_record 13 = .ok (.iconst 1, 1) := by decide +kernel
theorem dX1_record_14 : decode cX1_record 14 = .ok (.iadd, 1) := by decide +kernel
theorem dX1_record_15 : decode cX1_record 15 = .ok (.goto 4, 3) := by decide +kernel
theorem dX1_record_18 : decode cX1_record 18 = .ok (.iconst 0, 1) := by decide +kernel
theorem dX1_record_19 : decode cX1_record 19 = .ok (.putfield 18, 3) := by decide +kernel
theorem dX1_record_22 : decode cX1_record 22 = .ok (.aload_n 0, 1) := by decide +kernel
theorem dX1_record_23 : decode cX1_record 23 = .ok (.getfield 11, 3) := by decide +kernel
theorem dX1_record_26 : decode cX1_record 26 = .ok (.aload_n 0, 1) := by decide +kernel
theorem dX1_record_27 : decode cX1_record 27 = .ok (.getfield 18, 3) := by decide +kernel
theorem dX1_record_30 : decode cX1_record 30 = .ok (.aaload, 1) := by decide +kernel
theorem dX1_record_31 : decode cX1_record 31 = .ok (.aload_n 1, 1) := by decide +kernel
theorem dX1_record_32 : decode cX1_record 32 = .ok (.invokevirtual 22, 3) := by decide +kernel
theorem dX1_record_35 : decode cX1_record 35 = .ok (.aload_n 0, 1) := by decide +kernel
theorem dX1_record_36 : decode cX1_record 36 = .ok (.aload_n 0, 1) := by decide +kernel
theorem dX1_record_37 : decode cX1_record 37 = .ok (.getfield 26, 3) := by decide +kernel
theorem dX1_record_40 : decode cX1_record 40 = .ok (.iconst 1, 1) := by decide +kernel
theorem dX1_record_41 : decode cX1_record 41 = .ok (.iadd, 1) := by decide +kernel
theorem dX1_record_42 : decode cX1_record 42 = .ok (.iconst 4, 1) := by decide +kernel
theorem dX1_record_43 : decode cX1_record 43 = .ok (.invokestatic 29, 3) := by decide +kernel
theorem dX1_record_46 : decode cX1_record 46 = .ok (.putfield 26, 3) := by decide +kernel
theorem dX1_record_49 : decode cX1_record 49 = .ok (.return_, 1) := by decide +kernel
theorem dX1_restore_0 : decode cX1_restore 0 = .ok (.aload_n 1, 1) := by decide +kernel
theorem dX1_restore_1 : decode cX1_restore 1 = .ok (.aload_n 0, 1) := by decide +kernel
theorem dX1_restore_2 : decode cX1_restore 2 = .ok (.getfield 11, 3) := by decide +kernel
theorem dX1_restore_5 : decode cX1_restore 5 = .ok (.aload_n 0, 1) := by decide +kernel
theorem dX1_restore_6 : decode cX1_restore 6 = .ok (.getfield 18, 3) := by decide +kernel
theorem dX1_restore_9 : decode cX1_restore 9 = .ok (.aaload, 1) := by decide +kernel
theorem dX1_restore_10 : decode cX1_restore 10 = .ok (.invokevirtual 22, 3) := by decide +kernel
theorem dX1_restore_13 : decode cX1_restore 13 = .ok (.aload_n 0, 1) := by decide +kernel
theorem dX1_restore_14 : decode cX1_restore 14 = .ok (.aload_n 0, 1) := by decide +kernel
theorem dX1_restore_15 : decode cX1_restore 15 = .ok (.getfield 18, 3) := by decide +kernel
theorem dX1_restore_18 : decode cX1_restore 18 = .ok (.ifCond .le 12, 3) := by decide +kernel
theorem dX1_restore_21 : decode cX1_restore 21 = .ok (.aload_n 0, 1) := by decide +kernel
theorem dX1_restore_22 : decode cX1_restore 22 = .ok (.getfield 18, 3) := by decide +kernel
theorem dX1_restore_25 : decode cX1_restore 25 = .ok (.iconst 1, 1) := by decide +kernel
theorem dX1_restore_26 : decode cX1_restore 26 = .ok (.isub, 1) := by decide +kernel
theorem dX1_restore_27 : decode cX1_restore 27 = .ok (.goto 4, 3) := by decide +kernel
theorem dX1_restore_30 : decode cX1_restore 30 = .ok (.iconst 3, 1) := by decide +kernel
theorem dX1_restore_31 : decode cX1_restore 31 = .ok (.putfield 18, 3) := by decide +kernel
theorem dX1_restore_34 : decode cX1_restore 34 = .ok (.aload_n 0, 1) := by decide +kernel
theorem dX1_restore_35 : decode cX1_restore 35 = .ok (.dup, 1) := by decide +kernel
theorem dX1_restore_36 : decode cX1_restore 36 = .ok (.getfield 26, 3) := by decide +kernel
theorem dX1_restore_39 : decode cX1_restore 39 = .ok (.iconst 1, 1) := by decide +kernel
theorem dX1_restore_40 : decode cX1_restore 40 = .ok (.isub, 1) := by decide +kernel
theorem dX1_restore_41 : decode cX1_restore 41 = .ok (.putfield 26, 3) := by decide +kernel
theorem dX1_restore_44 : decode cX1_restore 44 = .ok (.return_, 1) := by decide +kernel
theorem dX2_init_0 : decode cX2_init 0 = .ok (.aload_n 0, 1) := by decide +kernel
theorem dX2_init_1 : decode cX2_init 1 = .ok (.invokespecial 3, 3) := by decide +kernel
theorem dX2_init_4 : decode cX2_init 4 = .ok (.aload_n 0, 1) := by decide +kernel
theorem dX2_init_5 : decode cX2_init 5 = .ok (.bipush 80, 2) := by decide +kernel
theorem dX2_init_7 : decode cX2_init 7 = .ok (.newarray .char, 2) := by decide +kernel
theorem dX2_init_9 : decode cX2_init 9 = .ok (.putfield 9, 3) := by decide +kernel
theorem dX2_init_12 : decode cX2_init 12 = .ok (.return_, 1) := by decide +kernel
theorem dX2_findFault_0 : decode cX2_findFault 0 = .ok (.aload_n 0, 1) := by decide +kernel
theorem dX2_findFault_1 : decode cX2_findFault 1 = .ok (.invokevirtual 15, 3) := by decide +kernel
theorem dX2_findFault_4 : decode cX2_findFault 4 = .ok (.iconst 0, 1) := by decide +kernel
theorem dX2_findFault_5 : decode cX2_findFault 5 = .ok (.istore_n 1, 1) := by decide +kernel
theorem dX2_findFault_6 : decode cX2_findFault 6 = .ok (.iload_n 1, 1) := by decide +kernel
theorem dX2_findFault_7 : decode cX2_findFault 7 = .ok (.bipush 80, 2) := by decide +kernel
theorem dX2_findFault_9 : decode cX2_findFault 9 = .ok (.if_icmp .gt 33, 3) := by decide +kernel
theorem dX2_findFault_12 : decode cX2_findFault 12 = .ok (.aload_n 0, 1) := by decide +kernel
theorem dX2_findFault_13 : decode cX2_findFault 13 = .ok (.invokevirtual 18, 3) := by decide +kernel
theorem dX2_findFault_16 : decode cX2_findFault 16 = .ok (.ifCond .ne 8, 3) := by decide +kernel
theorem dX2_findFault_19 : decode cX2_findFault 19 = .ok (.aload_n 0, 1) := by decide +kernel
theorem dX2_findFault_20 : decode cX2_findFault 20 = .ok (.getfield 22, 3) := by decide +kernel
theorem dX2_findFault_23 : decode cX2_findFault 23 = .ok (.ireturn, 1) := by decide +kernel
theorem dX2_findFault_24 : decode cX2_findFault 24 = .ok (.aload_n 0, 1) := by decide +kernel
theorem dX2_findFault_25 : decode cX2_findFault 25 = .ok (.bipush 124, 2) := by decide +kernel
theorem dX2_findFault_27 : decode cX2_findFault 27 = .ok (.invokevirtual 26, 3) := by decide +kernel
theorem dX2_findFault_30 : decode cX2_findFault 30 = .ok (.ifCond .ne 6, 3) := by decide +kernel
theorem dX2_findFault_33 : decode cX2_findFault 33 = .ok (.goto 9, 3) := by decide +kernel
theorem dX2_findFault_36 : decode cX2_findFault 36 = .ok (.iinc 1 1, 3) := by decide +kernel
theorem dX2_findFault_39 : decode cX2_findFault 39 = .ok (.goto (-33), 3) := by decide +kernel
theorem dX2_findFault_42 : decode cX2_findFault 42 = .ok (.aload_n 0, 1) := by decide +kernel
theorem dX2_findFault_43 : decode cX2_findFault 43 = .ok (.getfield 22, 3) := by decide +kernel
theorem dX2_findFault_46 : decode cX2_findFault 46 = .ok (.aload_n 0, 1) := by decide +kernel
theorem dX2_findFault_47 : decode cX2_findFault 47 = .ok (.getfield 30, 3) := by decide +kernel
theorem dX2_findFault_50 : decode cX2_findFault 50 = .ok (.if_icmp .ge 10, 3) := by decide +kernel
theorem dX2_findFault_53 : decode cX2_findFault 53 = .ok (.aload_n 0, 1) := by decide +kernel
theorem dX2_findFault_54 : decode cX2_findFault 54 = .ok (.getfield 22, 3) := by decide +kernel
theorem dX2_findFault_57 : decode cX2_findFault 57 = .ok (.goto 5, 3) := by decide +kernel
theorem dX2_findFault_60 : decode cX2_findFault 60 = .ok (.bipush (-6), 2) := by decide +kernel
theorem dX2_findFault_62 : decode cX2_findFault 62 = .ok (.ireturn, 1) := by decide +kernel
theorem dX2_rewind_0 : decode cX2_rewind 0 = .ok (.aload_n 0, 1) := by decide +kernel
theorem dX2_rewind_1 : decode cX2_rewind 1 = .ok (.iconst 0, 1) := by decide +kernel
theorem dX2_rewind_2 : decode cX2_rewind 2 = .ok (.putfield 22, 3) := by decide +kernel
theorem dX2_rewind_5 : decode cX2_rewind 5 = .ok (.return_, 1) := by decide +kernel
theorem dX2_readEntry_0 : decode cX2_readEntry 0 = .ok (.aload_n 0, 1) := by decide +kernel
theorem dX2_readEntry_1 : decode cX2_readEntry 1 = .ok (.aload_n 0, 1) := by decide +kernel
theorem dX2_readEntry_2 : decode cX2_readEntry 2 = .ok (.getfield 22, 3) := by decide +kernel
theorem dX2_readEntry_5 : decode cX2_readEntry 5 = .ok (.putfield 33, 3) := by decide +kernel
theorem dX2_readEntry_8 : decode cX2_readEntry 8 = .ok (.aload_n 0, 1) := by decide +kernel
theorem dX2_readEntry_9 : decode cX2_readEntry 9 = .ok (.aload_n 0, 1) := by decide +kernel
theorem dX2_readEntry_10 : decode cX2_readEntry 10 = .ok (.invokevirtual 36, 3) := by decide +kernel
theorem dX2_readEntry_13 : decode cX2_readEntry 13 = .ok (.putfield 40, 3) := by decide +kernel
theorem dX2_readEntry_16 : decode cX2_readEntry 16 = .ok (.aload_n 0, 1) := by decide +kernel
theorem dX2_readEntry_17 : decode cX2_readEntry 17 = .ok (.getfield 40, 3) := by decide +kernel
theorem dX2_readEntry_20 : decode cX2_readEntry 20 = .ok (.bipush (-6), 2) := by decide +kernel
theorem dX2_readEntry_22 : decode cX2_readEntry 22 = .ok (.if_icmp .eq 12, 3) := by decide +kernel
theorem dX2_readEntry_25 : decode cX2_readEntry 25 = .ok (.aload_n 0, 1) := by decide +kernel
theorem dX2_readEntry_26 : decode cX2_readEntry 26 = .ok (.bipush 45, 2) := by decide +kernel
theorem dX2_readEntry_28 : decode cX2_readEntry 28 = .ok (.invokevirtual 26, 3) := by decide +kernel
theorem dX2_readEntry_31 : decode cX2_readEntry 31 = .ok (.ifCond .ne 5, 3) := by decide +kernel
theorem dX2_readEntry_34 : decode cX2_readEntry 34 = .ok (.iconst 0, 1) := by decide +kernel
theorem dX2_readEntry_35 : decode cX2_readEntry 35 = .ok (.ireturn, 1) := by decide +kernel
theorem dX2_readEntry_36 : decode cX2_readEntry 36 = .ok (.aload_n 0, 1) := by decide +kernel
theorem dX2_readEntry_37 : decode cX2_readEntry 37 = .ok (.aload_n 0, 1) := by decide +kernel
theorem dX2_readEntry_38 : decode cX2_readEntry 38 = .ok (.invokevirtual 36, 3) := by decide +kernel
theorem dX2_readEntry_41 : decode cX2_readEntry 41 = .ok (.putfield 43, 3) := by decide +kernel
theorem dX2_readEntry_44 : decode cX2_readEntry 44 = .ok (.aload_n 0, 1) := by decide +kernel
theorem dX2_readEntry_45 : decode cX2_readEntry 45 = .ok (.getfield 43, 3) := by decide +kernel
theorem dX2_readEntry_48 : decode cX2_readEntry 48 = .ok (.bipush (-6), 2) := by decide +kernel
theorem dX2_readEntry_50 : decode cX2_readEntry 50 = .ok (.if_icmp .eq 12, 3) := by decide +kernel
theorem dX2_readEntry_53 : decode cX2_readEntry 53 = .ok (.aload_n 0, 1) := by decide +kernel
theorem dX2_readEntry_54 : decode cX2_readEntry 54 = .ok (.bipush 58, 2) := by decide +kernel
theorem dX2_readEntry_56 : decode cX2_readEntry 56 = .ok (.invokevirtual 26, 3) := by decide +kernel
theorem dX2_readEntry_59 : decode cX2_readEntry 59 = .ok (.ifCond .ne 5, 3) := by decide +kernel
theorem dX2_readEntry_62 : decode cX2_readEntry 62 = .ok (.iconst 0, 1) := by decide +kernel
theorem dX2_readEntry_63 : decode cX2_readEntry 63 = .ok (.ireturn, 1) := by decide +kernel
theorem dX2_readEntry_64 : decode cX2_readEntry 64 = .ok (.aload_n 0, 1) := by decide +kernel
theorem dX2_readEntry_65 : decode cX2_readEntry 65 = .ok (.invokevirtual 46, 3) := by decide +kernel
theorem dX2_readEntry_68 : decode cX2_readEntry 68 = .ok (.ireturn, 1) := by decide +kernel
theorem dX2_take_0 : decode cX2_take 0 = .ok (.aload_n 0, 1) := by decide +kernel
theorem dX2_take_1 : decode cX2_take 1 = .ok (.getfield 22, 3) := by decide +kernel
theorem dX2_take_4 : decode cX2_take 4 = .ok (.aload_n 0, 1) := by decide +kernel
theorem dX2_take_5 : decode cX2_take 5 = .ok (.getfield 30, 3) := by decide +kernel
theorem dX2_take_8 : decode cX2_take 8 = .ok (.if_icmp .ge 16, 3) := by decide +kernel
theorem dX2_take_11 : decode cX2_take 11 = .ok (.aload_n 0, 1) := by decide +kernel
theorem dX2_take_12 : decode cX2_take 12 = .ok (.getfield 9, 3) := by decide +kernel
theorem dX2_take_15 : decode cX2_take 15 = .ok (.aload_n 0, 1) := by decide +kernel
theorem dX2_take_16 : decode cX2_take 16 = .ok (.getfield 22, 3) := by decide +kernel
theorem dX2_take_19 : decode cX2_take 19 = .ok (.caload, 1) := by decide +kernel
theorem dX2_take_20 : decode cX2_take 20 = .ok (.iload_n 1, 1) := by decide +kernel
theorem dX2_take_21 : decode cX2_take 21 = .ok (.if_icmp .eq 5, 3) := by decide +kernel
theorem dX2_take_24 : decode cX2_take 24 = .ok (.iconst 0, 1) := by decide +kernel
theorem dX2_take_25 : decode cX2_take 25 = .ok (.ireturn, 1) := by decide +kernel
theorem dX2_take_26 : decode cX2_take 26 = .ok (.aload_n 0, 1) := by decide +kernel
theorem dX2_take_27 : decode cX2_take 27 = .ok (.dup, 1) := by decide +kernel
theorem dX2_take_28 : decode cX2_take 28 = .ok (.getfield 22, 3) := by decide +kernel
theorem dX2_take_31 : decode cX2_take 31 = .ok (.iconst 1, 1) := by decide +kernel
theorem dX2_take_32 : decode cX2_take 32 = .ok (.iadd, 1) := by decide +kernel
theorem dX2_take_33 : decode cX2_take 33 = .ok (.putfield 22, 3) := by decide +kernel
theorem dX2_take_36 : decode cX2_take 36 = .ok (.iconst 1, 1) := by decide +kernel
theorem dX2_take_37 : decode cX2_take 37 = .ok (.ireturn, 1) := by decide +kernel
theorem dX2_readNumber_0 : decode cX2_readNumber 0 = .ok (.bipush (-6), 2) := by decide +kernel
theorem dX2_readNumber_2 : decode cX2_readNumber 2 = .ok (.istore_n 1, 1) := by decide +kernel
theorem dX2_readNumber_3 : decode cX2_readNumber 3 = .ok (.aload_n 0, 1) := by decide +kernel
theorem dX2_readNumber_4 : decode cX2_readNumber 4 = .ok (.getfield 22, 3) := by decide +kernel
theorem dX2_readNumber_7 : decode cX2_readNumber 7 = .ok (.aload_n 0, 1) := by decide +kernel
theorem dX2_readNumber_8 : decode cX2_readNumber 8 = .ok (.getfield 30, 3) := by decide +kernel
theorem dX2_readNumber_11 : decode cX2_readNumber 11 = .ok (.if_icmp .ge 76, 3) := by decide +kernel
theorem dX2_readNumber_14 : decode cX2_readNumber 14 = .ok (.aload_n 0, 1) := by decide +kernel
theorem dX2_readNumber_15 : decode cX2_readNumber 15 = .ok (.getfield 9, 3) := by decide +kernel
theorem dX2_readNumber_18 : decode cX2_readNumber 18 = .ok (.aload_n 0, 1) := by decide +kernel
theorem dX2_readNumber_19 : decode cX2_readNumber 19 = .ok (.getfield 22, 3) := by decide +kernel
theorem dX2_readNumber_22 : decode cX2_readNumber 22 = .ok (.caload, 1) := by decide +kernel
theorem dX2_readNumber_23 : decode cX2_readNumber 23 = .ok (.invokestatic 49, 3) := by decide +kernel
theorem dX2_readNumber_26 : decode cX2_readNumber 26 = .ok (.ifCond .eq 61, 3) := by decide +kernel
theorem dX2_readNumber_29 : decode cX2_readNumber 29 = .ok (.aload_n 0, 1) := by decide +kernel
theorem dX2_readNumber_30 : decode cX2_readNumber 30 = .ok (.getfield 9, 3) := by decide +kernel
theorem dX2_readNumber_33 : decode cX2_readNumber 33 = .ok (.aload_n 0, 1) := by decide +kernel
theorem dX2_readNumber_34 : decode cX2_readNumber 34 = .ok (.getfield 22, 3) := by decide +kernel
theorem dX2_readNumber_37 : decode cX2_readNumber 37 = .ok (.caload, 1) := by decide +kernel
theorem dX2_readNumber_38 : decode cX2_readNumber 38 = .ok (.bipush 48, 2) := by decide +kernel
theorem dX2_readNumber_40 : decode cX2_readNumber 40 = .ok (.isub, 1) := by decide +kernel
theorem dX2_readNumber_41 : decode cX2_readNumber 41 = .ok (.istore_n 2, 1) := by decide +kernel
theorem dX2_readNumber_42 : decode cX2_readNumber 42 = .ok (.iload_n 1, 1) := by decide +kernel
theorem dX2_readNumber_43 : decode cX2_readNumber 43 = .ok (.bipush (-6), 2) := by decide +kernel
theorem dX2_readNumber_45 : decode cX2_readNumber 45 = .ok (.if_icmp .ne 7, 3) := by decide +kernel
theorem dX2_readNumber_48 : decode cX2_readNumber 48 = .ok (.iload_n 2, 1) := by decide +kernel
theorem dX2_readNumber_49 : decode cX2_readNumber 49 = .ok (.goto 9, 3) := by decide +kernel
theorem dX2_readNumber_52 : decode cX2_readNumber 52 = .ok (.bipush 10, 2) := by decide +kernel
theorem dX2_readNumber_54 : decode cX2_readNumber 54 = .ok (.iload_n 1, 1) := by decide +kernel
theorem dX2_readNumber_55 : decode cX2_readNumber 55 = .ok (.imul, 1) := by decide +kernel
theorem dX2_readNumber_56 : decode cX2_readNumber 56 = .ok (.iload_n 2, 1) := by decide +kernel
theorem dX2_readNumber_57 : decode cX2_readNumber 57 = .ok (.iadd, 1) := by decide +kernel
theorem dX2_readNumber_58 : decode cX2_readNumber 58 = .ok (.istore_n 3, 1) := by decide +kernel
theorem dX2_readNumber_59 : decode cX2_readNumber 59 = .ok (.iload_n 1, 1) := by decide +kernel
theorem dX2_readNumber_60 : decode cX2_readNumber 60 = .ok (.ifCond .eq 10, 3) := by decide +kernel
theorem dX2_readNumber_63 : decode cX2_readNumber 63 = .ok (.iload_n 3, 1) := by decide +kernel
theorem dX2_readNumber_64 : decode cX2_readNumber 64 = .ok (.sipush 5000, 3) := by decide +kernel
theorem dX2_readNumber_67 : decode cX2_readNumber 67 = .ok (.if_icmp .le 5, 3) := by decide +kernel
theorem dX2_readNumber_70 : decode cX2_readNumber 70 = .ok (.iload_n 1, 1) := by decide +kernel
theorem dX2_readNumber_71 : decode cX2_readNumber 71 = .ok (.ireturn, 1) := by decide +kernel
theorem dX2_readNumber_72 : decode cX2_readNumber 72 = .ok (.iload_n 3, 1) := by decide +kernel
theorem dX2_readNumber_73 : decode cX2_readNumber 73 = .ok (.istore_n 1, 1) := by decide +kernel
theorem dX2_readNumber_74 : decode cX2_readNumber 74 = .ok (.aload_n 0, 1) := by decide +kernel
theorem dX2_readNumber_75 : decode cX2_readNumber 75 = .ok (.dup, 1) := by decide +kernel
theorem dX2_readNumber_76 : decode cX2_readNumber 76 = .ok (.getfield 22, 3) := by decide +kernel
theorem dX2_readNumber_79 : decode cX2_readNumber 79 = .ok (.iconst 1, 1) := by decide +kernel
theorem dX2_readNumber_80 : decode cX2_readNumber 80 = .ok (.iadd, 1) := by decide +kernel
theorem dX2_readNumber_81 : decode cX2_readNumber 81 = .ok (.putfield 22, 3) := by decide +kernel
theorem dX2_readNumber_84 : decode cX2_readNumber 84 = .ok (.goto (-81), 3) := by decide +kernel
theorem dX2_readNumber_87 : decode cX2_readNumber 87 = .ok (.iload_n 1, 1) := by decide +kernel
theorem dX2_readNumber_88 : decode cX2_readNumber 88 = .ok (.ireturn, 1) := by decide +kernel
theorem dX2_readText_0 : decode cX2_readText 0 = .ok (.aload_n 0, 1) := by decide +kernel
theorem dX2_readText_1 : decode cX2_readText 1 = .ok (.aload_n 0, 1) := by decide +kernel
theorem dX2_readText_2 : decode cX2_readText 2 = .ok (.getfield 22, 3) := by decide +kernel
theorem dX2_readText_5 : decode cX2_readText 5 = .ok (.putfield 52, 3) := by decide +kernel
theorem dX2_readText_8 : decode cX2_readText 8 = .ok (.aload_n 0, 1) := by decide +kernel
theorem dX2_readText_9 : decode cX2_readText 9 = .ok (.getfield 22, 3) := by decide +kernel
theorem dX2_readText_12 : decode cX2_readText 12 = .ok (.aload_n 0, 1) := by decide +kernel
theorem dX2_readText_13 : decode cX2_readText 13 = .ok (.getfield 30, 3) := by decide +kernel
theorem dX2_readText_16 : decode cX2_readText 16 = .ok (.if_icmp .ge 32, 3) := by decide +kernel
theorem dX2_readText_19 : decode cX2_readText 19 = .ok (.aload_n 0, 1) := by decide +kernel
theorem dX2_readText_20 : decode cX2_readText 20 = .ok (.aload_n 0, 1) := by decide +kernel
theorem dX2_readText_21 : decode cX2_readText 21 = .ok (.getfield 9, 3) := by decide +kernel
theorem dX2_readText_24 : decode cX2_readText 24 = .ok (.aload_n 0, 1) := by decide +kernel
theorem dX2_readText_25 : decode cX2_readText 25 = .ok (.getfield 22, 3) := by decide +kernel
theorem dX2_readText_28 : decode cX2_readText 28 = .ok (.caload, 1) := by decide +kernel
theorem dX2_readText_29 : decode cX2_readText 29 = .ok (.invokevirtual 55, 3) := by decide +kernel
theorem dX2_readText_32 : decode cX2_readText 32 = .ok (.ifCond .eq 16, 3) := by decide +kernel
theorem dX2_readText_35 : decode cX2_readText 35 = .ok (.aload_n 0, 1) := by decide +kernel
theorem dX2_readText_36 : decode cX2_readText 36 = .ok (.dup, 1) := by decide +kernel
theorem dX2_readText_37 : decode cX2_readText 37 = .ok (.getfield 22, 3) := by decide +kernel
theorem dX2_readText_40 : decode cX2_readText 40 = .ok (.iconst 1, 1) := by decide +kernel
theorem dX2_readText_41 : decode cX2_readText 41 = .ok (.iadd, 1) := by decide +kernel
theorem dX2_readText_42 : decode cX2_readText 42 = .ok (.putfield 22, 3) := by decide +kernel
theorem dX2_readText_45 : decode cX2_readText 45 = .ok (.goto (-37), 3) := by decide +kernel
theorem dX2_readText_48 : decode cX2_readText 48 = .ok (.aload_n 0, 1) := by decide +kernel
theorem dX2_readText_49 : decode cX2_readText 49 = .ok (.aload_n 0, 1) := by decide +kernel
theorem dX2_readText_50 : decode cX2_readText 50 = .ok (.getfield 22, 3) := by decide +kernel
theorem dX2_readText_53 : decode cX2_readText 53 = .ok (.aload_n 0, 1) := by decide +kernel
theorem dX2_readText_54 : decode cX2_readText 54 = .ok (.getfield 52, 3) := by decide +kernel
theorem dX2_readText_57 : decode cX2_readText 57 = .ok (.isub, 1) := by decide +kernel
theorem dX2_readText_58 : decode cX2_readText 58 = .ok (.putfield 58, 3) := by decide +kernel
theorem dX2_readText_61 : decode cX2_readText 61 = .ok (.aload_n 0, 1) := by decide +kernel
theorem dX2_readText_62 : decode cX2_readText 62 = .ok (.getfield 58, 3) := by decide +kernel
theorem dX2_readText_65 : decode cX2_readText 65 = .ok (.ifCond .le 23, 3) := by decide +kernel
theorem dX2_readText_68 : decode cX2_readText 68 = .ok (.aload_n 0, 1) := by decide +kernel
theorem dX2_readText_69 : decode cX2_readText 69 = .ok (.getfield 9, 3) := by decide +kernel
theorem dX2_readText_72 : decode cX2_readText 72 = .ok (.aload_n 0, 1) := by decide +kernel
theorem dX2_readText_73 : decode cX2_readText 73 = .ok (.getfield 22, 3) := by decide +kernel
theorem dX2_readText_76 : decode cX2_readText 76 = .ok (.iconst 1, 1) := by decide +kernel
theorem dX2_readText_77 : decode cX2_readText 77 = .ok (.isub, 1) := by decide +kernel
theorem dX2_readText_78 : decode cX2_readText 78 = .ok (.caload, 1) := by decide +kernel
theorem dX2_readText_79 : decode cX2_readText 79 = .ok (.bipush 32, 2) := by decide +kernel
theorem dX2_readText_81 : decode cX2_readText 81 = .ok (.if_icmp .eq 7, 3) := by decide +kernel
theorem dX2_readText_84 : decode cX2_readText 84 = .ok (.iconst 1, 1) := by decide +kernel
theorem dX2_readText_85 : decode cX2_readText 85 = .ok (.goto 4, 3) := by decide +kernel
theorem dX2_readText_88 : decode cX2_readText 88 = .ok (.iconst 0, 1) := by decide +kernel
theorem dX2_readText_89 : decode cX2_readText 89 = .ok (.ireturn, 1) := by decide +kernel
theorem dX2_mayFollowInText_0 : decode cX2_mayFollowInText 0 = .ok (.aload_n 0, 1) := by decide +kernel
theorem dX2_mayFollowInText_1 : decode cX2_mayFollowInText 1 = .ok (.getfield 22, 3) := by decide +kernel
theorem dX2_mayFollowInText_4 : decode cX2_mayFollowInText 4 = .ok (.aload_n 0, 1) := by decide +kernel
theorem dX2_mayFollowInText_5 : decode cX2_mayFollowInText 5 = .ok (.getfield 52, 3) := by decide +kernel
theorem dX2_mayFollowInText_8 : decode cX2_mayFollowInText 8 = .ok (.isub, 1) := by decide +kernel
theorem dX2_mayFollowInText_9 : decode cX2_mayFollowInText 9 = .ok (.istore_n 2, 1) := by decide +kernel
theorem dX2_mayFollowInText_10 : decode cX2_mayFollowInText 10 = .ok (.iload_n 1, 1) := by decide +kernel
theorem dX2_mayFollowInText_11 : decode cX2_mayFollowInText 11 = .ok (.bipush 32, 2) := by decide +kernel
theorem dX2_mayFollowInText_13 : decode cX2_mayFollowInText 13 = .ok (.if_icmp .ne 35, 3) := by decide +kernel
theorem dX2_mayFollowInText_16 : decode cX2_mayFollowInText 16 = .ok (.iload_n 2, 1) := by decide +kernel
theorem dX2_mayFollowInText_17 : decode cX2_mayFollowInText 17 = .ok (.ifCond .le 29, 3) := by decide +kernel
theorem dX2_mayFollowInText_20 : decode cX2_mayFollowInText 20 = .ok (.iload_n 2, 1) := by decide +kernel
theorem dX2_mayFollowInText_21 : decode cX2_mayFollowInText 21 = .ok (.bipush 39, 2) := by decide +kernel
theorem dX2_mayFollowInText_23 : decode cX2_mayFollowInText 23 = .ok (.if_icmp .ge 23, 3) := by decide +kernel
theorem dX2_mayFollowInText_26 : decode cX2_mayFollowInText 26 = .ok (.aload_n 0, 1) := by decide +kernel
theorem dX2_mayFollowInText_27 : decode cX2_mayFollowInText 27 = .ok (.getfield 9, 3) := by decide +kernel
theorem dX2_mayFollowInText_30 : decode cX2_mayFollowInText 30 = .ok (.aload_n 0, 1) := by decide +kernel
theorem dX2_mayFollowInText_31 : decode cX2_mayFollowInText 31 = .ok (.getfield 22, 3) := by decide +kernel
theorem dX2_mayFollowInText_34 : decode cX2_mayFollowInText 34 = .ok (.iconst 1, 1) := by decide +kernel
theorem dX2_mayFollowInText_35 : decode cX2_mayFollowInText 35 = .ok (.isub, 1) := by decide +kernel
theorem dX2_mayFollowInText_36 : decode cX2_mayFollowInText 36 = .ok (.caload, 1) := by decide +kernel
theorem dX2_mayFollowInText_37 : decode cX2_mayFollowInText 37 = .ok (.bipush 32, 2) := by decide +kernel
theorem dX2_mayFollowInText_39 : decode cX2_mayFollowInText 39 = .ok (.if_icmp .eq 7, 3) := by decide +kernel
theorem dX2_mayFollowInText_42 : decode cX2_mayFollowInText 42 = .ok (.iconst 1, 1) := by decide +kernel
theorem dX2_mayFollowInText_43 : decode cX2_mayFollowInText 43 = .ok (.goto 4, 3) := by decide +kernel
theorem dX2_mayFollowInText_46 : decode cX2_mayFollowInText 46 = .ok (.iconst 0, 1) := by decide +kernel
theorem dX2_mayFollowInText_47 : decode cX2_mayFollowInText 47 = .ok (.ireturn, 1) := by decide +kernel
theorem dX2_mayFollowInText_48 : decode cX2_mayFollowInText 48 = .ok (.iload_n 2, 1) := by decide +kernel
theorem dX2_mayFollowInText_49 : decode cX2_mayFollowInText 49 = .ok (.bipush 40, 2) := by decide +kernel
theorem dX2_mayFollowInText_51 : decode cX2_mayFollowInText 51 = .ok (.if_icmp .ge 14, 3) := by decide +kernel
theorem dX2_mayFollowInText_54 : decode cX2_mayFollowInText 54 = .ok (.iload_n 1, 1) := by decide +kernel
theorem dX2_mayFollowInText_55 : decode cX2_mayFollowInText 55 = .ok (.invokestatic 61, 3) := by decide +kernel
theorem dX2_mayFollowInText_58 : decode cX2_mayFollowInText 58 = .ok (.ifCond .eq 7, 3) := by decide +kernel
theorem dX2_mayFollowInText_61 : decode cX2_mayFollowInText 61 = .ok (.iconst 1, 1) := by decide +kernel
theorem dX2_mayFollowInText_62 : decode cX2_mayFollowInText 62 = .ok (.goto 4, 3) := by decide +kernel
theorem dX2_mayFollowInText_65 : decode cX2_mayFollowInText 65 = .ok (.iconst 0, 1) := by decide +kernel
theorem dX2_mayFollowInText_66 : decode cX2_mayFollowInText 66 = .ok (.ireturn, 1) := by decide +kernel
theorem dX2_isDigit_0 : decode cX2_isDigit 0 = .ok (.iload_n 0, 1) := by decide +kernel
theorem dX2_isDigit_1 : decode cX2_isDigit 1 = .ok (.bipush 48, 2) := by decide +kernel
theorem dX2_isDigit_3 : decode cX2_isDigit 3 = .ok (.if_icmp .lt 13, 3) := by decide +kernel
theorem dX2_isDigit_6 : decode cX2_isDigit 6 = .ok (.iload_n 0, 1) := by decide +kernel
theorem dX2_isDigit_7 : decode cX2_isDigit 7 = .ok (.bipush 57, 2) := by decide +kernel
theorem dX2_isDigit_9 : decode cX2_isDigit 9 = .ok (.if_icmp .gt 7, 3) := by decide +kernel
theorem dX2_isDigit_12 : decode cX2_isDigit 12 = .ok (.iconst 1, 1) := by decide +kernel
theorem dX2_isDigit_13 : decode cX2_isDigit 13 = .ok (.goto 4, 3) := by decide +kernel
theorem dX2_isDigit_16 : decode cX2_isDigit 16 = .ok (.iconst 0, 1) := by decide +kernel
theorem dX2_isDigit_17 : decode cX2_isDigit 17 = .ok (.ireturn, 1) := by decide +kernel
theorem dX2_isSign_0 : decode cX2_isSign 0 = .ok (.iload_n 0, 1) := by decide +kernel
theorem dX2_isSign_1 : decode cX2_isSign 1 = .ok (.bipush 97, 2) := by decide +kernel
theorem dX2_isSign_3 : decode cX2_isSign 3 = .ok (.if_icmp .lt 9, 3) := by decide +kernel
theorem dX2_isSign_6 : decode cX2_isSign 6 = .ok (.iload_n 0, 1) := by decide +kernel
theorem dX2_isSign_7 : decode cX2_isSign 7 = .ok (.bipush 122, 2) := by decide +kernel
theorem dX2_isSign_9 : decode cX2_isSign 9 = .ok (.if_icmp .le 15, 3) := by decide +kernel
theorem dX2_isSign_12 : decode cX2_isSign 12 = .ok (.iload_n 0, 1) := by decide +kernel
theorem dX2_isSign_13 : decode cX2_isSign 13 = .ok (.bipush 44, 2) := by decide +kernel
theorem dX2_isSign_15 : decode cX2_isSign 15 = .ok (.if_icmp .eq 9, 3) := by decide +kernel
theorem dX2_isSign_18 : decode cX2_isSign 18 = .ok (.iload_n 0, 1) := by decide +kernel
theorem dX2_isSign_19 : decode cX2_isSign 19 = .ok (.bipush 46, 2) := by decide +kernel
theorem dX2_isSign_21 : decode cX2_isSign 21 = .ok (.if_icmp .ne 7, 3) := by decide +kernel
theorem dX2_isSign_24 : decode cX2_isSign 24 = .ok (.iconst 1, 1) := by decide +kernel
theorem dX2_isSign_25 : decode cX2_isSign 25 = .ok (.goto 4, 3) := by decide +kernel
theorem dX2_isSign_28 : decode cX2_isSign 28 = .ok (.iconst 0, 1) := by decide +kernel
theorem dX2_isSign_29 : decode cX2_isSign 29 = .ok (.ireturn, 1) := by decide +kernel
theorem dX3_init_0 : decode cX3_init 0 = .ok (.aload_n 0, 1) := by decide +kernel
theorem dX3_init_1 : decode cX3_init 1 = .ok (.invokespecial 3, 3) := by decide +kernel
theorem dX3_init_4 : decode cX3_init 4 = .ok (.aload_n 0, 1) := by decide +kernel
theorem dX3_init_5 : decode cX3_init 5 = .ok (.bipush 40, 2) := by decide +kernel
theorem dX3_init_7 : decode cX3_init 7 = .ok (.newarray .char, 2) := by decide +kernel
theorem dX3_init_9 : decode cX3_init 9 = .ok (.putfield 9, 3) := by decide +kernel
theorem dX3_init_12 : decode cX3_init 12 = .ok (.return_, 1) := by decide +kernel
theorem dX3_copyFrom_0 : decode cX3_copyFrom 0 = .ok (.aload_n 0, 1) := by decide +kernel
theorem dX3_copyFrom_1 : decode cX3_copyFrom 1 = .ok (.aload_n 1, 1) := by decide +kernel
theorem dX3_copyFrom_2 : decode cX3_copyFrom 2 = .ok (.getfield 15, 3) := by decide +kernel
theorem dX3_copyFrom_5 : decode cX3_copyFrom 5 = .ok (.putfield 15, 3) := by decide +kernel
theorem dX3_copyFrom_8 : decode cX3_copyFrom 8 = .ok (.aload_n 0, 1) := by decide +kernel
theorem dX3_copyFrom_9 : decode cX3_copyFrom 9 = .ok (.aload_n 1, 1) := by decide +kernel
theorem dX3_copyFrom_10 : decode cX3_copyFrom 10 = .ok (.getfield 19, 3) := by decide +kernel
theorem dX3_copyFrom_13 : decode cX3_copyFrom 13 = .ok (.putfield 19, 3) := by decide +kernel
theorem dX3_copyFrom_16 : decode cX3_copyFrom 16 = .ok (.aload_n 0, 1) := by decide +kernel
theorem dX3_copyFrom_17 : decode cX3_copyFrom 17 = .ok (.aload_n 1, 1) := by decide +kernel
theorem dX3_copyFrom_18 : decode cX3_copyFrom 18 = .ok (.getfield 9, 3) := by decide +kernel
theorem dX3_copyFrom_21 : decode cX3_copyFrom 21 = .ok (.iconst 0, 1) := by decide +kernel
theorem dX3_copyFrom_22 : decode cX3_copyFrom 22 = .ok (.aload_n 1, 1) := by decide +kernel
theorem dX3_copyFrom_23 : decode cX3_copyFrom 23 = .ok (.getfield 22, 3) := by decide +kernel
theorem dX3_copyFrom_26 : decode cX3_copyFrom 26 = .ok (.invokevirtual 25, 3) := by decide +kernel
theorem dX3_copyFrom_29 : decode cX3_copyFrom 29 = .ok (.return_, 1) := by decide +kernel
theorem dX3_takeText_0 : decode cX3_takeText 0 = .ok (.aload_n 1, 1) := by decide +kernel
theorem dX3_takeText_1 : decode cX3_takeText 1 = .ok (.iload_n 2, 1) := by decide +kernel
theorem dX3_takeText_2 : decode cX3_takeText 2 = .ok (.aload_n 0, 1) := by decide +kernel
theorem dX3_takeText_3 : decode cX3_takeText 3 = .ok (.getfield 9, 3) := by decide +kernel
theorem dX3_takeText_6 : decode cX3_takeText 6 = .ok (.iconst 0, 1) := by decide +kernel
theorem dX3_takeText_7 : decode cX3_takeText 7 = .ok (.iload_n 3, 1) := by decide +kernel
theorem dX3_takeText_8 : decode cX3_takeText 8 = .ok (.invokestatic 29, 3) := by decide +kernel
theorem dX3_takeText_11 : decode cX3_takeText 11 = .ok (.aload_n 0, 1) := by decide +kernel
theorem dX3_takeText_12 : decode cX3_takeText 12 = .ok (.iload_n 3, 1) := by decide +kernel
theorem dX3_takeText_13 : decode cX3_takeText 13 = .ok (.putfield 22, 3) := by decide +kernel
theorem dX3_takeText_16 : decode cX3_takeText 16 = .ok (.return_, 1) := by decide +kernel
theorem dX3_frames_0 : decode cX3_frames 0 = .ok (.aload_n 0, 1) := by decide +kernel
theorem dX3_frames_1 : decode cX3_frames 1 = .ok (.getfield 19, 3) := by decide +kernel
theorem dX3_frames_4 : decode cX3_frames 4 = .ok (.aload_n 0, 1) := by decide +kernel
theorem dX3_frames_5 : decode cX3_frames 5 = .ok (.getfield 15, 3) := by decide +kernel
theorem dX3_frames_8 : decode cX3_frames 8 = .ok (.isub, 1) := by decide +kernel
theorem dX3_frames_9 : decode cX3_frames 9 = .ok (.ireturn, 1) := by decide +kernel
theorem dX3_isTooFastFor_0 : decode cX3_isTooFastFor 0 = .ok (.bipush 25, 2) := by decide +kernel
theorem dX3_isTooFastFor_2 : decode cX3_isTooFastFor 2 = .ok (.aload_n 0, 1) := by decide +kernel
theorem dX3_isTooFastFor_3 : decode cX3_isTooFastFor 3 = .ok (.getfield 22, 3) := by decide +kernel
theorem dX3_isTooFastFor_6 : decode cX3_isTooFastFor 6 = .ok (.imul, 1) := by decide +kernel
theorem dX3_isTooFastFor_7 : decode cX3_isTooFastFor 7 = .ok (.iload_n 1, 1) := by decide +kernel
theorem dX3_isTooFastFor_8 : decode cX3_isTooFastFor 8 = .ok (.aload_n 0, 1) := by decide +kernel
theorem dX3_isTooFastFor_9 : decode cX3_isTooFastFor 9 = .ok (.invokevirtual 35, 3) := by decide +kernel
theorem dX3_isTooFastFor_12 : decode cX3_isTooFastFor 12 = .ok (.imul, 1) := by decide +kernel
theorem dX3_isTooFastFor_13 : decode cX3_isTooFastFor 13 = .ok (.if_icmp .le 7, 3) := by decide +kernel
theorem dX3_isTooFastFor_16 : decode cX3_isTooFastFor 16 = .ok (.iconst 1, 1) := by decide +kernel
theorem dX3_isTooFastFor_17 : decode cX3_isTooFastFor 17 = .ok (.goto 4, 3) := by decide +kernel
theorem dX3_isTooFastFor_20 : decode cX3_isTooFastFor 20 = .ok (.iconst 0, 1) := by decide +kernel
theorem dX3_isTooFastFor_21 : decode cX3_isTooFastFor 21 = .ok (.ireturn, 1) := by decide +kernel
theorem dX3_bestBlank_0 : decode cX3_bestBlank 0 = .ok (.bipush (-6), 2) := by decide +kernel
theorem dX3_bestBlank_2 : decode cX3_bestBlank 2 = .ok (.istore_n 1, 1) := by decide +kernel
theorem dX3_bestBlank_3 : decode cX3_bestBlank 3 = .ok (.iconst 0, 1) := by decide +kernel
theorem dX3_bestBlank_4 : decode cX3_bestBlank 4 = .ok (.istore_n 2, 1) := by decide +kernel
theorem dX3_bestBlank_5 : decode cX3_bestBlank 5 = .ok (.iconst 0, 1) := by decide +kernel
theorem dX3_bestBlank_6 : decode cX3_bestBlank 6 = .ok (.istore_n 3, 1) := by decide +kernel
theorem dX3_bestBlank_7 : decode cX3_bestBlank 7 = .ok (.iconst 1, 1) := by decide +kernel
theorem dX3_bestBlank_8 : decode cX3_bestBlank 8 = .ok (.istore 4, 2) := by decide +kernel
theorem dX3_bestBlank_10 : decode cX3_bestBlank 10 = .ok (.iload 4, 2) := by decide +kernel
theorem dX3_bestBlank_12 : decode cX3_bestBlank 12 = .ok (.aload_n 0, 1) := by decide +kernel
theorem dX3_bestBlank_13 : decode cX3_bestBlank 13 = .ok (.getfield 22, 3) := by decide +kernel
theorem dX3_bestBlank_16 : decode cX3_bestBlank 16 = .ok (.if_icmp .ge 81, 3) := by decide +kernel
theorem dX3_bestBlank_19 : decode cX3_bestBlank 19 = .ok (.aload_n 0, 1) := by decide +kernel
theorem dX3_bestBlank_20 : decode cX3_bestBlank 20 = .ok (.getfield 9, 3) := by decide +kernel
theorem dX3_bestBlank_23 : decode cX3_bestBlank 23 = .ok (.iload 4, 2) := by decide +kernel
theorem dX3_bestBlank_25 : decode cX3_bestBlank 25 = .ok (.caload, 1) := by decide +kernel
theorem dX3_bestBlank_26 : decode cX3_bestBlank 26 = .ok (.bipush 32, 2) := by decide +kernel
theorem dX3_bestBlank_28 : decode cX3_bestBlank 28 = .ok (.if_icmp .eq 6, 3) := by decide +kernel
theorem dX3_bestBlank_31 : decode cX3_bestBlank 31 = .ok (.goto 60, 3) := by decide +kernel
theorem dX3_bestBlank_34 : decode cX3_bestBlank 34 = .ok (.aload_n 0, 1) := by decide +kernel
theorem dX3_bestBlank_35 : decode cX3_bestBlank 35 = .ok (.getfield 9, 3) := by decide +kernel
theorem dX3_bestBlank_38 : decode cX3_bestBlank 38 = .ok (.iload 4, 2) := by decide +kernel
theorem dX3_bestBlank_40 : decode cX3_bestBlank 40 = .ok (.iconst 1, 1) := by decide +kernel
theorem dX3_bestBlank_41 : decode cX3_bestBlank 41 = .ok (.isub, 1) := by decide +kernel
theorem dX3_bestBlank_42 : decode cX3_bestBlank 42 = .ok (.caload, 1) := by decide +kernel
theorem dX3_bestBlank_43 : decode cX3_bestBlank 43 = .ok (.invokestatic 39, 3) := by decide +kernel
theorem dX3_bestBlank_46 : decode cX3_bestBlank 46 = .ok (.istore 5, 2) := by decide +kernel
theorem dX3_bestBlank_48 : decode cX3_bestBlank 48 = .ok (.iconst 2, 1) := by decide +kernel
theorem dX3_bestBlank_49 : decode cX3_bestBlank 49 = .ok (.iload 4, 2) := by decide +kernel
theorem dX3_bestBlank_51 : decode cX3_bestBlank 51 = .ok (.imul, 1) := by decide +kernel
theorem dX3_bestBlank_52 : decode cX3_bestBlank 52 = .ok (.aload_n 0, 1) := by decide +kernel
theorem dX3_bestBlank_53 : decode cX3_bestBlank 53 = .ok (.getfield 22, 3) := by decide +kernel
theorem dX3_bestBlank_56 : decode cX3_bestBlank 56 = .ok (.iconst 1, 1) := by decide +kernel
theorem dX3_bestBlank_57 : decode cX3_bestBlank 57 = .ok (.isub, 1) := by decide +kernel
theorem dX3_bestBlank_58 : decode cX3_bestBlank 58 = .ok (.isub, 1) := by decide +kernel
theorem dX3_bestBlank_59 : decode cX3_bestBlank 59 = .ok (.invokestatic 43, 3) := by decide +kernel
theorem dX3_bestBlank_62 : decode cX3_bestBlank 62 = .ok (.istore 6, 2) := by decide +kernel
theorem dX3_bestBlank_64 : decode cX3_bestBlank 64 = .ok (.iload 5, 2) := by decide +kernel
theorem dX3_bestBlank_66 : decode cX3_bestBlank 66 = .ok (.iload_n 2, 1) := by decide +kernel
theorem dX3_bestBlank_67 : decode cX3_bestBlank 67 = .ok (.if_icmp .gt 15, 3) := by decide +kernel
theorem dX3_bestBlank_70 : decode cX3_bestBlank 70 = .ok (.iload 5, 2) := by decide +kernel
theorem dX3_bestBlank_72 : decode cX3_bestBlank 72 = .ok (.iload_n 2, 1) := by decide +kernel
theorem dX3_bestBlank_73 : decode cX3_bestBlank 73 = .ok (.if_icmp .ne 18, 3) := by decide +kernel
theorem dX3_bestBlank_76 : decode cX3_bestBlank 76 = .ok (.iload 6, 2) := by decide +kernel
theorem dX3_bestBlank_78 : decode cX3_bestBlank 78 = .ok (.iload_n 3, 1) := by decide +kernel
theorem dX3_bestBlank_79 : decode cX3_bestBlank 79 = .ok (.if_icmp .ge 12, 3) := by decide +kernel
theorem dX3_bestBlank_82 : decode cX3_bestBlank 82 = .ok (.iload 4, 2) := by decide +kernel
theorem dX3_bestBlank_84 : decode cX3_bestBlank 84 = .ok (.istore_n 1, 1) := by decide +kernel
theorem dX3_bestBlank_85 : decode cX3_bestBlank 85 = .ok (.iload 5, 2) := by decide +kernel
theorem dX3_bestBlank_87 : decode cX3_bestBlank 87 = .ok (.istore_n 2, 1) := by decide +kernel
theorem dX3_bestBlank_88 : decode cX3_bestBlank 88 = .ok (.iload 6, 2) := by decide +kernel
theorem dX3_bestBlank_90 : decode cX3_bestBlank 90 = .ok (.istore_n 3, 1) := by decide +kernel
theorem dX3_bestBlank_91 : decode cX3_bestBlank 91 = .ok (.iinc 4 1, 3) := by decide +kernel
theorem dX3_bestBlank_94 : decode cX3_bestBlank 94 = .ok (.goto (-84), 3) := by decide +kernel
theorem dX3_bestBlank_97 : decode cX3_bestBlank 97 = .ok (.iload_n 1, 1) := by decide +kernel
theorem dX3_bestBlank_98 : decode cX3_bestBlank 98 = .ok (.ireturn, 1) := by decide +kernel
theorem dX3_kindOfBlankBehind_0 : decode cX3_kindOfBlankBehind 0 = .ok (.iload_n 0, 1) := by decide +kernel
theorem dX3_kindOfBlankBehind_1 : decode cX3_kindOfBlankBehind 1 = .ok (.bipush 46, 2) := by decide +kernel
theorem dX3_kindOfBlankBehind_3 : decode cX3_kindOfBlankBehind 3 = .ok (.if_icmp .ne 5, 3) := by decide +kernel
theorem dX3_kindOfBlankBehind_6 : decode cX3_kindOfBlankBehind 6 = .ok (.iconst 3, 1) := by decide +kernel
theorem dX3_kindOfBlankBehind_7 : decode cX3_kindOfBlankBehind 7 = .ok (.ireturn, 1) := by decide +kernel
theorem dX3_kindOfBlankBehind_8 : decode cX3_kindOfBlankBehind 8 = .ok (.iload_n 0, 1) := by decide +kernel
theorem dX3_kindOfBlankBehind_9 : decode cX3_kindOfBlankBehind 9 = .ok (.bipush 44, 2) := by decide +kernel
theorem dX3_kindOfBlankBehind_11 : decode cX3_kindOfBlankBehind 11 = .ok (.if_icmp .ne 7, 3) := by decide +kernel
theorem dX3_kindOfBlankBehind_14 : decode cX3_kindOfBlankBehind 14 = .ok (.iconst 2, 1) := by decide +kernel
theorem dX3_kindOfBlankBehind_15 : decode cX3_kindOfBlankBehind 15 = .ok (.goto 4, 3) := by decide +kernel
theorem dX3_kindOfBlankBehind_18 : decode cX3_kindOfBlankBehind 18 = .ok (.iconst 1, 1) := by decide +kernel
theorem dX3_kindOfBlankBehind_19 : decode cX3_kindOfBlankBehind 19 = .ok (.ireturn, 1) := by decide +kernel
theorem dX3_lineEnd_0 : decode cX3_lineEnd 0 = .ok (.aload_n 0, 1) := by decide +kernel
theorem dX3_lineEnd_1 : decode cX3_lineEnd 1 = .ok (.getfield 22, 3) := by decide +kernel
theorem dX3_lineEnd_4 : decode cX3_lineEnd 4 = .ok (.istore_n 3, 1) := by decide +kernel
theorem dX3_lineEnd_5 : decode cX3_lineEnd 5 = .ok (.iconst 0, 1) := by decide +kernel
theorem dX3_lineEnd_6 : decode cX3_lineEnd 6 = .ok (.istore 4, 2) := by decide +kernel
theorem dX3_lineEnd_8 : decode cX3_lineEnd 8 = .ok (.iload_n 1, 1) := by decide +kernel
theorem dX3_lineEnd_9 : decode cX3_lineEnd 9 = .ok (.iconst 1, 1) := by decide +kernel
theorem dX3_lineEnd_10 : decode cX3_lineEnd 10 = .ok (.iadd, 1) := by decide +kernel
theorem dX3_lineEnd_11 : decode cX3_lineEnd 11 = .ok (.istore 5, 2) := by decide +kernel
theorem dX3_lineEnd_13 : decode cX3_lineEnd 13 = .ok (.iload 5, 2) := by decide +kernel
theorem dX3_lineEnd_15 : decode cX3_lineEnd 15 = .ok (.aload_n 0, 1) := by decide +kernel
theorem dX3_lineEnd_16 : decode cX3_lineEnd 16 = .ok (.getfield 22, 3) := by decide +kernel
theorem dX3_lineEnd_19 : decode cX3_lineEnd 19 = .ok (.if_icmp .gt 55, 3) := by decide +kernel
theorem dX3_lineEnd_22 : decode cX3_lineEnd 22 = .ok (.iload 5, 2) := by decide +kernel
theorem dX3_lineEnd_24 : decode cX3_lineEnd 24 = .ok (.aload_n 0, 1) := by decide +kernel
theorem dX3_lineEnd_25 : decode cX3_lineEnd 25 = .ok (.getfield 22, 3) := by decide +kernel
theorem dX3_lineEnd_28 : decode cX3_lineEnd 28 = .ok (.if_icmp .ge 18, 3) := by decide +kernel
theorem dX3_lineEnd_31 : decode cX3_lineEnd 31 = .ok (.aload_n 0, 1) := by decide +kernel
theorem dX3_lineEnd_32 : decode cX3_lineEnd 32 = .ok (.getfield 9, 3) := by decide +kernel
theorem dX3_lineEnd_35 : decode cX3_lineEnd 35 = .ok (.iload 5, 2) := by decide +kernel
theorem dX3_lineEnd_37 : decode cX3_lineEnd 37 = .ok (.caload, 1) := by decide +kernel
theorem dX3_lineEnd_38 : decode cX3_lineEnd 38 = .ok (.bipush 32, 2) := by decide +kernel
theorem dX3_lineEnd_40 : decode cX3_lineEnd 40 = .ok (.if_icmp .eq 6, 3) := by decide +kernel
theorem dX3_lineEnd_43 : decode cX3_lineEnd 43 = .ok (.goto 25, 3) := by decide +kernel
theorem dX3_lineEnd_46 : decode cX3_lineEnd 46 = .ok (.iload 4, 2) := by decide +kernel
theorem dX3_lineEnd_48 : decode cX3_lineEnd 48 = .ok (.ifCond .eq 14, 3) := by decide +kernel
theorem dX3_lineEnd_51 : decode cX3_lineEnd 51 = .ok (.iload 5, 2) := by decide +kernel
theorem dX3_lineEnd_53 : decode cX3_lineEnd 53 = .ok (.iload_n 1, 1) := by decide +kernel
theorem dX3_lineEnd_54 : decode cX3_lineEnd 54 = .ok (.isub, 1) := by decide +kernel
theorem dX3_lineEnd_55 : decode cX3_lineEnd 55 = .ok (.iload_n 2, 1) := by decide +kernel
theorem dX3_lineEnd_56 : decode cX3_lineEnd 56 = .ok (.if_icmp .le 6, 3) := by decide +kernel
theorem dX3_lineEnd_59 : decode cX3_lineEnd 59 = .ok (.goto 15, 3) := by decide +kernel
theorem dX3_lineEnd_62 : decode cX3_lineEnd 62 = .ok (.iload 5, 2) := by decide +kernel
theorem dX3_lineEnd_64 : decode cX3_lineEnd 64 = .ok (.istore_n 3, 1) := by decide +kernel
theorem dX3_lineEnd_65 : decode cX3_lineEnd 65 = .ok (.iconst 1, 1) := by decide +kernel
theorem dX3_lineEnd_66 : decode cX3_lineEnd 66 = .ok (.istore 4, 2) := by decide +kernel
theorem dX3_lineEnd_68 : decode cX3_lineEnd 68 = .ok (.iinc 5 1, 3) := by decide +kernel
theorem dX3_lineEnd_71 : decode cX3_lineEnd 71 = .ok (.goto (-58), 3) := by decide +kernel
theorem dX3_lineEnd_74 : decode cX3_lineEnd 74 = .ok (.iload_n 3, 1) := by decide +kernel
theorem dX3_lineEnd_75 : decode cX3_lineEnd 75 = .ok (.ireturn, 1) := by decide +kernel
theorem dX3_lineCount_0 : decode cX3_lineCount 0 = .ok (.iconst 0, 1) := by decide +kernel
theorem dX3_lineCount_1 : decode cX3_lineCount 1 = .ok (.istore_n 2, 1) := by decide +kernel
theorem dX3_lineCount_2 : decode cX3_lineCount 2 = .ok (.iconst 0, 1) := by decide +kernel
theorem dX3_lineCount_3 : decode cX3_lineCount 3 = .ok (.istore_n 3, 1) := by decide +kernel
theorem dX3_lineCount_4 : decode cX3_lineCount 4 = .ok (.iload_n 3, 1) := by decide +kernel
theorem dX3_lineCount_5 : decode cX3_lineCount 5 = .ok (.aload_n 0, 1) := by decide +kernel
theorem dX3_lineCount_6 : decode cX3_lineCount 6 = .ok (.getfield 22, 3) := by decide +kernel
theorem dX3_lineCount_9 : decode cX3_lineCount 9 = .ok (.if_icmp .ge 24, 3) := by decide +kernel
theorem dX3_lineCount_12 : decode cX3_lineCount 12 = .ok (.iload_n 2, 1) := by decide +kernel
theorem dX3_lineCount_13 : decode cX3_lineCount 13 = .ok (.bipush 40, 2) := by decide +kernel
theorem dX3_lineCount_15 : decode cX3_lineCount 15 = .ok (.if_icmp .ge 18, 3) := by decide +kernel
theorem dX3_lineCount_18 : decode cX3_lineCount 18 = .ok (.iinc 2 1, 3) := by decide +kernel
theorem dX3_lineCount_21 : decode cX3_lineCount 21 = .ok (.aload_n 0, 1) := by decide +kernel
theorem dX3_lineCount_22 : decode cX3_lineCount 22 = .ok (.iload_n 3, 1) := by decide +kernel
theorem dX3_lineCount_23 : decode cX3_lineCount 23 = .ok (.iload_n 1, 1) := by decide +kernel
theorem dX3_lineCount_24 : decode cX3_lineCount 24 = .ok (.invokevirtual 49, 3) := by decide +kernel
theorem dX3_lineCount_27 : decode cX3_lineCount 27 = .ok (.iconst 1, 1) := by decide +kernel
theorem dX3_lineCount_28 : decode cX3_lineCount 28 = .ok (.iadd, 1) := by decide +kernel
theorem dX3_lineCount_29 : decode cX3_lineCount 29 = .ok (.istore_n 3, 1) := by decide +kernel
theorem dX3_lineCount_30 : decode cX3_lineCount 30 = .ok (.goto (-26), 3) := by decide +kernel
theorem dX3_lineCount_33 : decode cX3_lineCount 33 = .ok (.iload_n 2, 1) := by decide +kernel
theorem dX3_lineCount_34 : decode cX3_lineCount 34 = .ok (.ireturn, 1) := by decide +kernel
theorem dX3_lineLength_0 : decode cX3_lineLength 0 = .ok (.iconst 0, 1) := by decide +kernel
theorem dX3_lineLength_1 : decode cX3_lineLength 1 = .ok (.istore_n 3, 1) := by decide +kernel
theorem dX3_lineLength_2 : decode cX3_lineLength 2 = .ok (.iconst 0, 1) := by decide +kernel
theorem dX3_lineLength_3 : decode cX3_lineLength 3 = .ok (.istore 4, 2) := by decide +kernel
theorem dX3_lineLength_5 : decode cX3_lineLength 5 = .ok (.iload 4, 2) := by decide +kernel
theorem dX3_lineLength_7 : decode cX3_lineLength 7 = .ok (.iload_n 1, 1) := by decide +kernel
theorem dX3_lineLength_8 : decode cX3_lineLength 8 = .ok (.if_icmp .ge 26, 3) := by decide +kernel
theorem dX3_lineLength_11 : decode cX3_lineLength 11 = .ok (.iload_n 3, 1) := by decide +kernel
theorem dX3_lineLength_12 : decode cX3_lineLength 12 = .ok (.aload_n 0, 1) := by decide +kernel
theorem dX3_lineLength_13 : decode cX3_lineLength 13 = .ok (.getfield 22, 3) := by decide +kernel
theorem dX3_lineLength_16 : decode cX3_lineLength 16 = .ok (.if_icmp .ge 18, 3) := by decide +kernel
theorem dX3_lineLength_19 : decode cX3_lineLength 19 = .ok (.aload_n 0, 1) := by decide +kernel
theorem dX3_lineLength_20 : decode cX3_lineLength 20 = .ok (.iload_n 3, 1) := by decide +kernel
theorem dX3_lineLength_21 : decode cX3_lineLength 21 = .ok (.iload_n 2, 1) := by decide +kernel
theorem dX3_lineLength_22 : decode cX3_lineLength 22 = .ok (.invokevirtual 49, 3) := by decide +kernel
theorem dX3_lineLength_25 : decode cX3_lineLength 25 = .ok (.iconst 1, 1) := by decide +kernel
theorem dX3_lineLength_26 : decode cX3_lineLength 26 = .ok (.iadd, 1) := by decide +kernel
theorem dX3_lineLength_27 : decode cX3_lineLength 27 = .ok (.istore_n 3, 1) := by decide +kernel
theorem dX3_lineLength_28 : decode cX3_lineLength 28 = .ok (.iinc 4 1, 3) := by decide +kernel
theorem dX3_lineLength_31 : decode cX3_lineLength 31 = .ok (.goto (-26), 3) := by decide +kernel
theorem dX3_lineLength_34 : decode cX3_lineLength 34 = .ok (.iload_n 3, 1) := by decide +kernel
theorem dX3_lineLength_35 : decode cX3_lineLength 35 = .ok (.aload_n 0, 1) := by decide +kernel
theorem dX3_lineLength_36 : decode cX3_lineLength 36 = .ok (.getfield 22, 3) := by decide +kernel
theorem dX3_lineLength_39 : decode cX3_lineLength 39 = .ok (.if_icmp .ge 14, 3) := by decide +kernel
theorem dX3_lineLength_42 : decode cX3_lineLength 42 = .ok (.aload_n 0, 1) := by decide +kernel
theorem dX3_lineLength_43 : decode cX3_lineLength 43 = .ok (.iload_n 3, 1) := by decide +kernel
theorem dX3_lineLength_44 : decode cX3_lineLength 44 = .ok (.iload_n 2, 1) := by decide +kernel
theorem dX3_lineLength_45 : decode cX3_lineLength 45 = .ok (.invokevirtual 49, 3) := by decide +kernel
theorem dX3_lineLength_48 : decode cX3_lineLength 48 = .ok (.iload_n 3, 1) := by decide +kernel
theorem dX3_lineLength_49 : decode cX3_lineLength 49 = .ok (.isub, 1) := by decide +kernel
theorem dX3_lineLength_50 : decode cX3_lineLength 50 = .ok (.goto 5, 3) := by decide +kernel
theorem dX3_lineLength_53 : decode cX3_lineLength 53 = .ok (.bipush (-6), 2) := by decide +kernel
theorem dX3_lineLength_55 : decode cX3_lineLength 55 = .ok (.ireturn, 1) := by decide +kernel
theorem dX3_fitsInLines_0 : decode cX3_fitsInLines 0 = .ok (.aload_n 0, 1) := by decide +kernel
theorem dX3_fitsInLines_1 : decode cX3_fitsInLines 1 = .ok (.iload_n 1, 1) := by decide +kernel
theorem dX3_fitsInLines_2 : decode cX3_fitsInLines 2 = .ok (.invokevirtual 53, 3) := by decide +kernel
theorem dX3_fitsInLines_5 : decode cX3_fitsInLines 5 = .ok (.istore_n 2, 1) := by decide +kernel
theorem dX3_fitsInLines_6 : decode cX3_fitsInLines 6 = .ok (.iconst 0, 1) := by decide +kernel
theorem dX3_fitsInLines_7 : decode cX3_fitsInLines 7 = .ok (.istore_n 3, 1) := by decide +kernel
theorem dX3_fitsInLines_8 : decode cX3_fitsInLines 8 = .ok (.iload_n 3, 1) := by decide +kernel
theorem dX3_fitsInLines_9 : decode cX3_fitsInLines 9 = .ok (.iload_n 2, 1) := by decide +kernel
theorem dX3_fitsInLines_10 : decode cX3_fitsInLines 10 = .ok (.if_icmp .ge 21, 3) := by decide +kernel
theorem dX3_fitsInLines_13 : decode cX3_fitsInLines 13 = .ok (.aload_n 0, 1) := by decide +kernel
theorem dX3_fitsInLines_14 : decode cX3_fitsInLines 14 = .ok (.iload_n 3, 1) := by decide +kernel
theorem dX3_fitsInLines_15 : decode cX3_fitsInLines 15 = .ok (.iload_n 1, 1) := by decide +kernel
theorem dX3_fitsInLines_16 : decode cX3_fitsInLines 16 = .ok (.invokevirtual 56, 3) := by decide +kernel
theorem dX3_fitsInLines_19 : decode cX3_fitsInLines 19 = .ok (.iload_n 1, 1) := by decide +kernel
theorem dX3_fitsInLines_20 : decode cX3_fitsInLines 20 = .ok (.if_icmp .le 5, 3) := by decide +kernel
theorem dX3_fitsInLines_23 : decode cX3_fitsInLines 23 = .ok (.iconst 0, 1) := by decide +kernel
theorem dX3_fitsInLines_24 : decode cX3_fitsInLines 24 = .ok (.ireturn, 1) := by decide +kernel
theorem dX3_fitsInLines_25 : decode cX3_fitsInLines 25 = .ok (.iinc 3 1, 3) := by decide +kernel
theorem dX3_fitsInLines_28 : decode cX3_fitsInLines 28 = .ok (.goto (-20), 3) := by decide +kernel
theorem dX3_fitsInLines_31 : decode cX3_fitsInLines 31 = .ok (.iload_n 2, 1) := by decide +kernel
theorem dX3_fitsInLines_32 : decode cX3_fitsInLines 32 = .ok (.iconst 2, 1) := by decide +kernel
theorem dX3_fitsInLines_33 : decode cX3_fitsInLines 33 = .ok (.if_icmp .gt 7, 3) := by decide +kernel
theorem dX3_fitsInLines_36 : decode cX3_fitsInLines 36 = .ok (.iconst 1, 1) := by decide +kernel
theorem dX3_fitsInLines_37 : decode cX3_fitsInLines 37 = .ok (.goto 4, 3) := by decide +kernel
theorem dX3_fitsInLines_40 : decode cX3_fitsInLines 40 = .ok (.iconst 0, 1) := by decide +kernel
theorem dX3_fitsInLines_41 : decode cX3_fitsInLines 41 = .ok (.ireturn, 1) := by decide +kernel
theorem dX4_init_0 : decode cX4_init 0 = .ok (.aload_n 0, 1) := by decide +kernel
theorem dX4_init_1 : decode cX4_init 1 = .ok (.invokespecial 1, 3) := by decide +kernel
theorem dX4_init_4 : decode cX4_init 4 = .ok (.aload_n 0, 1) := by decide +kernel
theorem dX4_init_5 : decode cX4_init 5 = .ok (.new 7, 3) := by decide +kernel
theorem dX4_init_8 : decode cX4_init 8 = .ok (.dup, 1) := by decide +kernel
theorem dX4_init_9 : decode cX4_init 9 = .ok (.invokespecial 9, 3) := by decide +kernel
theorem dX4_init_12 : decode cX4_init 12 = .ok (.putfield 10, 3) := by decide +kernel
theorem dX4_init_15 : decode cX4_init 15 = .ok (.aload_n 0, 1) := by decide +kernel
theorem dX4_init_16 : decode cX4_init 16 = .ok (.new 7, 3) := by decide +kernel
theorem dX4_init_19 : decode cX4_init 19 = .ok (.dup, 1) := by decide +kernel
theorem dX4_init_20 : decode cX4_init 20 = .ok (.invokespecial 9, 3) := by decide +kernel
theorem dX4_init_23 : decode cX4_init 23 = .ok (.putfield 16, 3) := by decide +kernel
theorem dX4_init_26 : decode cX4_init 26 = .ok (.aload_n 0, 1) := by decide +kernel
theorem dX4_init_27 : decode cX4_init 27 = .ok (.new 19, 3) := by decide +kernel
theorem dX4_init_30 : decode cX4_init 30 = .ok (.dup, 1) := by decide +kernel
theorem dX4_init_31 : decode cX4_init 31 = .ok (.invokespecial 21, 3) := by decide +kernel
theorem dX4_init_34 : decode cX4_init 34 = .ok (.putfield 22, 3) := by decide +kernel
theorem dX4_init_37 : decode cX4_init 37 = .ok (.aload_n 0, 1) := by decide +kernel
theorem dX4_init_38 : decode cX4_init 38 = .ok (.new 26, 3) := by decide +kernel
theorem dX4_init_41 : decode cX4_init 41 = .ok (.dup, 1) := by decide +kernel
theorem dX4_init_42 : decode cX4_init 42 = .ok (.invokespecial 28, 3) := by decide +kernel
theorem dX4_init_45 : decode cX4_init 45 = .ok (.putfield 29, 3) := by decide +kernel
theorem dX4_init_48 : decode cX4_init 48 = .ok (.aload_n 0, 1) := by decide +kernel
theorem dX4_init_49 : decode cX4_init 49 = .ok (.iconst 3, 1) := by decide +kernel
theorem dX4_init_50 : decode cX4_init 50 = .ok (.newarray .int, 2) := by decide +kernel
theorem dX4_init_52 : decode cX4_init 52 = .ok (.dup, 1) := by decide +kernel
theorem dX4_init_53 : decode cX4_init 53 = .ok (.iconst 0, 1) := by decide +kernel
theorem dX4_init_54 : decode cX4_init 54 = .ok (.bipush (-6), 2) := by decide +kernel
theorem dX4_init_56 : decode cX4_init 56 = .ok (.iastore, 1) := by decide +kernel
theorem dX4_init_57 : decode cX4_init 57 = .ok (.dup, 1) := by decide +kernel
theorem dX4_init_58 : decode cX4_init 58 = .ok (.iconst 1, 1) := by decide +kernel
theorem dX4_init_59 : decode cX4_init 59 = .ok (.bipush (-6), 2) := by decide +kernel
theorem dX4_init_61 : decode cX4_init 61 = .ok (.iastore, 1) := by decide +kernel
theorem dX4_init_62 : decode cX4_init 62 = .ok (.dup, 1) := by decide +kernel
theorem dX4_init_63 : decode cX4_init 63 = .ok (.iconst 2, 1) := by decide +kernel
theorem dX4_init_64 : decode cX4_init 64 = .ok (.bipush (-6), 2) := by decide +kernel
theorem dX4_init_66 : decode cX4_init 66 = .ok (.iastore, 1) := by decide +kernel
theorem dX4_init_67 : decode cX4_init 67 = .ok (.putfield 33, 3) := by decide +kernel
theorem dX4_init_70 : decode cX4_init 70 = .ok (.return_, 1) := by decide +kernel
theorem dX4_append_0 : decode cX4_append 0 = .ok (.iload_n 1, 1) := by decide +kernel
theorem dX4_append_1 : decode cX4_append 1 = .ok (.bipush 32, 2) := by decide +kernel
theorem dX4_append_3 : decode cX4_append 3 = .ok (.if_icmp .lt 9, 3) := by decide +kernel
theorem dX4_append_6 : decode cX4_append 6 = .ok (.iload_n 1, 1) := by decide +kernel
theorem dX4_append_7 : decode cX4_append 7 = .ok (.bipush 126, 2) := by decide +kernel
theorem dX4_append_9 : decode cX4_append 9 = .ok (.if_icmp .le 6, 3) := by decide +kernel
theorem dX4_append_12 : decode cX4_append 12 = .ok (.bipush (-2), 2) := by decide +kernel
theorem dX4_append_14 : decode cX4_append 14 = .ok (.ireturn, 1) := by decide +kernel
theorem dX4_append_15 : decode cX4_append 15 = .ok (.aload_n 0, 1) := by decide +kernel
theorem dX4_append_16 : decode cX4_append 16 = .ok (.getfield 29, 3) := by decide +kernel
theorem dX4_append_19 : decode cX4_append 19 = .ok (.getfield 37, 3) := by decide +kernel
theorem dX4_append_22 : decode cX4_append 22 = .ok (.bipush 80, 2) := by decide +kernel
theorem dX4_append_24 : decode cX4_append 24 = .ok (.if_icmp .lt 6, 3) := by decide +kernel
theorem dX4_append_27 : decode cX4_append 27 = .ok (.bipush (-4), 2) := by decide +kernel
theorem dX4_append_29 : decode cX4_append 29 = .ok (.ireturn, 1) := by decide +kernel
theorem dX4_append_30 : decode cX4_append 30 = .ok (.aload_n 0, 1) := by decide +kernel
theorem dX4_append_31 : decode cX4_append 31 = .ok (.getfield 29, 3) := by decide +kernel
theorem dX4_append_34 : decode cX4_append 34 = .ok (.getfield 41, 3) := by decide +kernel
theorem dX4_append_37 : decode cX4_append 37 = .ok (.aload_n 0, 1) := by decide +kernel
theorem dX4_append_38 : decode cX4_append 38 = .ok (.getfield 29, 3) := by decide +kernel
theorem dX4_append_41 : decode cX4_append 41 = .ok (.getfield 37, 3) := by decide +kernel
theorem dX4_append_44 : decode cX4_append 44 = .ok (.iload_n 1, 1) := by decide +kernel
theorem dX4_append_45 : decode cX4_append 45 = .ok (.i2c, 1) := by decide +kernel
theorem dX4_append_46 : decode cX4_append 46 = .ok (.castore, 1) := by decide +kernel
theorem dX4_append_47 : decode cX4_append 47 = .ok (.aload_n 0, 1) := by decide +kernel
theorem dX4_append_48 : decode cX4_append 48 = .ok (.getfield 29, 3) := by decide +kernel
theorem dX4_append_51 : decode cX4_append 51 = .ok (.dup, 1) := by decide +kernel
theorem dX4_append_52 : decode cX4_append 52 = .ok (.getfield 37, 3) := by decide +kernel
theorem dX4_append_55 : decode cX4_append 55 = .ok (.iconst 1, 1) := by decide +kernel
theorem dX4_append_56 : decode cX4_append 56 = .ok (.iadd, 1) := by decide +kernel
theorem dX4_append_57 : decode cX4_append 57 = .ok (.putfield 37, 3) := by decide +kernel
theorem dX4_append_60 : decode cX4_append 60 = .ok (.aload_n 0, 1) := by decide +kernel
theorem dX4_append_61 : decode cX4_append 61 = .ok (.getfield 29, 3) := by decide +kernel
theorem dX4_append_64 : decode cX4_append 64 = .ok (.getfield 37, 3) := by decide +kernel
theorem dX4_append_67 : decode cX4_append 67 = .ok (.ireturn, 1) := by decide +kernel
theorem dX4_clearScript_0 : decode cX4_clearScript 0 = .ok (.aload_n 0, 1) := by decide +kernel
theorem dX4_clearScript_1 : decode cX4_clearScript 1 = .ok (.getfield 29, 3) := by decide +kernel
theorem dX4_clearScript_4 : decode cX4_clearScript 4 = .ok (.getfield 37, 3) := by decide +kernel
theorem dX4_clearScript_7 : decode cX4_clearScript 7 = .ok (.istore_n 1, 1) := by decide +kernel
theorem dX4_clearScript_8 : decode cX4_clearScript 8 = .ok (.aload_n 0, 1) := by decide +kernel
theorem dX4_clearScript_9 : decode cX4_clearScript 9 = .ok (.getfield 29, 3) := by decide +kernel
theorem dX4_clearScript_12 : decode cX4_clearScript 12 = .ok (.iconst 0, 1) := by decide +kernel
theorem dX4_clearScript_13 : decode cX4_clearScript 13 = .ok (.putfield 37, 3) := by decide +kernel
theorem dX4_clearScript_16 : decode cX4_clearScript 16 = .ok (.iload_n 1, 1) := by decide +kernel
theorem dX4_clearScript_17 : decode cX4_clearScript 17 = .ok (.ireturn, 1) := by decide +kernel
theorem dX4_fault_0 : decode cX4_fault 0 = .ok (.aload_n 0, 1) := by decide +kernel
theorem dX4_fault_1 : decode cX4_fault 1 = .ok (.getfield 29, 3) := by decide +kernel
theorem dX4_fault_4 : decode cX4_fault 4 = .ok (.invokevirtual 45, 3) := by decide +kernel
theorem dX4_fault_7 : decode cX4_fault 7 = .ok (.ireturn, 1) := by decide +kernel
theorem dX4_load_0 : decode cX4_load 0 = .ok (.aload_n 0, 1) := by decide +kernel
theorem dX4_load_1 : decode cX4_load 1 = .ok (.getfield 29, 3) := by decide +kernel
theorem dX4_load_4 : decode cX4_load 4 = .ok (.invokevirtual 45, 3) := by decide +kernel
theorem dX4_load_7 : decode cX4_load 7 = .ok (.bipush (-6), 2) := by decide +kernel
theorem dX4_load_9 : decode cX4_load 9 = .ok (.if_icmp .eq 6, 3) := by decide +kernel
theorem dX4_load_12 : decode cX4_load 12 = .ok (.bipush (-3), 2) := by decide +kernel
theorem dX4_load_14 : decode cX4_load 14 = .ok (.ireturn, 1) := by decide +kernel
theorem dX4_load_15 : decode cX4_load 15 = .ok (.aload_n 0, 1) := by decide +kernel
theorem dX4_load_16 : decode cX4_load 16 = .ok (.getfield 22, 3) := by decide +kernel
theorem dX4_load_19 : decode cX4_load 19 = .ok (.aload_n 0, 1) := by decide +kernel
theorem dX4_load_20 : decode cX4_load 20 = .ok (.getfield 10, 3) := by decide +kernel
theorem dX4_load_23 : decode cX4_load 23 = .ok (.invokevirtual 49, 3) := by decide +kernel
theorem dX4_load_26 : decode cX4_load 26 = .ok (.aload_n 0, 1) := by decide +kernel
theorem dX4_load_27 : decode cX4_load 27 = .ok (.bipush (-6), 2) := by decide +kernel
theorem dX4_load_29 : decode cX4_load 29 = .ok (.bipush (-6), 2) := by decide +kernel
theorem dX4_load_31 : decode cX4_load 31 = .ok (.bipush (-6), 2) := by decide +kernel
theorem dX4_load_33 : decode cX4_load 33 = .ok (.invokevirtual 53, 3) := by decide +kernel
theorem dX4_load_36 : decode cX4_load 36 = .ok (.aload_n 0, 1) := by decide +kernel
theorem dX4_load_37 : decode cX4_load 37 = .ok (.getfield 29, 3) := by decide +kernel
theorem dX4_load_40 : decode cX4_load 40 = .ok (.invokevirtual 57, 3) := by decide +kernel
theorem dX4_load_43 : decode cX4_load 43 = .ok (.iconst 0, 1) := by decide +kernel
theorem dX4_load_44 : decode cX4_load 44 = .ok (.istore_n 1, 1) := by decide +kernel
theorem dX4_load_45 : decode cX4_load 45 = .ok (.iconst 0, 1) := by decide +kernel
theorem dX4_load_46 : decode cX4_load 46 = .ok (.istore_n 2, 1) := by decide +kernel
theorem dX4_load_47 : decode cX4_load 47 = .ok (.iload_n 2, 1) := by decide +kernel
theorem dX4_load_48 : decode cX4_load 48 = .ok (.bipush 80, 2) := by decide +kernel
theorem dX4_load_50 : decode cX4_load 50 = .ok (.if_icmp .ge 153, 3) := by decide +kernel
theorem dX4_load_53 : decode cX4_load 53 = .ok (.aload_n 0, 1) := by decide +kernel
theorem dX4_load_54 : decode cX4_load 54 = .ok (.getfield 29, 3) := by decide +kernel
theorem dX4_load_57 : decode cX4_load 57 = .ok (.invokevirtual 60, 3) := by decide +kernel
theorem dX4_load_60 : decode cX4_load 60 = .ok (.ifCond .eq 143, 3) := by decide +kernel
theorem dX4_load_63 : decode cX4_load 63 = .ok (.aload_n 0, 1) := by decide +kernel
theorem dX4_load_64 : decode cX4_load 64 = .ok (.getfield 10, 3) := by decide +kernel
theorem dX4_load_67 : decode cX4_load 67 = .ok (.aload_n 0, 1) := by decide +kernel
theorem dX4_load_68 : decode cX4_load 68 = .ok (.getfield 29, 3) := by decide +kernel
theorem dX4_load_71 : decode cX4_load 71 = .ok (.getfield 64, 3) := by decide +kernel
theorem dX4_load_74 : decode cX4_load 74 = .ok (.aload_n 0, 1) := by decide +kernel
theorem dX4_load_75 : decode cX4_load 75 = .ok (.getfield 29, 3) := by decide +kernel
theorem dX4_load_78 : decode cX4_load 78 = .ok (.getfield 67, 3) := by decide +kernel
theorem dX4_load_81 : decode cX4_load 81 = .ok (.invokevirtual 70, 3) := by decide +kernel
theorem dX4_load_84 : decode cX4_load 84 = .ok (.istore_n 3, 1) := by decide +kernel
theorem dX4_load_85 : decode cX4_load 85 = .ok (.iload_n 3, 1) := by decide +kernel
theorem dX4_load_86 : decode cX4_load 86 = .ok (.ifCond .eq 19, 3) := by decide +kernel
theorem dX4_load_89 : decode cX4_load 89 = .ok (.aload_n 0, 1) := by decide +kernel
theorem dX4_load_90 : decode cX4_load 90 = .ok (.iload_n 2, 1) := by decide +kernel
theorem dX4_load_91 : decode cX4_load 91 = .ok (.iload_n 3, 1) := by decide +kernel
theorem dX4_load_92 : decode cX4_load 92 = .ok (.aload_n 0, 1) := by decide +kernel
theorem dX4_load_93 : decode cX4_load 93 = .ok (.getfield 29, 3) := by decide +kernel
theorem dX4_load_96 : decode cX4_load 96 = .ok (.getfield 74, 3) := by decide +kernel
theorem dX4_load_99 : decode cX4_load 99 = .ok (.invokevirtual 53, 3) := by decide +kernel
theorem dX4_load_102 : decode cX4_load 102 = .ok (.goto 101, 3) := by decide +kernel
theorem dX4_load_105 : decode cX4_load 105 = .ok (.aload_n 0, 1) := by decide +kernel
theorem dX4_load_106 : decode cX4_load 106 = .ok (.getfield 10, 3) := by decide +kernel
theorem dX4_load_109 : decode cX4_load 109 = .ok (.getfield 77, 3) := by decide +kernel
theorem dX4_load_112 : decode cX4_load 112 = .ok (.aload_n 0, 1) := by decide +kernel
theorem dX4_load_113 : decode cX4_load 113 = .ok (.getfield 10, 3) := by decide +kernel
theorem dX4_load_116 : decode cX4_load 116 = .ok (.aload_n 0, 1) := by decide +kernel
theorem dX4_load_117 : decode cX4_load 117 = .ok (.getfield 29, 3) := by decide +kernel
theorem dX4_load_120 : decode cX4_load 120 = .ok (.getfield 64, 3) := by decide +kernel
theorem dX4_load_123 : decode cX4_load 123 = .ok (.invokevirtual 81, 3) := by decide +kernel
theorem dX4_load_126 : decode cX4_load 126 = .ok (.aaload, 1) := by decide +kernel
theorem dX4_load_127 : decode cX4_load 127 = .ok (.astore 4, 2) := by decide +kernel
theorem dX4_load_129 : decode cX4_load 129 = .ok (.aload 4, 2) := by decide +kernel
theorem dX4_load_131 : decode cX4_load 131 = .ok (.aload_n 0, 1) := by decide +kernel
theorem dX4_load_132 : decode cX4_load 132 = .ok (.getfield 29, 3) := by decide +kernel
theorem dX4_load_135 : decode cX4_load 135 = .ok (.getfield 64, 3) := by decide +kernel
theorem dX4_load_138 : decode cX4_load 138 = .ok (.putfield 85, 3) := by decide +kernel
theorem dX4_load_141 : decode cX4_load 141 = .ok (.aload 4, 2) := by decide +kernel
theorem dX4_load_143 : decode cX4_load 143 = .ok (.aload_n 0, 1) := by decide +kernel
theorem dX4_load_144 : decode cX4_load 144 = .ok (.getfield 29, 3) := by decide +kernel
theorem dX4_load_147 : decode cX4_load 147 = .ok (.getfield 67, 3) := by decide +kernel
theorem dX4_load_150 : decode cX4_load 150 = .ok (.putfield 88, 3) := by decide +kernel
theorem dX4_load_153 : decode cX4_load 153 = .ok (.aload 4, 2) := by decide +kernel
theorem dX4_load_155 : decode cX4_load 155 = .ok (.aload_n 0, 1) := by decide +kernel
theorem dX4_load_156 : decode cX4_load 156 = .ok (.getfield 29, 3) := by decide +kernel
theorem dX4_load_159 : decode cX4_load 159 = .ok (.getfield 41, 3) := by decide +kernel
theorem dX4_load_162 : decode cX4_load 162 = .ok (.aload_n 0, 1) := by decide +kernel
theorem dX4_load_163 : decode cX4_load 163 = .ok (.getfield 29, 3) := by decide +kernel
theorem dX4_load_166 : decode cX4_load 166 = .ok (.getfield 89, 3) := by decide +kernel
theorem dX4_load_169 : decode cX4_load 169 = .ok (.aload_n 0, 1) := by decide +kernel
theorem dX4_load_170 : decode cX4_load 170 = .ok (.getfield 29, 3) := by decide +kernel
theorem dX4_load_173 : decode cX4_load 173 = .ok (.getfield 92, 3) := by decide +kernel
theorem dX4_load_176 : decode cX4_load 176 = .ok (.invokevirtual 95, 3) := by decide +kernel
theorem dX4_load_179 : decode cX4_load 179 = .ok (.iinc 1 1, 3) := by decide +kernel
theorem dX4_load_182 : decode cX4_load 182 = .ok (.aload_n 0, 1) := by decide +kernel
theorem dX4_load_183 : decode cX4_load 183 = .ok (.getfield 29, 3) := by decide +kernel
theorem dX4_load_186 : decode cX4_load 186 = .ok (.bipush 124, 2) := by decide +kernel
theorem dX4_load_188 : decode cX4_load 188 = .ok (.invokevirtual 99, 3) := by decide +kernel
theorem dX4_load_191 : decode cX4_load 191 = .ok (.ifCond .ne 6, 3) := by decide +kernel
theorem dX4_load_194 : decode cX4_load 194 = .ok (.goto 9, 3) := by decide +kernel
theorem dX4_load_197 : decode cX4_load 197 = .ok (.iinc 2 1, 3) := by decide +kernel
theorem dX4_load_200 : decode cX4_load 200 = .ok (.goto (-153), 3) := by decide +kernel
theorem dX4_load_203 : decode cX4_load 203 = .ok (.iload_n 1, 1) := by decide +kernel
theorem dX4_load_204 : decode cX4_load 204 = .ok (.ireturn, 1) := by decide +kernel
theorem dX4_why_0 : decode cX4_why 0 = .ok (.iload_n 1, 1) := by decide +kernel
theorem dX4_why_1 : decode cX4_why 1 = .ok (.ifCond .lt 12, 3) := by decide +kernel
theorem dX4_why_4 : decode cX4_why 4 = .ok (.iload_n 1, 1) := by decide +kernel
theorem dX4_why_5 : decode cX4_why 5 = .ok (.aload_n 0, 1) := by decide +kernel
theorem dX4_why_6 : decode cX4_why 6 = .ok (.getfield 33, 3) := by decide +kernel
theorem dX4_why_9 : decode cX4_why 9 = .ok (.arraylength, 1) := by decide +kernel
theorem dX4_why_10 : decode cX4_why 10 = .ok (.if_icmp .lt 6, 3) := by decide +kernel
theorem dX4_why_13 : decode cX4_why 13 = .ok (.bipush (-2), 2) := by decide +kernel
theorem dX4_why_15 : decode cX4_why 15 = .ok (.ireturn, 1) := by decide +kernel
theorem dX4_why_16 : decode cX4_why 16 = .ok (.aload_n 0, 1) := by decide +kernel
theorem dX4_why_17 : decode cX4_why 17 = .ok (.getfield 33, 3) := by decide +kernel
theorem dX4_why_20 : decode cX4_why 20 = .ok (.iload_n 1, 1) := by decide +kernel
theorem dX4_why_21 : decode cX4_why 21 = .ok (.iaload, 1) := by decide +kernel
theorem dX4_why_22 : decode cX4_why 22 = .ok (.ireturn, 1) := by decide +kernel
theorem dX4_undo_0 : decode cX4_undo 0 = .ok (.aload_n 0, 1) := by decide +kernel
theorem dX4_undo_1 : decode cX4_undo 1 = .ok (.getfield 22, 3) := by decide +kernel
theorem dX4_undo_4 : decode cX4_undo 4 = .ok (.getfield 103, 3) := by decide +kernel
theorem dX4_undo_7 : decode cX4_undo 7 = .ok (.iconst 1, 1) := by decide +kernel
theorem dX4_undo_8 : decode cX4_undo 8 = .ok (.if_icmp .ge 6, 3) := by decide +kernel
theorem dX4_undo_11 : decode cX4_undo 11 = .ok (.bipush (-6), 2) := by decide +kernel
theorem dX4_undo_13 : decode cX4_undo 13 = .ok (.ireturn, 1) := by decide +kernel
theorem dX4_undo_14 : decode cX4_undo 14 = .ok (.aload_n 0, 1) := by decide +kernel
theorem dX4_undo_15 : decode cX4_undo 15 = .ok (.getfield 22, 3) := by decide +kernel
theorem dX4_undo_18 : decode cX4_undo 18 = .ok (.aload_n 0, 1) := by decide +kernel
theorem dX4_undo_19 : decode cX4_undo 19 = .ok (.getfield 10, 3) := by decide +kernel
theorem dX4_undo_22 : decode cX4_undo 22 = .ok (.invokevirtual 106, 3) := by decide +kernel
theorem dX4_undo_25 : decode cX4_undo 25 = .ok (.aload_n 0, 1) := by decide +kernel
theorem dX4_undo_26 : decode cX4_undo 26 = .ok (.getfield 22, 3) := by decide +kernel
theorem dX4_undo_29 : decode cX4_undo 29 = .ok (.getfield 103, 3) := by decide +kernel
theorem dX4_undo_32 : decode cX4_undo 32 = .ok (.ireturn, 1) := by decide +kernel
theorem dX4_remove_0 : decode cX4_remove 0 = .ok (.aload_n 0, 1) := by decide +kernel
theorem dX4_remove_1 : decode cX4_remove 1 = .ok (.getfield 10, 3) := by decide +kernel
theorem dX4_remove_4 : decode cX4_remove 4 = .ok (.iload_n 1, 1) := by decide +kernel
theorem dX4_remove_5 : decode cX4_remove 5 = .ok (.invokevirtual 109, 3) := by decide +kernel
theorem dX4_remove_8 : decode cX4_remove 8 = .ok (.ifCond .ne 5, 3) := by decide +kernel
theorem dX4_remove_11 : decode cX4_remove 11 = .ok (.iconst (-1), 1) := by decide +kernel
theorem dX4_remove_12 : decode cX4_remove 12 = .ok (.ireturn, 1) := by decide +kernel
theorem dX4_remove_13 : decode cX4_remove 13 = .ok (.aload_n 0, 1) := by decide +kernel
theorem dX4_remove_14 : decode cX4_remove 14 = .ok (.getfield 22, 3) := by decide +kernel
theorem dX4_remove_17 : decode cX4_remove 17 = .ok (.aload_n 0, 1) := by decide +kernel
theorem dX4_remove_18 : decode cX4_remove 18 = .ok (.getfield 10, 3) := by decide +kernel
theorem dX4_remove_21 : decode cX4_remove 21 = .ok (.invokevirtual 49, 3) := by decide +kernel
theorem dX4_remove_24 : decode cX4_remove 24 = .ok (.aload_n 0, 1) := by decide +kernel
theorem dX4_remove_25 : decode cX4_remove 25 = .ok (.getfield 10, 3) := by decide +kernel
theorem dX4_remove_28 : decode cX4_remove 28 = .ok (.iload_n 1, 1) := by decide +kernel
theorem dX4_remove_29 : decode cX4_remove 29 = .ok (.invokevirtual 113, 3) := by decide +kernel
theorem dX4_remove_32 : decode cX4_remove 32 = .ok (.aload_n 0, 1) := by decide +kernel
theorem dX4_remove_33 : decode cX4_remove 33 = .ok (.getfield 10, 3) := by decide +kernel
theorem dX4_remove_36 : decode cX4_remove 36 = .ok (.getfield 117, 3) := by decide +kernel
theorem dX4_remove_39 : decode cX4_remove 39 = .ok (.ireturn, 1) := by decide +kernel
theorem dX4_shift_0 : decode cX4_shift 0 = .ok (.aload_n 0, 1) := by decide +kernel
theorem dX4_shift_1 : decode cX4_shift 1 = .ok (.getfield 10, 3) := by decide +kernel
theorem dX4_shift_4 : decode cX4_shift 4 = .ok (.iload_n 1, 1) := by decide +kernel
theorem dX4_shift_5 : decode cX4_shift 5 = .ok (.invokevirtual 109, 3) := by decide +kernel
theorem dX4_shift_8 : decode cX4_shift 8 = .ok (.ifCond .ne 5, 3) := by decide +kernel
theorem dX4_shift_11 : decode cX4_shift 11 = .ok (.iconst (-1), 1) := by decide +kernel
theorem dX4_shift_12 : decode cX4_shift 12 = .ok (.ireturn, 1) := by decide +kernel
theorem dX4_shift_13 : decode cX4_shift 13 = .ok (.iload_n 2, 1) := by decide +kernel
theorem dX4_shift_14 : decode cX4_shift 14 = .ok (.sipush (-999), 3) := by decide +kernel
theorem dX4_shift_17 : decode cX4_shift 17 = .ok (.if_icmp .lt 10, 3) := by decide +kernel
theorem dX4_shift_20 : decode cX4_shift 20 = .ok (.iload_n 2, 1) := by decide +kernel
theorem dX4_shift_21 : decode cX4_shift 21 = .ok (.sipush 999, 3) := by decide +kernel
theorem dX4_shift_24 : decode cX4_shift 24 = .ok (.if_icmp .le 6, 3) := by decide +kernel
theorem dX4_shift_27 : decode cX4_shift 27 = .ok (.bipush (-2), 2) := by decide +kernel
theorem dX4_shift_29 : decode cX4_shift 29 = .ok (.ireturn, 1) := by decide +kernel
theorem dX4_shift_30 : decode cX4_shift 30 = .ok (.aload_n 0, 1) := by decide +kernel
theorem dX4_shift_31 : decode cX4_shift 31 = .ok (.getfield 10, 3) := by decide +kernel
theorem dX4_shift_34 : decode cX4_shift 34 = .ok (.getfield 77, 3) := by decide +kernel
theorem dX4_shift_37 : decode cX4_shift 37 = .ok (.iload_n 1, 1) := by decide +kernel
theorem dX4_shift_38 : decode cX4_shift 38 = .ok (.aaload, 1) := by decide +kernel
theorem dX4_shift_39 : decode cX4_shift 39 = .ok (.getfield 85, 3) := by decide +kernel
theorem dX4_shift_42 : decode cX4_shift 42 = .ok (.iload_n 2, 1) := by decide +kernel
theorem dX4_shift_43 : decode cX4_shift 43 = .ok (.iadd, 1) := by decide +kernel
theorem dX4_shift_44 : decode cX4_shift 44 = .ok (.aload_n 0, 1) := by decide +kernel
theorem dX4_shift_45 : decode cX4_shift 45 = .ok (.getfield 10, 3) := by decide +kernel
theorem dX4_shift_48 : decode cX4_shift 48 = .ok (.iload_n 1, 1) := by decide +kernel
theorem dX4_shift_49 : decode cX4_shift 49 = .ok (.invokevirtual 118, 3) := by decide +kernel
theorem dX4_shift_52 : decode cX4_shift 52 = .ok (.if_icmp .lt 31, 3) := by decide +kernel
theorem dX4_shift_55 : decode cX4_shift 55 = .ok (.aload_n 0, 1) := by decide +kernel
theorem dX4_shift_56 : decode cX4_shift 56 = .ok (.getfield 10, 3) := by decide +kernel
theorem dX4_shift_59 : decode cX4_shift 59 = .ok (.getfield 77, 3) := by decide +kernel
theorem dX4_shift_62 : decode cX4_shift 62 = .ok (.aload_n 0, 1) := by decide +kernel
theorem dX4_shift_63 : decode cX4_shift 63 = .ok (.getfield 10, 3) := by decide +kernel
theorem dX4_shift_66 : decode cX4_shift 66 = .ok (.getfield 117, 3) := by decide +kernel
theorem dX4_shift_69 : decode cX4_shift 69 = .ok (.iconst 1, 1) := by decide +kernel
theorem dX4_shift_70 : decode cX4_shift 70 = .ok (.isub, 1) := by decide +kernel
theorem dX4_shift_71 : decode cX4_shift 71 = .ok (.aaload, 1) := by decide +kernel
theorem dX4_shift_72 : decode cX4_shift 72 = .ok (.getfield 88, 3) := by decide +kernel
theorem dX4_shift_75 : decode cX4_shift 75 = .ok (.iload_n 2, 1) := by decide +kernel
theorem dX4_shift_76 : decode cX4_shift 76 = .ok (.iadd, 1) := by decide +kernel
theorem dX4_shift_77 : decode cX4_shift 77 = .ok (.sipush 5000, 3) := by decide +kernel
theorem dX4_shift_80 : decode cX4_shift 80 = .ok (.if_icmp .le 6, 3) := by decide +kernel
theorem dX4_shift_83 : decode cX4_shift 83 = .ok (.bipush (-5), 2) := by decide +kernel
theorem dX4_shift_85 : decode cX4_shift 85 = .ok (.ireturn, 1) := by decide +kernel
theorem dX4_shift_86 : decode cX4_shift 86 = .ok (.aload_n 0, 1) := by decide +kernel
theorem dX4_shift_87 : decode cX4_shift 87 = .ok (.getfield 22, 3) := by decide +kernel
theorem dX4_shift_90 : decode cX4_shift 90 = .ok (.aload_n 0, 1) := by decide +kernel
theorem dX4_shift_91 : decode cX4_shift 91 = .ok (.getfield 10, 3) := by decide +kernel
theorem dX4_shift_94 : decode cX4_shift 94 = .ok (.invokevirtual 49, 3) := by decide +kernel
theorem dX4_shift_97 : decode cX4_shift 97 = .ok (.iload_n 1, 1) := by decide +kernel
theorem dX4_shift_98 : decode cX4_shift 98 = .ok (.istore_n 3, 1) := by decide +kernel
theorem dX4_shift_99 : decode cX4_shift 99 = .ok (.iload_n 3, 1) := by decide +kernel
theorem dX4_shift_100 : decode cX4_shift 100 = .ok (.aload_n 0, 1) := by decide +kernel
theorem dX4_shift_101 : decode cX4_shift 101 = .ok (.getfield 10, 3) := by decide +kernel
theorem dX4_shift_104 : decode cX4_shift 104 = .ok (.getfield 117, 3) := by decide +kernel
theorem dX4_shift_107 : decode cX4_shift 107 = .ok (.if_icmp .ge 45, 3) := by decide +kernel
theorem dX4_shift_110 : decode cX4_shift 110 = .ok (.aload_n 0, 1) := by decide +kernel
theorem dX4_shift_111 : decode cX4_shift 111 = .ok (.getfield 10, 3) := by decide +kernel
theorem dX4_shift_114 : decode cX4_shift 114 = .ok (.getfield 77, 3) := by decide +kernel
theorem dX4_shift_117 : decode cX4_shift 117 = .ok (.iload_n 3, 1) := by decide +kernel
theorem dX4_shift_118 : decode cX4_shift 118 = .ok (.aaload, 1) := by decide +kernel
theorem dX4_shift_119 : decode cX4_shift 119 = .ok (.dup, 1) := by decide +kernel
theorem dX4_shift_120 : decode cX4_shift 120 = .ok (.getfield 85, 3) := by decide +kernel
theorem dX4_shift_123 : decode cX4_shift 123 = .ok (.iload_n 2, 1) := by decide +kernel
theorem dX4_shift_124 : decode cX4_shift 124 = .ok (.iadd, 1) := by decide +kernel
theorem dX4_shift_125 : decode cX4_shift 125 = .ok (.putfield 85, 3) := by decide +kernel
theorem dX4_shift_128 : decode cX4_shift 128 = .ok (.aload_n 0, 1) := by decide +kernel
theorem dX4_shift_129 : decode cX4_shift 129 = .ok (.getfield 10, 3) := by decide +kernel
theorem dX4_shift_132 : decode cX4_shift 132 = .ok (.getfield 77, 3) := by decide +kernel
theorem dX4_shift_135 : decode cX4_shift 135 = .ok (.iload_n 3, 1) := by decide +kernel
theorem dX4_shift_136 : decode cX4_shift 136 = .ok (.aaload, 1) := by decide +kernel
theorem dX4_shift_137 : decode cX4_shift 137 = .ok (.dup, 1) := by decide +kernel
theorem dX4_shift_138 : decode cX4_shift 138 = .ok (.getfield 88, 3) := by decide +kernel
theorem dX4_shift_141 : decode cX4_shift 141 = .ok (.iload_n 2, 1) := by decide +kernel
theorem dX4_shift_142 : decode cX4_shift 142 = .ok (.iadd, 1) := by decide +kernel
theorem dX4_shift_143 : decode cX4_shift 143 = .ok (.putfield 88, 3) := by decide +kernel
theorem dX4_shift_146 : decode cX4_shift 146 = .ok (.iinc 3 1, 3) := by decide +kernel
theorem dX4_shift_149 : decode cX4_shift 149 = .ok (.goto (-50), 3) := by decide +kernel
theorem dX4_shift_152 : decode cX4_shift 152 = .ok (.aload_n 0, 1) := by decide +kernel
theorem dX4_shift_153 : decode cX4_shift 153 = .ok (.getfield 10, 3) := by decide +kernel
theorem dX4_shift_156 : decode cX4_shift 156 = .ok (.getfield 117, 3) := by decide +kernel
theorem dX4_shift_159 : decode cX4_shift 159 = .ok (.iload_n 1, 1) := by decide +kernel
theorem dX4_shift_160 : decode cX4_shift 160 = .ok (.isub, 1) := by decide +kernel
theorem dX4_shift_161 : decode cX4_shift 161 = .ok (.ireturn, 1) := by decide +kernel
theorem dX4_setEnd_0 : decode cX4_setEnd 0 = .ok (.aload_n 0, 1) := by decide +kernel
theorem dX4_setEnd_1 : decode cX4_setEnd 1 = .ok (.getfield 10, 3) := by decide +kernel
theorem dX4_setEnd_4 : decode cX4_setEnd 4 = .ok (.iload_n 1, 1) := by decide +kernel
theorem dX4_setEnd_5 : decode cX4_setEnd 5 = .ok (.invokevirtual 109, 3) := by decide +kernel
theorem dX4_setEnd_8 : decode cX4_setEnd 8 = .ok (.ifCond .ne 5, 3) := by decide +kernel
theorem dX4_setEnd_11 : decode cX4_setEnd 11 = .ok (.iconst (-1), 1) := by decide +kernel
theorem dX4_setEnd_12 : decode cX4_setEnd 12 = .ok (.ireturn, 1) := by decide +kernel
theorem dX4_setEnd_13 : decode cX4_setEnd 13 = .ok (.iload_n 2, 1) := by decide +kernel
theorem dX4_setEnd_14 : decode cX4_setEnd 14 = .ok (.ifCond .lt 10, 3) := by decide +kernel
theorem dX4_setEnd_17 : decode cX4_setEnd 17 = .ok (.iload_n 2, 1) := by decide +kernel
theorem dX4_setEnd_18 : decode cX4_setEnd 18 = .ok (.sipush 5000, 3) := by decide +kernel
theorem dX4_setEnd_21 : decode cX4_setEnd 21 = .ok (.if_icmp .le 6, 3) := by decide +kernel
theorem dX4_setEnd_24 : decode cX4_setEnd 24 = .ok (.bipush (-2), 2) := by decide +kernel
theorem dX4_setEnd_26 : decode cX4_setEnd 26 = .ok (.ireturn, 1) := by decide +kernel
theorem dX4_setEnd_27 : decode cX4_setEnd 27 = .ok (.aload_n 0, 1) := by decide +kernel
theorem dX4_setEnd_28 : decode cX4_setEnd 28 = .ok (.getfield 10, 3) := by decide +kernel
theorem dX4_setEnd_31 : decode cX4_setEnd 31 = .ok (.getfield 77, 3) := by decide +kernel
theorem dX4_setEnd_34 : decode cX4_setEnd 34 = .ok (.iload_n 1, 1) := by decide +kernel
theorem dX4_setEnd_35 : decode cX4_setEnd 35 = .ok (.aaload, 1) := by decide +kernel
theorem dX4_setEnd_36 : decode cX4_setEnd 36 = .ok (.astore_n 3, 1) := by decide +kernel
theorem dX4_setEnd_37 : decode cX4_setEnd 37 = .ok (.iload_n 2, 1) := by decide +kernel
theorem dX4_setEnd_38 : decode cX4_setEnd 38 = .ok (.aload_n 3, 1) := by decide +kernel
theorem dX4_setEnd_39 : decode cX4_setEnd 39 = .ok (.getfield 85, 3) := by decide +kernel
theorem dX4_setEnd_42 : decode cX4_setEnd 42 = .ok (.if_icmp .le 15, 3) := by decide +kernel
theorem dX4_setEnd_45 : decode cX4_setEnd 45 = .ok (.iload_n 2, 1) := by decide +kernel
theorem dX4_setEnd_46 : decode cX4_setEnd 46 = .ok (.aload_n 0, 1) := by decide +kernel
theorem dX4_setEnd_47 : decode cX4_setEnd 47 = .ok (.getfield 10, 3) := by decide +kernel
theorem dX4_setEnd_50 : decode cX4_setEnd 50 = .ok (.iload_n 1, 1) := by decide +kernel
theorem dX4_setEnd_51 : decode cX4_setEnd 51 = .ok (.invokevirtual 121, 3) := by decide +kernel
theorem dX4_setEnd_54 : decode cX4_setEnd 54 = .ok (.if_icmp .le 6, 3) := by decide +kernel
theorem dX4_setEnd_57 : decode cX4_setEnd 57 = .ok (.bipush (-5), 2) := by decide +kernel
theorem dX4_setEnd_59 : decode cX4_setEnd 59 = .ok (.ireturn, 1) := by decide +kernel
theorem dX4_setEnd_60 : decode cX4_setEnd 60 = .ok (.aload_n 0, 1) := by decide +kernel
theorem dX4_setEnd_61 : decode cX4_setEnd 61 = .ok (.getfield 22, 3) := by decide +kernel
theorem dX4_setEnd_64 : decode cX4_setEnd 64 = .ok (.aload_n 0, 1) := by decide +kernel
theorem dX4_setEnd_65 : decode cX4_setEnd 65 = .ok (.getfield 10, 3) := by decide +kernel
theorem dX4_setEnd_68 : decode cX4_setEnd 68 = .ok (.invokevirtual 49, 3) := by decide +kernel
theorem dX4_setEnd_71 : decode cX4_setEnd 71 = .ok (.aload_n 3, 1) := by decide +kernel
theorem dX4_setEnd_72 : decode cX4_setEnd 72 = .ok (.getfield 88, 3) := by decide +kernel
theorem dX4_setEnd_75 : decode cX4_setEnd 75 = .ok (.istore 4, 2) := by decide +kernel
theorem dX4_setEnd_77 : decode cX4_setEnd 77 = .ok (.aload_n 3, 1) := by decide +kernel
theorem dX4_setEnd_78 : decode cX4_setEnd 78 = .ok (.iload_n 2, 1) := by decide +kernel
theorem dX4_setEnd_79 : decode cX4_setEnd 79 = .ok (.putfield 88, 3) := by decide +kernel
theorem dX4_setEnd_82 : decode cX4_setEnd 82 = .ok (.iload 4, 2) := by decide +kernel
theorem dX4_setEnd_84 : decode cX4_setEnd 84 = .ok (.ireturn, 1) := by decide +kernel
theorem dX4_split_0 : decode cX4_split 0 = .ok (.aload_n 0, 1) := by decide +kernel
theorem dX4_split_1 : decode cX4_split 1 = .ok (.getfield 10, 3) := by decide +kernel
theorem dX4_split_4 : decode cX4_split 4 = .ok (.iload_n 1, 1) := by decide +kernel
theorem dX4_split_5 : decode cX4_split 5 = .ok (.invokevirtual 109, 3) := by decide +kernel
theorem dX4_split_8 : decode cX4_split 8 = .ok (.ifCond .ne 5, 3) := by decide +kernel
theorem dX4_split_11 : decode cX4_split 11 = .ok (.iconst (-1), 1) := by decide +kernel
theorem dX4_split_12 : decode cX4_split 12 = .ok (.ireturn, 1) := by decide +kernel
theorem dX4_split_13 : decode cX4_split 13 = .ok (.aload_n 0, 1) := by decide +kernel
theorem dX4_split_14 : decode cX4_split 14 = .ok (.getfield 10, 3) := by decide +kernel
theorem dX4_split_17 : decode cX4_split 17 = .ok (.getfield 77, 3) := by decide +kernel
theorem dX4_split_20 : decode cX4_split 20 = .ok (.iload_n 1, 1) := by decide +kernel
theorem dX4_split_21 : decode cX4_split 21 = .ok (.aaload, 1) := by decide +kernel
theorem dX4_split_22 : decode cX4_split 22 = .ok (.invokevirtual 124, 3) := by decide +kernel
theorem dX4_split_25 : decode cX4_split 25 = .ok (.istore_n 2, 1) := by decide +kernel
theorem dX4_split_26 : decode cX4_split 26 = .ok (.iload_n 2, 1) := by decide +kernel
theorem dX4_split_27 : decode cX4_split 27 = .ok (.bipush (-6), 2) := by decide +kernel
theorem dX4_split_29 : decode cX4_split 29 = .ok (.if_icmp .eq 29, 3) := by decide +kernel
theorem dX4_split_32 : decode cX4_split 32 = .ok (.aload_n 0, 1) := by decide +kernel
theorem dX4_split_33 : decode cX4_split 33 = .ok (.getfield 10, 3) := by decide +kernel
theorem dX4_split_36 : decode cX4_split 36 = .ok (.getfield 77, 3) := by decide +kernel
theorem dX4_split_39 : decode cX4_split 39 = .ok (.iload_n 1, 1) := by decide +kernel
theorem dX4_split_40 : decode cX4_split 40 = .ok (.aaload, 1) := by decide +kernel
theorem dX4_split_41 : decode cX4_split 41 = .ok (.invokevirtual 127, 3) := by decide +kernel
theorem dX4_split_44 : decode cX4_split 44 = .ok (.aload_n 0, 1) := by decide +kernel
theorem dX4_split_45 : decode cX4_split 45 = .ok (.getfield 10, 3) := by decide +kernel
theorem dX4_split_48 : decode cX4_split 48 = .ok (.getfield 130, 3) := by decide +kernel
theorem dX4_split_51 : decode cX4_split 51 = .ok (.iconst 1, 1) := by decide +kernel
theorem dX4_split_52 : decode cX4_split 52 = .ok (.iaload, 1) := by decide +kernel
theorem dX4_split_53 : decode cX4_split 53 = .ok (.iconst 2, 1) := by decide +kernel
theorem dX4_split_54 : decode cX4_split 54 = .ok (.iadd, 1) := by decide +kernel
theorem dX4_split_55 : decode cX4_split 55 = .ok (.if_icmp .ge 6, 3) := by decide +kernel
theorem dX4_split_58 : decode cX4_split 58 = .ok (.bipush (-5), 2) := by decide +kernel
theorem dX4_split_60 : decode cX4_split 60 = .ok (.ireturn, 1) := by decide +kernel
theorem dX4_split_61 : decode cX4_split 61 = .ok (.aload_n 0, 1) := by decide +kernel
theorem dX4_split_62 : decode cX4_split 62 = .ok (.getfield 10, 3) := by decide +kernel
theorem dX4_split_65 : decode cX4_split 65 = .ok (.getfield 117, 3) := by decide +kernel
theorem dX4_split_68 : decode cX4_split 68 = .ok (.bipush 20, 2) := by decide +kernel
theorem dX4_split_70 : decode cX4_split 70 = .ok (.if_icmp .lt 6, 3) := by decide +kernel
theorem dX4_split_73 : decode cX4_split 73 = .ok (.bipush (-4), 2) := by decide +kernel
theorem dX4_split_75 : decode cX4_split 75 = .ok (.ireturn, 1) := by decide +kernel
theorem dX4_split_76 : decode cX4_split 76 = .ok (.aload_n 0, 1) := by decide +kernel
theorem dX4_split_77 : decode cX4_split 77 = .ok (.getfield 22, 3) := by decide +kernel
theorem dX4_split_80 : decode cX4_split 80 = .ok (.aload_n 0, 1) := by decide +kernel
theorem dX4_split_81 : decode cX4_split 81 = .ok (.getfield 10, 3) := by decide +kernel
theorem dX4_split_84 : decode cX4_split 84 = .ok (.invokevirtual 49, 3) := by decide +kernel
theorem dX4_split_87 : decode cX4_split 87 = .ok (.aload_n 0, 1) := by decide +kernel
theorem dX4_split_88 : decode cX4_split 88 = .ok (.getfield 10, 3) := by decide +kernel
theorem dX4_split_91 : decode cX4_split 91 = .ok (.iload_n 1, 1) := by decide +kernel
theorem dX4_split_92 : decode cX4_split 92 = .ok (.iload_n 2, 1) := by decide +kernel
theorem dX4_split_93 : decode cX4_split 93 = .ok (.invokevirtual 133, 3) := by decide +kernel
theorem dX4_split_96 : decode cX4_split 96 = .ok (.iload_n 2, 1) := by decide +kernel
theorem dX4_split_97 : decode cX4_split 97 = .ok (.ireturn, 1) := by decide +kernel
theorem dX4_join_0 : decode cX4_join 0 = .ok (.aload_n 0, 1) := by decide +kernel
theorem dX4_join_1 : decode cX4_join 1 = .ok (.getfield 10, 3) := by decide +kernel
theorem dX4_join_4 : decode cX4_join 4 = .ok (.iload_n 1, 1) := by decide +kernel
theorem dX4_join_5 : decode cX4_join 5 = .ok (.invokevirtual 109, 3) := by decide +kernel
theorem dX4_join_8 : decode cX4_join 8 = .ok (.ifCond .eq 16, 3) := by decide +kernel
theorem dX4_join_11 : decode cX4_join 11 = .ok (.iload_n 1, 1) := by decide +kernel
theorem dX4_join_12 : decode cX4_join 12 = .ok (.aload_n 0, 1) := by decide +kernel
theorem dX4_join_13 : decode cX4_join 13 = .ok (.getfield 10, 3) := by decide +kernel
theorem dX4_join_16 : decode cX4_join 16 = .ok (.getfield 117, 3) := by decide +kernel
theorem dX4_join_19 : decode cX4_join 19 = .ok (.iconst 1, 1) := by decide +kernel
theorem dX4_join_20 : decode cX4_join 20 = .ok (.isub, 1) := by decide +kernel
theorem dX4_join_21 : decode cX4_join 21 = .ok (.if_icmp .lt 5, 3) := by decide +kernel
theorem dX4_join_24 : decode cX4_join 24 = .ok (.iconst (-1), 1) := by decide +kernel
theorem dX4_join_25 : decode cX4_join 25 = .ok (.ireturn, 1) := by decide +kernel
theorem dX4_join_26 : decode cX4_join 26 = .ok (.aload_n 0, 1) := by decide +kernel
theorem dX4_join_27 : decode cX4_join 27 = .ok (.getfield 10, 3) := by decide +kernel
theorem dX4_join_30 : decode cX4_join 30 = .ok (.getfield 77, 3) := by decide +kernel
theorem dX4_join_33 : decode cX4_join 33 = .ok (.iload_n 1, 1) := by decide +kernel
theorem dX4_join_34 : decode cX4_join 34 = .ok (.aaload, 1) := by decide +kernel
theorem dX4_join_35 : decode cX4_join 35 = .ok (.getfield 137, 3) := by decide +kernel
theorem dX4_join_38 : decode cX4_join 38 = .ok (.iconst 1, 1) := by decide +kernel
theorem dX4_join_39 : decode cX4_join 39 = .ok (.iadd, 1) := by decide +kernel
theorem dX4_join_40 : decode cX4_join 40 = .ok (.aload_n 0, 1) := by decide +kernel
theorem dX4_join_41 : decode cX4_join 41 = .ok (.getfield 10, 3) := by decide +kernel
theorem dX4_join_44 : decode cX4_join 44 = .ok (.getfield 77, 3) := by decide +kernel
theorem dX4_join_47 : decode cX4_join 47 = .ok (.iload_n 1, 1) := by decide +kernel
theorem dX4_join_48 : decode cX4_join 48 = .ok (.iconst 1, 1) := by decide +kernel
theorem dX4_join_49 : decode cX4_join 49 = .ok (.iadd, 1) := by decide +kernel
theorem dX4_join_50 : decode cX4_join 50 = .ok (.aaload, 1) := by decide +kernel
theorem dX4_join_51 : decode cX4_join 51 = .ok (.getfield 137, 3) := by decide +kernel
theorem dX4_join_54 : decode cX4_join 54 = .ok (.iadd, 1) := by decide +kernel
theorem dX4_join_55 : decode cX4_join 55 = .ok (.istore_n 2, 1) := by decide +kernel
theorem dX4_join_56 : decode cX4_join 56 = .ok (.iload_n 2, 1) := by decide +kernel
theorem dX4_join_57 : decode cX4_join 57 = .ok (.bipush 40, 2) := by decide +kernel
theorem dX4_join_59 : decode cX4_join 59 = .ok (.if_icmp .le 6, 3) := by decide +kernel
theorem dX4_join_62 : decode cX4_join 62 = .ok (.bipush (-4), 2) := by decide +kernel
theorem dX4_join_64 : decode cX4_join 64 = .ok (.ireturn, 1) := by decide +kernel
theorem dX4_join_65 : decode cX4_join 65 = .ok (.aload_n 0, 1) := by decide +kernel
theorem dX4_join_66 : decode cX4_join 66 = .ok (.getfield 22, 3) := by decide +kernel
theorem dX4_join_69 : decode cX4_join 69 = .ok (.aload_n 0, 1) := by decide +kernel
theorem dX4_join_70 : decode cX4_join 70 = .ok (.getfield 10, 3) := by decide +kernel
theorem dX4_join_73 : decode cX4_join 73 = .ok (.invokevirtual 49, 3) := by decide +kernel
theorem dX4_join_76 : decode cX4_join 76 = .ok (.aload_n 0, 1) := by decide +kernel
theorem dX4_join_77 : decode cX4_join 77 = .ok (.getfield 10, 3) := by decide +kernel
theorem dX4_join_80 : decode cX4_join 80 = .ok (.iload_n 1, 1) := by decide +kernel
theorem dX4_join_81 : decode cX4_join 81 = .ok (.invokevirtual 138, 3) := by decide +kernel
theorem dX4_join_84 : decode cX4_join 84 = .ok (.iload_n 2, 1) := by decide +kernel
theorem dX4_join_85 : decode cX4_join 85 = .ok (.ireturn, 1) := by decide +kernel
theorem dX4_seat_0 : decode cX4_seat 0 = .ok (.aload_n 0, 1) := by decide +kernel
theorem dX4_seat_1 : decode cX4_seat 1 = .ok (.getfield 22, 3) := by decide +kernel
theorem dX4_seat_4 : decode cX4_seat 4 = .ok (.aload_n 0, 1) := by decide +kernel
theorem dX4_seat_5 : decode cX4_seat 5 = .ok (.getfield 10, 3) := by decide +kernel
theorem dX4_seat_8 : decode cX4_seat 8 = .ok (.invokevirtual 49, 3) := by decide +kernel
theorem dX4_seat_11 : decode cX4_seat 11 = .ok (.aload_n 0, 1) := by decide +kernel
theorem dX4_seat_12 : decode cX4_seat 12 = .ok (.getfield 10, 3) := by decide +kernel
theorem dX4_seat_15 : decode cX4_seat 15 = .ok (.aload_n 0, 1) := by decide +kernel
theorem dX4_seat_16 : decode cX4_seat 16 = .ok (.getfield 10, 3) := by decide +kernel
theorem dX4_seat_19 : decode cX4_seat 19 = .ok (.getfield 130, 3) := by decide +kernel
theorem dX4_seat_22 : decode cX4_seat 22 = .ok (.iconst 1, 1) := by decide +kernel
theorem dX4_seat_23 : decode cX4_seat 23 = .ok (.iaload, 1) := by decide +kernel
theorem dX4_seat_24 : decode cX4_seat 24 = .ok (.invokevirtual 141, 3) := by decide +kernel
theorem dX4_seat_27 : decode cX4_seat 27 = .ok (.ireturn, 1) := by decide +kernel
theorem dX4_cut_0 : decode cX4_cut 0 = .ok (.iload_n 1, 1) := by decide +kernel
theorem dX4_cut_1 : decode cX4_cut 1 = .ok (.iconst 1, 1) := by decide +kernel
theorem dX4_cut_2 : decode cX4_cut 2 = .ok (.if_icmp .lt 10, 3) := by decide +kernel
theorem dX4_cut_5 : decode cX4_cut 5 = .ok (.iload_n 1, 1) := by decide +kernel
theorem dX4_cut_6 : decode cX4_cut 6 = .ok (.sipush 5000, 3) := by decide +kernel
theorem dX4_cut_9 : decode cX4_cut 9 = .ok (.if_icmp .lt 6, 3) := by decide +kernel
theorem dX4_cut_12 : decode cX4_cut 12 = .ok (.bipush (-2), 2) := by decide +kernel
theorem dX4_cut_14 : decode cX4_cut 14 = .ok (.ireturn, 1) := by decide +kernel
theorem dX4_cut_15 : decode cX4_cut 15 = .ok (.aload_n 0, 1) := by decide +kernel
theorem dX4_cut_16 : decode cX4_cut 16 = .ok (.getfield 10, 3) := by decide +kernel
theorem dX4_cut_19 : decode cX4_cut 19 = .ok (.iload_n 1, 1) := by decide +kernel
theorem dX4_cut_20 : decode cX4_cut 20 = .ok (.invokevirtual 144, 3) := by decide +kernel
theorem dX4_cut_23 : decode cX4_cut 23 = .ok (.bipush (-6), 2) := by decide +kernel
theorem dX4_cut_25 : decode cX4_cut 25 = .ok (.if_icmp .eq 6, 3) := by decide +kernel
theorem dX4_cut_28 : decode cX4_cut 28 = .ok (.bipush (-5), 2) := by decide +kernel
theorem dX4_cut_30 : decode cX4_cut 30 = .ok (.ireturn, 1) := by decide +kernel
theorem dX4_cut_31 : decode cX4_cut 31 = .ok (.aload_n 0, 1) := by decide +kernel
theorem dX4_cut_32 : decode cX4_cut 32 = .ok (.getfield 10, 3) := by decide +kernel
theorem dX4_cut_35 : decode cX4_cut 35 = .ok (.getfield 147, 3) := by decide +kernel
theorem dX4_cut_38 : decode cX4_cut 38 = .ok (.bipush 12, 2) := by decide +kernel
theorem dX4_cut_40 : decode cX4_cut 40 = .ok (.if_icmp .lt 6, 3) := by decide +kernel
theorem dX4_cut_43 : decode cX4_cut 43 = .ok (.bipush (-4), 2) := by decide +kernel
theorem dX4_cut_45 : decode cX4_cut 45 = .ok (.ireturn, 1) := by decide +kernel
theorem dX4_cut_46 : decode cX4_cut 46 = .ok (.aload_n 0, 1) := by decide +kernel
theorem dX4_cut_47 : decode cX4_cut 47 = .ok (.getfield 22, 3) := by decide +kernel
theorem dX4_cut_50 : decode cX4_cut 50 = .ok (.aload_n 0, 1) := by decide +kernel
theorem dX4_cut_51 : decode cX4_cut 51 = .ok (.getfield 10, 3) := by decide +kernel
theorem dX4_cut_54 : decode cX4_cut 54 = .ok (.invokevirtual 49, 3) := by decide +kernel
theorem dX4_cut_57 : decode cX4_cut 57 = .ok (.aload_n 0, 1) := by decide +kernel
theorem dX4_cut_58 : decode cX4_cut 58 = .ok (.getfield 10, 3) := by decide +kernel
theorem dX4_cut_61 : decode cX4_cut 61 = .ok (.iload_n 1, 1) := by decide +kernel
theorem dX4_cut_62 : decode cX4_cut 62 = .ok (.invokevirtual 150, 3) := by decide +kernel
theorem dX4_cut_65 : decode cX4_cut 65 = .ok (.aload_n 0, 1) := by decide +kernel
theorem dX4_cut_66 : decode cX4_cut 66 = .ok (.getfield 10, 3) := by decide +kernel
theorem dX4_cut_69 : decode cX4_cut 69 = .ok (.getfield 147, 3) := by decide +kernel
theorem dX4_cut_72 : decode cX4_cut 72 = .ok (.ireturn, 1) := by decide +kernel
theorem dX4_uncut_0 : decode cX4_uncut 0 = .ok (.aload_n 0, 1) := by decide +kernel
theorem dX4_uncut_1 : decode cX4_uncut 1 = .ok (.getfield 10, 3) := by decide +kernel
theorem dX4_uncut_4 : decode cX4_uncut 4 = .ok (.iload_n 1, 1) := by decide +kernel
theorem dX4_uncut_5 : decode cX4_uncut 5 = .ok (.invokevirtual 144, 3) := by decide +kernel
theorem dX4_uncut_8 : decode cX4_uncut 8 = .ok (.istore_n 2, 1) := by decide +kernel
theorem dX4_uncut_9 : decode cX4_uncut 9 = .ok (.iload_n 2, 1) := by decide +kernel
theorem dX4_uncut_10 : decode cX4_uncut 10 = .ok (.bipush (-6), 2) := by decide +kernel
theorem dX4_uncut_12 : decode cX4_uncut 12 = .ok (.if_icmp .ne 5, 3) := by decide +kernel
theorem dX4_uncut_15 : decode cX4_uncut 15 = .ok (.iconst (-1), 1) := by decide +kernel
theorem dX4_uncut_16 : decode cX4_uncut 16 = .ok (.ireturn, 1) := by decide +kernel
theorem dX4_uncut_17 : decode cX4_uncut 17 = .ok (.aload_n 0, 1) := by decide +kernel
theorem dX4_uncut_18 : decode cX4_uncut 18 = .ok (.getfield 22, 3) := by decide +kernel
theorem dX4_uncut_21 : decode cX4_uncut 21 = .ok (.aload_n 0, 1) := by decide +kernel
theorem dX4_uncut_22 : decode cX4_uncut 22 = .ok (.getfield 10, 3) := by decide +kernel
theorem dX4_uncut_25 : decode cX4_uncut 25 = .ok (.invokevirtual 49, 3) := by decide +kernel
theorem dX4_uncut_28 : decode cX4_uncut 28 = .ok (.aload_n 0, 1) := by decide +kernel
theorem dX4_uncut_29 : decode cX4_uncut 29 = .ok (.getfield 10, 3) := by decide +kernel
theorem dX4_uncut_32 : decode cX4_uncut 32 = .ok (.iload_n 2, 1) := by decide +kernel
theorem dX4_uncut_33 : decode cX4_uncut 33 = .ok (.invokevirtual 153, 3) := by decide +kernel
theorem dX4_uncut_36 : decode cX4_uncut 36 = .ok (.aload_n 0, 1) := by decide +kernel
theorem dX4_uncut_37 : decode cX4_uncut 37 = .ok (.getfield 10, 3) := by decide +kernel
theorem dX4_uncut_40 : decode cX4_uncut 40 = .ok (.getfield 147, 3) := by decide +kernel
theorem dX4_uncut_43 : decode cX4_uncut 43 = .ok (.ireturn, 1) := by decide +kernel
theorem dX4_set_0 : decode cX4_set 0 = .ok (.iload_n 1, 1) := by decide +kernel
theorem dX4_set_1 : decode cX4_set 1 = .ok (.ifCond .lt 9, 3) := by decide +kernel
theorem dX4_set_4 : decode cX4_set 4 = .ok (.iload_n 1, 1) := by decide +kernel
theorem dX4_set_5 : decode cX4_set 5 = .ok (.bipush 6, 2) := by decide +kernel
theorem dX4_set_7 : decode cX4_set 7 = .ok (.if_icmp .lt 5, 3) := by decide +kernel
theorem dX4_set_10 : decode cX4_set 10 = .ok (.iconst (-1), 1) := by decide +kernel
theorem dX4_set_11 : decode cX4_set 11 = .ok (.ireturn, 1) := by decide +kernel
theorem dX4_set_12 : decode cX4_set 12 = .ok (.iload_n 2, 1) := by decide +kernel
theorem dX4_set_13 : decode cX4_set 13 = .ok (.getstatic 156, 3) := by decide +kernel
theorem dX4_set_16 : decode cX4_set 16 = .ok (.iload_n 1, 1) := by decide +kernel
theorem dX4_set_17 : decode cX4_set 17 = .ok (.iaload, 1) := by decide +kernel
theorem dX4_set_18 : decode cX4_set 18 = .ok (.if_icmp .lt 12, 3) := by decide +kernel
theorem dX4_set_21 : decode cX4_set 21 = .ok (.iload_n 2, 1) := by decide +kernel
theorem dX4_set_22 : decode cX4_set 22 = .ok (.getstatic 159, 3) := by decide +kernel
theorem dX4_set_25 : decode cX4_set 25 = .ok (.iload_n 1, 1) := by decide +kernel
theorem dX4_set_26 : decode cX4_set 26 = .ok (.iaload, 1) := by decide +kernel
theorem dX4_set_27 : decode cX4_set 27 = .ok (.if_icmp .le 6, 3) := by decide +kernel
theorem dX4_set_30 : decode cX4_set 30 = .ok (.bipush (-2), 2) := by decide +kernel
theorem dX4_set_32 : decode cX4_set 32 = .ok (.ireturn, 1) := by decide +kernel
theorem dX4_set_33 : decode cX4_set 33 = .ok (.aload_n 0, 1) := by decide +kernel
theorem dX4_set_34 : decode cX4_set 34 = .ok (.getfield 22, 3) := by decide +kernel
theorem dX4_set_37 : decode cX4_set 37 = .ok (.aload_n 0, 1) := by decide +kernel
theorem dX4_set_38 : decode cX4_set 38 = .ok (.getfield 10, 3) := by decide +kernel
theorem dX4_set_41 : decode cX4_set 41 = .ok (.invokevirtual 49, 3) := by decide +kernel
theorem dX4_set_44 : decode cX4_set 44 = .ok (.aload_n 0, 1) := by decide +kernel
theorem dX4_set_45 : decode cX4_set 45 = .ok (.getfield 10, 3) := by decide +kernel
theorem dX4_set_48 : decode cX4_set 48 = .ok (.getfield 130, 3) := by decide +kernel
theorem dX4_set_51 : decode cX4_set 51 = .ok (.iload_n 1, 1) := by decide +kernel
theorem dX4_set_52 : decode cX4_set 52 = .ok (.iaload, 1) := by decide +kernel
theorem dX4_set_53 : decode cX4_set 53 = .ok (.istore_n 3, 1) := by decide +kernel
theorem dX4_set_54 : decode cX4_set 54 = .ok (.aload_n 0, 1) := by decide +kernel
theorem dX4_set_55 : decode cX4_set 55 = .ok (.getfield 10, 3) := by decide +kernel
theorem dX4_set_58 : decode cX4_set 58 = .ok (.getfield 130, 3) := by decide +kernel
theorem dX4_set_61 : decode cX4_set 61 = .ok (.iload_n 1, 1) := by decide +kernel
theorem dX4_set_62 : decode cX4_set 62 = .ok (.iload_n 2, 1) := by decide +kernel
theorem dX4_set_63 : decode cX4_set 63 = .ok (.iastore, 1) := by decide +kernel
theorem dX4_set_64 : decode cX4_set 64 = .ok (.iload_n 3, 1) := by decide +kernel
theorem dX4_set_65 : decode cX4_set 65 = .ok (.ireturn, 1) := by decide +kernel
theorem dX4_subtitles_0 : decode cX4_subtitles 0 = .ok (.aload_n 0, 1) := by decide +kernel
theorem dX4_subtitles_1 : decode cX4_subtitles 1 = .ok (.getfield 10, 3) := by decide +kernel
theorem dX4_subtitles_4 : decode cX4_subtitles 4 = .ok (.getfield 117, 3) := by decide +kernel
theorem dX4_subtitles_7 : decode cX4_subtitles 7 = .ok (.ireturn, 1) := by decide +kernel
theorem dX4_subtitle_0 : decode cX4_subtitle 0 = .ok (.aload_n 0, 1) := by decide +kernel
theorem dX4_subtitle_1 : decode cX4_subtitle 1 = .ok (.getfield 10, 3) := by decide +kernel
theorem dX4_subtitle_4 : decode cX4_subtitle 4 = .ok (.iload_n 1, 1) := by decide +kernel
theorem dX4_subtitle_5 : decode cX4_subtitle 5 = .ok (.invokevirtual 109, 3) := by decide +kernel
theorem dX4_subtitle_8 : decode cX4_subtitle 8 = .ok (.ifCond .ne 5, 3) := by decide +kernel
theorem dX4_subtitle_11 : decode cX4_subtitle 11 = .ok (.iconst (-1), 1) := by decide +kernel
theorem dX4_subtitle_12 : decode cX4_subtitle 12 = .ok (.ireturn, 1) := by decide +kernel
theorem dX4_subtitle_13 : decode cX4_subtitle 13 = .ok (.aload_n 0, 1) := by decide +kernel
theorem dX4_subtitle_14 : decode cX4_subtitle 14 = .ok (.getfield 10, 3) := by decide +kernel
theorem dX4_subtitle_17 : decode cX4_subtitle 17 = .ok (.getfield 77, 3) := by decide +kernel
theorem dX4_subtitle_20 : decode cX4_subtitle 20 = .ok (.iload_n 1, 1) := by decide +kernel
theorem dX4_subtitle_21 : decode cX4_subtitle 21 = .ok (.aaload, 1) := by decide +kernel
theorem dX4_subtitle_22 : decode cX4_subtitle 22 = .ok (.astore_n 3, 1) := by decide +kernel
theorem dX4_subtitle_23 : decode cX4_subtitle 23 = .ok (.iload_n 2, 1) := by decide +kernel
theorem dX4_subtitle_24 : decode cX4_subtitle 24 = .ok (.tableswitch 96 0 6 #[44, 49, 54, 59, 68, 77, 91], 44) := by decide +kernel
theorem dX4_subtitle_68 : decode cX4_subtitle 68 = .ok (.aload_n 3, 1) := by decide +kernel
theorem dX4_subtitle_69 : decode cX4_subtitle 69 = .ok (.getfield 85, 3) := by decide +kernel
theorem dX4_subtitle_72 : decode cX4_subtitle 72 = .ok (.ireturn, 1) := by decide +kernel
theorem dX4_subtitle_73 : decode cX4_subtitle 73 = .ok (.aload_n 3, 1) := by decide +kernel
theorem dX4_subtitle_74 : decode cX4_subtitle 74 = .ok (.getfield 88, 3) := by decide +kernel
theorem dX4_subtitle_77 : decode cX4_subtitle 77 = .ok (.ireturn, 1) := by decide +kernel
theorem dX4_subtitle_78 : decode cX4_subtitle 78 = .ok (.aload_n 3, 1) := by decide +kernel
theorem dX4_subtitle_79 : decode cX4_subtitle 79 = .ok (.getfield 137, 3) := by decide +kernel
theorem dX4_subtitle_82 : decode cX4_subtitle 82 = .ok (.ireturn, 1) := by decide +kernel
theorem dX4_subtitle_83 : decode cX4_subtitle 83 = .ok (.aload_n 0, 1) := by decide +kernel
theorem dX4_subtitle_84 : decode cX4_subtitle 84 = .ok (.getfield 10, 3) := by decide +kernel
theorem dX4_subtitle_87 : decode cX4_subtitle 87 = .ok (.aload_n 3, 1) := by decide +kernel
theorem dX4_subtitle_88 : decode cX4_subtitle 88 = .ok (.invokevirtual 162, 3) := by decide +kernel
theorem dX4_subtitle_91 : decode cX4_subtitle 91 = .ok (.ireturn, 1) := by decide +kernel
theorem dX4_subtitle_92 : decode cX4_subtitle 92 = .ok (.aload_n 0, 1) := by decide +kernel
theorem dX4_subtitle_93 : decode cX4_subtitle 93 = .ok (.getfield 10, 3) := by decide +kernel
theorem dX4_subtitle_96 : decode cX4_subtitle 96 = .ok (.iload_n 1, 1) := by decide +kernel
theorem dX4_subtitle_97 : decode cX4_subtitle 97 = .ok (.invokevirtual 166, 3) := by decide +kernel
theorem dX4_subtitle_100 : decode cX4_subtitle 100 = .ok (.ireturn, 1) := by decide +kernel
theorem dX4_subtitle_101 : decode cX4_subtitle 101 = .ok (.aload_n 3, 1) := by decide +kernel
theorem dX4_subtitle_102 : decode cX4_subtitle 102 = .ok (.aload_n 0, 1) := by decide +kernel
theorem dX4_subtitle_103 : decode cX4_subtitle 103 = .ok (.getfield 10, 3) := by decide +kernel
theorem dX4_subtitle_106 : decode cX4_subtitle 106 = .ok (.getfield 130, 3) := by decide +kernel
theorem dX4_subtitle_109 : decode cX4_subtitle 109 = .ok (.iconst 4, 1) := by decide +kernel
theorem dX4_subtitle_110 : decode cX4_subtitle 110 = .ok (.iaload, 1) := by decide +kernel
theorem dX4_subtitle_111 : decode cX4_subtitle 111 = .ok (.invokevirtual 169, 3) := by decide +kernel
theorem dX4_subtitle_114 : decode cX4_subtitle 114 = .ok (.ireturn, 1) := by decide +kernel
theorem dX4_subtitle_115 : decode cX4_subtitle 115 = .ok (.aload_n 3, 1) := by decide +kernel
theorem dX4_subtitle_116 : decode cX4_subtitle 116 = .ok (.invokevirtual 124, 3) := by decide +kernel
theorem dX4_subtitle_119 : decode cX4_subtitle 119 = .ok (.ireturn, 1) := by decide +kernel
theorem dX4_subtitle_120 : decode cX4_subtitle 120 = .ok (.bipush (-2), 2) := by decide +kernel
theorem dX4_subtitle_122 : decode cX4_subtitle 122 = .ok (.ireturn, 1) := by decide +kernel
theorem dX4_character_0 : decode cX4_character 0 = .ok (.aload_n 0, 1) := by decide +kernel
theorem dX4_character_1 : decode cX4_character 1 = .ok (.getfield 10, 3) := by decide +kernel
theorem dX4_character_4 : decode cX4_character 4 = .ok (.iload_n 1, 1) := by decide +kernel
theorem dX4_character_5 : decode cX4_character 5 = .ok (.invokevirtual 109, 3) := by decide +kernel
theorem dX4_character_8 : decode cX4_character 8 = .ok (.ifCond .ne 5, 3) := by decide +kernel
theorem dX4_character_11 : decode cX4_character 11 = .ok (.iconst (-1), 1) := by decide +kernel
theorem dX4_character_12 : decode cX4_character 12 = .ok (.ireturn, 1) := by decide +kernel
theorem dX4_character_13 : decode cX4_character 13 = .ok (.iload_n 2, 1) := by decide +kernel
theorem dX4_character_14 : decode cX4_character 14 = .ok (.ifCond .ge 6, 3) := by decide +kernel
theorem dX4_character_17 : decode cX4_character 17 = .ok (.bipush (-2), 2) := by decide +kernel
theorem dX4_character_19 : decode cX4_character 19 = .ok (.ireturn, 1) := by decide +kernel
theorem dX4_character_20 : decode cX4_character 20 = .ok (.aload_n 0, 1) := by decide +kernel
theorem dX4_character_21 : decode cX4_character 21 = .ok (.getfield 10, 3) := by decide +kernel
theorem dX4_character_24 : decode cX4_character 24 = .ok (.getfield 77, 3) := by decide +kernel
theorem dX4_character_27 : decode cX4_character 27 = .ok (.iload_n 1, 1) := by decide +kernel
theorem dX4_character_28 : decode cX4_character 28 = .ok (.aaload, 1) := by decide +kernel
theorem dX4_character_29 : decode cX4_character 29 = .ok (.astore_n 3, 1) := by decide +kernel
theorem dX4_character_30 : decode cX4_character 30 = .ok (.iload_n 2, 1) := by decide +kernel
theorem dX4_character_31 : decode cX4_character 31 = .ok (.aload_n 3, 1) := by decide +kernel
theorem dX4_character_32 : decode cX4_character 32 = .ok (.getfield 137, 3) := by decide +kernel
theorem dX4_character_35 : decode cX4_character 35 = .ok (.if_icmp .ge 12, 3) := by decide +kernel
theorem dX4_character_38 : decode cX4_character 38 = .ok (.aload_n 3, 1) := by decide +kernel
theorem dX4_character_39 : decode cX4_character 39 = .ok (.getfield 172, 3) := by decide +kernel
theorem dX4_character_42 : decode cX4_character 42 = .ok (.iload_n 2, 1) := by decide +kernel
theorem dX4_character_43 : decode cX4_character 43 = .ok (.caload, 1) := by decide +kernel
theorem dX4_character_44 : decode cX4_character 44 = .ok (.goto 5, 3) := by decide +kernel
theorem dX4_character_47 : decode cX4_character 47 = .ok (.bipush (-6), 2) := by decide +kernel
theorem dX4_character_49 : decode cX4_character 49 = .ok (.ireturn, 1) := by decide +kernel
theorem dX4_line_0 : decode cX4_line 0 = .ok (.aload_n 0, 1) := by decide +kernel
theorem dX4_line_1 : decode cX4_line 1 = .ok (.getfield 10, 3) := by decide +kernel
theorem dX4_line_4 : decode cX4_line 4 = .ok (.iload_n 1, 1) := by decide +kernel
theorem dX4_line_5 : decode cX4_line 5 = .ok (.invokevirtual 109, 3) := by decide +kernel
theorem dX4_line_8 : decode cX4_line 8 = .ok (.ifCond .ne 5, 3) := by decide +kernel
theorem dX4_line_11 : decode cX4_line 11 = .ok (.iconst (-1), 1) := by decide +kernel
theorem dX4_line_12 : decode cX4_line 12 = .ok (.ireturn, 1) := by decide +kernel
theorem dX4_line_13 : decode cX4_line 13 = .ok (.iload_n 2, 1) := by decide +kernel
theorem dX4_line_14 : decode cX4_line 14 = .ok (.ifCond .ge 6, 3) := by decide +kernel
theorem dX4_line_17 : decode cX4_line 17 = .ok (.bipush (-2), 2) := by decide +kernel
theorem dX4_line_19 : decode cX4_line 19 = .ok (.ireturn, 1) := by decide +kernel
theorem dX4_line_20 : decode cX4_line 20 = .ok (.aload_n 0, 1) := by decide +kernel
theorem dX4_line_21 : decode cX4_line 21 = .ok (.getfield 10, 3) := by decide +kernel
theorem dX4_line_24 : decode cX4_line 24 = .ok (.getfield 77, 3) := by decide +kernel
theorem dX4_line_27 : decode cX4_line 27 = .ok (.iload_n 1, 1) := by decide +kernel
theorem dX4_line_28 : decode cX4_line 28 = .ok (.aaload, 1) := by decide +kernel
theorem dX4_line_29 : decode cX4_line 29 = .ok (.iload_n 2, 1) := by decide +kernel
theorem dX4_line_30 : decode cX4_line 30 = .ok (.aload_n 0, 1) := by decide +kernel
theorem dX4_line_31 : decode cX4_line 31 = .ok (.getfield 10, 3) := by decide +kernel
theorem dX4_line_34 : decode cX4_line 34 = .ok (.getfield 130, 3) := by decide +kernel
theorem dX4_line_37 : decode cX4_line 37 = .ok (.iconst 4, 1) := by decide +kernel
theorem dX4_line_38 : decode cX4_line 38 = .ok (.iaload, 1) := by decide +kernel
theorem dX4_line_39 : decode cX4_line 39 = .ok (.invokevirtual 175, 3) := by decide +kernel
theorem dX4_line_42 : decode cX4_line 42 = .ok (.ireturn, 1) := by decide +kernel
theorem dX4_at_0 : decode cX4_at 0 = .ok (.iload_n 1, 1) := by decide +kernel
theorem dX4_at_1 : decode cX4_at 1 = .ok (.ifCond .lt 10, 3) := by decide +kernel
theorem dX4_at_4 : decode cX4_at 4 = .ok (.iload_n 1, 1) := by decide +kernel
theorem dX4_at_5 : decode cX4_at 5 = .ok (.sipush 5000, 3) := by decide +kernel
theorem dX4_at_8 : decode cX4_at 8 = .ok (.if_icmp .lt 6, 3) := by decide +kernel
theorem dX4_at_11 : decode cX4_at 11 = .ok (.bipush (-2), 2) := by decide +kernel
theorem dX4_at_13 : decode cX4_at 13 = .ok (.ireturn, 1) := by decide +kernel
theorem dX4_at_14 : decode cX4_at 14 = .ok (.iconst 0, 1) := by decide +kernel
theorem dX4_at_15 : decode cX4_at 15 = .ok (.istore_n 2, 1) := by decide +kernel
theorem dX4_at_16 : decode cX4_at 16 = .ok (.iload_n 2, 1) := by decide +kernel
theorem dX4_at_17 : decode cX4_at 17 = .ok (.aload_n 0, 1) := by decide +kernel
theorem dX4_at_18 : decode cX4_at 18 = .ok (.getfield 10, 3) := by decide +kernel
theorem dX4_at_21 : decode cX4_at 21 = .ok (.getfield 117, 3) := by decide +kernel
theorem dX4_at_24 : decode cX4_at 24 = .ok (.if_icmp .ge 43, 3) := by decide +kernel
theorem dX4_at_27 : decode cX4_at 27 = .ok (.aload_n 0, 1) := by decide +kernel
theorem dX4_at_28 : decode cX4_at 28 = .ok (.getfield 10, 3) := by decide +kernel
theorem dX4_at_31 : decode cX4_at 31 = .ok (.getfield 77, 3) := by decide +kernel
theorem dX4_at_34 : decode cX4_at 34 = .ok (.iload_n 2, 1) := by decide +kernel
theorem dX4_at_35 : decode cX4_at 35 = .ok (.aaload, 1) := by decide +kernel
theorem dX4_at_36 : decode cX4_at 36 = .ok (.getfield 85, 3) := by decide +kernel
theorem dX4_at_39 : decode cX4_at 39 = .ok (.iload_n 1, 1) := by decide +kernel
theorem dX4_at_40 : decode cX4_at 40 = .ok (.if_icmp .gt 21, 3) := by decide +kernel
theorem dX4_at_43 : decode cX4_at 43 = .ok (.iload_n 1, 1) := by decide +kernel
theorem dX4_at_44 : decode cX4_at 44 = .ok (.aload_n 0, 1) := by decide +kernel
theorem dX4_at_45 : decode cX4_at 45 = .ok (.getfield 10, 3) := by decide +kernel
theorem dX4_at_48 : decode cX4_at 48 = .ok (.getfield 77, 3) := by decide +kernel
theorem dX4_at_51 : decode cX4_at 51 = .ok (.iload_n 2, 1) := by decide +kernel
theorem dX4_at_52 : decode cX4_at 52 = .ok (.aaload, 1) := by decide +kernel
theorem dX4_at_53 : decode cX4_at 53 = .ok (.getfield 88, 3) := by decide +kernel
theorem dX4_at_56 : decode cX4_at 56 = .ok (.if_icmp .ge 5, 3) := by decide +kernel
theorem dX4_at_59 : decode cX4_at 59 = .ok (.iload_n 2, 1) := by decide +kernel
theorem dX4_at_60 : decode cX4_at 60 = .ok (.ireturn, 1) := by decide +kernel
theorem dX4_at_61 : decode cX4_at 61 = .ok (.iinc 2 1, 3) := by decide +kernel
theorem dX4_at_64 : decode cX4_at 64 = .ok (.goto (-48), 3) := by decide +kernel
theorem dX4_at_67 : decode cX4_at 67 = .ok (.bipush (-6), 2) := by decide +kernel
theorem dX4_at_69 : decode cX4_at 69 = .ok (.ireturn, 1) := by decide +kernel
theorem dX4_cuts_0 : decode cX4_cuts 0 = .ok (.aload_n 0, 1) := by decide +kernel
theorem dX4_cuts_1 : decode cX4_cuts 1 = .ok (.getfield 10, 3) := by decide +kernel
theorem dX4_cuts_4 : decode cX4_cuts 4 = .ok (.getfield 147, 3) := by decide +kernel
theorem dX4_cuts_7 : decode cX4_cuts 7 = .ok (.ireturn, 1) := by decide +kernel
theorem dX4_cutAt_0 : decode cX4_cutAt 0 = .ok (.iload_n 1, 1) := by decide +kernel
theorem dX4_cutAt_1 : decode cX4_cutAt 1 = .ok (.ifCond .ge 6, 3) := by decide +kernel
theorem dX4_cutAt_4 : decode cX4_cutAt 4 = .ok (.bipush (-2), 2) := by decide +kernel
theorem dX4_cutAt_6 : decode cX4_cutAt 6 = .ok (.ireturn, 1) := by decide +kernel
theorem dX4_cutAt_7 : decode cX4_cutAt 7 = .ok (.iload_n 1, 1) := by decide +kernel
theorem dX4_cutAt_8 : decode cX4_cutAt 8 = .ok (.aload_n 0, 1) := by decide +kernel
theorem dX4_cutAt_9 : decode cX4_cutAt 9 = .ok (.getfield 10, 3) := by decide +kernel
theorem dX4_cutAt_12 : decode cX4_cutAt 12 = .ok (.getfield 147, 3) := by decide +kernel
theorem dX4_cutAt_15 : decode cX4_cutAt 15 = .ok (.if_icmp .ge 15, 3) := by decide +kernel
theorem dX4_cutAt_18 : decode cX4_cutAt 18 = .ok (.aload_n 0, 1) := by decide +kernel
theorem dX4_cutAt_19 : decode cX4_cutAt 19 = .ok (.getfield 10, 3) := by decide +kernel
theorem dX4_cutAt_22 : decode cX4_cutAt 22 = .ok (.getfield 178, 3) := by decide +kernel
theorem dX4_cutAt_25 : decode cX4_cutAt 25 = .ok (.iload_n 1, 1) := by decide +kernel
theorem dX4_cutAt_26 : decode cX4_cutAt 26 = .ok (.iaload, 1) := by decide +kernel
theorem dX4_cutAt_27 : decode cX4_cutAt 27 = .ok (.goto 5, 3) := by decide +kernel
theorem dX4_cutAt_30 : decode cX4_cutAt 30 = .ok (.bipush (-6), 2) := by decide +kernel
theorem dX4_cutAt_32 : decode cX4_cutAt 32 = .ok (.ireturn, 1) := by decide +kernel
theorem dX4_setting_0 : decode cX4_setting 0 = .ok (.iload_n 1, 1) := by decide +kernel
theorem dX4_setting_1 : decode cX4_setting 1 = .ok (.ifCond .lt 9, 3) := by decide +kernel
theorem dX4_setting_4 : decode cX4_setting 4 = .ok (.iload_n 1, 1) := by decide +kernel
theorem dX4_setting_5 : decode cX4_setting 5 = .ok (.bipush 6, 2) := by decide +kernel
theorem dX4_setting_7 : decode cX4_setting 7 = .ok (.if_icmp .lt 5, 3) := by decide +kernel
theorem dX4_setting_10 : decode cX4_setting 10 = .ok (.iconst (-1), 1) := by decide +kernel
theorem dX4_setting_11 : decode cX4_setting 11 = .ok (.ireturn, 1) := by decide +kernel
theorem dX4_setting_12 : decode cX4_setting 12 = .ok (.aload_n 0, 1) := by decide +kernel
theorem dX4_setting_13 : decode cX4_setting 13 = .ok (.getfield 10, 3) := by decide +kernel
theorem dX4_setting_16 : decode cX4_setting 16 = .ok (.getfield 130, 3) := by decide +kernel
theorem dX4_setting_19 : decode cX4_setting 19 = .ok (.iload_n 1, 1) := by decide +kernel
theorem dX4_setting_20 : decode cX4_setting 20 = .ok (.iaload, 1) := by decide +kernel
theorem dX4_setting_21 : decode cX4_setting 21 = .ok (.ireturn, 1) := by decide +kernel
theorem dX4_faulty_0 : decode cX4_faulty 0 = .ok (.iload_n 1, 1) := by decide +kernel
theorem dX4_faulty_1 : decode cX4_faulty 1 = .ok (.ifCond .lt 17, 3) := by decide +kernel
theorem dX4_faulty_4 : decode cX4_faulty 4 = .ok (.iload_n 1, 1) := by decide +kernel
theorem dX4_faulty_5 : decode cX4_faulty 5 = .ok (.bipush 32, 2) := by decide +kernel
theorem dX4_faulty_7 : decode cX4_faulty 7 = .ok (.if_icmp .gt 11, 3) := by decide +kernel
theorem dX4_faulty_10 : decode cX4_faulty 10 = .ok (.iload_n 1, 1) := by decide +kernel
theorem dX4_faulty_11 : decode cX4_faulty 11 = .ok (.invokestatic 181, 3) := by decide +kernel
theorem dX4_faulty_14 : decode cX4_faulty 14 = .ok (.iconst 1, 1) := by decide +kernel
theorem dX4_faulty_15 : decode cX4_faulty 15 = .ok (.if_icmp .le 6, 3) := by decide +kernel
theorem dX4_faulty_18 : decode cX4_faulty 18 = .ok (.bipush (-2), 2) := by decide +kernel
theorem dX4_faulty_20 : decode cX4_faulty 20 = .ok (.ireturn, 1) := by decide +kernel
theorem dX4_faulty_21 : decode cX4_faulty 21 = .ok (.aload_n 0, 1) := by decide +kernel
theorem dX4_faulty_22 : decode cX4_faulty 22 = .ok (.getfield 10, 3) := by decide +kernel
theorem dX4_faulty_25 : decode cX4_faulty 25 = .ok (.iload_n 1, 1) := by decide +kernel
theorem dX4_faulty_26 : decode cX4_faulty 26 = .ok (.ifCond .ne 8, 3) := by decide +kernel
theorem dX4_faulty_29 : decode cX4_faulty 29 = .ok (.bipush 63, 2) := by decide +kernel
theorem dX4_faulty_31 : decode cX4_faulty 31 = .ok (.goto 4, 3) := by decide +kernel
theorem dX4_faulty_34 : decode cX4_faulty 34 = .ok (.iload_n 1, 1) := by decide +kernel
theorem dX4_faulty_35 : decode cX4_faulty 35 = .ok (.invokevirtual 186, 3) := by decide +kernel
theorem dX4_faulty_38 : decode cX4_faulty 38 = .ok (.ireturn, 1) := by decide +kernel
theorem dX4_shown_0 : decode cX4_shown 0 = .ok (.aload_n 0, 1) := by decide +kernel
theorem dX4_shown_1 : decode cX4_shown 1 = .ok (.getfield 10, 3) := by decide +kernel
theorem dX4_shown_4 : decode cX4_shown 4 = .ok (.invokevirtual 189, 3) := by decide +kernel
theorem dX4_shown_7 : decode cX4_shown 7 = .ok (.ireturn, 1) := by decide +kernel
theorem dX4_meanSpeed_0 : decode cX4_meanSpeed 0 = .ok (.aload_n 0, 1) := by decide +kernel
theorem dX4_meanSpeed_1 : decode cX4_meanSpeed 1 = .ok (.getfield 10, 3) := by decide +kernel
theorem dX4_meanSpeed_4 : decode cX4_meanSpeed 4 = .ok (.invokevirtual 189, 3) := by decide +kernel
theorem dX4_meanSpeed_7 : decode cX4_meanSpeed 7 = .ok (.istore_n 1, 1) := by decide +kernel
theorem dX4_meanSpeed_8 : decode cX4_meanSpeed 8 = .ok (.iload_n 1, 1) := by decide +kernel
theorem dX4_meanSpeed_9 : decode cX4_meanSpeed 9 = .ok (.iconst 1, 1) := by decide +kernel
theorem dX4_meanSpeed_10 : decode cX4_meanSpeed 10 = .ok (.if_icmp .ge 5, 3) := by decide +kernel
theorem dX4_meanSpeed_13 : decode cX4_meanSpeed 13 = .ok (.fconst 0, 1) := by decide +kernel
theorem dX4_meanSpeed_14 : decode cX4_meanSpeed 14 = .ok (.freturn, 1) := by decide +kernel
theorem dX4_meanSpeed_15 : decode cX4_meanSpeed 15 = .ok (.aload_n 0, 1) := by decide +kernel
theorem dX4_meanSpeed_16 : decode cX4_meanSpeed 16 = .ok (.getfield 10, 3) := by decide +kernel
theorem dX4_meanSpeed_19 : decode cX4_meanSpeed 19 = .ok (.invokevirtual 192, 3) := by decide +kernel
theorem dX4_meanSpeed_22 : decode cX4_meanSpeed 22 = .ok (.i2f, 1) := by decide +kernel
theorem dX4_meanSpeed_23 : decode cX4_meanSpeed 23 = .ok (.ldc 195, 2) := by decide +kernel
theorem dX4_meanSpeed_25 : decode cX4_meanSpeed 25 = .ok (.fmul, 1) := by decide +kernel
theorem dX4_meanSpeed_26 : decode cX4_meanSpeed 26 = .ok (.iload_n 1, 1) := by decide +kernel
theorem dX4_meanSpeed_27 : decode cX4_meanSpeed 27 = .ok (.i2f, 1) := by decide +kernel
theorem dX4_meanSpeed_28 : decode cX4_meanSpeed 28 = .ok (.fdiv, 1) := by decide +kernel
theorem dX4_meanSpeed_29 : decode cX4_meanSpeed 29 = .ok (.freturn, 1) := by decide +kernel
theorem dX4_unread_0 : decode cX4_unread 0 = .ok (.iload_n 1, 1) := by decide +kernel
theorem dX4_unread_1 : decode cX4_unread 1 = .ok (.iconst 1, 1) := by decide +kernel
theorem dX4_unread_2 : decode cX4_unread 2 = .ok (.if_icmp .lt 9, 3) := by decide +kernel
theorem dX4_unread_5 : decode cX4_unread 5 = .ok (.iload_n 1, 1) := by decide +kernel
theorem dX4_unread_6 : decode cX4_unread 6 = .ok (.bipush 60, 2) := by decide +kernel
theorem dX4_unread_8 : decode cX4_unread 8 = .ok (.if_icmp .le 6, 3) := by decide +kernel
theorem dX4_unread_11 : decode cX4_unread 11 = .ok (.bipush (-2), 2) := by decide +kernel
theorem dX4_unread_13 : decode cX4_unread 13 = .ok (.ireturn, 1) := by decide +kernel
theorem dX4_unread_14 : decode cX4_unread 14 = .ok (.aload_n 0, 1) := by decide +kernel
theorem dX4_unread_15 : decode cX4_unread 15 = .ok (.getfield 10, 3) := by decide +kernel
theorem dX4_unread_18 : decode cX4_unread 18 = .ok (.iload_n 1, 1) := by decide +kernel
theorem dX4_unread_19 : decode cX4_unread 19 = .ok (.invokevirtual 196, 3) := by decide +kernel
theorem dX4_unread_22 : decode cX4_unread 22 = .ok (.ireturn, 1) := by decide +kernel
theorem dX4_leastPace_0 : decode cX4_leastPace 0 = .ok (.iconst 1, 1) := by decide +kernel
theorem dX4_leastPace_1 : decode cX4_leastPace 1 = .ok (.istore_n 1, 1) := by decide +kernel
theorem dX4_leastPace_2 : decode cX4_leastPace 2 = .ok (.iload_n 1, 1) := by decide +kernel
theorem dX4_leastPace_3 : decode cX4_leastPace 3 = .ok (.bipush 60, 2) := by decide +kernel
theorem dX4_leastPace_5 : decode cX4_leastPace 5 = .ok (.if_icmp .gt 22, 3) := by decide +kernel
theorem dX4_leastPace_8 : decode cX4_leastPace 8 = .ok (.aload_n 0, 1) := by decide +kernel
theorem dX4_leastPace_9 : decode cX4_leastPace 9 = .ok (.getfield 10, 3) := by decide +kernel
theorem dX4_leastPace_12 : decode cX4_leastPace 12 = .ok (.iload_n 1, 1) := by decide +kernel
theorem dX4_leastPace_13 : decode cX4_leastPace 13 = .ok (.invokevirtual 196, 3) := by decide +kernel
theorem dX4_leastPace_16 : decode cX4_leastPace 16 = .ok (.ifCond .ne 5, 3) := by decide +kernel
theorem dX4_leastPace_19 : decode cX4_leastPace 19 = .ok (.iload_n 1, 1) := by decide +kernel
theorem dX4_leastPace_20 : decode cX4_leastPace 20 = .ok (.ireturn, 1) := by decide +kernel
theorem dX4_leastPace_21 : decode cX4_leastPace 21 = .ok (.iinc 1 1, 3) := by decide +kernel
theorem dX4_leastPace_24 : decode cX4_leastPace 24 = .ok (.goto (-22), 3) := by decide +kernel
theorem dX4_leastPace_27 : decode cX4_leastPace 27 = .ok (.bipush (-6), 2) := by decide +kernel
theorem dX4_leastPace_29 : decode cX4_leastPace 29 = .ok (.ireturn, 1) := by decide +kernel
theorem dX4_ifSeated_0 : decode cX4_ifSeated 0 = .ok (.iload_n 1, 1) := by decide +kernel
theorem dX4_ifSeated_1 : decode cX4_ifSeated 1 = .ok (.ifCond .lt 8, 3) := by decide +kernel
theorem dX4_ifSeated_4 : decode cX4_ifSeated 4 = .ok (.iload_n 1, 1) := by decide +kernel
theorem dX4_ifSeated_5 : decode cX4_ifSeated 5 = .ok (.iconst 2, 1) := by decide +kernel
theorem dX4_ifSeated_6 : decode cX4_ifSeated 6 = .ok (.if_icmp .le 6, 3) := by decide +kernel
theorem dX4_ifSeated_9 : decode cX4_ifSeated 9 = .ok (.bipush (-2), 2) := by decide +kernel
theorem dX4_ifSeated_11 : decode cX4_ifSeated 11 = .ok (.ireturn, 1) := by decide +kernel
theorem dX4_ifSeated_12 : decode cX4_ifSeated 12 = .ok (.aload_n 0, 1) := by decide +kernel
theorem dX4_ifSeated_13 : decode cX4_ifSeated 13 = .ok (.getfield 16, 3) := by decide +kernel
theorem dX4_ifSeated_16 : decode cX4_ifSeated 16 = .ok (.aload_n 0, 1) := by decide +kernel
theorem dX4_ifSeated_17 : decode cX4_ifSeated 17 = .ok (.getfield 10, 3) := by decide +kernel
theorem dX4_ifSeated_20 : decode cX4_ifSeated 20 = .ok (.invokevirtual 199, 3) := by decide +kernel
theorem dX4_ifSeated_23 : decode cX4_ifSeated 23 = .ok (.aload_n 0, 1) := by decide +kernel
theorem dX4_ifSeated_24 : decode cX4_ifSeated 24 = .ok (.getfield 16, 3) := by decide +kernel
theorem dX4_ifSeated_27 : decode cX4_ifSeated 27 = .ok (.aload_n 0, 1) := by decide +kernel
theorem dX4_ifSeated_28 : decode cX4_ifSeated 28 = .ok (.getfield 16, 3) := by decide +kernel
theorem dX4_ifSeated_31 : decode cX4_ifSeated 31 = .ok (.getfield 130, 3) := by decide +kernel
theorem dX4_ifSeated_34 : decode cX4_ifSeated 34 = .ok (.iconst 1, 1) := by decide +kernel
theorem dX4_ifSeated_35 : decode cX4_ifSeated 35 = .ok (.iaload, 1) := by decide +kernel
theorem dX4_ifSeated_36 : decode cX4_ifSeated 36 = .ok (.invokevirtual 141, 3) := by decide +kernel
theorem dX4_ifSeated_39 : decode cX4_ifSeated 39 = .ok (.istore_n 2, 1) := by decide +kernel
theorem dX4_ifSeated_40 : decode cX4_ifSeated 40 = .ok (.iload_n 1, 1) := by decide +kernel
theorem dX4_ifSeated_41 : decode cX4_ifSeated 41 = .ok (.ifCond .ne 5, 3) := by decide +kernel
theorem dX4_ifSeated_44 : decode cX4_ifSeated 44 = .ok (.iload_n 2, 1) := by decide +kernel
theorem dX4_ifSeated_45 : decode cX4_ifSeated 45 = .ok (.ireturn, 1) := by decide +kernel
theorem dX4_ifSeated_46 : decode cX4_ifSeated 46 = .ok (.iload_n 1, 1) := by decide +kernel
theorem dX4_ifSeated_47 : decode cX4_ifSeated 47 = .ok (.iconst 1, 1) := by decide +kernel
theorem dX4_ifSeated_48 : decode cX4_ifSeated 48 = .ok (.if_icmp .ne 15, 3) := by decide +kernel
theorem dX4_ifSeated_51 : decode cX4_ifSeated 51 = .ok (.aload_n 0, 1) := by decide +kernel
theorem dX4_ifSeated_52 : decode cX4_ifSeated 52 = .ok (.getfield 16, 3) := by decide +kernel
theorem dX4_ifSeated_55 : decode cX4_ifSeated 55 = .ok (.bipush 63, 2) := by decide +kernel
theorem dX4_ifSeated_57 : decode cX4_ifSeated 57 = .ok (.invokevirtual 186, 3) := by decide +kernel
theorem dX4_ifSeated_60 : decode cX4_ifSeated 60 = .ok (.goto 10, 3) := by decide +kernel
theorem dX4_ifSeated_63 : decode cX4_ifSeated 63 = .ok (.aload_n 0, 1) := by decide +kernel
theorem dX4_ifSeated_64 : decode cX4_ifSeated 64 = .ok (.getfield 16, 3) := by decide +kernel
theorem dX4_ifSeated_67 : decode cX4_ifSeated 67 = .ok (.invokevirtual 189, 3) := by decide +kernel
theorem dX4_ifSeated_70 : decode cX4_ifSeated 70 = .ok (.ireturn, 1) := by decide +kernel
theorem dX4_bestGap_0 : decode cX4_bestGap 0 = .ok (.aload_n 0, 1) := by decide +kernel
theorem dX4_bestGap_1 : decode cX4_bestGap 1 = .ok (.getfield 16, 3) := by decide +kernel
theorem dX4_bestGap_4 : decode cX4_bestGap 4 = .ok (.aload_n 0, 1) := by decide +kernel
theorem dX4_bestGap_5 : decode cX4_bestGap 5 = .ok (.getfield 10, 3) := by decide +kernel
theorem dX4_bestGap_8 : decode cX4_bestGap 8 = .ok (.invokevirtual 199, 3) := by decide +kernel
theorem dX4_bestGap_11 : decode cX4_bestGap 11 = .ok (.getstatic 156, 3) := by decide +kernel
theorem dX4_bestGap_14 : decode cX4_bestGap 14 = .ok (.iconst 1, 1) := by decide +kernel
theorem dX4_bestGap_15 : decode cX4_bestGap 15 = .ok (.iaload, 1) := by decide +kernel
theorem dX4_bestGap_16 : decode cX4_bestGap 16 = .ok (.istore_n 1, 1) := by decide +kernel
theorem dX4_bestGap_17 : decode cX4_bestGap 17 = .ok (.bipush 21, 2) := by decide +kernel
theorem dX4_bestGap_19 : decode cX4_bestGap 19 = .ok (.istore_n 2, 1) := by decide +kernel
theorem dX4_bestGap_20 : decode cX4_bestGap 20 = .ok (.getstatic 156, 3) := by decide +kernel
theorem dX4_bestGap_23 : decode cX4_bestGap 23 = .ok (.iconst 1, 1) := by decide +kernel
theorem dX4_bestGap_24 : decode cX4_bestGap 24 = .ok (.iaload, 1) := by decide +kernel
theorem dX4_bestGap_25 : decode cX4_bestGap 25 = .ok (.istore_n 3, 1) := by decide +kernel
theorem dX4_bestGap_26 : decode cX4_bestGap 26 = .ok (.iload_n 3, 1) := by decide +kernel
theorem dX4_bestGap_27 : decode cX4_bestGap 27 = .ok (.getstatic 159, 3) := by decide +kernel
theorem dX4_bestGap_30 : decode cX4_bestGap 30 = .ok (.iconst 1, 1) := by decide +kernel
theorem dX4_bestGap_31 : decode cX4_bestGap 31 = .ok (.iaload, 1) := by decide +kernel
theorem dX4_bestGap_32 : decode cX4_bestGap 32 = .ok (.if_icmp .gt 58, 3) := by decide +kernel
theorem dX4_bestGap_35 : decode cX4_bestGap 35 = .ok (.aload_n 0, 1) := by decide +kernel
theorem dX4_bestGap_36 : decode cX4_bestGap 36 = .ok (.getfield 16, 3) := by decide +kernel
theorem dX4_bestGap_39 : decode cX4_bestGap 39 = .ok (.aload_n 0, 1) := by decide +kernel
theorem dX4_bestGap_40 : decode cX4_bestGap 40 = .ok (.getfield 10, 3) := by decide +kernel
theorem dX4_bestGap_43 : decode cX4_bestGap 43 = .ok (.invokevirtual 202, 3) := by decide +kernel
theorem dX4_bestGap_46 : decode cX4_bestGap 46 = .ok (.aload_n 0, 1) := by decide +kernel
theorem dX4_bestGap_47 : decode cX4_bestGap 47 = .ok (.getfield 16, 3) := by decide +kernel
theorem dX4_bestGap_50 : decode cX4_bestGap 50 = .ok (.iload_n 3, 1) := by decide +kernel
theorem dX4_bestGap_51 : decode cX4_bestGap 51 = .ok (.invokevirtual 141, 3) := by decide +kernel
theorem dX4_bestGap_54 : decode cX4_bestGap 54 = .ok (.pop, 1) := by decide +kernel
theorem dX4_bestGap_55 : decode cX4_bestGap 55 = .ok (.aload_n 0, 1) := by decide +kernel
theorem dX4_bestGap_56 : decode cX4_bestGap 56 = .ok (.getfield 16, 3) := by decide +kernel
theorem dX4_bestGap_59 : decode cX4_bestGap 59 = .ok (.aload_n 0, 1) := by decide +kernel
theorem dX4_bestGap_60 : decode cX4_bestGap 60 = .ok (.getfield 16, 3) := by decide +kernel
theorem dX4_bestGap_63 : decode cX4_bestGap 63 = .ok (.getfield 130, 3) := by decide +kernel
theorem dX4_bestGap_66 : decode cX4_bestGap 66 = .ok (.iconst 0, 1) := by decide +kernel
theorem dX4_bestGap_67 : decode cX4_bestGap 67 = .ok (.iaload, 1) := by decide +kernel
theorem dX4_bestGap_68 : decode cX4_bestGap 68 = .ok (.invokevirtual 196, 3) := by decide +kernel
theorem dX4_bestGap_71 : decode cX4_bestGap 71 = .ok (.istore 4, 2) := by decide +kernel
theorem dX4_bestGap_73 : decode cX4_bestGap 73 = .ok (.iload 4, 2) := by decide +kernel
theorem dX4_bestGap_75 : decode cX4_bestGap 75 = .ok (.iload_n 2, 1) := by decide +kernel
theorem dX4_bestGap_76 : decode cX4_bestGap 76 = .ok (.if_icmp .ge 8, 3) := by decide +kernel
theorem dX4_bestGap_79 : decode cX4_bestGap 79 = .ok (.iload 4, 2) := by decide +kernel
theorem dX4_bestGap_81 : decode cX4_bestGap 81 = .ok (.istore_n 2, 1) := by decide +kernel
theorem dX4_bestGap_82 : decode cX4_bestGap 82 = .ok (.iload_n 3, 1) := by decide +kernel
theorem dX4_bestGap_83 : decode cX4_bestGap 83 = .ok (.istore_n 1, 1) := by decide +kernel
theorem dX4_bestGap_84 : decode cX4_bestGap 84 = .ok (.iinc 3 1, 3) := by decide +kernel
theorem dX4_bestGap_87 : decode cX4_bestGap 87 = .ok (.goto (-61), 3) := by decide +kernel
theorem dX4_bestGap_90 : decode cX4_bestGap 90 = .ok (.iload_n 1, 1) := by decide +kernel
theorem dX4_bestGap_91 : decode cX4_bestGap 91 = .ok (.ireturn, 1) := by decide +kernel
theorem dX4_writeReport_0 : decode cX4_writeReport 0 = .ok (.aload_n 0, 1) := by decide +kernel
theorem dX4_writeReport_1 : decode cX4_writeReport 1 = .ok (.getfield 33, 3) := by decide +kernel
theorem dX4_writeReport_4 : decode cX4_writeReport 4 = .ok (.iconst 0, 1) := by decide +kernel
theorem dX4_writeReport_5 : decode cX4_writeReport 5 = .ok (.iload_n 1, 1) := by decide +kernel
theorem dX4_writeReport_6 : decode cX4_writeReport 6 = .ok (.iastore, 1) := by decide +kernel
theorem dX4_writeReport_7 : decode cX4_writeReport 7 = .ok (.aload_n 0, 1) := by decide +kernel
theorem dX4_writeReport_8 : decode cX4_writeReport 8 = .ok (.getfield 33, 3) := by decide +kernel
theorem dX4_writeReport_11 : decode cX4_writeReport 11 = .ok (.iconst 1, 1) := by decide +kernel
theorem dX4_writeReport_12 : decode cX4_writeReport 12 = .ok (.iload_n 2, 1) := by decide +kernel
theorem dX4_writeReport_13 : decode cX4_writeReport 13 = .ok (.iastore, 1) := by decide +kernel
theorem dX4_writeReport_14 : decode cX4_writeReport 14 = .ok (.aload_n 0, 1) := by decide +kernel
theorem dX4_writeReport_15 : decode cX4_writeReport 15 = .ok (.getfield 33, 3) := by decide +kernel
theorem dX4_writeReport_18 : decode cX4_writeReport 18 = .ok (.iconst 2, 1) := by decide +kernel
theorem dX4_writeReport_19 : decode cX4_writeReport 19 = .ok (.iload_n 3, 1) := by decide +kernel
theorem dX4_writeReport_20 : decode cX4_writeReport 20 = .ok (.iastore, 1) := by decide +kernel
theorem dX4_writeReport_21 : decode cX4_writeReport 21 = .ok (.return_, 1) := by decide +kernel
theorem dJ6_bitCount_0f7a4_0 : decode cJ6_bitCount_0f7a4 0 = .ok (.iload_n 0, 1) := by decide +kernel
theorem dJ6_bitCount_0f7a4_1 : decode cJ6_bitCount_0f7a4 1 = .ok (.iload_n 0, 1) := by decide +kernel
theorem dJ6_bitCount_0f7a4_2 : decode cJ6_bitCount_0f7a4 2 = .ok (.iconst 1, 1) := by decide +kernel
theorem dJ6_bitCount_0f7a4_3 : decode cJ6_bitCount_0f7a4 3 = .ok (.iushr, 1) := by decide +kernel
theorem dJ6_bitCount_0f7a4_4 : decode cJ6_bitCount_0f7a4 4 = .ok (.ldc_w 265, 3) := by decide +kernel
theorem dJ6_bitCount_0f7a4_7 : decode cJ6_bitCount_0f7a4 7 = .ok (.iand, 1) := by decide +kernel
theorem dJ6_bitCount_0f7a4_8 : decode cJ6_bitCount_0f7a4 8 = .ok (.isub, 1) := by decide +kernel
theorem dJ6_bitCount_0f7a4_9 : decode cJ6_bitCount_0f7a4 9 = .ok (.istore_n 0, 1) := by decide +kernel
theorem dJ6_bitCount_0f7a4_10 : decode cJ6_bitCount_0f7a4 10 = .ok (.iload_n 0, 1) := by decide +kernel
theorem dJ6_bitCount_0f7a4_11 : decode cJ6_bitCount_0f7a4 11 = .ok (.ldc_w 266, 3) := by decide +kernel
theorem dJ6_bitCount_0f7a4_14 : decode cJ6_bitCount_0f7a4 14 = .ok (.iand, 1) := by decide +kernel
theorem dJ6_bitCount_0f7a4_15 : decode cJ6_bitCount_0f7a4 15 = .ok (.iload_n 0, 1) := by decide +kernel
theorem dJ6_bitCount_0f7a4_16 : decode cJ6_bitCount_0f7a4 16 = .ok (.iconst 2, 1) := by decide +kernel
theorem dJ6_bitCount_0f7a4_17 : decode cJ6_bitCount_0f7a4 17 = .ok (.iushr, 1) := by decide +kernel
theorem dJ6_bitCount_0f7a4_18 : decode cJ6_bitCount_0f7a4 18 = .ok (.ldc_w 266, 3) := by decide +kernel
theorem dJ6_bitCount_0f7a4_21 : decode cJ6_bitCount_0f7a4 21 = .ok (.iand, 1) := by decide +kernel
theorem dJ6_bitCount_0f7a4_22 : decode cJ6_bitCount_0f7a4 22 = .ok (.iadd, 1) := by decide +kernel
theorem dJ6_bitCount_0f7a4_23 : decode cJ6_bitCount_0f7a4 23 = .ok (.istore_n 0, 1) := by decide +kernel
theorem dJ6_bitCount_0f7a4_24 : decode cJ6_bitCount_0f7a4 24 = .ok (.iload_n 0, 1) := by decide +kernel
theorem dJ6_bitCount_0f7a4_25 : decode cJ6_bitCount_0f7a4 25 = .ok (.iload_n 0, 1) := by decide +kernel
theorem dJ6_bitCount_0f7a4_26 : decode cJ6_bitCount_0f7a4 26 = .ok (.iconst 4, 1) := by decide +kernel
theorem dJ6_bitCount_0f7a4_27 : decode cJ6_bitCount_0f7a4 27 = .ok (.iushr, 1) := by decide +kernel
theorem dJ6_bitCount_0f7a4_28 : decode cJ6_bitCount_0f7a4 28 = .ok (.iadd, 1) := by decide +kernel
theorem dJ6_bitCount_0f7a4_29 : decode cJ6_bitCount_0f7a4 29 = .ok (.ldc_w 267, 3) := by decide +kernel
theorem dJ6_bitCount_0f7a4_32 : decode cJ6_bitCount_0f7a4 32 = .ok (.iand, 1) := by decide +kernel
theorem dJ6_bitCount_0f7a4_33 : decode cJ6_bitCount_0f7a4 33 = .ok (.istore_n 0, 1) := by decide +kernel
theorem dJ6_bitCount_0f7a4_34 : decode cJ6_bitCount_0f7a4 34 = .ok (.iload_n 0, 1) := by decide +kernel
theorem dJ6_bitCount_0f7a4_35 : decode cJ6_bitCount_0f7a4 35 = .ok (.iload_n 0, 1) := by decide +kernel
theorem dJ6_bitCount_0f7a4_36 : decode cJ6_bitCount_0f7a4 36 = .ok (.bipush 8, 2) := by decide +kernel
theorem dJ6_bitCount_0f7a4_38 : decode cJ6_bitCount_0f7a4 38 = .ok (.iushr, 1) := by decide +kernel
theorem dJ6_bitCount_0f7a4_39 : decode cJ6_bitCount_0f7a4 39 = .ok (.iadd, 1) := by decide +kernel
theorem dJ6_bitCount_0f7a4_40 : decode cJ6_bitCount_0f7a4 40 = .ok (.istore_n 0, 1) := by decide +kernel
theorem dJ6_bitCount_0f7a4_41 : decode cJ6_bitCount_0f7a4 41 = .ok (.iload_n 0, 1) := by decide +kernel
theorem dJ6_bitCount_0f7a4_42 : decode cJ6_bitCount_0f7a4 42 = .ok (.iload_n 0, 1) := by decide +kernel
theorem dJ6_bitCount_0f7a4_43 : decode cJ6_bitCount_0f7a4 43 = .ok (.bipush 16, 2) := by decide +kernel
theorem dJ6_bitCount_0f7a4_45 : decode cJ6_bitCount_0f7a4 45 = .ok (.iushr, 1) := by decide +kernel
theorem dJ6_bitCount_0f7a4_46 : decode cJ6_bitCount_0f7a4 46 = .ok (.iadd, 1) := by decide +kernel
theorem dJ6_bitCount_0f7a4_47 : decode cJ6_bitCount_0f7a4 47 = .ok (.istore_n 0, 1) := by decide +kernel
theorem dJ6_bitCount_0f7a4_48 : decode cJ6_bitCount_0f7a4 48 = .ok (.iload_n 0, 1) := by decide +kernel
theorem dJ6_bitCount_0f7a4_49 : decode cJ6_bitCount_0f7a4 49 = .ok (.bipush 63, 2) := by decide +kernel
theorem dJ6_bitCount_0f7a4_51 : decode cJ6_bitCount_0f7a4 51 = .ok (.iand, 1) := by decide +kernel
theorem dJ6_bitCount_0f7a4_52 : decode cJ6_bitCount_0f7a4 52 = .ok (.ireturn, 1) := by decide +kernel
theorem dJ9_abs_0f7a4_0 : decode cJ9_abs_0f7a4 0 = .ok (.iload_n 0, 1) := by decide +kernel
theorem dJ9_abs_0f7a4_1 : decode cJ9_abs_0f7a4 1 = .ok (.ifCond .ge 8, 3) := by decide +kernel
theorem dJ9_abs_0f7a4_4 : decode cJ9_abs_0f7a4 4 = .ok (.iload_n 0, 1) := by decide +kernel
theorem dJ9_abs_0f7a4_5 : decode cJ9_abs_0f7a4 5 = .ok (.ineg, 1) := by decide +kernel
theorem dJ9_abs_0f7a4_6 : decode cJ9_abs_0f7a4 6 = .ok (.goto 4, 3) := by decide +kernel
theorem dJ9_abs_0f7a4_9 : decode cJ9_abs_0f7a4 9 = .ok (.iload_n 0, 1) := by decide +kernel
theorem dJ9_abs_0f7a4_10 : decode cJ9_abs_0f7a4 10 = .ok (.ireturn, 1) := by decide +kernel
theorem dJ9_max_7cf53_0 : decode cJ9_max_7cf53 0 = .ok (.iload_n 0, 1) := by decide +kernel
theorem dJ9_max_7cf53_1 : decode cJ9_max_7cf53 1 = .ok (.iload_n 1, 1) := by decide +kernel
theorem dJ9_max_7cf53_2 : decode cJ9_max_7cf53 2 = .ok (.if_icmp .lt 7, 3) := by decide +kernel
theorem dJ9_max_7cf53_5 : decode cJ9_max_7cf53 5 = .ok (.iload_n 0, 1) := by decide +kernel
theorem dJ9_max_7cf53_6 : decode cJ9_max_7cf53 6 = .ok (.goto 4, 3) := by decide +kernel
theorem dJ9_max_7cf53_9 : decode cJ9_max_7cf53 9 = .ok (.iload_n 1, 1) := by decide +kernel
theorem dJ9_max_7cf53_10 : decode cJ9_max_7cf53 10 = .ok (.ireturn, 1) := by decide +kernel
theorem dJ9_min_7cf53_0 : decode cJ9_min_7cf53 0 = .ok (.iload_n 0, 1) := by decide +kernel
theorem dJ9_min_7cf53_1 : decode cJ9_min_7cf53 1 = .ok (.iload_n 1, 1) := by decide +kernel
theorem dJ9_min_7cf53_2 : decode cJ9_min_7cf53 2 = .ok (.if_icmp .gt 7, 3) := by decide +kernel
theorem dJ9_min_7cf53_5 : decode cJ9_min_7cf53 5 = .ok (.iload_n 0, 1) := by decide +kernel
theorem dJ9_min_7cf53_6 : decode cJ9_min_7cf53 6 = .ok (.goto 4, 3) := by decide +kernel
theorem dJ9_min_7cf53_9 : decode cJ9_min_7cf53 9 = .ok (.iload_n 1, 1) := by decide +kernel
theorem dJ9_min_7cf53_10 : decode cJ9_min_7cf53 10 = .ok (.ireturn, 1) := by decide +kernel
