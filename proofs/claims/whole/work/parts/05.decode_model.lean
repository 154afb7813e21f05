theorem dX5_init_0 : decode cX5_init 0 = .ok (.aload_n 0, 1) := by decide +kernel
theorem dX5_init_1 : decode cX5_init 1 = .ok (.invokespecial 1, 3) := by decide +kernel
theorem dX5_init_4 : decode cX5_init 4 = .ok (.aload_n 0, 1) := by decide +kernel
theorem dX5_init_5 : decode cX5_init 5 = .ok (.sipush 880, 3) := by decide +kernel
theorem dX5_init_8 : decode cX5_init 8 = .ok (.newarray .int, 2) := by decide +kernel
theorem dX5_init_10 : decode cX5_init 10 = .ok (.putfield 7, 3) := by decide +kernel
theorem dX5_init_13 : decode cX5_init 13 = .ok (.aload_n 0, 1) := by decide +kernel
theorem dX5_init_14 : decode cX5_init 14 = .ok (.sipush 880, 3) := by decide +kernel
theorem dX5_init_17 : decode cX5_init 17 = .ok (.newarray .int, 2) := by decide +kernel
theorem dX5_init_19 : decode cX5_init 19 = .ok (.putfield 13, 3) := by decide +kernel
theorem dX5_init_22 : decode cX5_init 22 = .ok (.aload_n 0, 1) := by decide +kernel
theorem dX5_init_23 : decode cX5_init 23 = .ok (.sipush 880, 3) := by decide +kernel
theorem dX5_init_26 : decode cX5_init 26 = .ok (.newarray .int, 2) := by decide +kernel
theorem dX5_init_28 : decode cX5_init 28 = .ok (.putfield 16, 3) := by decide +kernel
theorem dX5_init_31 : decode cX5_init 31 = .ok (.aload_n 0, 1) := by decide +kernel
theorem dX5_init_32 : decode cX5_init 32 = .ok (.sipush 3520, 3) := by decide +kernel
theorem dX5_init_35 : decode cX5_init 35 = .ok (.newarray .int, 2) := by decide +kernel
theorem dX5_init_37 : decode cX5_init 37 = .ok (.putfield 19, 3) := by decide +kernel
theorem dX5_init_40 : decode cX5_init 40 = .ok (.aload_n 0, 1) := by decide +kernel
theorem dX5_init_41 : decode cX5_init 41 = .ok (.bipush 80, 2) := by decide +kernel
theorem dX5_init_43 : decode cX5_init 43 = .ok (.newarray .int, 2) := by decide +kernel
theorem dX5_init_45 : decode cX5_init 45 = .ok (.putfield 22, 3) := by decide +kernel
theorem dX5_init_48 : decode cX5_init 48 = .ok (.aload_n 0, 1) := by decide +kernel
theorem dX5_init_49 : decode cX5_init 49 = .ok (.bipush 40, 2) := by decide +kernel
theorem dX5_init_51 : decode cX5_init 51 = .ok (.newarray .int, 2) := by decide +kernel
theorem dX5_init_53 : decode cX5_init 53 = .ok (.putfield 25, 3) := by decide +kernel
theorem dX5_init_56 : decode cX5_init 56 = .ok (.aload_n 0, 1) := by decide +kernel
theorem dX5_init_57 : decode cX5_init 57 = .ok (.iconst 3, 1) := by decide +kernel
theorem dX5_init_58 : decode cX5_init 58 = .ok (.newarray .int, 2) := by decide +kernel
theorem dX5_init_60 : decode cX5_init 60 = .ok (.putfield 28, 3) := by decide +kernel
theorem dX5_init_63 : decode cX5_init 63 = .ok (.aload_n 0, 1) := by decide +kernel
theorem dX5_init_64 : decode cX5_init 64 = .ok (.getfield 7, 3) := by decide +kernel
theorem dX5_init_67 : decode cX5_init 67 = .ok (.iconst 1, 1) := by decide +kernel
theorem dX5_init_68 : decode cX5_init 68 = .ok (.bipush 17, 2) := by decide +kernel
theorem dX5_init_70 : decode cX5_init 70 = .ok (.iastore, 1) := by decide +kernel
theorem dX5_init_71 : decode cX5_init 71 = .ok (.aload_n 0, 1) := by decide +kernel
theorem dX5_init_72 : decode cX5_init 72 = .ok (.getfield 7, 3) := by decide +kernel
theorem dX5_init_75 : decode cX5_init 75 = .ok (.iconst 2, 1) := by decide +kernel
theorem dX5_init_76 : decode cX5_init 76 = .ok (.iconst 2, 1) := by decide +kernel
theorem dX5_init_77 : decode cX5_init 77 = .ok (.iastore, 1) := by decide +kernel
theorem dX5_init_78 : decode cX5_init 78 = .ok (.aload_n 0, 1) := by decide +kernel
theorem dX5_init_79 : decode cX5_init 79 = .ok (.getfield 7, 3) := by decide +kernel
theorem dX5_init_82 : decode cX5_init 82 = .ok (.iconst 3, 1) := by decide +kernel
theorem dX5_init_83 : decode cX5_init 83 = .ok (.bipush 25, 2) := by decide +kernel
theorem dX5_init_85 : decode cX5_init 85 = .ok (.iastore, 1) := by decide +kernel
theorem dX5_init_86 : decode cX5_init 86 = .ok (.aload_n 0, 1) := by decide +kernel
theorem dX5_init_87 : decode cX5_init 87 = .ok (.getfield 7, 3) := by decide +kernel
theorem dX5_init_90 : decode cX5_init 90 = .ok (.iconst 4, 1) := by decide +kernel
theorem dX5_init_91 : decode cX5_init 91 = .ok (.sipush 150, 3) := by decide +kernel
theorem dX5_init_94 : decode cX5_init 94 = .ok (.iastore, 1) := by decide +kernel
theorem dX5_init_95 : decode cX5_init 95 = .ok (.aload_n 0, 1) := by decide +kernel
theorem dX5_init_96 : decode cX5_init 96 = .ok (.getfield 7, 3) := by decide +kernel
theorem dX5_init_99 : decode cX5_init 99 = .ok (.iconst 5, 1) := by decide +kernel
theorem dX5_init_100 : decode cX5_init 100 = .ok (.bipush 20, 2) := by decide +kernel
theorem dX5_init_102 : decode cX5_init 102 = .ok (.iastore, 1) := by decide +kernel
theorem dX5_init_103 : decode cX5_init 103 = .ok (.aload_n 0, 1) := by decide +kernel
theorem dX5_init_104 : decode cX5_init 104 = .ok (.getfield 7, 3) := by decide +kernel
theorem dX5_init_107 : decode cX5_init 107 = .ok (.bipush 6, 2) := by decide +kernel
theorem dX5_init_109 : decode cX5_init 109 = .ok (.bipush 6, 2) := by decide +kernel
theorem dX5_init_111 : decode cX5_init 111 = .ok (.iastore, 1) := by decide +kernel
theorem dX5_init_112 : decode cX5_init 112 = .ok (.return_, 1) := by decide +kernel
theorem dX5_in_0 : decode cX5_in 0 = .ok (.iload_n 0, 1) := by decide +kernel
theorem dX5_in_1 : decode cX5_in 1 = .ok (.iload_n 1, 1) := by decide +kernel
theorem dX5_in_2 : decode cX5_in 2 = .ok (.if_icmp .lt 12, 3) := by decide +kernel
theorem dX5_in_5 : decode cX5_in 5 = .ok (.iload_n 0, 1) := by decide +kernel
theorem dX5_in_6 : decode cX5_in 6 = .ok (.iload_n 2, 1) := by decide +kernel
theorem dX5_in_7 : decode cX5_in 7 = .ok (.if_icmp .gt 7, 3) := by decide +kernel
theorem dX5_in_10 : decode cX5_in 10 = .ok (.iconst 1, 1) := by decide +kernel
theorem dX5_in_11 : decode cX5_in 11 = .ok (.goto 4, 3) := by decide +kernel
theorem dX5_in_14 : decode cX5_in 14 = .ok (.iconst 0, 1) := by decide +kernel
theorem dX5_in_15 : decode cX5_in 15 = .ok (.ireturn, 1) := by decide +kernel
theorem dX5_copies_0 : decode cX5_copies 0 = .ok (.iconst 0, 1) := by decide +kernel
theorem dX5_copies_1 : decode cX5_copies 1 = .ok (.istore 4, 2) := by decide +kernel
theorem dX5_copies_3 : decode cX5_copies 3 = .ok (.iload 4, 2) := by decide +kernel
theorem dX5_copies_5 : decode cX5_copies 5 = .ok (.sipush 880, 3) := by decide +kernel
theorem dX5_copies_8 : decode cX5_copies 8 = .ok (.if_icmp .ge 21, 3) := by decide +kernel
theorem dX5_copies_11 : decode cX5_copies 11 = .ok (.aload_n 2, 1) := by decide +kernel
theorem dX5_copies_12 : decode cX5_copies 12 = .ok (.iload_n 3, 1) := by decide +kernel
theorem dX5_copies_13 : decode cX5_copies 13 = .ok (.iload 4, 2) := by decide +kernel
theorem dX5_copies_15 : decode cX5_copies 15 = .ok (.iadd, 1) := by decide +kernel
theorem dX5_copies_16 : decode cX5_copies 16 = .ok (.aload_n 0, 1) := by decide +kernel
theorem dX5_copies_17 : decode cX5_copies 17 = .ok (.iload_n 1, 1) := by decide +kernel
theorem dX5_copies_18 : decode cX5_copies 18 = .ok (.iload 4, 2) := by decide +kernel
theorem dX5_copies_20 : decode cX5_copies 20 = .ok (.iadd, 1) := by decide +kernel
theorem dX5_copies_21 : decode cX5_copies 21 = .ok (.iaload, 1) := by decide +kernel
theorem dX5_copies_22 : decode cX5_copies 22 = .ok (.iastore, 1) := by decide +kernel
theorem dX5_copies_23 : decode cX5_copies 23 = .ok (.iinc 4 1, 3) := by decide +kernel
theorem dX5_copies_26 : decode cX5_copies 26 = .ok (.goto (-23), 3) := by decide +kernel
theorem dX5_copies_29 : decode cX5_copies 29 = .ok (.return_, 1) := by decide +kernel
theorem dX5_begins_0 : decode cX5_begins 0 = .ok (.aload_n 0, 1) := by decide +kernel
theorem dX5_begins_1 : decode cX5_begins 1 = .ok (.getfield 7, 3) := by decide +kernel
theorem dX5_begins_4 : decode cX5_begins 4 = .ok (.iconst 0, 1) := by decide +kernel
theorem dX5_begins_5 : decode cX5_begins 5 = .ok (.aload_n 0, 1) := by decide +kernel
theorem dX5_begins_6 : decode cX5_begins 6 = .ok (.getfield 16, 3) := by decide +kernel
theorem dX5_begins_9 : decode cX5_begins 9 = .ok (.iconst 0, 1) := by decide +kernel
theorem dX5_begins_10 : decode cX5_begins 10 = .ok (.invokestatic 31, 3) := by decide +kernel
theorem dX5_begins_13 : decode cX5_begins 13 = .ok (.return_, 1) := by decide +kernel
theorem dX5_records_0 : decode cX5_records 0 = .ok (.aload_n 0, 1) := by decide +kernel
theorem dX5_records_1 : decode cX5_records 1 = .ok (.getfield 35, 3) := by decide +kernel
theorem dX5_records_4 : decode cX5_records 4 = .ok (.iconst 4, 1) := by decide +kernel
theorem dX5_records_5 : decode cX5_records 5 = .ok (.if_icmp .ne 44, 3) := by decide +kernel
theorem dX5_records_8 : decode cX5_records 8 = .ok (.iconst 0, 1) := by decide +kernel
theorem dX5_records_9 : decode cX5_records 9 = .ok (.istore_n 2, 1) := by decide +kernel
theorem dX5_records_10 : decode cX5_records 10 = .ok (.iload_n 2, 1) := by decide +kernel
theorem dX5_records_11 : decode cX5_records 11 = .ok (.sipush 2640, 3) := by decide +kernel
theorem dX5_records_14 : decode cX5_records 14 = .ok (.if_icmp .ge 25, 3) := by decide +kernel
theorem dX5_records_17 : decode cX5_records 17 = .ok (.aload_n 0, 1) := by decide +kernel
theorem dX5_records_18 : decode cX5_records 18 = .ok (.getfield 19, 3) := by decide +kernel
theorem dX5_records_21 : decode cX5_records 21 = .ok (.iload_n 2, 1) := by decide +kernel
theorem dX5_records_22 : decode cX5_records 22 = .ok (.aload_n 0, 1) := by decide +kernel
theorem dX5_records_23 : decode cX5_records 23 = .ok (.getfield 19, 3) := by decide +kernel
theorem dX5_records_26 : decode cX5_records 26 = .ok (.iload_n 2, 1) := by decide +kernel
theorem dX5_records_27 : decode cX5_records 27 = .ok (.sipush 880, 3) := by decide +kernel
theorem dX5_records_30 : decode cX5_records 30 = .ok (.iadd, 1) := by decide +kernel
theorem dX5_records_31 : decode cX5_records 31 = .ok (.iaload, 1) := by decide +kernel
theorem dX5_records_32 : decode cX5_records 32 = .ok (.iastore, 1) := by decide +kernel
theorem dX5_records_33 : decode cX5_records 33 = .ok (.iinc 2 1, 3) := by decide +kernel
theorem dX5_records_36 : decode cX5_records 36 = .ok (.goto (-26), 3) := by decide +kernel
theorem dX5_records_39 : decode cX5_records 39 = .ok (.aload_n 0, 1) := by decide +kernel
theorem dX5_records_40 : decode cX5_records 40 = .ok (.dup, 1) := by decide +kernel
theorem dX5_records_41 : decode cX5_records 41 = .ok (.getfield 35, 3) := by decide +kernel
theorem dX5_records_44 : decode cX5_records 44 = .ok (.iconst 1, 1) := by decide +kernel
theorem dX5_records_45 : decode cX5_records 45 = .ok (.isub, 1) := by decide +kernel
theorem dX5_records_46 : decode cX5_records 46 = .ok (.putfield 35, 3) := by decide +kernel
theorem dX5_records_49 : decode cX5_records 49 = .ok (.aload_n 0, 1) := by decide +kernel
theorem dX5_records_50 : decode cX5_records 50 = .ok (.getfield 16, 3) := by decide +kernel
theorem dX5_records_53 : decode cX5_records 53 = .ok (.iconst 0, 1) := by decide +kernel
theorem dX5_records_54 : decode cX5_records 54 = .ok (.aload_n 0, 1) := by decide +kernel
theorem dX5_records_55 : decode cX5_records 55 = .ok (.getfield 19, 3) := by decide +kernel
theorem dX5_records_58 : decode cX5_records 58 = .ok (.sipush 880, 3) := by decide +kernel
theorem dX5_records_61 : decode cX5_records 61 = .ok (.aload_n 0, 1) := by decide +kernel
theorem dX5_records_62 : decode cX5_records 62 = .ok (.getfield 35, 3) := by decide +kernel
theorem dX5_records_65 : decode cX5_records 65 = .ok (.imul, 1) := by decide +kernel
theorem dX5_records_66 : decode cX5_records 66 = .ok (.invokestatic 31, 3) := by decide +kernel
theorem dX5_records_69 : decode cX5_records 69 = .ok (.aload_n 0, 1) := by decide +kernel
theorem dX5_records_70 : decode cX5_records 70 = .ok (.dup, 1) := by decide +kernel
theorem dX5_records_71 : decode cX5_records 71 = .ok (.getfield 35, 3) := by decide +kernel
theorem dX5_records_74 : decode cX5_records 74 = .ok (.iconst 1, 1) := by decide +kernel
theorem dX5_records_75 : decode cX5_records 75 = .ok (.iadd, 1) := by decide +kernel
theorem dX5_records_76 : decode cX5_records 76 = .ok (.putfield 35, 3) := by decide +kernel
theorem dX5_records_79 : decode cX5_records 79 = .ok (.iload_n 1, 1) := by decide +kernel
theorem dX5_records_80 : decode cX5_records 80 = .ok (.ireturn, 1) := by decide +kernel
theorem dX5_isSubtitle_0 : decode cX5_isSubtitle 0 = .ok (.iload_n 1, 1) := by decide +kernel
theorem dX5_isSubtitle_1 : decode cX5_isSubtitle 1 = .ok (.iconst 0, 1) := by decide +kernel
theorem dX5_isSubtitle_2 : decode cX5_isSubtitle 2 = .ok (.aload_n 0, 1) := by decide +kernel
theorem dX5_isSubtitle_3 : decode cX5_isSubtitle 3 = .ok (.getfield 7, 3) := by decide +kernel
theorem dX5_isSubtitle_6 : decode cX5_isSubtitle 6 = .ok (.iconst 0, 1) := by decide +kernel
theorem dX5_isSubtitle_7 : decode cX5_isSubtitle 7 = .ok (.iaload, 1) := by decide +kernel
theorem dX5_isSubtitle_8 : decode cX5_isSubtitle 8 = .ok (.iconst 1, 1) := by decide +kernel
theorem dX5_isSubtitle_9 : decode cX5_isSubtitle 9 = .ok (.isub, 1) := by decide +kernel
theorem dX5_isSubtitle_10 : decode cX5_isSubtitle 10 = .ok (.invokestatic 39, 3) := by decide +kernel
theorem dX5_isSubtitle_13 : decode cX5_isSubtitle 13 = .ok (.ireturn, 1) := by decide +kernel
theorem dX5_of_0 : decode cX5_of 0 = .ok (.aload_n 0, 1) := by decide +kernel
theorem dX5_of_1 : decode cX5_of 1 = .ok (.getfield 7, 3) := by decide +kernel
theorem dX5_of_4 : decode cX5_of 4 = .ok (.bipush 20, 2) := by decide +kernel
theorem dX5_of_6 : decode cX5_of 6 = .ok (.bipush 43, 2) := by decide +kernel
theorem dX5_of_8 : decode cX5_of 8 = .ok (.iload_n 1, 1) := by decide +kernel
theorem dX5_of_9 : decode cX5_of 9 = .ok (.imul, 1) := by decide +kernel
theorem dX5_of_10 : decode cX5_of 10 = .ok (.iadd, 1) := by decide +kernel
theorem dX5_of_11 : decode cX5_of 11 = .ok (.iload_n 2, 1) := by decide +kernel
theorem dX5_of_12 : decode cX5_of 12 = .ok (.iadd, 1) := by decide +kernel
theorem dX5_of_13 : decode cX5_of 13 = .ok (.iaload, 1) := by decide +kernel
theorem dX5_of_14 : decode cX5_of 14 = .ok (.ireturn, 1) := by decide +kernel
theorem dX5_lays_0 : decode cX5_lays 0 = .ok (.aload_n 0, 1) := by decide +kernel
theorem dX5_lays_1 : decode cX5_lays 1 = .ok (.getfield 7, 3) := by decide +kernel
theorem dX5_lays_4 : decode cX5_lays 4 = .ok (.bipush 20, 2) := by decide +kernel
theorem dX5_lays_6 : decode cX5_lays 6 = .ok (.bipush 43, 2) := by decide +kernel
theorem dX5_lays_8 : decode cX5_lays 8 = .ok (.iload_n 1, 1) := by decide +kernel
theorem dX5_lays_9 : decode cX5_lays 9 = .ok (.imul, 1) := by decide +kernel
theorem dX5_lays_10 : decode cX5_lays 10 = .ok (.iadd, 1) := by decide +kernel
theorem dX5_lays_11 : decode cX5_lays 11 = .ok (.iload_n 2, 1) := by decide +kernel
theorem dX5_lays_12 : decode cX5_lays 12 = .ok (.iadd, 1) := by decide +kernel
theorem dX5_lays_13 : decode cX5_lays 13 = .ok (.iload_n 3, 1) := by decide +kernel
theorem dX5_lays_14 : decode cX5_lays 14 = .ok (.iastore, 1) := by decide +kernel
theorem dX5_lays_15 : decode cX5_lays 15 = .ok (.return_, 1) := by decide +kernel
theorem dX5_its_0 : decode cX5_its 0 = .ok (.aload_n 0, 1) := by decide +kernel
theorem dX5_its_1 : decode cX5_its 1 = .ok (.getfield 7, 3) := by decide +kernel
theorem dX5_its_4 : decode cX5_its 4 = .ok (.iconst 1, 1) := by decide +kernel
theorem dX5_its_5 : decode cX5_its 5 = .ok (.iload_n 1, 1) := by decide +kernel
theorem dX5_its_6 : decode cX5_its 6 = .ok (.iadd, 1) := by decide +kernel
theorem dX5_its_7 : decode cX5_its 7 = .ok (.iaload, 1) := by decide +kernel
theorem dX5_its_8 : decode cX5_its 8 = .ok (.ireturn, 1) := by decide +kernel
theorem dX5_framesOf_0 : decode cX5_framesOf 0 = .ok (.aload_n 0, 1) := by decide +kernel
theorem dX5_framesOf_1 : decode cX5_framesOf 1 = .ok (.iload_n 1, 1) := by decide +kernel
theorem dX5_framesOf_2 : decode cX5_framesOf 2 = .ok (.iconst 1, 1) := by decide +kernel
theorem dX5_framesOf_3 : decode cX5_framesOf 3 = .ok (.invokevirtual 43, 3) := by decide +kernel
theorem dX5_framesOf_6 : decode cX5_framesOf 6 = .ok (.aload_n 0, 1) := by decide +kernel
theorem dX5_framesOf_7 : decode cX5_framesOf 7 = .ok (.iload_n 1, 1) := by decide +kernel
theorem dX5_framesOf_8 : decode cX5_framesOf 8 = .ok (.iconst 0, 1) := by decide +kernel
theorem dX5_framesOf_9 : decode cX5_framesOf 9 = .ok (.invokevirtual 43, 3) := by decide +kernel
theorem dX5_framesOf_12 : decode cX5_framesOf 12 = .ok (.isub, 1) := by decide +kernel
theorem dX5_framesOf_13 : decode cX5_framesOf 13 = .ok (.ireturn, 1) := by decide +kernel
theorem dX5_needs_0 : decode cX5_needs 0 = .ok (.bipush 25, 2) := by decide +kernel
theorem dX5_needs_2 : decode cX5_needs 2 = .ok (.aload_n 0, 1) := by decide +kernel
theorem dX5_needs_3 : decode cX5_needs 3 = .ok (.iload_n 1, 1) := by decide +kernel
theorem dX5_needs_4 : decode cX5_needs 4 = .ok (.iconst 2, 1) := by decide +kernel
theorem dX5_needs_5 : decode cX5_needs 5 = .ok (.invokevirtual 43, 3) := by decide +kernel
theorem dX5_needs_8 : decode cX5_needs 8 = .ok (.imul, 1) := by decide +kernel
theorem dX5_needs_9 : decode cX5_needs 9 = .ok (.aload_n 0, 1) := by decide +kernel
theorem dX5_needs_10 : decode cX5_needs 10 = .ok (.iconst 0, 1) := by decide +kernel
theorem dX5_needs_11 : decode cX5_needs 11 = .ok (.invokevirtual 47, 3) := by decide +kernel
theorem dX5_needs_14 : decode cX5_needs 14 = .ok (.iadd, 1) := by decide +kernel
theorem dX5_needs_15 : decode cX5_needs 15 = .ok (.iconst 1, 1) := by decide +kernel
theorem dX5_needs_16 : decode cX5_needs 16 = .ok (.isub, 1) := by decide +kernel
theorem dX5_needs_17 : decode cX5_needs 17 = .ok (.aload_n 0, 1) := by decide +kernel
theorem dX5_needs_18 : decode cX5_needs 18 = .ok (.iconst 0, 1) := by decide +kernel
theorem dX5_needs_19 : decode cX5_needs 19 = .ok (.invokevirtual 47, 3) := by decide +kernel
theorem dX5_needs_22 : decode cX5_needs 22 = .ok (.idiv, 1) := by decide +kernel
theorem dX5_needs_23 : decode cX5_needs 23 = .ok (.istore_n 2, 1) := by decide +kernel
theorem dX5_needs_24 : decode cX5_needs 24 = .ok (.iload_n 2, 1) := by decide +kernel
theorem dX5_needs_25 : decode cX5_needs 25 = .ok (.aload_n 0, 1) := by decide +kernel
theorem dX5_needs_26 : decode cX5_needs 26 = .ok (.iconst 2, 1) := by decide +kernel
theorem dX5_needs_27 : decode cX5_needs 27 = .ok (.invokevirtual 47, 3) := by decide +kernel
theorem dX5_needs_30 : decode cX5_needs 30 = .ok (.if_icmp .ge 11, 3) := by decide +kernel
theorem dX5_needs_33 : decode cX5_needs 33 = .ok (.aload_n 0, 1) := by decide +kernel
theorem dX5_needs_34 : decode cX5_needs 34 = .ok (.iconst 2, 1) := by decide +kernel
theorem dX5_needs_35 : decode cX5_needs 35 = .ok (.invokevirtual 47, 3) := by decide +kernel
theorem dX5_needs_38 : decode cX5_needs 38 = .ok (.goto 4, 3) := by decide +kernel
theorem dX5_needs_41 : decode cX5_needs 41 = .ok (.iload_n 2, 1) := by decide +kernel
theorem dX5_needs_42 : decode cX5_needs 42 = .ok (.ireturn, 1) := by decide +kernel
theorem dX5_letter_0 : decode cX5_letter 0 = .ok (.aload_n 0, 1) := by decide +kernel
theorem dX5_letter_1 : decode cX5_letter 1 = .ok (.iload_n 1, 1) := by decide +kernel
theorem dX5_letter_2 : decode cX5_letter 2 = .ok (.iconst 3, 1) := by decide +kernel
theorem dX5_letter_3 : decode cX5_letter 3 = .ok (.iload_n 2, 1) := by decide +kernel
theorem dX5_letter_4 : decode cX5_letter 4 = .ok (.iadd, 1) := by decide +kernel
theorem dX5_letter_5 : decode cX5_letter 5 = .ok (.invokevirtual 43, 3) := by decide +kernel
theorem dX5_letter_8 : decode cX5_letter 8 = .ok (.ireturn, 1) := by decide +kernel
theorem dX5_moves_0 : decode cX5_moves 0 = .ok (.iconst 0, 1) := by decide +kernel
theorem dX5_moves_1 : decode cX5_moves 1 = .ok (.istore_n 3, 1) := by decide +kernel
theorem dX5_moves_2 : decode cX5_moves 2 = .ok (.iload_n 3, 1) := by decide +kernel
theorem dX5_moves_3 : decode cX5_moves 3 = .ok (.bipush 43, 2) := by decide +kernel
theorem dX5_moves_5 : decode cX5_moves 5 = .ok (.if_icmp .ge 21, 3) := by decide +kernel
theorem dX5_moves_8 : decode cX5_moves 8 = .ok (.aload_n 0, 1) := by decide +kernel
theorem dX5_moves_9 : decode cX5_moves 9 = .ok (.iload_n 2, 1) := by decide +kernel
theorem dX5_moves_10 : decode cX5_moves 10 = .ok (.iload_n 3, 1) := by decide +kernel
theorem dX5_moves_11 : decode cX5_moves 11 = .ok (.aload_n 0, 1) := by decide +kernel
theorem dX5_moves_12 : decode cX5_moves 12 = .ok (.iload_n 1, 1) := by decide +kernel
theorem dX5_moves_13 : decode cX5_moves 13 = .ok (.iload_n 3, 1) := by decide +kernel
theorem dX5_moves_14 : decode cX5_moves 14 = .ok (.invokevirtual 43, 3) := by decide +kernel
theorem dX5_moves_17 : decode cX5_moves 17 = .ok (.invokevirtual 51, 3) := by decide +kernel
theorem dX5_moves_20 : decode cX5_moves 20 = .ok (.iinc 3 1, 3) := by decide +kernel
theorem dX5_moves_23 : decode cX5_moves 23 = .ok (.goto (-21), 3) := by decide +kernel
theorem dX5_moves_26 : decode cX5_moves 26 = .ok (.return_, 1) := by decide +kernel
theorem dX5_opens_0 : decode cX5_opens 0 = .ok (.aload_n 0, 1) := by decide +kernel
theorem dX5_opens_1 : decode cX5_opens 1 = .ok (.getfield 7, 3) := by decide +kernel
theorem dX5_opens_4 : decode cX5_opens 4 = .ok (.iconst 0, 1) := by decide +kernel
theorem dX5_opens_5 : decode cX5_opens 5 = .ok (.iaload, 1) := by decide +kernel
theorem dX5_opens_6 : decode cX5_opens 6 = .ok (.istore_n 2, 1) := by decide +kernel
theorem dX5_opens_7 : decode cX5_opens 7 = .ok (.iload_n 2, 1) := by decide +kernel
theorem dX5_opens_8 : decode cX5_opens 8 = .ok (.iload_n 1, 1) := by decide +kernel
theorem dX5_opens_9 : decode cX5_opens 9 = .ok (.if_icmp .le 17, 3) := by decide +kernel
theorem dX5_opens_12 : decode cX5_opens 12 = .ok (.aload_n 0, 1) := by decide +kernel
theorem dX5_opens_13 : decode cX5_opens 13 = .ok (.iload_n 2, 1) := by decide +kernel
theorem dX5_opens_14 : decode cX5_opens 14 = .ok (.iconst 1, 1) := by decide +kernel
theorem dX5_opens_15 : decode cX5_opens 15 = .ok (.isub, 1) := by decide +kernel
theorem dX5_opens_16 : decode cX5_opens 16 = .ok (.iload_n 2, 1) := by decide +kernel
theorem dX5_opens_17 : decode cX5_opens 17 = .ok (.invokevirtual 55, 3) := by decide +kernel
theorem dX5_opens_20 : decode cX5_opens 20 = .ok (.iinc 2 (-1), 3) := by decide +kernel
theorem dX5_opens_23 : decode cX5_opens 23 = .ok (.goto (-16), 3) := by decide +kernel
theorem dX5_opens_26 : decode cX5_opens 26 = .ok (.aload_n 0, 1) := by decide +kernel
theorem dX5_opens_27 : decode cX5_opens 27 = .ok (.getfield 7, 3) := by decide +kernel
theorem dX5_opens_30 : decode cX5_opens 30 = .ok (.iconst 0, 1) := by decide +kernel
theorem dX5_opens_31 : decode cX5_opens 31 = .ok (.dup2, 1) := by decide +kernel
theorem dX5_opens_32 : decode cX5_opens 32 = .ok (.iaload, 1) := by decide +kernel
theorem dX5_opens_33 : decode cX5_opens 33 = .ok (.iconst 1, 1) := by decide +kernel
theorem dX5_opens_34 : decode cX5_opens 34 = .ok (.iadd, 1) := by decide +kernel
theorem dX5_opens_35 : decode cX5_opens 35 = .ok (.iastore, 1) := by decide +kernel
theorem dX5_opens_36 : decode cX5_opens 36 = .ok (.iconst 0, 1) := by decide +kernel
theorem dX5_opens_37 : decode cX5_opens 37 = .ok (.istore_n 2, 1) := by decide +kernel
theorem dX5_opens_38 : decode cX5_opens 38 = .ok (.iload_n 2, 1) := by decide +kernel
theorem dX5_opens_39 : decode cX5_opens 39 = .ok (.bipush 43, 2) := by decide +kernel
theorem dX5_opens_41 : decode cX5_opens 41 = .ok (.if_icmp .ge 16, 3) := by decide +kernel
theorem dX5_opens_44 : decode cX5_opens 44 = .ok (.aload_n 0, 1) := by decide +kernel
theorem dX5_opens_45 : decode cX5_opens 45 = .ok (.iload_n 1, 1) := by decide +kernel
theorem dX5_opens_46 : decode cX5_opens 46 = .ok (.iload_n 2, 1) := by decide +kernel
theorem dX5_opens_47 : decode cX5_opens 47 = .ok (.iconst 0, 1) := by decide +kernel
theorem dX5_opens_48 : decode cX5_opens 48 = .ok (.invokevirtual 51, 3) := by decide +kernel
theorem dX5_opens_51 : decode cX5_opens 51 = .ok (.iinc 2 1, 3) := by decide +kernel
theorem dX5_opens_54 : decode cX5_opens 54 = .ok (.goto (-16), 3) := by decide +kernel
theorem dX5_opens_57 : decode cX5_opens 57 = .ok (.return_, 1) := by decide +kernel
theorem dX5_closes_0 : decode cX5_closes 0 = .ok (.aload_n 0, 1) := by decide +kernel
theorem dX5_closes_1 : decode cX5_closes 1 = .ok (.getfield 7, 3) := by decide +kernel
theorem dX5_closes_4 : decode cX5_closes 4 = .ok (.iconst 0, 1) := by decide +kernel
theorem dX5_closes_5 : decode cX5_closes 5 = .ok (.dup2, 1) := by decide +kernel
theorem dX5_closes_6 : decode cX5_closes 6 = .ok (.iaload, 1) := by decide +kernel
theorem dX5_closes_7 : decode cX5_closes 7 = .ok (.iconst 1, 1) := by decide +kernel
theorem dX5_closes_8 : decode cX5_closes 8 = .ok (.isub, 1) := by decide +kernel
theorem dX5_closes_9 : decode cX5_closes 9 = .ok (.iastore, 1) := by decide +kernel
theorem dX5_closes_10 : decode cX5_closes 10 = .ok (.iload_n 1, 1) := by decide +kernel
theorem dX5_closes_11 : decode cX5_closes 11 = .ok (.istore_n 2, 1) := by decide +kernel
theorem dX5_closes_12 : decode cX5_closes 12 = .ok (.iload_n 2, 1) := by decide +kernel
theorem dX5_closes_13 : decode cX5_closes 13 = .ok (.aload_n 0, 1) := by decide +kernel
theorem dX5_closes_14 : decode cX5_closes 14 = .ok (.getfield 7, 3) := by decide +kernel
theorem dX5_closes_17 : decode cX5_closes 17 = .ok (.iconst 0, 1) := by decide +kernel
theorem dX5_closes_18 : decode cX5_closes 18 = .ok (.iaload, 1) := by decide +kernel
theorem dX5_closes_19 : decode cX5_closes 19 = .ok (.if_icmp .ge 17, 3) := by decide +kernel
theorem dX5_closes_22 : decode cX5_closes 22 = .ok (.aload_n 0, 1) := by decide +kernel
theorem dX5_closes_23 : decode cX5_closes 23 = .ok (.iload_n 2, 1) := by decide +kernel
theorem dX5_closes_24 : decode cX5_closes 24 = .ok (.iconst 1, 1) := by decide +kernel
theorem dX5_closes_25 : decode cX5_closes 25 = .ok (.iadd, 1) := by decide +kernel
theorem dX5_closes_26 : decode cX5_closes 26 = .ok (.iload_n 2, 1) := by decide +kernel
theorem dX5_closes_27 : decode cX5_closes 27 = .ok (.invokevirtual 55, 3) := by decide +kernel
theorem dX5_closes_30 : decode cX5_closes 30 = .ok (.iinc 2 1, 3) := by decide +kernel
theorem dX5_closes_33 : decode cX5_closes 33 = .ok (.goto (-21), 3) := by decide +kernel
theorem dX5_closes_36 : decode cX5_closes 36 = .ok (.iconst 0, 1) := by decide +kernel
theorem dX5_closes_37 : decode cX5_closes 37 = .ok (.istore_n 2, 1) := by decide +kernel
theorem dX5_closes_38 : decode cX5_closes 38 = .ok (.iload_n 2, 1) := by decide +kernel
theorem dX5_closes_39 : decode cX5_closes 39 = .ok (.bipush 43, 2) := by decide +kernel
theorem dX5_closes_41 : decode cX5_closes 41 = .ok (.if_icmp .ge 21, 3) := by decide +kernel
theorem dX5_closes_44 : decode cX5_closes 44 = .ok (.aload_n 0, 1) := by decide +kernel
theorem dX5_closes_45 : decode cX5_closes 45 = .ok (.aload_n 0, 1) := by decide +kernel
theorem dX5_closes_46 : decode cX5_closes 46 = .ok (.getfield 7, 3) := by decide +kernel
theorem dX5_closes_49 : decode cX5_closes 49 = .ok (.iconst 0, 1) := by decide +kernel
theorem dX5_closes_50 : decode cX5_closes 50 = .ok (.iaload, 1) := by decide +kernel
theorem dX5_closes_51 : decode cX5_closes 51 = .ok (.iload_n 2, 1) := by decide +kernel
theorem dX5_closes_52 : decode cX5_closes 52 = .ok (.iconst 0, 1) := by decide +kernel
theorem dX5_closes_53 : decode cX5_closes 53 = .ok (.invokevirtual 51, 3) := by decide +kernel
theorem dX5_closes_56 : decode cX5_closes 56 = .ok (.iinc 2 1, 3) := by decide +kernel
theorem dX5_closes_59 : decode cX5_closes 59 = .ok (.goto (-21), 3) := by decide +kernel
theorem dX5_closes_62 : decode cX5_closes 62 = .ok (.return_, 1) := by decide +kernel
theorem dX5_laysLines_0 : decode cX5_laysLines 0 = .ok (.iconst 0, 1) := by decide +kernel
theorem dX5_laysLines_1 : decode cX5_laysLines 1 = .ok (.istore_n 2, 1) := by decide +kernel
theorem dX5_laysLines_2 : decode cX5_laysLines 2 = .ok (.iconst 0, 1) := by decide +kernel
theorem dX5_laysLines_3 : decode cX5_laysLines 3 = .ok (.istore_n 3, 1) := by decide +kernel
theorem dX5_laysLines_4 : decode cX5_laysLines 4 = .ok (.aload_n 0, 1) := by decide +kernel
theorem dX5_laysLines_5 : decode cX5_laysLines 5 = .ok (.iload_n 1, 1) := by decide +kernel
theorem dX5_laysLines_6 : decode cX5_laysLines 6 = .ok (.iconst 2, 1) := by decide +kernel
theorem dX5_laysLines_7 : decode cX5_laysLines 7 = .ok (.invokevirtual 43, 3) := by decide +kernel
theorem dX5_laysLines_10 : decode cX5_laysLines 10 = .ok (.istore 4, 2) := by decide +kernel
theorem dX5_laysLines_12 : decode cX5_laysLines 12 = .ok (.iload_n 3, 1) := by decide +kernel
theorem dX5_laysLines_13 : decode cX5_laysLines 13 = .ok (.iload 4, 2) := by decide +kernel
theorem dX5_laysLines_15 : decode cX5_laysLines 15 = .ok (.if_icmp .ge 141, 3) := by decide +kernel
theorem dX5_laysLines_18 : decode cX5_laysLines 18 = .ok (.iload_n 3, 1) := by decide +kernel
theorem dX5_laysLines_19 : decode cX5_laysLines 19 = .ok (.istore 5, 2) := by decide +kernel
theorem dX5_laysLines_21 : decode cX5_laysLines 21 = .ok (.iconst 1, 1) := by decide +kernel
theorem dX5_laysLines_22 : decode cX5_laysLines 22 = .ok (.istore 6, 2) := by decide +kernel
theorem dX5_laysLines_24 : decode cX5_laysLines 24 = .ok (.iload 6, 2) := by decide +kernel
theorem dX5_laysLines_26 : decode cX5_laysLines 26 = .ok (.ifCond .eq 109, 3) := by decide +kernel
theorem dX5_laysLines_29 : decode cX5_laysLines 29 = .ok (.iload 5, 2) := by decide +kernel
theorem dX5_laysLines_31 : decode cX5_laysLines 31 = .ok (.iload_n 3, 1) := by decide +kernel
theorem dX5_laysLines_32 : decode cX5_laysLines 32 = .ok (.if_icmp .ne 7, 3) := by decide +kernel
theorem dX5_laysLines_35 : decode cX5_laysLines 35 = .ok (.iload_n 3, 1) := by decide +kernel
theorem dX5_laysLines_36 : decode cX5_laysLines 36 = .ok (.goto 7, 3) := by decide +kernel
theorem dX5_laysLines_39 : decode cX5_laysLines 39 = .ok (.iload 5, 2) := by decide +kernel
theorem dX5_laysLines_41 : decode cX5_laysLines 41 = .ok (.iconst 1, 1) := by decide +kernel
theorem dX5_laysLines_42 : decode cX5_laysLines 42 = .ok (.iadd, 1) := by decide +kernel
theorem dX5_laysLines_43 : decode cX5_laysLines 43 = .ok (.istore 7, 2) := by decide +kernel
theorem dX5_laysLines_45 : decode cX5_laysLines 45 = .ok (.iload 7, 2) := by decide +kernel
theorem dX5_laysLines_47 : decode cX5_laysLines 47 = .ok (.istore 8, 2) := by decide +kernel
theorem dX5_laysLines_49 : decode cX5_laysLines 49 = .ok (.iload 8, 2) := by decide +kernel
theorem dX5_laysLines_51 : decode cX5_laysLines 51 = .ok (.iload 4, 2) := by decide +kernel
theorem dX5_laysLines_53 : decode cX5_laysLines 53 = .ok (.if_icmp .ge 21, 3) := by decide +kernel
theorem dX5_laysLines_56 : decode cX5_laysLines 56 = .ok (.aload_n 0, 1) := by decide +kernel
theorem dX5_laysLines_57 : decode cX5_laysLines 57 = .ok (.iload_n 1, 1) := by decide +kernel
theorem dX5_laysLines_58 : decode cX5_laysLines 58 = .ok (.iload 8, 2) := by decide +kernel
theorem dX5_laysLines_60 : decode cX5_laysLines 60 = .ok (.invokevirtual 59, 3) := by decide +kernel
theorem dX5_laysLines_63 : decode cX5_laysLines 63 = .ok (.bipush 32, 2) := by decide +kernel
theorem dX5_laysLines_65 : decode cX5_laysLines 65 = .ok (.if_icmp .eq 9, 3) := by decide +kernel
theorem dX5_laysLines_68 : decode cX5_laysLines 68 = .ok (.iinc 8 1, 3) := by decide +kernel
theorem dX5_laysLines_71 : decode cX5_laysLines 71 = .ok (.goto (-22), 3) := by decide +kernel
theorem dX5_laysLines_74 : decode cX5_laysLines 74 = .ok (.iload 5, 2) := by decide +kernel
theorem dX5_laysLines_76 : decode cX5_laysLines 76 = .ok (.iload_n 3, 1) := by decide +kernel
theorem dX5_laysLines_77 : decode cX5_laysLines 77 = .ok (.if_icmp .eq 15, 3) := by decide +kernel
theorem dX5_laysLines_80 : decode cX5_laysLines 80 = .ok (.iload 8, 2) := by decide +kernel
theorem dX5_laysLines_82 : decode cX5_laysLines 82 = .ok (.iload_n 3, 1) := by decide +kernel
theorem dX5_laysLines_83 : decode cX5_laysLines 83 = .ok (.isub, 1) := by decide +kernel
theorem dX5_laysLines_84 : decode cX5_laysLines 84 = .ok (.aload_n 0, 1) := by decide +kernel
theorem dX5_laysLines_85 : decode cX5_laysLines 85 = .ok (.iconst 4, 1) := by decide +kernel
theorem dX5_laysLines_86 : decode cX5_laysLines 86 = .ok (.invokevirtual 47, 3) := by decide +kernel
theorem dX5_laysLines_89 : decode cX5_laysLines 89 = .ok (.if_icmp .gt 7, 3) := by decide +kernel
theorem dX5_laysLines_92 : decode cX5_laysLines 92 = .ok (.iconst 1, 1) := by decide +kernel
theorem dX5_laysLines_93 : decode cX5_laysLines 93 = .ok (.goto 4, 3) := by decide +kernel
theorem dX5_laysLines_96 : decode cX5_laysLines 96 = .ok (.iconst 0, 1) := by decide +kernel
theorem dX5_laysLines_97 : decode cX5_laysLines 97 = .ok (.istore 9, 2) := by decide +kernel
theorem dX5_laysLines_99 : decode cX5_laysLines 99 = .ok (.iload 9, 2) := by decide +kernel
theorem dX5_laysLines_101 : decode cX5_laysLines 101 = .ok (.ifCond .eq 8, 3) := by decide +kernel
theorem dX5_laysLines_104 : decode cX5_laysLines 104 = .ok (.iload 8, 2) := by decide +kernel
theorem dX5_laysLines_106 : decode cX5_laysLines 106 = .ok (.goto 5, 3) := by decide +kernel
theorem dX5_laysLines_109 : decode cX5_laysLines 109 = .ok (.iload 5, 2) := by decide +kernel
theorem dX5_laysLines_111 : decode cX5_laysLines 111 = .ok (.istore 5, 2) := by decide +kernel
theorem dX5_laysLines_113 : decode cX5_laysLines 113 = .ok (.iload 9, 2) := by decide +kernel
theorem dX5_laysLines_115 : decode cX5_laysLines 115 = .ok (.ifCond .eq 14, 3) := by decide +kernel
theorem dX5_laysLines_118 : decode cX5_laysLines 118 = .ok (.iload 5, 2) := by decide +kernel
theorem dX5_laysLines_120 : decode cX5_laysLines 120 = .ok (.iload 4, 2) := by decide +kernel
theorem dX5_laysLines_122 : decode cX5_laysLines 122 = .ok (.if_icmp .ge 7, 3) := by decide +kernel
theorem dX5_laysLines_125 : decode cX5_laysLines 125 = .ok (.iconst 1, 1) := by decide +kernel
theorem dX5_laysLines_126 : decode cX5_laysLines 126 = .ok (.goto 4, 3) := by decide +kernel
theorem dX5_laysLines_129 : decode cX5_laysLines 129 = .ok (.iconst 0, 1) := by decide +kernel
theorem dX5_laysLines_130 : decode cX5_laysLines 130 = .ok (.istore 6, 2) := by decide +kernel
theorem dX5_laysLines_132 : decode cX5_laysLines 132 = .ok (.goto (-108), 3) := by decide +kernel
theorem dX5_laysLines_135 : decode cX5_laysLines 135 = .ok (.aload_n 0, 1) := by decide +kernel
theorem dX5_laysLines_136 : decode cX5_laysLines 136 = .ok (.getfield 25, 3) := by decide +kernel
theorem dX5_laysLines_139 : decode cX5_laysLines 139 = .ok (.iload_n 2, 1) := by decide +kernel
theorem dX5_laysLines_140 : decode cX5_laysLines 140 = .ok (.iload 5, 2) := by decide +kernel
theorem dX5_laysLines_142 : decode cX5_laysLines 142 = .ok (.iload_n 3, 1) := by decide +kernel
theorem dX5_laysLines_143 : decode cX5_laysLines 143 = .ok (.isub, 1) := by decide +kernel
theorem dX5_laysLines_144 : decode cX5_laysLines 144 = .ok (.iastore, 1) := by decide +kernel
theorem dX5_laysLines_145 : decode cX5_laysLines 145 = .ok (.iinc 2 1, 3) := by decide +kernel
theorem dX5_laysLines_148 : decode cX5_laysLines 148 = .ok (.iload 5, 2) := by decide +kernel
theorem dX5_laysLines_150 : decode cX5_laysLines 150 = .ok (.iconst 1, 1) := by decide +kernel
theorem dX5_laysLines_151 : decode cX5_laysLines 151 = .ok (.iadd, 1) := by decide +kernel
theorem dX5_laysLines_152 : decode cX5_laysLines 152 = .ok (.istore_n 3, 1) := by decide +kernel
theorem dX5_laysLines_153 : decode cX5_laysLines 153 = .ok (.goto (-141), 3) := by decide +kernel
theorem dX5_laysLines_156 : decode cX5_laysLines 156 = .ok (.iload_n 2, 1) := by decide +kernel
theorem dX5_laysLines_157 : decode cX5_laysLines 157 = .ok (.ireturn, 1) := by decide +kernel
theorem dX5_isWide_0 : decode cX5_isWide 0 = .ok (.aload_n 0, 1) := by decide +kernel
theorem dX5_isWide_1 : decode cX5_isWide 1 = .ok (.iload_n 1, 1) := by decide +kernel
theorem dX5_isWide_2 : decode cX5_isWide 2 = .ok (.invokevirtual 62, 3) := by decide +kernel
theorem dX5_isWide_5 : decode cX5_isWide 5 = .ok (.istore_n 2, 1) := by decide +kernel
theorem dX5_isWide_6 : decode cX5_isWide 6 = .ok (.iload_n 2, 1) := by decide +kernel
theorem dX5_isWide_7 : decode cX5_isWide 7 = .ok (.iconst 2, 1) := by decide +kernel
theorem dX5_isWide_8 : decode cX5_isWide 8 = .ok (.if_icmp .le 7, 3) := by decide +kernel
theorem dX5_isWide_11 : decode cX5_isWide 11 = .ok (.iconst 1, 1) := by decide +kernel
theorem dX5_isWide_12 : decode cX5_isWide 12 = .ok (.goto 4, 3) := by decide +kernel
theorem dX5_isWide_15 : decode cX5_isWide 15 = .ok (.iconst 0, 1) := by decide +kernel
theorem dX5_isWide_16 : decode cX5_isWide 16 = .ok (.istore_n 3, 1) := by decide +kernel
theorem dX5_isWide_17 : decode cX5_isWide 17 = .ok (.iconst 0, 1) := by decide +kernel
theorem dX5_isWide_18 : decode cX5_isWide 18 = .ok (.istore 4, 2) := by decide +kernel
theorem dX5_isWide_20 : decode cX5_isWide 20 = .ok (.iload 4, 2) := by decide +kernel
theorem dX5_isWide_22 : decode cX5_isWide 22 = .ok (.iload_n 2, 1) := by decide +kernel
theorem dX5_isWide_23 : decode cX5_isWide 23 = .ok (.if_icmp .ge 34, 3) := by decide +kernel
theorem dX5_isWide_26 : decode cX5_isWide 26 = .ok (.iload_n 3, 1) := by decide +kernel
theorem dX5_isWide_27 : decode cX5_isWide 27 = .ok (.ifCond .ne 18, 3) := by decide +kernel
theorem dX5_isWide_30 : decode cX5_isWide 30 = .ok (.aload_n 0, 1) := by decide +kernel
theorem dX5_isWide_31 : decode cX5_isWide 31 = .ok (.getfield 25, 3) := by decide +kernel
theorem dX5_isWide_34 : decode cX5_isWide 34 = .ok (.iload 4, 2) := by decide +kernel
theorem dX5_isWide_36 : decode cX5_isWide 36 = .ok (.iaload, 1) := by decide +kernel
theorem dX5_isWide_37 : decode cX5_isWide 37 = .ok (.aload_n 0, 1) := by decide +kernel
theorem dX5_isWide_38 : decode cX5_isWide 38 = .ok (.iconst 4, 1) := by decide +kernel
theorem dX5_isWide_39 : decode cX5_isWide 39 = .ok (.invokevirtual 47, 3) := by decide +kernel
theorem dX5_isWide_42 : decode cX5_isWide 42 = .ok (.if_icmp .le 7, 3) := by decide +kernel
theorem dX5_isWide_45 : decode cX5_isWide 45 = .ok (.iconst 1, 1) := by decide +kernel
theorem dX5_isWide_46 : decode cX5_isWide 46 = .ok (.goto 4, 3) := by decide +kernel
theorem dX5_isWide_49 : decode cX5_isWide 49 = .ok (.iconst 0, 1) := by decide +kernel
theorem dX5_isWide_50 : decode cX5_isWide 50 = .ok (.istore_n 3, 1) := by decide +kernel
theorem dX5_isWide_51 : decode cX5_isWide 51 = .ok (.iinc 4 1, 3) := by decide +kernel
theorem dX5_isWide_54 : decode cX5_isWide 54 = .ok (.goto (-34), 3) := by decide +kernel
theorem dX5_isWide_57 : decode cX5_isWide 57 = .ok (.iload_n 3, 1) := by decide +kernel
theorem dX5_isWide_58 : decode cX5_isWide 58 = .ok (.ireturn, 1) := by decide +kernel
theorem dX5_isNearCut_0 : decode cX5_isNearCut 0 = .ok (.iconst 0, 1) := by decide +kernel
theorem dX5_isNearCut_1 : decode cX5_isNearCut 1 = .ok (.istore_n 2, 1) := by decide +kernel
theorem dX5_isNearCut_2 : decode cX5_isNearCut 2 = .ok (.iconst 0, 1) := by decide +kernel
theorem dX5_isNearCut_3 : decode cX5_isNearCut 3 = .ok (.istore_n 3, 1) := by decide +kernel
theorem dX5_isNearCut_4 : decode cX5_isNearCut 4 = .ok (.iload_n 3, 1) := by decide +kernel
theorem dX5_isNearCut_5 : decode cX5_isNearCut 5 = .ok (.aload_n 0, 1) := by decide +kernel
theorem dX5_isNearCut_6 : decode cX5_isNearCut 6 = .ok (.getfield 7, 3) := by decide +kernel
theorem dX5_isNearCut_9 : decode cX5_isNearCut 9 = .ok (.bipush 7, 2) := by decide +kernel
theorem dX5_isNearCut_11 : decode cX5_isNearCut 11 = .ok (.iaload, 1) := by decide +kernel
theorem dX5_isNearCut_12 : decode cX5_isNearCut 12 = .ok (.if_icmp .ge 98, 3) := by decide +kernel
theorem dX5_isNearCut_15 : decode cX5_isNearCut 15 = .ok (.aload_n 0, 1) := by decide +kernel
theorem dX5_isNearCut_16 : decode cX5_isNearCut 16 = .ok (.getfield 7, 3) := by decide +kernel
theorem dX5_isNearCut_19 : decode cX5_isNearCut 19 = .ok (.bipush 8, 2) := by decide +kernel
theorem dX5_isNearCut_21 : decode cX5_isNearCut 21 = .ok (.iload_n 3, 1) := by decide +kernel
theorem dX5_isNearCut_22 : decode cX5_isNearCut 22 = .ok (.iadd, 1) := by decide +kernel
theorem dX5_isNearCut_23 : decode cX5_isNearCut 23 = .ok (.iaload, 1) := by decide +kernel
theorem dX5_isNearCut_24 : decode cX5_isNearCut 24 = .ok (.istore 4, 2) := by decide +kernel
theorem dX5_isNearCut_26 : decode cX5_isNearCut 26 = .ok (.iload 4, 2) := by decide +kernel
theorem dX5_isNearCut_28 : decode cX5_isNearCut 28 = .ok (.aload_n 0, 1) := by decide +kernel
theorem dX5_isNearCut_29 : decode cX5_isNearCut 29 = .ok (.iload_n 1, 1) := by decide +kernel
theorem dX5_isNearCut_30 : decode cX5_isNearCut 30 = .ok (.iconst 0, 1) := by decide +kernel
theorem dX5_isNearCut_31 : decode cX5_isNearCut 31 = .ok (.invokevirtual 43, 3) := by decide +kernel
theorem dX5_isNearCut_34 : decode cX5_isNearCut 34 = .ok (.if_icmp .le 18, 3) := by decide +kernel
theorem dX5_isNearCut_37 : decode cX5_isNearCut 37 = .ok (.iload 4, 2) := by decide +kernel
theorem dX5_isNearCut_39 : decode cX5_isNearCut 39 = .ok (.aload_n 0, 1) := by decide +kernel
theorem dX5_isNearCut_40 : decode cX5_isNearCut 40 = .ok (.iload_n 1, 1) := by decide +kernel
theorem dX5_isNearCut_41 : decode cX5_isNearCut 41 = .ok (.iconst 1, 1) := by decide +kernel
theorem dX5_isNearCut_42 : decode cX5_isNearCut 42 = .ok (.invokevirtual 43, 3) := by decide +kernel
theorem dX5_isNearCut_45 : decode cX5_isNearCut 45 = .ok (.if_icmp .ge 7, 3) := by decide +kernel
theorem dX5_isNearCut_48 : decode cX5_isNearCut 48 = .ok (.iconst 1, 1) := by decide +kernel
theorem dX5_isNearCut_49 : decode cX5_isNearCut 49 = .ok (.goto 4, 3) := by decide +kernel
theorem dX5_isNearCut_52 : decode cX5_isNearCut 52 = .ok (.iconst 0, 1) := by decide +kernel
theorem dX5_isNearCut_53 : decode cX5_isNearCut 53 = .ok (.istore 5, 2) := by decide +kernel
theorem dX5_isNearCut_55 : decode cX5_isNearCut 55 = .ok (.iload_n 2, 1) := by decide +kernel
theorem dX5_isNearCut_56 : decode cX5_isNearCut 56 = .ok (.ifCond .ne 42, 3) := by decide +kernel
theorem dX5_isNearCut_59 : decode cX5_isNearCut 59 = .ok (.iload 5, 2) := by decide +kernel
theorem dX5_isNearCut_61 : decode cX5_isNearCut 61 = .ok (.ifCond .eq 41, 3) := by decide +kernel
theorem dX5_isNearCut_64 : decode cX5_isNearCut 64 = .ok (.iload 4, 2) := by decide +kernel
theorem dX5_isNearCut_66 : decode cX5_isNearCut 66 = .ok (.aload_n 0, 1) := by decide +kernel
theorem dX5_isNearCut_67 : decode cX5_isNearCut 67 = .ok (.iload_n 1, 1) := by decide +kernel
theorem dX5_isNearCut_68 : decode cX5_isNearCut 68 = .ok (.iconst 0, 1) := by decide +kernel
theorem dX5_isNearCut_69 : decode cX5_isNearCut 69 = .ok (.invokevirtual 43, 3) := by decide +kernel
theorem dX5_isNearCut_72 : decode cX5_isNearCut 72 = .ok (.isub, 1) := by decide +kernel
theorem dX5_isNearCut_73 : decode cX5_isNearCut 73 = .ok (.aload_n 0, 1) := by decide +kernel
theorem dX5_isNearCut_74 : decode cX5_isNearCut 74 = .ok (.iconst 5, 1) := by decide +kernel
theorem dX5_isNearCut_75 : decode cX5_isNearCut 75 = .ok (.invokevirtual 47, 3) := by decide +kernel
theorem dX5_isNearCut_78 : decode cX5_isNearCut 78 = .ok (.if_icmp .lt 20, 3) := by decide +kernel
theorem dX5_isNearCut_81 : decode cX5_isNearCut 81 = .ok (.aload_n 0, 1) := by decide +kernel
theorem dX5_isNearCut_82 : decode cX5_isNearCut 82 = .ok (.iload_n 1, 1) := by decide +kernel
theorem dX5_isNearCut_83 : decode cX5_isNearCut 83 = .ok (.iconst 1, 1) := by decide +kernel
theorem dX5_isNearCut_84 : decode cX5_isNearCut 84 = .ok (.invokevirtual 43, 3) := by decide +kernel
theorem dX5_isNearCut_87 : decode cX5_isNearCut 87 = .ok (.iload 4, 2) := by decide +kernel
theorem dX5_isNearCut_89 : decode cX5_isNearCut 89 = .ok (.isub, 1) := by decide +kernel
theorem dX5_isNearCut_90 : decode cX5_isNearCut 90 = .ok (.aload_n 0, 1) := by decide +kernel
theorem dX5_isNearCut_91 : decode cX5_isNearCut 91 = .ok (.iconst 5, 1) := by decide +kernel
theorem dX5_isNearCut_92 : decode cX5_isNearCut 92 = .ok (.invokevirtual 47, 3) := by decide +kernel
theorem dX5_isNearCut_95 : decode cX5_isNearCut 95 = .ok (.if_icmp .ge 7, 3) := by decide +kernel
theorem dX5_isNearCut_98 : decode cX5_isNearCut 98 = .ok (.iconst 1, 1) := by decide +kernel
theorem dX5_isNearCut_99 : decode cX5_isNearCut 99 = .ok (.goto 4, 3) := by decide +kernel
theorem dX5_isNearCut_102 : decode cX5_isNearCut 102 = .ok (.iconst 0, 1) := by decide +kernel
theorem dX5_isNearCut_103 : decode cX5_isNearCut 103 = .ok (.istore_n 2, 1) := by decide +kernel
theorem dX5_isNearCut_104 : decode cX5_isNearCut 104 = .ok (.iinc 3 1, 3) := by decide +kernel
theorem dX5_isNearCut_107 : decode cX5_isNearCut 107 = .ok (.goto (-103), 3) := by decide +kernel
theorem dX5_isNearCut_110 : decode cX5_isNearCut 110 = .ok (.iload_n 2, 1) := by decide +kernel
theorem dX5_isNearCut_111 : decode cX5_isNearCut 111 = .ok (.ireturn, 1) := by decide +kernel
theorem dX5_isFast_0 : decode cX5_isFast 0 = .ok (.bipush 25, 2) := by decide +kernel
theorem dX5_isFast_2 : decode cX5_isFast 2 = .ok (.aload_n 0, 1) := by decide +kernel
theorem dX5_isFast_3 : decode cX5_isFast 3 = .ok (.iload_n 1, 1) := by decide +kernel
theorem dX5_isFast_4 : decode cX5_isFast 4 = .ok (.iconst 2, 1) := by decide +kernel
theorem dX5_isFast_5 : decode cX5_isFast 5 = .ok (.invokevirtual 43, 3) := by decide +kernel
theorem dX5_isFast_8 : decode cX5_isFast 8 = .ok (.imul, 1) := by decide +kernel
theorem dX5_isFast_9 : decode cX5_isFast 9 = .ok (.iload_n 2, 1) := by decide +kernel
theorem dX5_isFast_10 : decode cX5_isFast 10 = .ok (.aload_n 0, 1) := by decide +kernel
theorem dX5_isFast_11 : decode cX5_isFast 11 = .ok (.iload_n 1, 1) := by decide +kernel
theorem dX5_isFast_12 : decode cX5_isFast 12 = .ok (.invokevirtual 65, 3) := by decide +kernel
theorem dX5_isFast_15 : decode cX5_isFast 15 = .ok (.imul, 1) := by decide +kernel
theorem dX5_isFast_16 : decode cX5_isFast 16 = .ok (.if_icmp .le 7, 3) := by decide +kernel
theorem dX5_isFast_19 : decode cX5_isFast 19 = .ok (.iconst 1, 1) := by decide +kernel
theorem dX5_isFast_20 : decode cX5_isFast 20 = .ok (.goto 4, 3) := by decide +kernel
theorem dX5_isFast_23 : decode cX5_isFast 23 = .ok (.iconst 0, 1) := by decide +kernel
theorem dX5_isFast_24 : decode cX5_isFast 24 = .ok (.ireturn, 1) := by decide +kernel
theorem dX5_faultsOf_0 : decode cX5_faultsOf 0 = .ok (.aload_n 0, 1) := by decide +kernel
theorem dX5_faultsOf_1 : decode cX5_faultsOf 1 = .ok (.iload_n 1, 1) := by decide +kernel
theorem dX5_faultsOf_2 : decode cX5_faultsOf 2 = .ok (.aload_n 0, 1) := by decide +kernel
theorem dX5_faultsOf_3 : decode cX5_faultsOf 3 = .ok (.iconst 0, 1) := by decide +kernel
theorem dX5_faultsOf_4 : decode cX5_faultsOf 4 = .ok (.invokevirtual 47, 3) := by decide +kernel
theorem dX5_faultsOf_7 : decode cX5_faultsOf 7 = .ok (.invokevirtual 68, 3) := by decide +kernel
theorem dX5_faultsOf_10 : decode cX5_faultsOf 10 = .ok (.ifCond .eq 7, 3) := by decide +kernel
theorem dX5_faultsOf_13 : decode cX5_faultsOf 13 = .ok (.iconst 1, 1) := by decide +kernel
theorem dX5_faultsOf_14 : decode cX5_faultsOf 14 = .ok (.goto 4, 3) := by decide +kernel
theorem dX5_faultsOf_17 : decode cX5_faultsOf 17 = .ok (.iconst 0, 1) := by decide +kernel
theorem dX5_faultsOf_18 : decode cX5_faultsOf 18 = .ok (.istore_n 2, 1) := by decide +kernel
theorem dX5_faultsOf_19 : decode cX5_faultsOf 19 = .ok (.iload_n 2, 1) := by decide +kernel
theorem dX5_faultsOf_20 : decode cX5_faultsOf 20 = .ok (.aload_n 0, 1) := by decide +kernel
theorem dX5_faultsOf_21 : decode cX5_faultsOf 21 = .ok (.iload_n 1, 1) := by decide +kernel
theorem dX5_faultsOf_22 : decode cX5_faultsOf 22 = .ok (.invokevirtual 65, 3) := by decide +kernel
theorem dX5_faultsOf_25 : decode cX5_faultsOf 25 = .ok (.aload_n 0, 1) := by decide +kernel
theorem dX5_faultsOf_26 : decode cX5_faultsOf 26 = .ok (.iconst 2, 1) := by decide +kernel
theorem dX5_faultsOf_27 : decode cX5_faultsOf 27 = .ok (.invokevirtual 47, 3) := by decide +kernel
theorem dX5_faultsOf_30 : decode cX5_faultsOf 30 = .ok (.if_icmp .ge 7, 3) := by decide +kernel
theorem dX5_faultsOf_33 : decode cX5_faultsOf 33 = .ok (.iconst 2, 1) := by decide +kernel
theorem dX5_faultsOf_34 : decode cX5_faultsOf 34 = .ok (.goto 4, 3) := by decide +kernel
theorem dX5_faultsOf_37 : decode cX5_faultsOf 37 = .ok (.iconst 0, 1) := by decide +kernel
theorem dX5_faultsOf_38 : decode cX5_faultsOf 38 = .ok (.iadd, 1) := by decide +kernel
theorem dX5_faultsOf_39 : decode cX5_faultsOf 39 = .ok (.istore_n 2, 1) := by decide +kernel
theorem dX5_faultsOf_40 : decode cX5_faultsOf 40 = .ok (.iload_n 2, 1) := by decide +kernel
theorem dX5_faultsOf_41 : decode cX5_faultsOf 41 = .ok (.aload_n 0, 1) := by decide +kernel
theorem dX5_faultsOf_42 : decode cX5_faultsOf 42 = .ok (.iload_n 1, 1) := by decide +kernel
theorem dX5_faultsOf_43 : decode cX5_faultsOf 43 = .ok (.invokevirtual 65, 3) := by decide +kernel
theorem dX5_faultsOf_46 : decode cX5_faultsOf 46 = .ok (.aload_n 0, 1) := by decide +kernel
theorem dX5_faultsOf_47 : decode cX5_faultsOf 47 = .ok (.iconst 3, 1) := by decide +kernel
theorem dX5_faultsOf_48 : decode cX5_faultsOf 48 = .ok (.invokevirtual 47, 3) := by decide +kernel
theorem dX5_faultsOf_51 : decode cX5_faultsOf 51 = .ok (.if_icmp .le 7, 3) := by decide +kernel
theorem dX5_faultsOf_54 : decode cX5_faultsOf 54 = .ok (.iconst 4, 1) := by decide +kernel
theorem dX5_faultsOf_55 : decode cX5_faultsOf 55 = .ok (.goto 4, 3) := by decide +kernel
theorem dX5_faultsOf_58 : decode cX5_faultsOf 58 = .ok (.iconst 0, 1) := by decide +kernel
theorem dX5_faultsOf_59 : decode cX5_faultsOf 59 = .ok (.iadd, 1) := by decide +kernel
theorem dX5_faultsOf_60 : decode cX5_faultsOf 60 = .ok (.istore_n 2, 1) := by decide +kernel
theorem dX5_faultsOf_61 : decode cX5_faultsOf 61 = .ok (.iload_n 2, 1) := by decide +kernel
theorem dX5_faultsOf_62 : decode cX5_faultsOf 62 = .ok (.iload_n 1, 1) := by decide +kernel
theorem dX5_faultsOf_63 : decode cX5_faultsOf 63 = .ok (.iconst 1, 1) := by decide +kernel
theorem dX5_faultsOf_64 : decode cX5_faultsOf 64 = .ok (.iadd, 1) := by decide +kernel
theorem dX5_faultsOf_65 : decode cX5_faultsOf 65 = .ok (.aload_n 0, 1) := by decide +kernel
theorem dX5_faultsOf_66 : decode cX5_faultsOf 66 = .ok (.getfield 7, 3) := by decide +kernel
theorem dX5_faultsOf_69 : decode cX5_faultsOf 69 = .ok (.iconst 0, 1) := by decide +kernel
theorem dX5_faultsOf_70 : decode cX5_faultsOf 70 = .ok (.iaload, 1) := by decide +kernel
theorem dX5_faultsOf_71 : decode cX5_faultsOf 71 = .ok (.if_icmp .ge 31, 3) := by decide +kernel
theorem dX5_faultsOf_74 : decode cX5_faultsOf 74 = .ok (.aload_n 0, 1) := by decide +kernel
theorem dX5_faultsOf_75 : decode cX5_faultsOf 75 = .ok (.iload_n 1, 1) := by decide +kernel
theorem dX5_faultsOf_76 : decode cX5_faultsOf 76 = .ok (.iconst 1, 1) := by decide +kernel
theorem dX5_faultsOf_77 : decode cX5_faultsOf 77 = .ok (.iadd, 1) := by decide +kernel
theorem dX5_faultsOf_78 : decode cX5_faultsOf 78 = .ok (.iconst 0, 1) := by decide +kernel
theorem dX5_faultsOf_79 : decode cX5_faultsOf 79 = .ok (.invokevirtual 43, 3) := by decide +kernel
theorem dX5_faultsOf_82 : decode cX5_faultsOf 82 = .ok (.aload_n 0, 1) := by decide +kernel
theorem dX5_faultsOf_83 : decode cX5_faultsOf 83 = .ok (.iload_n 1, 1) := by decide +kernel
theorem dX5_faultsOf_84 : decode cX5_faultsOf 84 = .ok (.iconst 1, 1) := by decide +kernel
theorem dX5_faultsOf_85 : decode cX5_faultsOf 85 = .ok (.invokevirtual 43, 3) := by decide +kernel
theorem dX5_faultsOf_88 : decode cX5_faultsOf 88 = .ok (.isub, 1) := by decide +kernel
theorem dX5_faultsOf_89 : decode cX5_faultsOf 89 = .ok (.aload_n 0, 1) := by decide +kernel
theorem dX5_faultsOf_90 : decode cX5_faultsOf 90 = .ok (.iconst 1, 1) := by decide +kernel
theorem dX5_faultsOf_91 : decode cX5_faultsOf 91 = .ok (.invokevirtual 47, 3) := by decide +kernel
theorem dX5_faultsOf_94 : decode cX5_faultsOf 94 = .ok (.if_icmp .ge 8, 3) := by decide +kernel
theorem dX5_faultsOf_97 : decode cX5_faultsOf 97 = .ok (.bipush 8, 2) := by decide +kernel
theorem dX5_faultsOf_99 : decode cX5_faultsOf 99 = .ok (.goto 4, 3) := by decide +kernel
theorem dX5_faultsOf_102 : decode cX5_faultsOf 102 = .ok (.iconst 0, 1) := by decide +kernel
theorem dX5_faultsOf_103 : decode cX5_faultsOf 103 = .ok (.iadd, 1) := by decide +kernel
theorem dX5_faultsOf_104 : decode cX5_faultsOf 104 = .ok (.istore_n 2, 1) := by decide +kernel
theorem dX5_faultsOf_105 : decode cX5_faultsOf 105 = .ok (.iload_n 2, 1) := by decide +kernel
theorem dX5_faultsOf_106 : decode cX5_faultsOf 106 = .ok (.aload_n 0, 1) := by decide +kernel
theorem dX5_faultsOf_107 : decode cX5_faultsOf 107 = .ok (.iload_n 1, 1) := by decide +kernel
theorem dX5_faultsOf_108 : decode cX5_faultsOf 108 = .ok (.invokevirtual 72, 3) := by decide +kernel
theorem dX5_faultsOf_111 : decode cX5_faultsOf 111 = .ok (.ifCond .eq 8, 3) := by decide +kernel
theorem dX5_faultsOf_114 : decode cX5_faultsOf 114 = .ok (.bipush 16, 2) := by decide +kernel
theorem dX5_faultsOf_116 : decode cX5_faultsOf 116 = .ok (.goto 4, 3) := by decide +kernel
theorem dX5_faultsOf_119 : decode cX5_faultsOf 119 = .ok (.iconst 0, 1) := by decide +kernel
theorem dX5_faultsOf_120 : decode cX5_faultsOf 120 = .ok (.iadd, 1) := by decide +kernel
theorem dX5_faultsOf_121 : decode cX5_faultsOf 121 = .ok (.istore_n 2, 1) := by decide +kernel
theorem dX5_faultsOf_122 : decode cX5_faultsOf 122 = .ok (.iload_n 2, 1) := by decide +kernel
theorem dX5_faultsOf_123 : decode cX5_faultsOf 123 = .ok (.aload_n 0, 1) := by decide +kernel
theorem dX5_faultsOf_124 : decode cX5_faultsOf 124 = .ok (.iload_n 1, 1) := by decide +kernel
theorem dX5_faultsOf_125 : decode cX5_faultsOf 125 = .ok (.invokevirtual 76, 3) := by decide +kernel
theorem dX5_faultsOf_128 : decode cX5_faultsOf 128 = .ok (.ifCond .eq 8, 3) := by decide +kernel
theorem dX5_faultsOf_131 : decode cX5_faultsOf 131 = .ok (.bipush 32, 2) := by decide +kernel
theorem dX5_faultsOf_133 : decode cX5_faultsOf 133 = .ok (.goto 4, 3) := by decide +kernel
theorem dX5_faultsOf_136 : decode cX5_faultsOf 136 = .ok (.iconst 0, 1) := by decide +kernel
theorem dX5_faultsOf_137 : decode cX5_faultsOf 137 = .ok (.iadd, 1) := by decide +kernel
theorem dX5_faultsOf_138 : decode cX5_faultsOf 138 = .ok (.ireturn, 1) := by decide +kernel
theorem dX5_faultyBy_0 : decode cX5_faultyBy 0 = .ok (.iconst 0, 1) := by decide +kernel
theorem dX5_faultyBy_1 : decode cX5_faultyBy 1 = .ok (.istore_n 2, 1) := by decide +kernel
theorem dX5_faultyBy_2 : decode cX5_faultyBy 2 = .ok (.iconst 0, 1) := by decide +kernel
theorem dX5_faultyBy_3 : decode cX5_faultyBy 3 = .ok (.istore_n 3, 1) := by decide +kernel
theorem dX5_faultyBy_4 : decode cX5_faultyBy 4 = .ok (.iload_n 3, 1) := by decide +kernel
theorem dX5_faultyBy_5 : decode cX5_faultyBy 5 = .ok (.aload_n 0, 1) := by decide +kernel
theorem dX5_faultyBy_6 : decode cX5_faultyBy 6 = .ok (.getfield 7, 3) := by decide +kernel
theorem dX5_faultyBy_9 : decode cX5_faultyBy 9 = .ok (.iconst 0, 1) := by decide +kernel
theorem dX5_faultyBy_10 : decode cX5_faultyBy 10 = .ok (.iaload, 1) := by decide +kernel
theorem dX5_faultyBy_11 : decode cX5_faultyBy 11 = .ok (.if_icmp .ge 42, 3) := by decide +kernel
theorem dX5_faultyBy_14 : decode cX5_faultyBy 14 = .ok (.aload_n 0, 1) := by decide +kernel
theorem dX5_faultyBy_15 : decode cX5_faultyBy 15 = .ok (.iload_n 3, 1) := by decide +kernel
theorem dX5_faultyBy_16 : decode cX5_faultyBy 16 = .ok (.invokevirtual 79, 3) := by decide +kernel
theorem dX5_faultyBy_19 : decode cX5_faultyBy 19 = .ok (.istore 4, 2) := by decide +kernel
theorem dX5_faultyBy_21 : decode cX5_faultyBy 21 = .ok (.iload_n 2, 1) := by decide +kernel
theorem dX5_faultyBy_22 : decode cX5_faultyBy 22 = .ok (.iload_n 1, 1) := by decide +kernel
theorem dX5_faultyBy_23 : decode cX5_faultyBy 23 = .ok (.ifCond .ne 16, 3) := by decide +kernel
theorem dX5_faultyBy_26 : decode cX5_faultyBy 26 = .ok (.iload 4, 2) := by decide +kernel
theorem dX5_faultyBy_28 : decode cX5_faultyBy 28 = .ok (.ifCond .le 7, 3) := by decide +kernel
theorem dX5_faultyBy_31 : decode cX5_faultyBy 31 = .ok (.iconst 1, 1) := by decide +kernel
theorem dX5_faultyBy_32 : decode cX5_faultyBy 32 = .ok (.goto 13, 3) := by decide +kernel
theorem dX5_faultyBy_35 : decode cX5_faultyBy 35 = .ok (.iconst 0, 1) := by decide +kernel
theorem dX5_faultyBy_36 : decode cX5_faultyBy 36 = .ok (.goto 9, 3) := by decide +kernel
theorem dX5_faultyBy_39 : decode cX5_faultyBy 39 = .ok (.iload 4, 2) := by decide +kernel
theorem dX5_faultyBy_41 : decode cX5_faultyBy 41 = .ok (.iload_n 1, 1) := by decide +kernel
theorem dX5_faultyBy_42 : decode cX5_faultyBy 42 = .ok (.idiv, 1) := by decide +kernel
theorem dX5_faultyBy_43 : decode cX5_faultyBy 43 = .ok (.iconst 2, 1) := by decide +kernel
theorem dX5_faultyBy_44 : decode cX5_faultyBy 44 = .ok (.irem, 1) := by decide +kernel
theorem dX5_faultyBy_45 : decode cX5_faultyBy 45 = .ok (.iadd, 1) := by decide +kernel
theorem dX5_faultyBy_46 : decode cX5_faultyBy 46 = .ok (.istore_n 2, 1) := by decide +kernel
theorem dX5_faultyBy_47 : decode cX5_faultyBy 47 = .ok (.iinc 3 1, 3) := by decide +kernel
theorem dX5_faultyBy_50 : decode cX5_faultyBy 50 = .ok (.goto (-46), 3) := by decide +kernel
theorem dX5_faultyBy_53 : decode cX5_faultyBy 53 = .ok (.iload_n 2, 1) := by decide +kernel
theorem dX5_faultyBy_54 : decode cX5_faultyBy 54 = .ok (.ireturn, 1) := by decide +kernel
theorem dX5_allFrames_0 : decode cX5_allFrames 0 = .ok (.iconst 0, 1) := by decide +kernel
theorem dX5_allFrames_1 : decode cX5_allFrames 1 = .ok (.istore_n 1, 1) := by decide +kernel
theorem dX5_allFrames_2 : decode cX5_allFrames 2 = .ok (.iconst 0, 1) := by decide +kernel
theorem dX5_allFrames_3 : decode cX5_allFrames 3 = .ok (.istore_n 2, 1) := by decide +kernel
theorem dX5_allFrames_4 : decode cX5_allFrames 4 = .ok (.iload_n 2, 1) := by decide +kernel
theorem dX5_allFrames_5 : decode cX5_allFrames 5 = .ok (.aload_n 0, 1) := by decide +kernel
theorem dX5_allFrames_6 : decode cX5_allFrames 6 = .ok (.getfield 7, 3) := by decide +kernel
theorem dX5_allFrames_9 : decode cX5_allFrames 9 = .ok (.iconst 0, 1) := by decide +kernel
theorem dX5_allFrames_10 : decode cX5_allFrames 10 = .ok (.iaload, 1) := by decide +kernel
theorem dX5_allFrames_11 : decode cX5_allFrames 11 = .ok (.if_icmp .ge 17, 3) := by decide +kernel
theorem dX5_allFrames_14 : decode cX5_allFrames 14 = .ok (.iload_n 1, 1) := by decide +kernel
theorem dX5_allFrames_15 : decode cX5_allFrames 15 = .ok (.aload_n 0, 1) := by decide +kernel
theorem dX5_allFrames_16 : decode cX5_allFrames 16 = .ok (.iload_n 2, 1) := by decide +kernel
theorem dX5_allFrames_17 : decode cX5_allFrames 17 = .ok (.invokevirtual 65, 3) := by decide +kernel
theorem dX5_allFrames_20 : decode cX5_allFrames 20 = .ok (.iadd, 1) := by decide +kernel
theorem dX5_allFrames_21 : decode cX5_allFrames 21 = .ok (.istore_n 1, 1) := by decide +kernel
theorem dX5_allFrames_22 : decode cX5_allFrames 22 = .ok (.iinc 2 1, 3) := by decide +kernel
theorem dX5_allFrames_25 : decode cX5_allFrames 25 = .ok (.goto (-21), 3) := by decide +kernel
theorem dX5_allFrames_28 : decode cX5_allFrames 28 = .ok (.iload_n 1, 1) := by decide +kernel
theorem dX5_allFrames_29 : decode cX5_allFrames 29 = .ok (.ireturn, 1) := by decide +kernel
theorem dX5_far_0 : decode cX5_far 0 = .ok (.iload_n 0, 1) := by decide +kernel
theorem dX5_far_1 : decode cX5_far 1 = .ok (.iload_n 1, 1) := by decide +kernel
theorem dX5_far_2 : decode cX5_far 2 = .ok (.if_icmp .ge 9, 3) := by decide +kernel
theorem dX5_far_5 : decode cX5_far 5 = .ok (.iload_n 1, 1) := by decide +kernel
theorem dX5_far_6 : decode cX5_far 6 = .ok (.iload_n 0, 1) := by decide +kernel
theorem dX5_far_7 : decode cX5_far 7 = .ok (.isub, 1) := by decide +kernel
theorem dX5_far_8 : decode cX5_far 8 = .ok (.goto 6, 3) := by decide +kernel
theorem dX5_far_11 : decode cX5_far 11 = .ok (.iload_n 0, 1) := by decide +kernel
theorem dX5_far_12 : decode cX5_far 12 = .ok (.iload_n 1, 1) := by decide +kernel
theorem dX5_far_13 : decode cX5_far 13 = .ok (.isub, 1) := by decide +kernel
theorem dX5_far_14 : decode cX5_far 14 = .ok (.ireturn, 1) := by decide +kernel
theorem dX5_nearestCut_0 : decode cX5_nearestCut 0 = .ok (.bipush (-6), 2) := by decide +kernel
theorem dX5_nearestCut_2 : decode cX5_nearestCut 2 = .ok (.istore_n 2, 1) := by decide +kernel
theorem dX5_nearestCut_3 : decode cX5_nearestCut 3 = .ok (.aload_n 0, 1) := by decide +kernel
theorem dX5_nearestCut_4 : decode cX5_nearestCut 4 = .ok (.getfield 7, 3) := by decide +kernel
theorem dX5_nearestCut_7 : decode cX5_nearestCut 7 = .ok (.bipush 7, 2) := by decide +kernel
theorem dX5_nearestCut_9 : decode cX5_nearestCut 9 = .ok (.iaload, 1) := by decide +kernel
theorem dX5_nearestCut_10 : decode cX5_nearestCut 10 = .ok (.iconst 1, 1) := by decide +kernel
theorem dX5_nearestCut_11 : decode cX5_nearestCut 11 = .ok (.isub, 1) := by decide +kernel
theorem dX5_nearestCut_12 : decode cX5_nearestCut 12 = .ok (.istore_n 3, 1) := by decide +kernel
theorem dX5_nearestCut_13 : decode cX5_nearestCut 13 = .ok (.iload_n 3, 1) := by decide +kernel
theorem dX5_nearestCut_14 : decode cX5_nearestCut 14 = .ok (.ifCond .lt 47, 3) := by decide +kernel
theorem dX5_nearestCut_17 : decode cX5_nearestCut 17 = .ok (.aload_n 0, 1) := by decide +kernel
theorem dX5_nearestCut_18 : decode cX5_nearestCut 18 = .ok (.getfield 7, 3) := by decide +kernel
theorem dX5_nearestCut_21 : decode cX5_nearestCut 21 = .ok (.bipush 8, 2) := by decide +kernel
theorem dX5_nearestCut_23 : decode cX5_nearestCut 23 = .ok (.iload_n 3, 1) := by decide +kernel
theorem dX5_nearestCut_24 : decode cX5_nearestCut 24 = .ok (.iadd, 1) := by decide +kernel
theorem dX5_nearestCut_25 : decode cX5_nearestCut 25 = .ok (.iaload, 1) := by decide +kernel
theorem dX5_nearestCut_26 : decode cX5_nearestCut 26 = .ok (.istore 4, 2) := by decide +kernel
theorem dX5_nearestCut_28 : decode cX5_nearestCut 28 = .ok (.iload_n 2, 1) := by decide +kernel
theorem dX5_nearestCut_29 : decode cX5_nearestCut 29 = .ok (.bipush (-6), 2) := by decide +kernel
theorem dX5_nearestCut_31 : decode cX5_nearestCut 31 = .ok (.if_icmp .eq 17, 3) := by decide +kernel
theorem dX5_nearestCut_34 : decode cX5_nearestCut 34 = .ok (.iload 4, 2) := by decide +kernel
theorem dX5_nearestCut_36 : decode cX5_nearestCut 36 = .ok (.iload_n 1, 1) := by decide +kernel
theorem dX5_nearestCut_37 : decode cX5_nearestCut 37 = .ok (.invokestatic 82, 3) := by decide +kernel
theorem dX5_nearestCut_40 : decode cX5_nearestCut 40 = .ok (.iload_n 2, 1) := by decide +kernel
theorem dX5_nearestCut_41 : decode cX5_nearestCut 41 = .ok (.iload_n 1, 1) := by decide +kernel
theorem dX5_nearestCut_42 : decode cX5_nearestCut 42 = .ok (.invokestatic 82, 3) := by decide +kernel
theorem dX5_nearestCut_45 : decode cX5_nearestCut 45 = .ok (.if_icmp .gt 8, 3) := by decide +kernel
theorem dX5_nearestCut_48 : decode cX5_nearestCut 48 = .ok (.iload 4, 2) := by decide +kernel
theorem dX5_nearestCut_50 : decode cX5_nearestCut 50 = .ok (.goto 4, 3) := by decide +kernel
theorem dX5_nearestCut_53 : decode cX5_nearestCut 53 = .ok (.iload_n 2, 1) := by decide +kernel
theorem dX5_nearestCut_54 : decode cX5_nearestCut 54 = .ok (.istore_n 2, 1) := by decide +kernel
theorem dX5_nearestCut_55 : decode cX5_nearestCut 55 = .ok (.iinc 3 (-1), 3) := by decide +kernel
theorem dX5_nearestCut_58 : decode cX5_nearestCut 58 = .ok (.goto (-45), 3) := by decide +kernel
theorem dX5_nearestCut_61 : decode cX5_nearestCut 61 = .ok (.iload_n 2, 1) := by decide +kernel
theorem dX5_nearestCut_62 : decode cX5_nearestCut 62 = .ok (.ireturn, 1) := by decide +kernel
theorem dX5_limitOf_0 : decode cX5_limitOf 0 = .ok (.iload_n 1, 1) := by decide +kernel
theorem dX5_limitOf_1 : decode cX5_limitOf 1 = .ok (.iconst 1, 1) := by decide +kernel
theorem dX5_limitOf_2 : decode cX5_limitOf 2 = .ok (.iadd, 1) := by decide +kernel
theorem dX5_limitOf_3 : decode cX5_limitOf 3 = .ok (.aload_n 0, 1) := by decide +kernel
theorem dX5_limitOf_4 : decode cX5_limitOf 4 = .ok (.getfield 7, 3) := by decide +kernel
theorem dX5_limitOf_7 : decode cX5_limitOf 7 = .ok (.iconst 0, 1) := by decide +kernel
theorem dX5_limitOf_8 : decode cX5_limitOf 8 = .ok (.iaload, 1) := by decide +kernel
theorem dX5_limitOf_9 : decode cX5_limitOf 9 = .ok (.if_icmp .ge 20, 3) := by decide +kernel
theorem dX5_limitOf_12 : decode cX5_limitOf 12 = .ok (.aload_n 0, 1) := by decide +kernel
theorem dX5_limitOf_13 : decode cX5_limitOf 13 = .ok (.iload_n 1, 1) := by decide +kernel
theorem dX5_limitOf_14 : decode cX5_limitOf 14 = .ok (.iconst 1, 1) := by decide +kernel
theorem dX5_limitOf_15 : decode cX5_limitOf 15 = .ok (.iadd, 1) := by decide +kernel
theorem dX5_limitOf_16 : decode cX5_limitOf 16 = .ok (.iconst 0, 1) := by decide +kernel
theorem dX5_limitOf_17 : decode cX5_limitOf 17 = .ok (.invokevirtual 43, 3) := by decide +kernel
theorem dX5_limitOf_20 : decode cX5_limitOf 20 = .ok (.aload_n 0, 1) := by decide +kernel
theorem dX5_limitOf_21 : decode cX5_limitOf 21 = .ok (.iconst 1, 1) := by decide +kernel
theorem dX5_limitOf_22 : decode cX5_limitOf 22 = .ok (.invokevirtual 47, 3) := by decide +kernel
theorem dX5_limitOf_25 : decode cX5_limitOf 25 = .ok (.isub, 1) := by decide +kernel
theorem dX5_limitOf_26 : decode cX5_limitOf 26 = .ok (.goto 6, 3) := by decide +kernel
theorem dX5_limitOf_29 : decode cX5_limitOf 29 = .ok (.sipush 5000, 3) := by decide +kernel
theorem dX5_limitOf_32 : decode cX5_limitOf 32 = .ok (.ireturn, 1) := by decide +kernel
theorem dX5_seats_0 : decode cX5_seats 0 = .ok (.aload_n 0, 1) := by decide +kernel
theorem dX5_seats_1 : decode cX5_seats 1 = .ok (.iload_n 1, 1) := by decide +kernel
theorem dX5_seats_2 : decode cX5_seats 2 = .ok (.invokevirtual 85, 3) := by decide +kernel
theorem dX5_seats_5 : decode cX5_seats 5 = .ok (.istore_n 2, 1) := by decide +kernel
theorem dX5_seats_6 : decode cX5_seats 6 = .ok (.aload_n 0, 1) := by decide +kernel
theorem dX5_seats_7 : decode cX5_seats 7 = .ok (.iload_n 1, 1) := by decide +kernel
theorem dX5_seats_8 : decode cX5_seats 8 = .ok (.invokevirtual 88, 3) := by decide +kernel
theorem dX5_seats_11 : decode cX5_seats 11 = .ok (.istore_n 3, 1) := by decide +kernel
theorem dX5_seats_12 : decode cX5_seats 12 = .ok (.aload_n 0, 1) := by decide +kernel
theorem dX5_seats_13 : decode cX5_seats 13 = .ok (.iload_n 1, 1) := by decide +kernel
theorem dX5_seats_14 : decode cX5_seats 14 = .ok (.invokevirtual 65, 3) := by decide +kernel
theorem dX5_seats_17 : decode cX5_seats 17 = .ok (.iload_n 2, 1) := by decide +kernel
theorem dX5_seats_18 : decode cX5_seats 18 = .ok (.if_icmp .ge 57, 3) := by decide +kernel
theorem dX5_seats_21 : decode cX5_seats 21 = .ok (.aload_n 0, 1) := by decide +kernel
theorem dX5_seats_22 : decode cX5_seats 22 = .ok (.iload_n 1, 1) := by decide +kernel
theorem dX5_seats_23 : decode cX5_seats 23 = .ok (.iconst 0, 1) := by decide +kernel
theorem dX5_seats_24 : decode cX5_seats 24 = .ok (.invokevirtual 43, 3) := by decide +kernel
theorem dX5_seats_27 : decode cX5_seats 27 = .ok (.iload_n 2, 1) := by decide +kernel
theorem dX5_seats_28 : decode cX5_seats 28 = .ok (.iadd, 1) := by decide +kernel
theorem dX5_seats_29 : decode cX5_seats 29 = .ok (.iload_n 3, 1) := by decide +kernel
theorem dX5_seats_30 : decode cX5_seats 30 = .ok (.if_icmp .ge 14, 3) := by decide +kernel
theorem dX5_seats_33 : decode cX5_seats 33 = .ok (.aload_n 0, 1) := by decide +kernel
theorem dX5_seats_34 : decode cX5_seats 34 = .ok (.iload_n 1, 1) := by decide +kernel
theorem dX5_seats_35 : decode cX5_seats 35 = .ok (.iconst 0, 1) := by decide +kernel
theorem dX5_seats_36 : decode cX5_seats 36 = .ok (.invokevirtual 43, 3) := by decide +kernel
theorem dX5_seats_39 : decode cX5_seats 39 = .ok (.iload_n 2, 1) := by decide +kernel
theorem dX5_seats_40 : decode cX5_seats 40 = .ok (.iadd, 1) := by decide +kernel
theorem dX5_seats_41 : decode cX5_seats 41 = .ok (.goto 4, 3) := by decide +kernel
theorem dX5_seats_44 : decode cX5_seats 44 = .ok (.iload_n 3, 1) := by decide +kernel
theorem dX5_seats_45 : decode cX5_seats 45 = .ok (.istore 4, 2) := by decide +kernel
theorem dX5_seats_47 : decode cX5_seats 47 = .ok (.aload_n 0, 1) := by decide +kernel
theorem dX5_seats_48 : decode cX5_seats 48 = .ok (.iload_n 1, 1) := by decide +kernel
theorem dX5_seats_49 : decode cX5_seats 49 = .ok (.iconst 1, 1) := by decide +kernel
theorem dX5_seats_50 : decode cX5_seats 50 = .ok (.iload 4, 2) := by decide +kernel
theorem dX5_seats_52 : decode cX5_seats 52 = .ok (.aload_n 0, 1) := by decide +kernel
theorem dX5_seats_53 : decode cX5_seats 53 = .ok (.iload_n 1, 1) := by decide +kernel
theorem dX5_seats_54 : decode cX5_seats 54 = .ok (.iconst 1, 1) := by decide +kernel
theorem dX5_seats_55 : decode cX5_seats 55 = .ok (.invokevirtual 43, 3) := by decide +kernel
theorem dX5_seats_58 : decode cX5_seats 58 = .ok (.if_icmp .le 8, 3) := by decide +kernel
theorem dX5_seats_61 : decode cX5_seats 61 = .ok (.iload 4, 2) := by decide +kernel
theorem dX5_seats_63 : decode cX5_seats 63 = .ok (.goto 9, 3) := by decide +kernel
theorem dX5_seats_66 : decode cX5_seats 66 = .ok (.aload_n 0, 1) := by decide +kernel
theorem dX5_seats_67 : decode cX5_seats 67 = .ok (.iload_n 1, 1) := by decide +kernel
theorem dX5_seats_68 : decode cX5_seats 68 = .ok (.iconst 1, 1) := by decide +kernel
theorem dX5_seats_69 : decode cX5_seats 69 = .ok (.invokevirtual 43, 3) := by decide +kernel
theorem dX5_seats_72 : decode cX5_seats 72 = .ok (.invokevirtual 51, 3) := by decide +kernel
theorem dX5_seats_75 : decode cX5_seats 75 = .ok (.aload_n 0, 1) := by decide +kernel
theorem dX5_seats_76 : decode cX5_seats 76 = .ok (.iload_n 1, 1) := by decide +kernel
theorem dX5_seats_77 : decode cX5_seats 77 = .ok (.invokevirtual 65, 3) := by decide +kernel
theorem dX5_seats_80 : decode cX5_seats 80 = .ok (.iload_n 2, 1) := by decide +kernel
theorem dX5_seats_81 : decode cX5_seats 81 = .ok (.if_icmp .ge 83, 3) := by decide +kernel
theorem dX5_seats_84 : decode cX5_seats 84 = .ok (.iload_n 1, 1) := by decide +kernel
theorem dX5_seats_85 : decode cX5_seats 85 = .ok (.ifCond .ne 7, 3) := by decide +kernel
theorem dX5_seats_88 : decode cX5_seats 88 = .ok (.iconst 0, 1) := by decide +kernel
theorem dX5_seats_89 : decode cX5_seats 89 = .ok (.goto 17, 3) := by decide +kernel
theorem dX5_seats_92 : decode cX5_seats 92 = .ok (.aload_n 0, 1) := by decide +kernel
theorem dX5_seats_93 : decode cX5_seats 93 = .ok (.iload_n 1, 1) := by decide +kernel
theorem dX5_seats_94 : decode cX5_seats 94 = .ok (.iconst 1, 1) := by decide +kernel
theorem dX5_seats_95 : decode cX5_seats 95 = .ok (.isub, 1) := by decide +kernel
theorem dX5_seats_96 : decode cX5_seats 96 = .ok (.iconst 1, 1) := by decide +kernel
theorem dX5_seats_97 : decode cX5_seats 97 = .ok (.invokevirtual 43, 3) := by decide +kernel
theorem dX5_seats_100 : decode cX5_seats 100 = .ok (.aload_n 0, 1) := by decide +kernel
theorem dX5_seats_101 : decode cX5_seats 101 = .ok (.iconst 1, 1) := by decide +kernel
theorem dX5_seats_102 : decode cX5_seats 102 = .ok (.invokevirtual 47, 3) := by decide +kernel
theorem dX5_seats_105 : decode cX5_seats 105 = .ok (.iadd, 1) := by decide +kernel
theorem dX5_seats_106 : decode cX5_seats 106 = .ok (.istore 4, 2) := by decide +kernel
theorem dX5_seats_108 : decode cX5_seats 108 = .ok (.aload_n 0, 1) := by decide +kernel
theorem dX5_seats_109 : decode cX5_seats 109 = .ok (.iload_n 1, 1) := by decide +kernel
theorem dX5_seats_110 : decode cX5_seats 110 = .ok (.iconst 1, 1) := by decide +kernel
theorem dX5_seats_111 : decode cX5_seats 111 = .ok (.invokevirtual 43, 3) := by decide +kernel
theorem dX5_seats_114 : decode cX5_seats 114 = .ok (.iload_n 2, 1) := by decide +kernel
theorem dX5_seats_115 : decode cX5_seats 115 = .ok (.isub, 1) := by decide +kernel
theorem dX5_seats_116 : decode cX5_seats 116 = .ok (.iload 4, 2) := by decide +kernel
theorem dX5_seats_118 : decode cX5_seats 118 = .ok (.if_icmp .le 14, 3) := by decide +kernel
theorem dX5_seats_121 : decode cX5_seats 121 = .ok (.aload_n 0, 1) := by decide +kernel
theorem dX5_seats_122 : decode cX5_seats 122 = .ok (.iload_n 1, 1) := by decide +kernel
theorem dX5_seats_123 : decode cX5_seats 123 = .ok (.iconst 1, 1) := by decide +kernel
theorem dX5_seats_124 : decode cX5_seats 124 = .ok (.invokevirtual 43, 3) := by decide +kernel
theorem dX5_seats_127 : decode cX5_seats 127 = .ok (.iload_n 2, 1) := by decide +kernel
theorem dX5_seats_128 : decode cX5_seats 128 = .ok (.isub, 1) := by decide +kernel
theorem dX5_seats_129 : decode cX5_seats 129 = .ok (.goto 5, 3) := by decide +kernel
theorem dX5_seats_132 : decode cX5_seats 132 = .ok (.iload 4, 2) := by decide +kernel
theorem dX5_seats_134 : decode cX5_seats 134 = .ok (.istore 5, 2) := by decide +kernel
theorem dX5_seats_136 : decode cX5_seats 136 = .ok (.aload_n 0, 1) := by decide +kernel
theorem dX5_seats_137 : decode cX5_seats 137 = .ok (.iload_n 1, 1) := by decide +kernel
theorem dX5_seats_138 : decode cX5_seats 138 = .ok (.iconst 0, 1) := by decide +kernel
theorem dX5_seats_139 : decode cX5_seats 139 = .ok (.iload 5, 2) := by decide +kernel
theorem dX5_seats_141 : decode cX5_seats 141 = .ok (.aload_n 0, 1) := by decide +kernel
theorem dX5_seats_142 : decode cX5_seats 142 = .ok (.iload_n 1, 1) := by decide +kernel
theorem dX5_seats_143 : decode cX5_seats 143 = .ok (.iconst 0, 1) := by decide +kernel
theorem dX5_seats_144 : decode cX5_seats 144 = .ok (.invokevirtual 43, 3) := by decide +kernel
theorem dX5_seats_147 : decode cX5_seats 147 = .ok (.if_icmp .ge 8, 3) := by decide +kernel
theorem dX5_seats_150 : decode cX5_seats 150 = .ok (.iload 5, 2) := by decide +kernel
theorem dX5_seats_152 : decode cX5_seats 152 = .ok (.goto 9, 3) := by decide +kernel
theorem dX5_seats_155 : decode cX5_seats 155 = .ok (.aload_n 0, 1) := by decide +kernel
theorem dX5_seats_156 : decode cX5_seats 156 = .ok (.iload_n 1, 1) := by decide +kernel
theorem dX5_seats_157 : decode cX5_seats 157 = .ok (.iconst 0, 1) := by decide +kernel
theorem dX5_seats_158 : decode cX5_seats 158 = .ok (.invokevirtual 43, 3) := by decide +kernel
theorem dX5_seats_161 : decode cX5_seats 161 = .ok (.invokevirtual 51, 3) := by decide +kernel
theorem dX5_seats_164 : decode cX5_seats 164 = .ok (.aload_n 0, 1) := by decide +kernel
theorem dX5_seats_165 : decode cX5_seats 165 = .ok (.aload_n 0, 1) := by decide +kernel
theorem dX5_seats_166 : decode cX5_seats 166 = .ok (.iload_n 1, 1) := by decide +kernel
theorem dX5_seats_167 : decode cX5_seats 167 = .ok (.iconst 1, 1) := by decide +kernel
theorem dX5_seats_168 : decode cX5_seats 168 = .ok (.invokevirtual 43, 3) := by decide +kernel
theorem dX5_seats_171 : decode cX5_seats 171 = .ok (.invokevirtual 91, 3) := by decide +kernel
theorem dX5_seats_174 : decode cX5_seats 174 = .ok (.istore 4, 2) := by decide +kernel
theorem dX5_seats_176 : decode cX5_seats 176 = .ok (.iload 4, 2) := by decide +kernel
theorem dX5_seats_178 : decode cX5_seats 178 = .ok (.bipush (-6), 2) := by decide +kernel
theorem dX5_seats_180 : decode cX5_seats 180 = .ok (.if_icmp .eq 37, 3) := by decide +kernel
theorem dX5_seats_183 : decode cX5_seats 183 = .ok (.iload 4, 2) := by decide +kernel
theorem dX5_seats_185 : decode cX5_seats 185 = .ok (.aload_n 0, 1) := by decide +kernel
theorem dX5_seats_186 : decode cX5_seats 186 = .ok (.iload_n 1, 1) := by decide +kernel
theorem dX5_seats_187 : decode cX5_seats 187 = .ok (.iconst 1, 1) := by decide +kernel
theorem dX5_seats_188 : decode cX5_seats 188 = .ok (.invokevirtual 43, 3) := by decide +kernel
theorem dX5_seats_191 : decode cX5_seats 191 = .ok (.if_icmp .eq 26, 3) := by decide +kernel
theorem dX5_seats_194 : decode cX5_seats 194 = .ok (.iload 4, 2) := by decide +kernel
theorem dX5_seats_196 : decode cX5_seats 196 = .ok (.aload_n 0, 1) := by decide +kernel
theorem dX5_seats_197 : decode cX5_seats 197 = .ok (.iload_n 1, 1) := by decide +kernel
theorem dX5_seats_198 : decode cX5_seats 198 = .ok (.iconst 1, 1) := by decide +kernel
theorem dX5_seats_199 : decode cX5_seats 199 = .ok (.invokevirtual 43, 3) := by decide +kernel
theorem dX5_seats_202 : decode cX5_seats 202 = .ok (.invokestatic 82, 3) := by decide +kernel
theorem dX5_seats_205 : decode cX5_seats 205 = .ok (.aload_n 0, 1) := by decide +kernel
theorem dX5_seats_206 : decode cX5_seats 206 = .ok (.iconst 5, 1) := by decide +kernel
theorem dX5_seats_207 : decode cX5_seats 207 = .ok (.invokevirtual 47, 3) := by decide +kernel
theorem dX5_seats_210 : decode cX5_seats 210 = .ok (.if_icmp .gt 7, 3) := by decide +kernel
theorem dX5_seats_213 : decode cX5_seats 213 = .ok (.iconst 1, 1) := by decide +kernel
theorem dX5_seats_214 : decode cX5_seats 214 = .ok (.goto 4, 3) := by decide +kernel
theorem dX5_seats_217 : decode cX5_seats 217 = .ok (.iconst 0, 1) := by decide +kernel
theorem dX5_seats_218 : decode cX5_seats 218 = .ok (.istore 5, 2) := by decide +kernel
theorem dX5_seats_220 : decode cX5_seats 220 = .ok (.iload 5, 2) := by decide +kernel
theorem dX5_seats_222 : decode cX5_seats 222 = .ok (.ifCond .eq 30, 3) := by decide +kernel
theorem dX5_seats_225 : decode cX5_seats 225 = .ok (.iload 4, 2) := by decide +kernel
theorem dX5_seats_227 : decode cX5_seats 227 = .ok (.iload_n 3, 1) := by decide +kernel
theorem dX5_seats_228 : decode cX5_seats 228 = .ok (.if_icmp .gt 24, 3) := by decide +kernel
theorem dX5_seats_231 : decode cX5_seats 231 = .ok (.iload 4, 2) := by decide +kernel
theorem dX5_seats_233 : decode cX5_seats 233 = .ok (.aload_n 0, 1) := by decide +kernel
theorem dX5_seats_234 : decode cX5_seats 234 = .ok (.iload_n 1, 1) := by decide +kernel
theorem dX5_seats_235 : decode cX5_seats 235 = .ok (.iconst 0, 1) := by decide +kernel
theorem dX5_seats_236 : decode cX5_seats 236 = .ok (.invokevirtual 43, 3) := by decide +kernel
theorem dX5_seats_239 : decode cX5_seats 239 = .ok (.isub, 1) := by decide +kernel
theorem dX5_seats_240 : decode cX5_seats 240 = .ok (.iload_n 2, 1) := by decide +kernel
theorem dX5_seats_241 : decode cX5_seats 241 = .ok (.if_icmp .lt 11, 3) := by decide +kernel
theorem dX5_seats_244 : decode cX5_seats 244 = .ok (.aload_n 0, 1) := by decide +kernel
theorem dX5_seats_245 : decode cX5_seats 245 = .ok (.iload_n 1, 1) := by decide +kernel
theorem dX5_seats_246 : decode cX5_seats 246 = .ok (.iconst 1, 1) := by decide +kernel
theorem dX5_seats_247 : decode cX5_seats 247 = .ok (.iload 4, 2) := by decide +kernel
theorem dX5_seats_249 : decode cX5_seats 249 = .ok (.invokevirtual 51, 3) := by decide +kernel
theorem dX5_seats_252 : decode cX5_seats 252 = .ok (.return_, 1) := by decide +kernel
theorem dX5_seatsAll_0 : decode cX5_seatsAll 0 = .ok (.iconst 0, 1) := by decide +kernel
theorem dX5_seatsAll_1 : decode cX5_seatsAll 1 = .ok (.istore_n 1, 1) := by decide +kernel
theorem dX5_seatsAll_2 : decode cX5_seatsAll 2 = .ok (.iconst 0, 1) := by decide +kernel
theorem dX5_seatsAll_3 : decode cX5_seatsAll 3 = .ok (.istore_n 2, 1) := by decide +kernel
theorem dX5_seatsAll_4 : decode cX5_seatsAll 4 = .ok (.iload_n 2, 1) := by decide +kernel
theorem dX5_seatsAll_5 : decode cX5_seatsAll 5 = .ok (.aload_n 0, 1) := by decide +kernel
theorem dX5_seatsAll_6 : decode cX5_seatsAll 6 = .ok (.getfield 7, 3) := by decide +kernel
theorem dX5_seatsAll_9 : decode cX5_seatsAll 9 = .ok (.iconst 0, 1) := by decide +kernel
theorem dX5_seatsAll_10 : decode cX5_seatsAll 10 = .ok (.iaload, 1) := by decide +kernel
theorem dX5_seatsAll_11 : decode cX5_seatsAll 11 = .ok (.if_icmp .ge 58, 3) := by decide +kernel
theorem dX5_seatsAll_14 : decode cX5_seatsAll 14 = .ok (.aload_n 0, 1) := by decide +kernel
theorem dX5_seatsAll_15 : decode cX5_seatsAll 15 = .ok (.iload_n 2, 1) := by decide +kernel
theorem dX5_seatsAll_16 : decode cX5_seatsAll 16 = .ok (.iconst 0, 1) := by decide +kernel
theorem dX5_seatsAll_17 : decode cX5_seatsAll 17 = .ok (.invokevirtual 43, 3) := by decide +kernel
theorem dX5_seatsAll_20 : decode cX5_seatsAll 20 = .ok (.istore_n 3, 1) := by decide +kernel
theorem dX5_seatsAll_21 : decode cX5_seatsAll 21 = .ok (.aload_n 0, 1) := by decide +kernel
theorem dX5_seatsAll_22 : decode cX5_seatsAll 22 = .ok (.iload_n 2, 1) := by decide +kernel
theorem dX5_seatsAll_23 : decode cX5_seatsAll 23 = .ok (.iconst 1, 1) := by decide +kernel
theorem dX5_seatsAll_24 : decode cX5_seatsAll 24 = .ok (.invokevirtual 43, 3) := by decide +kernel
theorem dX5_seatsAll_27 : decode cX5_seatsAll 27 = .ok (.istore 4, 2) := by decide +kernel
theorem dX5_seatsAll_29 : decode cX5_seatsAll 29 = .ok (.aload_n 0, 1) := by decide +kernel
theorem dX5_seatsAll_30 : decode cX5_seatsAll 30 = .ok (.iload_n 2, 1) := by decide +kernel
theorem dX5_seatsAll_31 : decode cX5_seatsAll 31 = .ok (.invokevirtual 94, 3) := by decide +kernel
theorem dX5_seatsAll_34 : decode cX5_seatsAll 34 = .ok (.iload_n 1, 1) := by decide +kernel
theorem dX5_seatsAll_35 : decode cX5_seatsAll 35 = .ok (.iload_n 3, 1) := by decide +kernel
theorem dX5_seatsAll_36 : decode cX5_seatsAll 36 = .ok (.aload_n 0, 1) := by decide +kernel
theorem dX5_seatsAll_37 : decode cX5_seatsAll 37 = .ok (.iload_n 2, 1) := by decide +kernel
theorem dX5_seatsAll_38 : decode cX5_seatsAll 38 = .ok (.iconst 0, 1) := by decide +kernel
theorem dX5_seatsAll_39 : decode cX5_seatsAll 39 = .ok (.invokevirtual 43, 3) := by decide +kernel
theorem dX5_seatsAll_42 : decode cX5_seatsAll 42 = .ok (.if_icmp .ne 14, 3) := by decide +kernel
theorem dX5_seatsAll_45 : decode cX5_seatsAll 45 = .ok (.iload 4, 2) := by decide +kernel
theorem dX5_seatsAll_47 : decode cX5_seatsAll 47 = .ok (.aload_n 0, 1) := by decide +kernel
theorem dX5_seatsAll_48 : decode cX5_seatsAll 48 = .ok (.iload_n 2, 1) := by decide +kernel
theorem dX5_seatsAll_49 : decode cX5_seatsAll 49 = .ok (.iconst 1, 1) := by decide +kernel
theorem dX5_seatsAll_50 : decode cX5_seatsAll 50 = .ok (.invokevirtual 43, 3) := by decide +kernel
theorem dX5_seatsAll_53 : decode cX5_seatsAll 53 = .ok (.if_icmp .eq 7, 3) := by decide +kernel
theorem dX5_seatsAll_56 : decode cX5_seatsAll 56 = .ok (.iconst 1, 1) := by decide +kernel
theorem dX5_seatsAll_57 : decode cX5_seatsAll 57 = .ok (.goto 4, 3) := by decide +kernel
theorem dX5_seatsAll_60 : decode cX5_seatsAll 60 = .ok (.iconst 0, 1) := by decide +kernel
theorem dX5_seatsAll_61 : decode cX5_seatsAll 61 = .ok (.iadd, 1) := by decide +kernel
theorem dX5_seatsAll_62 : decode cX5_seatsAll 62 = .ok (.istore_n 1, 1) := by decide +kernel
theorem dX5_seatsAll_63 : decode cX5_seatsAll 63 = .ok (.iinc 2 1, 3) := by decide +kernel
theorem dX5_seatsAll_66 : decode cX5_seatsAll 66 = .ok (.goto (-62), 3) := by decide +kernel
theorem dX5_seatsAll_69 : decode cX5_seatsAll 69 = .ok (.iload_n 1, 1) := by decide +kernel
theorem dX5_seatsAll_70 : decode cX5_seatsAll 70 = .ok (.ireturn, 1) := by decide +kernel
theorem dX5_append_0 : decode cX5_append 0 = .ok (.iload_n 1, 1) := by decide +kernel
theorem dX5_append_1 : decode cX5_append 1 = .ok (.bipush 32, 2) := by decide +kernel
theorem dX5_append_3 : decode cX5_append 3 = .ok (.bipush 126, 2) := by decide +kernel
theorem dX5_append_5 : decode cX5_append 5 = .ok (.invokestatic 39, 3) := by decide +kernel
theorem dX5_append_8 : decode cX5_append 8 = .ok (.ifCond .ne 6, 3) := by decide +kernel
theorem dX5_append_11 : decode cX5_append 11 = .ok (.bipush (-2), 2) := by decide +kernel
theorem dX5_append_13 : decode cX5_append 13 = .ok (.ireturn, 1) := by decide +kernel
theorem dX5_append_14 : decode cX5_append 14 = .ok (.aload_n 0, 1) := by decide +kernel
theorem dX5_append_15 : decode cX5_append 15 = .ok (.getfield 98, 3) := by decide +kernel
theorem dX5_append_18 : decode cX5_append 18 = .ok (.bipush 80, 2) := by decide +kernel
theorem dX5_append_20 : decode cX5_append 20 = .ok (.if_icmp .ne 6, 3) := by decide +kernel
theorem dX5_append_23 : decode cX5_append 23 = .ok (.bipush (-4), 2) := by decide +kernel
theorem dX5_append_25 : decode cX5_append 25 = .ok (.ireturn, 1) := by decide +kernel
theorem dX5_append_26 : decode cX5_append 26 = .ok (.aload_n 0, 1) := by decide +kernel
theorem dX5_append_27 : decode cX5_append 27 = .ok (.getfield 22, 3) := by decide +kernel
theorem dX5_append_30 : decode cX5_append 30 = .ok (.aload_n 0, 1) := by decide +kernel
theorem dX5_append_31 : decode cX5_append 31 = .ok (.getfield 98, 3) := by decide +kernel
theorem dX5_append_34 : decode cX5_append 34 = .ok (.iload_n 1, 1) := by decide +kernel
theorem dX5_append_35 : decode cX5_append 35 = .ok (.iastore, 1) := by decide +kernel
theorem dX5_append_36 : decode cX5_append 36 = .ok (.aload_n 0, 1) := by decide +kernel
theorem dX5_append_37 : decode cX5_append 37 = .ok (.dup, 1) := by decide +kernel
theorem dX5_append_38 : decode cX5_append 38 = .ok (.getfield 98, 3) := by decide +kernel
theorem dX5_append_41 : decode cX5_append 41 = .ok (.iconst 1, 1) := by decide +kernel
theorem dX5_append_42 : decode cX5_append 42 = .ok (.iadd, 1) := by decide +kernel
theorem dX5_append_43 : decode cX5_append 43 = .ok (.putfield 98, 3) := by decide +kernel
theorem dX5_append_46 : decode cX5_append 46 = .ok (.aload_n 0, 1) := by decide +kernel
theorem dX5_append_47 : decode cX5_append 47 = .ok (.getfield 98, 3) := by decide +kernel
theorem dX5_append_50 : decode cX5_append 50 = .ok (.ireturn, 1) := by decide +kernel
theorem dX5_clearScript_0 : decode cX5_clearScript 0 = .ok (.aload_n 0, 1) := by decide +kernel
theorem dX5_clearScript_1 : decode cX5_clearScript 1 = .ok (.getfield 98, 3) := by decide +kernel
theorem dX5_clearScript_4 : decode cX5_clearScript 4 = .ok (.istore_n 1, 1) := by decide +kernel
theorem dX5_clearScript_5 : decode cX5_clearScript 5 = .ok (.aload_n 0, 1) := by decide +kernel
theorem dX5_clearScript_6 : decode cX5_clearScript 6 = .ok (.iconst 0, 1) := by decide +kernel
theorem dX5_clearScript_7 : decode cX5_clearScript 7 = .ok (.putfield 98, 3) := by decide +kernel
theorem dX5_clearScript_10 : decode cX5_clearScript 10 = .ok (.iload_n 1, 1) := by decide +kernel
theorem dX5_clearScript_11 : decode cX5_clearScript 11 = .ok (.ireturn, 1) := by decide +kernel
theorem dX5_here_0 : decode cX5_here 0 = .ok (.aload_n 0, 1) := by decide +kernel
theorem dX5_here_1 : decode cX5_here 1 = .ok (.getfield 101, 3) := by decide +kernel
theorem dX5_here_4 : decode cX5_here 4 = .ok (.aload_n 0, 1) := by decide +kernel
theorem dX5_here_5 : decode cX5_here 5 = .ok (.getfield 98, 3) := by decide +kernel
theorem dX5_here_8 : decode cX5_here 8 = .ok (.if_icmp .ge 15, 3) := by decide +kernel
theorem dX5_here_11 : decode cX5_here 11 = .ok (.aload_n 0, 1) := by decide +kernel
theorem dX5_here_12 : decode cX5_here 12 = .ok (.getfield 22, 3) := by decide +kernel
theorem dX5_here_15 : decode cX5_here 15 = .ok (.aload_n 0, 1) := by decide +kernel
theorem dX5_here_16 : decode cX5_here 16 = .ok (.getfield 101, 3) := by decide +kernel
theorem dX5_here_19 : decode cX5_here 19 = .ok (.iaload, 1) := by decide +kernel
theorem dX5_here_20 : decode cX5_here 20 = .ok (.goto 4, 3) := by decide +kernel
theorem dX5_here_23 : decode cX5_here 23 = .ok (.iconst 0, 1) := by decide +kernel
theorem dX5_here_24 : decode cX5_here 24 = .ok (.ireturn, 1) := by decide +kernel
theorem dX5_takes_0 : decode cX5_takes 0 = .ok (.aload_n 0, 1) := by decide +kernel
theorem dX5_takes_1 : decode cX5_takes 1 = .ok (.aload_n 0, 1) := by decide +kernel
theorem dX5_takes_2 : decode cX5_takes 2 = .ok (.getfield 104, 3) := by decide +kernel
theorem dX5_takes_5 : decode cX5_takes 5 = .ok (.ifCond .eq 11, 3) := by decide +kernel
theorem dX5_takes_8 : decode cX5_takes 8 = .ok (.iload_n 1, 1) := by decide +kernel
theorem dX5_takes_9 : decode cX5_takes 9 = .ok (.ifCond .eq 7, 3) := by decide +kernel
theorem dX5_takes_12 : decode cX5_takes 12 = .ok (.iconst 1, 1) := by decide +kernel
theorem dX5_takes_13 : decode cX5_takes 13 = .ok (.goto 4, 3) := by decide +kernel
theorem dX5_takes_16 : decode cX5_takes 16 = .ok (.iconst 0, 1) := by decide +kernel
theorem dX5_takes_17 : decode cX5_takes 17 = .ok (.putfield 104, 3) := by decide +kernel
theorem dX5_takes_20 : decode cX5_takes 20 = .ok (.aload_n 0, 1) := by decide +kernel
theorem dX5_takes_21 : decode cX5_takes 21 = .ok (.dup, 1) := by decide +kernel
theorem dX5_takes_22 : decode cX5_takes 22 = .ok (.getfield 101, 3) := by decide +kernel
theorem dX5_takes_25 : decode cX5_takes 25 = .ok (.aload_n 0, 1) := by decide +kernel
theorem dX5_takes_26 : decode cX5_takes 26 = .ok (.getfield 104, 3) := by decide +kernel
theorem dX5_takes_29 : decode cX5_takes 29 = .ok (.ifCond .eq 7, 3) := by decide +kernel
theorem dX5_takes_32 : decode cX5_takes 32 = .ok (.iconst 1, 1) := by decide +kernel
theorem dX5_takes_33 : decode cX5_takes 33 = .ok (.goto 4, 3) := by decide +kernel
theorem dX5_takes_36 : decode cX5_takes 36 = .ok (.iconst 0, 1) := by decide +kernel
theorem dX5_takes_37 : decode cX5_takes 37 = .ok (.iadd, 1) := by decide +kernel
theorem dX5_takes_38 : decode cX5_takes 38 = .ok (.putfield 101, 3) := by decide +kernel
theorem dX5_takes_41 : decode cX5_takes 41 = .ok (.return_, 1) := by decide +kernel
theorem dX5_takesNumber_0 : decode cX5_takesNumber 0 = .ok (.aload_n 0, 1) := by decide +kernel
theorem dX5_takesNumber_1 : decode cX5_takesNumber 1 = .ok (.invokevirtual 108, 3) := by decide +kernel
theorem dX5_takesNumber_4 : decode cX5_takesNumber 4 = .ok (.bipush 48, 2) := by decide +kernel
theorem dX5_takesNumber_6 : decode cX5_takesNumber 6 = .ok (.isub, 1) := by decide +kernel
theorem dX5_takesNumber_7 : decode cX5_takesNumber 7 = .ok (.istore_n 1, 1) := by decide +kernel
theorem dX5_takesNumber_8 : decode cX5_takesNumber 8 = .ok (.aload_n 0, 1) := by decide +kernel
theorem dX5_takesNumber_9 : decode cX5_takesNumber 9 = .ok (.iload_n 1, 1) := by decide +kernel
theorem dX5_takesNumber_10 : decode cX5_takesNumber 10 = .ok (.iconst 0, 1) := by decide +kernel
theorem dX5_takesNumber_11 : decode cX5_takesNumber 11 = .ok (.bipush 9, 2) := by decide +kernel
theorem dX5_takesNumber_13 : decode cX5_takesNumber 13 = .ok (.invokestatic 39, 3) := by decide +kernel
theorem dX5_takesNumber_16 : decode cX5_takesNumber 16 = .ok (.invokevirtual 112, 3) := by decide +kernel
theorem dX5_takesNumber_19 : decode cX5_takesNumber 19 = .ok (.aload_n 0, 1) := by decide +kernel
theorem dX5_takesNumber_20 : decode cX5_takesNumber 20 = .ok (.getfield 104, 3) := by decide +kernel
theorem dX5_takesNumber_23 : decode cX5_takesNumber 23 = .ok (.ifCond .eq 65, 3) := by decide +kernel
theorem dX5_takesNumber_26 : decode cX5_takesNumber 26 = .ok (.iload_n 1, 1) := by decide +kernel
theorem dX5_takesNumber_27 : decode cX5_takesNumber 27 = .ok (.ifCond .le 61, 3) := by decide +kernel
theorem dX5_takesNumber_30 : decode cX5_takesNumber 30 = .ok (.aload_n 0, 1) := by decide +kernel
theorem dX5_takesNumber_31 : decode cX5_takesNumber 31 = .ok (.invokevirtual 108, 3) := by decide +kernel
theorem dX5_takesNumber_34 : decode cX5_takesNumber 34 = .ok (.bipush 48, 2) := by decide +kernel
theorem dX5_takesNumber_36 : decode cX5_takesNumber 36 = .ok (.bipush 57, 2) := by decide +kernel
theorem dX5_takesNumber_38 : decode cX5_takesNumber 38 = .ok (.invokestatic 39, 3) := by decide +kernel
theorem dX5_takesNumber_41 : decode cX5_takesNumber 41 = .ok (.ifCond .eq 47, 3) := by decide +kernel
theorem dX5_takesNumber_44 : decode cX5_takesNumber 44 = .ok (.bipush 10, 2) := by decide +kernel
theorem dX5_takesNumber_46 : decode cX5_takesNumber 46 = .ok (.iload_n 1, 1) := by decide +kernel
theorem dX5_takesNumber_47 : decode cX5_takesNumber 47 = .ok (.imul, 1) := by decide +kernel
theorem dX5_takesNumber_48 : decode cX5_takesNumber 48 = .ok (.aload_n 0, 1) := by decide +kernel
theorem dX5_takesNumber_49 : decode cX5_takesNumber 49 = .ok (.invokevirtual 108, 3) := by decide +kernel
theorem dX5_takesNumber_52 : decode cX5_takesNumber 52 = .ok (.iadd, 1) := by decide +kernel
theorem dX5_takesNumber_53 : decode cX5_takesNumber 53 = .ok (.bipush 48, 2) := by decide +kernel
theorem dX5_takesNumber_55 : decode cX5_takesNumber 55 = .ok (.isub, 1) := by decide +kernel
theorem dX5_takesNumber_56 : decode cX5_takesNumber 56 = .ok (.sipush 5000, 3) := by decide +kernel
theorem dX5_takesNumber_59 : decode cX5_takesNumber 59 = .ok (.if_icmp .gt 29, 3) := by decide +kernel
theorem dX5_takesNumber_62 : decode cX5_takesNumber 62 = .ok (.bipush 10, 2) := by decide +kernel
theorem dX5_takesNumber_64 : decode cX5_takesNumber 64 = .ok (.iload_n 1, 1) := by decide +kernel
theorem dX5_takesNumber_65 : decode cX5_takesNumber 65 = .ok (.imul, 1) := by decide +kernel
theorem dX5_takesNumber_66 : decode cX5_takesNumber 66 = .ok (.aload_n 0, 1) := by decide +kernel
theorem dX5_takesNumber_67 : decode cX5_takesNumber 67 = .ok (.invokevirtual 108, 3) := by decide +kernel
theorem dX5_takesNumber_70 : decode cX5_takesNumber 70 = .ok (.iadd, 1) := by decide +kernel
theorem dX5_takesNumber_71 : decode cX5_takesNumber 71 = .ok (.bipush 48, 2) := by decide +kernel
theorem dX5_takesNumber_73 : decode cX5_takesNumber 73 = .ok (.isub, 1) := by decide +kernel
theorem dX5_takesNumber_74 : decode cX5_takesNumber 74 = .ok (.istore_n 1, 1) := by decide +kernel
theorem dX5_takesNumber_75 : decode cX5_takesNumber 75 = .ok (.aload_n 0, 1) := by decide +kernel
theorem dX5_takesNumber_76 : decode cX5_takesNumber 76 = .ok (.dup, 1) := by decide +kernel
theorem dX5_takesNumber_77 : decode cX5_takesNumber 77 = .ok (.getfield 101, 3) := by decide +kernel
theorem dX5_takesNumber_80 : decode cX5_takesNumber 80 = .ok (.iconst 1, 1) := by decide +kernel
theorem dX5_takesNumber_81 : decode cX5_takesNumber 81 = .ok (.iadd, 1) := by decide +kernel
theorem dX5_takesNumber_82 : decode cX5_takesNumber 82 = .ok (.putfield 101, 3) := by decide +kernel
theorem dX5_takesNumber_85 : decode cX5_takesNumber 85 = .ok (.goto (-66), 3) := by decide +kernel
theorem dX5_takesNumber_88 : decode cX5_takesNumber 88 = .ok (.iload_n 1, 1) := by decide +kernel
theorem dX5_takesNumber_89 : decode cX5_takesNumber 89 = .ok (.ireturn, 1) := by decide +kernel
theorem dX5_isLetter_0 : decode cX5_isLetter 0 = .ok (.iload_n 0, 1) := by decide +kernel
theorem dX5_isLetter_1 : decode cX5_isLetter 1 = .ok (.bipush 97, 2) := by decide +kernel
theorem dX5_isLetter_3 : decode cX5_isLetter 3 = .ok (.bipush 122, 2) := by decide +kernel
theorem dX5_isLetter_5 : decode cX5_isLetter 5 = .ok (.invokestatic 39, 3) := by decide +kernel
theorem dX5_isLetter_8 : decode cX5_isLetter 8 = .ok (.ifCond .ne 15, 3) := by decide +kernel
theorem dX5_isLetter_11 : decode cX5_isLetter 11 = .ok (.iload_n 0, 1) := by decide +kernel
theorem dX5_isLetter_12 : decode cX5_isLetter 12 = .ok (.bipush 44, 2) := by decide +kernel
theorem dX5_isLetter_14 : decode cX5_isLetter 14 = .ok (.if_icmp .eq 9, 3) := by decide +kernel
theorem dX5_isLetter_17 : decode cX5_isLetter 17 = .ok (.iload_n 0, 1) := by decide +kernel
theorem dX5_isLetter_18 : decode cX5_isLetter 18 = .ok (.bipush 46, 2) := by decide +kernel
theorem dX5_isLetter_20 : decode cX5_isLetter 20 = .ok (.if_icmp .ne 7, 3) := by decide +kernel
theorem dX5_isLetter_23 : decode cX5_isLetter 23 = .ok (.iconst 1, 1) := by decide +kernel
theorem dX5_isLetter_24 : decode cX5_isLetter 24 = .ok (.goto 4, 3) := by decide +kernel
theorem dX5_isLetter_27 : decode cX5_isLetter 27 = .ok (.iconst 0, 1) := by decide +kernel
theorem dX5_isLetter_28 : decode cX5_isLetter 28 = .ok (.ireturn, 1) := by decide +kernel
theorem dX5_takesText_0 : decode cX5_takesText 0 = .ok (.aload_n 0, 1) := by decide +kernel
theorem dX5_takesText_1 : decode cX5_takesText 1 = .ok (.iconst 0, 1) := by decide +kernel
theorem dX5_takesText_2 : decode cX5_takesText 2 = .ok (.putfield 116, 3) := by decide +kernel
theorem dX5_takesText_5 : decode cX5_takesText 5 = .ok (.aload_n 0, 1) := by decide +kernel
theorem dX5_takesText_6 : decode cX5_takesText 6 = .ok (.aload_n 0, 1) := by decide +kernel
theorem dX5_takesText_7 : decode cX5_takesText 7 = .ok (.invokevirtual 108, 3) := by decide +kernel
theorem dX5_takesText_10 : decode cX5_takesText 10 = .ok (.invokestatic 119, 3) := by decide +kernel
theorem dX5_takesText_13 : decode cX5_takesText 13 = .ok (.invokevirtual 112, 3) := by decide +kernel
theorem dX5_takesText_16 : decode cX5_takesText 16 = .ok (.aload_n 0, 1) := by decide +kernel
theorem dX5_takesText_17 : decode cX5_takesText 17 = .ok (.dup, 1) := by decide +kernel
theorem dX5_takesText_18 : decode cX5_takesText 18 = .ok (.getfield 116, 3) := by decide +kernel
theorem dX5_takesText_21 : decode cX5_takesText 21 = .ok (.iconst 1, 1) := by decide +kernel
theorem dX5_takesText_22 : decode cX5_takesText 22 = .ok (.iadd, 1) := by decide +kernel
theorem dX5_takesText_23 : decode cX5_takesText 23 = .ok (.putfield 116, 3) := by decide +kernel
theorem dX5_takesText_26 : decode cX5_takesText 26 = .ok (.aload_n 0, 1) := by decide +kernel
theorem dX5_takesText_27 : decode cX5_takesText 27 = .ok (.getfield 104, 3) := by decide +kernel
theorem dX5_takesText_30 : decode cX5_takesText 30 = .ok (.istore_n 1, 1) := by decide +kernel
theorem dX5_takesText_31 : decode cX5_takesText 31 = .ok (.iload_n 1, 1) := by decide +kernel
theorem dX5_takesText_32 : decode cX5_takesText 32 = .ok (.ifCond .eq 133, 3) := by decide +kernel
theorem dX5_takesText_35 : decode cX5_takesText 35 = .ok (.aload_n 0, 1) := by decide +kernel
theorem dX5_takesText_36 : decode cX5_takesText 36 = .ok (.getfield 22, 3) := by decide +kernel
theorem dX5_takesText_39 : decode cX5_takesText 39 = .ok (.aload_n 0, 1) := by decide +kernel
theorem dX5_takesText_40 : decode cX5_takesText 40 = .ok (.getfield 101, 3) := by decide +kernel
theorem dX5_takesText_43 : decode cX5_takesText 43 = .ok (.iconst 1, 1) := by decide +kernel
theorem dX5_takesText_44 : decode cX5_takesText 44 = .ok (.isub, 1) := by decide +kernel
theorem dX5_takesText_45 : decode cX5_takesText 45 = .ok (.iaload, 1) := by decide +kernel
theorem dX5_takesText_46 : decode cX5_takesText 46 = .ok (.bipush 32, 2) := by decide +kernel
theorem dX5_takesText_48 : decode cX5_takesText 48 = .ok (.if_icmp .ne 7, 3) := by decide +kernel
theorem dX5_takesText_51 : decode cX5_takesText 51 = .ok (.iconst 1, 1) := by decide +kernel
theorem dX5_takesText_52 : decode cX5_takesText 52 = .ok (.goto 4, 3) := by decide +kernel
theorem dX5_takesText_55 : decode cX5_takesText 55 = .ok (.iconst 0, 1) := by decide +kernel
theorem dX5_takesText_56 : decode cX5_takesText 56 = .ok (.istore_n 2, 1) := by decide +kernel
theorem dX5_takesText_57 : decode cX5_takesText 57 = .ok (.aload_n 0, 1) := by decide +kernel
theorem dX5_takesText_58 : decode cX5_takesText 58 = .ok (.getfield 116, 3) := by decide +kernel
theorem dX5_takesText_61 : decode cX5_takesText 61 = .ok (.bipush 40, 2) := by decide +kernel
theorem dX5_takesText_63 : decode cX5_takesText 63 = .ok (.if_icmp .ge 17, 3) := by decide +kernel
theorem dX5_takesText_66 : decode cX5_takesText 66 = .ok (.aload_n 0, 1) := by decide +kernel
theorem dX5_takesText_67 : decode cX5_takesText 67 = .ok (.invokevirtual 108, 3) := by decide +kernel
theorem dX5_takesText_70 : decode cX5_takesText 70 = .ok (.invokestatic 119, 3) := by decide +kernel
theorem dX5_takesText_73 : decode cX5_takesText 73 = .ok (.ifCond .eq 7, 3) := by decide +kernel
theorem dX5_takesText_76 : decode cX5_takesText 76 = .ok (.iconst 1, 1) := by decide +kernel
theorem dX5_takesText_77 : decode cX5_takesText 77 = .ok (.goto 4, 3) := by decide +kernel
theorem dX5_takesText_80 : decode cX5_takesText 80 = .ok (.iconst 0, 1) := by decide +kernel
theorem dX5_takesText_81 : decode cX5_takesText 81 = .ok (.istore_n 3, 1) := by decide +kernel
theorem dX5_takesText_82 : decode cX5_takesText 82 = .ok (.aload_n 0, 1) := by decide +kernel
theorem dX5_takesText_83 : decode cX5_takesText 83 = .ok (.getfield 116, 3) := by decide +kernel
theorem dX5_takesText_86 : decode cX5_takesText 86 = .ok (.bipush 39, 2) := by decide +kernel
theorem dX5_takesText_88 : decode cX5_takesText 88 = .ok (.if_icmp .ge 20, 3) := by decide +kernel
theorem dX5_takesText_91 : decode cX5_takesText 91 = .ok (.aload_n 0, 1) := by decide +kernel
theorem dX5_takesText_92 : decode cX5_takesText 92 = .ok (.invokevirtual 108, 3) := by decide +kernel
theorem dX5_takesText_95 : decode cX5_takesText 95 = .ok (.bipush 32, 2) := by decide +kernel
theorem dX5_takesText_97 : decode cX5_takesText 97 = .ok (.if_icmp .ne 11, 3) := by decide +kernel
theorem dX5_takesText_100 : decode cX5_takesText 100 = .ok (.iload_n 2, 1) := by decide +kernel
theorem dX5_takesText_101 : decode cX5_takesText 101 = .ok (.ifCond .ne 7, 3) := by decide +kernel
theorem dX5_takesText_104 : decode cX5_takesText 104 = .ok (.iconst 1, 1) := by decide +kernel
theorem dX5_takesText_105 : decode cX5_takesText 105 = .ok (.goto 4, 3) := by decide +kernel
theorem dX5_takesText_108 : decode cX5_takesText 108 = .ok (.iconst 0, 1) := by decide +kernel
theorem dX5_takesText_109 : decode cX5_takesText 109 = .ok (.istore 4, 2) := by decide +kernel
theorem dX5_takesText_111 : decode cX5_takesText 111 = .ok (.iload_n 3, 1) := by decide +kernel
theorem dX5_takesText_112 : decode cX5_takesText 112 = .ok (.ifCond .ne 8, 3) := by decide +kernel
theorem dX5_takesText_115 : decode cX5_takesText 115 = .ok (.iload 4, 2) := by decide +kernel
theorem dX5_takesText_117 : decode cX5_takesText 117 = .ok (.ifCond .eq 7, 3) := by decide +kernel
theorem dX5_takesText_120 : decode cX5_takesText 120 = .ok (.iconst 1, 1) := by decide +kernel
theorem dX5_takesText_121 : decode cX5_takesText 121 = .ok (.goto 4, 3) := by decide +kernel
theorem dX5_takesText_124 : decode cX5_takesText 124 = .ok (.iconst 0, 1) := by decide +kernel
theorem dX5_takesText_125 : decode cX5_takesText 125 = .ok (.istore_n 1, 1) := by decide +kernel
theorem dX5_takesText_126 : decode cX5_takesText 126 = .ok (.aload_n 0, 1) := by decide +kernel
theorem dX5_takesText_127 : decode cX5_takesText 127 = .ok (.dup, 1) := by decide +kernel
theorem dX5_takesText_128 : decode cX5_takesText 128 = .ok (.getfield 101, 3) := by decide +kernel
theorem dX5_takesText_131 : decode cX5_takesText 131 = .ok (.iload_n 1, 1) := by decide +kernel
theorem dX5_takesText_132 : decode cX5_takesText 132 = .ok (.ifCond .eq 7, 3) := by decide +kernel
theorem dX5_takesText_135 : decode cX5_takesText 135 = .ok (.iconst 1, 1) := by decide +kernel
theorem dX5_takesText_136 : decode cX5_takesText 136 = .ok (.goto 4, 3) := by decide +kernel
theorem dX5_takesText_139 : decode cX5_takesText 139 = .ok (.iconst 0, 1) := by decide +kernel
theorem dX5_takesText_140 : decode cX5_takesText 140 = .ok (.iadd, 1) := by decide +kernel
theorem dX5_takesText_141 : decode cX5_takesText 141 = .ok (.putfield 101, 3) := by decide +kernel
theorem dX5_takesText_144 : decode cX5_takesText 144 = .ok (.aload_n 0, 1) := by decide +kernel
theorem dX5_takesText_145 : decode cX5_takesText 145 = .ok (.dup, 1) := by decide +kernel
theorem dX5_takesText_146 : decode cX5_takesText 146 = .ok (.getfield 116, 3) := by decide +kernel
theorem dX5_takesText_149 : decode cX5_takesText 149 = .ok (.iload_n 1, 1) := by decide +kernel
theorem dX5_takesText_150 : decode cX5_takesText 150 = .ok (.ifCond .eq 7, 3) := by decide +kernel
theorem dX5_takesText_153 : decode cX5_takesText 153 = .ok (.iconst 1, 1) := by decide +kernel
theorem dX5_takesText_154 : decode cX5_takesText 154 = .ok (.goto 4, 3) := by decide +kernel
theorem dX5_takesText_157 : decode cX5_takesText 157 = .ok (.iconst 0, 1) := by decide +kernel
theorem dX5_takesText_158 : decode cX5_takesText 158 = .ok (.iadd, 1) := by decide +kernel
theorem dX5_takesText_159 : decode cX5_takesText 159 = .ok (.putfield 116, 3) := by decide +kernel
theorem dX5_takesText_162 : decode cX5_takesText 162 = .ok (.goto (-131), 3) := by decide +kernel
theorem dX5_takesText_165 : decode cX5_takesText 165 = .ok (.aload_n 0, 1) := by decide +kernel
theorem dX5_takesText_166 : decode cX5_takesText 166 = .ok (.aload_n 0, 1) := by decide +kernel
theorem dX5_takesText_167 : decode cX5_takesText 167 = .ok (.getfield 104, 3) := by decide +kernel
theorem dX5_takesText_170 : decode cX5_takesText 170 = .ok (.ifCond .eq 23, 3) := by decide +kernel
theorem dX5_takesText_173 : decode cX5_takesText 173 = .ok (.aload_n 0, 1) := by decide +kernel
theorem dX5_takesText_174 : decode cX5_takesText 174 = .ok (.getfield 22, 3) := by decide +kernel
theorem dX5_takesText_177 : decode cX5_takesText 177 = .ok (.aload_n 0, 1) := by decide +kernel
theorem dX5_takesText_178 : decode cX5_takesText 178 = .ok (.getfield 101, 3) := by decide +kernel
theorem dX5_takesText_181 : decode cX5_takesText 181 = .ok (.iconst 1, 1) := by decide +kernel
theorem dX5_takesText_182 : decode cX5_takesText 182 = .ok (.isub, 1) := by decide +kernel
theorem dX5_takesText_183 : decode cX5_takesText 183 = .ok (.iaload, 1) := by decide +kernel
theorem dX5_takesText_184 : decode cX5_takesText 184 = .ok (.bipush 32, 2) := by decide +kernel
theorem dX5_takesText_186 : decode cX5_takesText 186 = .ok (.if_icmp .eq 7, 3) := by decide +kernel
theorem dX5_takesText_189 : decode cX5_takesText 189 = .ok (.iconst 1, 1) := by decide +kernel
theorem dX5_takesText_190 : decode cX5_takesText 190 = .ok (.goto 4, 3) := by decide +kernel
theorem dX5_takesText_193 : decode cX5_takesText 193 = .ok (.iconst 0, 1) := by decide +kernel
theorem dX5_takesText_194 : decode cX5_takesText 194 = .ok (.putfield 104, 3) := by decide +kernel
theorem dX5_takesText_197 : decode cX5_takesText 197 = .ok (.return_, 1) := by decide +kernel
theorem dX5_takesEntry_0 : decode cX5_takesEntry 0 = .ok (.aload_n 0, 1) := by decide +kernel
theorem dX5_takesEntry_1 : decode cX5_takesEntry 1 = .ok (.aload_n 0, 1) := by decide +kernel
theorem dX5_takesEntry_2 : decode cX5_takesEntry 2 = .ok (.getfield 101, 3) := by decide +kernel
theorem dX5_takesEntry_5 : decode cX5_takesEntry 5 = .ok (.putfield 122, 3) := by decide +kernel
theorem dX5_takesEntry_8 : decode cX5_takesEntry 8 = .ok (.aload_n 0, 1) := by decide +kernel
theorem dX5_takesEntry_9 : decode cX5_takesEntry 9 = .ok (.aload_n 0, 1) := by decide +kernel
theorem dX5_takesEntry_10 : decode cX5_takesEntry 10 = .ok (.invokevirtual 125, 3) := by decide +kernel
theorem dX5_takesEntry_13 : decode cX5_takesEntry 13 = .ok (.putfield 128, 3) := by decide +kernel
theorem dX5_takesEntry_16 : decode cX5_takesEntry 16 = .ok (.aload_n 0, 1) := by decide +kernel
theorem dX5_takesEntry_17 : decode cX5_takesEntry 17 = .ok (.aload_n 0, 1) := by decide +kernel
theorem dX5_takesEntry_18 : decode cX5_takesEntry 18 = .ok (.invokevirtual 108, 3) := by decide +kernel
theorem dX5_takesEntry_21 : decode cX5_takesEntry 21 = .ok (.bipush 45, 2) := by decide +kernel
theorem dX5_takesEntry_23 : decode cX5_takesEntry 23 = .ok (.if_icmp .ne 7, 3) := by decide +kernel
theorem dX5_takesEntry_26 : decode cX5_takesEntry 26 = .ok (.iconst 1, 1) := by decide +kernel
theorem dX5_takesEntry_27 : decode cX5_takesEntry 27 = .ok (.goto 4, 3) := by decide +kernel
theorem dX5_takesEntry_30 : decode cX5_takesEntry 30 = .ok (.iconst 0, 1) := by decide +kernel
theorem dX5_takesEntry_31 : decode cX5_takesEntry 31 = .ok (.invokevirtual 112, 3) := by decide +kernel
theorem dX5_takesEntry_34 : decode cX5_takesEntry 34 = .ok (.aload_n 0, 1) := by decide +kernel
theorem dX5_takesEntry_35 : decode cX5_takesEntry 35 = .ok (.aload_n 0, 1) := by decide +kernel
theorem dX5_takesEntry_36 : decode cX5_takesEntry 36 = .ok (.invokevirtual 125, 3) := by decide +kernel
theorem dX5_takesEntry_39 : decode cX5_takesEntry 39 = .ok (.putfield 131, 3) := by decide +kernel
theorem dX5_takesEntry_42 : decode cX5_takesEntry 42 = .ok (.aload_n 0, 1) := by decide +kernel
theorem dX5_takesEntry_43 : decode cX5_takesEntry 43 = .ok (.aload_n 0, 1) := by decide +kernel
theorem dX5_takesEntry_44 : decode cX5_takesEntry 44 = .ok (.invokevirtual 108, 3) := by decide +kernel
theorem dX5_takesEntry_47 : decode cX5_takesEntry 47 = .ok (.bipush 58, 2) := by decide +kernel
theorem dX5_takesEntry_49 : decode cX5_takesEntry 49 = .ok (.if_icmp .ne 7, 3) := by decide +kernel
theorem dX5_takesEntry_52 : decode cX5_takesEntry 52 = .ok (.iconst 1, 1) := by decide +kernel
theorem dX5_takesEntry_53 : decode cX5_takesEntry 53 = .ok (.goto 4, 3) := by decide +kernel
theorem dX5_takesEntry_56 : decode cX5_takesEntry 56 = .ok (.iconst 0, 1) := by decide +kernel
theorem dX5_takesEntry_57 : decode cX5_takesEntry 57 = .ok (.invokevirtual 112, 3) := by decide +kernel
theorem dX5_takesEntry_60 : decode cX5_takesEntry 60 = .ok (.aload_n 0, 1) := by decide +kernel
theorem dX5_takesEntry_61 : decode cX5_takesEntry 61 = .ok (.getfield 104, 3) := by decide +kernel
theorem dX5_takesEntry_64 : decode cX5_takesEntry 64 = .ok (.ifCond .eq 7, 3) := by decide +kernel
theorem dX5_takesEntry_67 : decode cX5_takesEntry 67 = .ok (.aload_n 0, 1) := by decide +kernel
theorem dX5_takesEntry_68 : decode cX5_takesEntry 68 = .ok (.invokevirtual 134, 3) := by decide +kernel
theorem dX5_takesEntry_71 : decode cX5_takesEntry 71 = .ok (.return_, 1) := by decide +kernel
theorem dX5_isScript_0 : decode cX5_isScript 0 = .ok (.aload_n 0, 1) := by decide +kernel
theorem dX5_isScript_1 : decode cX5_isScript 1 = .ok (.iconst 0, 1) := by decide +kernel
theorem dX5_isScript_2 : decode cX5_isScript 2 = .ok (.putfield 101, 3) := by decide +kernel
theorem dX5_isScript_5 : decode cX5_isScript 5 = .ok (.aload_n 0, 1) := by decide +kernel
theorem dX5_isScript_6 : decode cX5_isScript 6 = .ok (.iconst 1, 1) := by decide +kernel
theorem dX5_isScript_7 : decode cX5_isScript 7 = .ok (.putfield 104, 3) := by decide +kernel
theorem dX5_isScript_10 : decode cX5_isScript 10 = .ok (.aload_n 0, 1) := by decide +kernel
theorem dX5_isScript_11 : decode cX5_isScript 11 = .ok (.invokevirtual 137, 3) := by decide +kernel
theorem dX5_isScript_14 : decode cX5_isScript 14 = .ok (.aload_n 0, 1) := by decide +kernel
theorem dX5_isScript_15 : decode cX5_isScript 15 = .ok (.getfield 104, 3) := by decide +kernel
theorem dX5_isScript_18 : decode cX5_isScript 18 = .ok (.ifCond .eq 46, 3) := by decide +kernel
theorem dX5_isScript_21 : decode cX5_isScript 21 = .ok (.aload_n 0, 1) := by decide +kernel
theorem dX5_isScript_22 : decode cX5_isScript 22 = .ok (.getfield 101, 3) := by decide +kernel
theorem dX5_isScript_25 : decode cX5_isScript 25 = .ok (.aload_n 0, 1) := by decide +kernel
theorem dX5_isScript_26 : decode cX5_isScript 26 = .ok (.getfield 98, 3) := by decide +kernel
theorem dX5_isScript_29 : decode cX5_isScript 29 = .ok (.if_icmp .ge 35, 3) := by decide +kernel
theorem dX5_isScript_32 : decode cX5_isScript 32 = .ok (.aload_n 0, 1) := by decide +kernel
theorem dX5_isScript_33 : decode cX5_isScript 33 = .ok (.aload_n 0, 1) := by decide +kernel
theorem dX5_isScript_34 : decode cX5_isScript 34 = .ok (.invokevirtual 108, 3) := by decide +kernel
theorem dX5_isScript_37 : decode cX5_isScript 37 = .ok (.bipush 124, 2) := by decide +kernel
theorem dX5_isScript_39 : decode cX5_isScript 39 = .ok (.if_icmp .ne 7, 3) := by decide +kernel
theorem dX5_isScript_42 : decode cX5_isScript 42 = .ok (.iconst 1, 1) := by decide +kernel
theorem dX5_isScript_43 : decode cX5_isScript 43 = .ok (.goto 4, 3) := by decide +kernel
theorem dX5_isScript_46 : decode cX5_isScript 46 = .ok (.iconst 0, 1) := by decide +kernel
theorem dX5_isScript_47 : decode cX5_isScript 47 = .ok (.invokevirtual 112, 3) := by decide +kernel
theorem dX5_isScript_50 : decode cX5_isScript 50 = .ok (.aload_n 0, 1) := by decide +kernel
theorem dX5_isScript_51 : decode cX5_isScript 51 = .ok (.getfield 104, 3) := by decide +kernel
theorem dX5_isScript_54 : decode cX5_isScript 54 = .ok (.ifCond .eq (-40), 3) := by decide +kernel
theorem dX5_isScript_57 : decode cX5_isScript 57 = .ok (.aload_n 0, 1) := by decide +kernel
theorem dX5_isScript_58 : decode cX5_isScript 58 = .ok (.invokevirtual 137, 3) := by decide +kernel
theorem dX5_isScript_61 : decode cX5_isScript 61 = .ok (.goto (-47), 3) := by decide +kernel
theorem dX5_isScript_64 : decode cX5_isScript 64 = .ok (.aload_n 0, 1) := by decide +kernel
theorem dX5_isScript_65 : decode cX5_isScript 65 = .ok (.getfield 104, 3) := by decide +kernel
theorem dX5_isScript_68 : decode cX5_isScript 68 = .ok (.ireturn, 1) := by decide +kernel
theorem dX5_fault_0 : decode cX5_fault 0 = .ok (.aload_n 0, 1) := by decide +kernel
theorem dX5_fault_1 : decode cX5_fault 1 = .ok (.invokevirtual 140, 3) := by decide +kernel
theorem dX5_fault_4 : decode cX5_fault 4 = .ok (.ifCond .eq 8, 3) := by decide +kernel
theorem dX5_fault_7 : decode cX5_fault 7 = .ok (.bipush (-6), 2) := by decide +kernel
theorem dX5_fault_9 : decode cX5_fault 9 = .ok (.goto 7, 3) := by decide +kernel
theorem dX5_fault_12 : decode cX5_fault 12 = .ok (.aload_n 0, 1) := by decide +kernel
theorem dX5_fault_13 : decode cX5_fault 13 = .ok (.getfield 101, 3) := by decide +kernel
theorem dX5_fault_16 : decode cX5_fault 16 = .ok (.ireturn, 1) := by decide +kernel
theorem dX5_reasonNow_0 : decode cX5_reasonNow 0 = .ok (.aload_n 0, 1) := by decide +kernel
theorem dX5_reasonNow_1 : decode cX5_reasonNow 1 = .ok (.getfield 128, 3) := by decide +kernel
theorem dX5_reasonNow_4 : decode cX5_reasonNow 4 = .ok (.aload_n 0, 1) := by decide +kernel
theorem dX5_reasonNow_5 : decode cX5_reasonNow 5 = .ok (.getfield 131, 3) := by decide +kernel
theorem dX5_reasonNow_8 : decode cX5_reasonNow 8 = .ok (.if_icmp .lt 5, 3) := by decide +kernel
theorem dX5_reasonNow_11 : decode cX5_reasonNow 11 = .ok (.iconst 1, 1) := by decide +kernel
theorem dX5_reasonNow_12 : decode cX5_reasonNow 12 = .ok (.ireturn, 1) := by decide +kernel
theorem dX5_reasonNow_13 : decode cX5_reasonNow 13 = .ok (.iconst 0, 1) := by decide +kernel
theorem dX5_reasonNow_14 : decode cX5_reasonNow 14 = .ok (.istore_n 1, 1) := by decide +kernel
theorem dX5_reasonNow_15 : decode cX5_reasonNow 15 = .ok (.iconst 0, 1) := by decide +kernel
theorem dX5_reasonNow_16 : decode cX5_reasonNow 16 = .ok (.istore_n 2, 1) := by decide +kernel
theorem dX5_reasonNow_17 : decode cX5_reasonNow 17 = .ok (.iload_n 2, 1) := by decide +kernel
theorem dX5_reasonNow_18 : decode cX5_reasonNow 18 = .ok (.aload_n 0, 1) := by decide +kernel
theorem dX5_reasonNow_19 : decode cX5_reasonNow 19 = .ok (.getfield 7, 3) := by decide +kernel
theorem dX5_reasonNow_22 : decode cX5_reasonNow 22 = .ok (.iconst 0, 1) := by decide +kernel
theorem dX5_reasonNow_23 : decode cX5_reasonNow 23 = .ok (.iaload, 1) := by decide +kernel
theorem dX5_reasonNow_24 : decode cX5_reasonNow 24 = .ok (.if_icmp .ge 45, 3) := by decide +kernel
theorem dX5_reasonNow_27 : decode cX5_reasonNow 27 = .ok (.iload_n 1, 1) := by decide +kernel
theorem dX5_reasonNow_28 : decode cX5_reasonNow 28 = .ok (.ifCond .ne 29, 3) := by decide +kernel
theorem dX5_reasonNow_31 : decode cX5_reasonNow 31 = .ok (.aload_n 0, 1) := by decide +kernel
theorem dX5_reasonNow_32 : decode cX5_reasonNow 32 = .ok (.iload_n 2, 1) := by decide +kernel
theorem dX5_reasonNow_33 : decode cX5_reasonNow 33 = .ok (.iconst 0, 1) := by decide +kernel
theorem dX5_reasonNow_34 : decode cX5_reasonNow 34 = .ok (.invokevirtual 43, 3) := by decide +kernel
theorem dX5_reasonNow_37 : decode cX5_reasonNow 37 = .ok (.aload_n 0, 1) := by decide +kernel
theorem dX5_reasonNow_38 : decode cX5_reasonNow 38 = .ok (.getfield 131, 3) := by decide +kernel
theorem dX5_reasonNow_41 : decode cX5_reasonNow 41 = .ok (.if_icmp .ge 20, 3) := by decide +kernel
theorem dX5_reasonNow_44 : decode cX5_reasonNow 44 = .ok (.aload_n 0, 1) := by decide +kernel
theorem dX5_reasonNow_45 : decode cX5_reasonNow 45 = .ok (.getfield 128, 3) := by decide +kernel
theorem dX5_reasonNow_48 : decode cX5_reasonNow 48 = .ok (.aload_n 0, 1) := by decide +kernel
theorem dX5_reasonNow_49 : decode cX5_reasonNow 49 = .ok (.iload_n 2, 1) := by decide +kernel
theorem dX5_reasonNow_50 : decode cX5_reasonNow 50 = .ok (.iconst 1, 1) := by decide +kernel
theorem dX5_reasonNow_51 : decode cX5_reasonNow 51 = .ok (.invokevirtual 43, 3) := by decide +kernel
theorem dX5_reasonNow_54 : decode cX5_reasonNow 54 = .ok (.if_icmp .ge 7, 3) := by decide +kernel
theorem dX5_reasonNow_57 : decode cX5_reasonNow 57 = .ok (.iconst 1, 1) := by decide +kernel
theorem dX5_reasonNow_58 : decode cX5_reasonNow 58 = .ok (.goto 4, 3) := by decide +kernel
theorem dX5_reasonNow_61 : decode cX5_reasonNow 61 = .ok (.iconst 0, 1) := by decide +kernel
theorem dX5_reasonNow_62 : decode cX5_reasonNow 62 = .ok (.istore_n 1, 1) := by decide +kernel
theorem dX5_reasonNow_63 : decode cX5_reasonNow 63 = .ok (.iinc 2 1, 3) := by decide +kernel
theorem dX5_reasonNow_66 : decode cX5_reasonNow 66 = .ok (.goto (-49), 3) := by decide +kernel
theorem dX5_reasonNow_69 : decode cX5_reasonNow 69 = .ok (.iload_n 1, 1) := by decide +kernel
theorem dX5_reasonNow_70 : decode cX5_reasonNow 70 = .ok (.ifCond .eq 7, 3) := by decide +kernel
theorem dX5_reasonNow_73 : decode cX5_reasonNow 73 = .ok (.iconst 2, 1) := by decide +kernel
theorem dX5_reasonNow_74 : decode cX5_reasonNow 74 = .ok (.goto 19, 3) := by decide +kernel
theorem dX5_reasonNow_77 : decode cX5_reasonNow 77 = .ok (.aload_n 0, 1) := by decide +kernel
theorem dX5_reasonNow_78 : decode cX5_reasonNow 78 = .ok (.getfield 7, 3) := by decide +kernel
theorem dX5_reasonNow_81 : decode cX5_reasonNow 81 = .ok (.iconst 0, 1) := by decide +kernel
theorem dX5_reasonNow_82 : decode cX5_reasonNow 82 = .ok (.iaload, 1) := by decide +kernel
theorem dX5_reasonNow_83 : decode cX5_reasonNow 83 = .ok (.bipush 20, 2) := by decide +kernel
theorem dX5_reasonNow_85 : decode cX5_reasonNow 85 = .ok (.if_icmp .ne 7, 3) := by decide +kernel
theorem dX5_reasonNow_88 : decode cX5_reasonNow 88 = .ok (.iconst 3, 1) := by decide +kernel
theorem dX5_reasonNow_89 : decode cX5_reasonNow 89 = .ok (.goto 4, 3) := by decide +kernel
theorem dX5_reasonNow_92 : decode cX5_reasonNow 92 = .ok (.iconst 0, 1) := by decide +kernel
theorem dX5_reasonNow_93 : decode cX5_reasonNow 93 = .ok (.ireturn, 1) := by decide +kernel
theorem dX5_addsEntry_0 : decode cX5_addsEntry 0 = .ok (.iconst 0, 1) := by decide +kernel
theorem dX5_addsEntry_1 : decode cX5_addsEntry 1 = .ok (.istore_n 1, 1) := by decide +kernel
theorem dX5_addsEntry_2 : decode cX5_addsEntry 2 = .ok (.iload_n 1, 1) := by decide +kernel
theorem dX5_addsEntry_3 : decode cX5_addsEntry 3 = .ok (.aload_n 0, 1) := by decide +kernel
theorem dX5_addsEntry_4 : decode cX5_addsEntry 4 = .ok (.getfield 7, 3) := by decide +kernel
theorem dX5_addsEntry_7 : decode cX5_addsEntry 7 = .ok (.iconst 0, 1) := by decide +kernel
theorem dX5_addsEntry_8 : decode cX5_addsEntry 8 = .ok (.iaload, 1) := by decide +kernel
theorem dX5_addsEntry_9 : decode cX5_addsEntry 9 = .ok (.if_icmp .ge 22, 3) := by decide +kernel
theorem dX5_addsEntry_12 : decode cX5_addsEntry 12 = .ok (.aload_n 0, 1) := by decide +kernel
theorem dX5_addsEntry_13 : decode cX5_addsEntry 13 = .ok (.iload_n 1, 1) := by decide +kernel
theorem dX5_addsEntry_14 : decode cX5_addsEntry 14 = .ok (.iconst 0, 1) := by decide +kernel
theorem dX5_addsEntry_15 : decode cX5_addsEntry 15 = .ok (.invokevirtual 43, 3) := by decide +kernel
theorem dX5_addsEntry_18 : decode cX5_addsEntry 18 = .ok (.aload_n 0, 1) := by decide +kernel
theorem dX5_addsEntry_19 : decode cX5_addsEntry 19 = .ok (.getfield 128, 3) := by decide +kernel
theorem dX5_addsEntry_22 : decode cX5_addsEntry 22 = .ok (.if_icmp .ge 9, 3) := by decide +kernel
theorem dX5_addsEntry_25 : decode cX5_addsEntry 25 = .ok (.iinc 1 1, 3) := by decide +kernel
theorem dX5_addsEntry_28 : decode cX5_addsEntry 28 = .ok (.goto (-26), 3) := by decide +kernel
theorem dX5_addsEntry_31 : decode cX5_addsEntry 31 = .ok (.aload_n 0, 1) := by decide +kernel
theorem dX5_addsEntry_32 : decode cX5_addsEntry 32 = .ok (.iload_n 1, 1) := by decide +kernel
theorem dX5_addsEntry_33 : decode cX5_addsEntry 33 = .ok (.invokevirtual 144, 3) := by decide +kernel
theorem dX5_addsEntry_36 : decode cX5_addsEntry 36 = .ok (.aload_n 0, 1) := by decide +kernel
theorem dX5_addsEntry_37 : decode cX5_addsEntry 37 = .ok (.iload_n 1, 1) := by decide +kernel
theorem dX5_addsEntry_38 : decode cX5_addsEntry 38 = .ok (.iconst 0, 1) := by decide +kernel
theorem dX5_addsEntry_39 : decode cX5_addsEntry 39 = .ok (.aload_n 0, 1) := by decide +kernel
theorem dX5_addsEntry_40 : decode cX5_addsEntry 40 = .ok (.getfield 128, 3) := by decide +kernel
theorem dX5_addsEntry_43 : decode cX5_addsEntry 43 = .ok (.invokevirtual 51, 3) := by decide +kernel
theorem dX5_addsEntry_46 : decode cX5_addsEntry 46 = .ok (.aload_n 0, 1) := by decide +kernel
theorem dX5_addsEntry_47 : decode cX5_addsEntry 47 = .ok (.iload_n 1, 1) := by decide +kernel
theorem dX5_addsEntry_48 : decode cX5_addsEntry 48 = .ok (.iconst 1, 1) := by decide +kernel
theorem dX5_addsEntry_49 : decode cX5_addsEntry 49 = .ok (.aload_n 0, 1) := by decide +kernel
theorem dX5_addsEntry_50 : decode cX5_addsEntry 50 = .ok (.getfield 131, 3) := by decide +kernel
theorem dX5_addsEntry_53 : decode cX5_addsEntry 53 = .ok (.invokevirtual 51, 3) := by decide +kernel
theorem dX5_addsEntry_56 : decode cX5_addsEntry 56 = .ok (.aload_n 0, 1) := by decide +kernel
theorem dX5_addsEntry_57 : decode cX5_addsEntry 57 = .ok (.iload_n 1, 1) := by decide +kernel
theorem dX5_addsEntry_58 : decode cX5_addsEntry 58 = .ok (.iconst 2, 1) := by decide +kernel
theorem dX5_addsEntry_59 : decode cX5_addsEntry 59 = .ok (.aload_n 0, 1) := by decide +kernel
theorem dX5_addsEntry_60 : decode cX5_addsEntry 60 = .ok (.getfield 116, 3) := by decide +kernel
theorem dX5_addsEntry_63 : decode cX5_addsEntry 63 = .ok (.invokevirtual 51, 3) := by decide +kernel
theorem dX5_addsEntry_66 : decode cX5_addsEntry 66 = .ok (.iconst 0, 1) := by decide +kernel
theorem dX5_addsEntry_67 : decode cX5_addsEntry 67 = .ok (.istore_n 2, 1) := by decide +kernel
theorem dX5_addsEntry_68 : decode cX5_addsEntry 68 = .ok (.iload_n 2, 1) := by decide +kernel
theorem dX5_addsEntry_69 : decode cX5_addsEntry 69 = .ok (.aload_n 0, 1) := by decide +kernel
theorem dX5_addsEntry_70 : decode cX5_addsEntry 70 = .ok (.getfield 116, 3) := by decide +kernel
theorem dX5_addsEntry_73 : decode cX5_addsEntry 73 = .ok (.if_icmp .ge 33, 3) := by decide +kernel
theorem dX5_addsEntry_76 : decode cX5_addsEntry 76 = .ok (.aload_n 0, 1) := by decide +kernel
theorem dX5_addsEntry_77 : decode cX5_addsEntry 77 = .ok (.iload_n 1, 1) := by decide +kernel
theorem dX5_addsEntry_78 : decode cX5_addsEntry 78 = .ok (.iconst 3, 1) := by decide +kernel
theorem dX5_addsEntry_79 : decode cX5_addsEntry 79 = .ok (.iload_n 2, 1) := by decide +kernel
theorem dX5_addsEntry_80 : decode cX5_addsEntry 80 = .ok (.iadd, 1) := by decide +kernel
theorem dX5_addsEntry_81 : decode cX5_addsEntry 81 = .ok (.aload_n 0, 1) := by decide +kernel
theorem dX5_addsEntry_82 : decode cX5_addsEntry 82 = .ok (.getfield 22, 3) := by decide +kernel
theorem dX5_addsEntry_85 : decode cX5_addsEntry 85 = .ok (.aload_n 0, 1) := by decide +kernel
theorem dX5_addsEntry_86 : decode cX5_addsEntry 86 = .ok (.getfield 101, 3) := by decide +kernel
theorem dX5_addsEntry_89 : decode cX5_addsEntry 89 = .ok (.aload_n 0, 1) := by decide +kernel
theorem dX5_addsEntry_90 : decode cX5_addsEntry 90 = .ok (.getfield 116, 3) := by decide +kernel
theorem dX5_addsEntry_93 : decode cX5_addsEntry 93 = .ok (.isub, 1) := by decide +kernel
theorem dX5_addsEntry_94 : decode cX5_addsEntry 94 = .ok (.iload_n 2, 1) := by decide +kernel
theorem dX5_addsEntry_95 : decode cX5_addsEntry 95 = .ok (.iadd, 1) := by decide +kernel
theorem dX5_addsEntry_96 : decode cX5_addsEntry 96 = .ok (.iaload, 1) := by decide +kernel
theorem dX5_addsEntry_97 : decode cX5_addsEntry 97 = .ok (.invokevirtual 51, 3) := by decide +kernel
theorem dX5_addsEntry_100 : decode cX5_addsEntry 100 = .ok (.iinc 2 1, 3) := by decide +kernel
theorem dX5_addsEntry_103 : decode cX5_addsEntry 103 = .ok (.goto (-35), 3) := by decide +kernel
theorem dX5_addsEntry_106 : decode cX5_addsEntry 106 = .ok (.return_, 1) := by decide +kernel
theorem dX5_load_0 : decode cX5_load 0 = .ok (.aload_n 0, 1) := by decide +kernel
theorem dX5_load_1 : decode cX5_load 1 = .ok (.invokevirtual 140, 3) := by decide +kernel
theorem dX5_load_4 : decode cX5_load 4 = .ok (.ifCond .ne 6, 3) := by decide +kernel
theorem dX5_load_7 : decode cX5_load 7 = .ok (.bipush (-3), 2) := by decide +kernel
theorem dX5_load_9 : decode cX5_load 9 = .ok (.ireturn, 1) := by decide +kernel
theorem dX5_load_10 : decode cX5_load 10 = .ok (.aload_n 0, 1) := by decide +kernel
theorem dX5_load_11 : decode cX5_load 11 = .ok (.invokevirtual 147, 3) := by decide +kernel
theorem dX5_load_14 : decode cX5_load 14 = .ok (.aload_n 0, 1) := by decide +kernel
theorem dX5_load_15 : decode cX5_load 15 = .ok (.iconst 0, 1) := by decide +kernel
theorem dX5_load_16 : decode cX5_load 16 = .ok (.putfield 101, 3) := by decide +kernel
theorem dX5_load_19 : decode cX5_load 19 = .ok (.aload_n 0, 1) := by decide +kernel
theorem dX5_load_20 : decode cX5_load 20 = .ok (.iconst 0, 1) := by decide +kernel
theorem dX5_load_21 : decode cX5_load 21 = .ok (.putfield 150, 3) := by decide +kernel
theorem dX5_load_24 : decode cX5_load 24 = .ok (.iconst 0, 1) := by decide +kernel
theorem dX5_load_25 : decode cX5_load 25 = .ok (.istore_n 1, 1) := by decide +kernel
theorem dX5_load_26 : decode cX5_load 26 = .ok (.aload_n 0, 1) := by decide +kernel
theorem dX5_load_27 : decode cX5_load 27 = .ok (.getfield 150, 3) := by decide +kernel
theorem dX5_load_30 : decode cX5_load 30 = .ok (.ifCond .ne 79, 3) := by decide +kernel
theorem dX5_load_33 : decode cX5_load 33 = .ok (.aload_n 0, 1) := by decide +kernel
theorem dX5_load_34 : decode cX5_load 34 = .ok (.getfield 101, 3) := by decide +kernel
theorem dX5_load_37 : decode cX5_load 37 = .ok (.aload_n 0, 1) := by decide +kernel
theorem dX5_load_38 : decode cX5_load 38 = .ok (.getfield 98, 3) := by decide +kernel
theorem dX5_load_41 : decode cX5_load 41 = .ok (.if_icmp .ge 68, 3) := by decide +kernel
theorem dX5_load_44 : decode cX5_load 44 = .ok (.aload_n 0, 1) := by decide +kernel
theorem dX5_load_45 : decode cX5_load 45 = .ok (.invokevirtual 137, 3) := by decide +kernel
theorem dX5_load_48 : decode cX5_load 48 = .ok (.aload_n 0, 1) := by decide +kernel
theorem dX5_load_49 : decode cX5_load 49 = .ok (.invokevirtual 153, 3) := by decide +kernel
theorem dX5_load_52 : decode cX5_load 52 = .ok (.istore_n 2, 1) := by decide +kernel
theorem dX5_load_53 : decode cX5_load 53 = .ok (.iload_n 2, 1) := by decide +kernel
theorem dX5_load_54 : decode cX5_load 54 = .ok (.ifCond .le 35, 3) := by decide +kernel
theorem dX5_load_57 : decode cX5_load 57 = .ok (.aload_n 0, 1) := by decide +kernel
theorem dX5_load_58 : decode cX5_load 58 = .ok (.iconst 1, 1) := by decide +kernel
theorem dX5_load_59 : decode cX5_load 59 = .ok (.putfield 150, 3) := by decide +kernel
theorem dX5_load_62 : decode cX5_load 62 = .ok (.aload_n 0, 1) := by decide +kernel
theorem dX5_load_63 : decode cX5_load 63 = .ok (.getfield 28, 3) := by decide +kernel
theorem dX5_load_66 : decode cX5_load 66 = .ok (.iconst 0, 1) := by decide +kernel
theorem dX5_load_67 : decode cX5_load 67 = .ok (.iload_n 1, 1) := by decide +kernel
theorem dX5_load_68 : decode cX5_load 68 = .ok (.iastore, 1) := by decide +kernel
theorem dX5_load_69 : decode cX5_load 69 = .ok (.aload_n 0, 1) := by decide +kernel
theorem dX5_load_70 : decode cX5_load 70 = .ok (.getfield 28, 3) := by decide +kernel
theorem dX5_load_73 : decode cX5_load 73 = .ok (.iconst 1, 1) := by decide +kernel
theorem dX5_load_74 : decode cX5_load 74 = .ok (.iload_n 2, 1) := by decide +kernel
theorem dX5_load_75 : decode cX5_load 75 = .ok (.iastore, 1) := by decide +kernel
theorem dX5_load_76 : decode cX5_load 76 = .ok (.aload_n 0, 1) := by decide +kernel
theorem dX5_load_77 : decode cX5_load 77 = .ok (.getfield 28, 3) := by decide +kernel
theorem dX5_load_80 : decode cX5_load 80 = .ok (.iconst 2, 1) := by decide +kernel
theorem dX5_load_81 : decode cX5_load 81 = .ok (.aload_n 0, 1) := by decide +kernel
theorem dX5_load_82 : decode cX5_load 82 = .ok (.getfield 122, 3) := by decide +kernel
theorem dX5_load_85 : decode cX5_load 85 = .ok (.iastore, 1) := by decide +kernel
theorem dX5_load_86 : decode cX5_load 86 = .ok (.goto 10, 3) := by decide +kernel
theorem dX5_load_89 : decode cX5_load 89 = .ok (.aload_n 0, 1) := by decide +kernel
theorem dX5_load_90 : decode cX5_load 90 = .ok (.invokevirtual 156, 3) := by decide +kernel
theorem dX5_load_93 : decode cX5_load 93 = .ok (.iinc 1 1, 3) := by decide +kernel
theorem dX5_load_96 : decode cX5_load 96 = .ok (.aload_n 0, 1) := by decide +kernel
theorem dX5_load_97 : decode cX5_load 97 = .ok (.dup, 1) := by decide +kernel
theorem dX5_load_98 : decode cX5_load 98 = .ok (.getfield 101, 3) := by decide +kernel
theorem dX5_load_101 : decode cX5_load 101 = .ok (.iconst 1, 1) := by decide +kernel
theorem dX5_load_102 : decode cX5_load 102 = .ok (.iadd, 1) := by decide +kernel
theorem dX5_load_103 : decode cX5_load 103 = .ok (.putfield 101, 3) := by decide +kernel
theorem dX5_load_106 : decode cX5_load 106 = .ok (.goto (-80), 3) := by decide +kernel
theorem dX5_load_109 : decode cX5_load 109 = .ok (.aload_n 0, 1) := by decide +kernel
theorem dX5_load_110 : decode cX5_load 110 = .ok (.iload_n 1, 1) := by decide +kernel
theorem dX5_load_111 : decode cX5_load 111 = .ok (.invokevirtual 159, 3) := by decide +kernel
theorem dX5_load_114 : decode cX5_load 114 = .ok (.ireturn, 1) := by decide +kernel
theorem dX5_why_0 : decode cX5_why 0 = .ok (.iload_n 1, 1) := by decide +kernel
theorem dX5_why_1 : decode cX5_why 1 = .ok (.iconst 0, 1) := by decide +kernel
theorem dX5_why_2 : decode cX5_why 2 = .ok (.iconst 2, 1) := by decide +kernel
theorem dX5_why_3 : decode cX5_why 3 = .ok (.invokestatic 39, 3) := by decide +kernel
theorem dX5_why_6 : decode cX5_why 6 = .ok (.ifCond .ne 8, 3) := by decide +kernel
theorem dX5_why_9 : decode cX5_why 9 = .ok (.bipush (-2), 2) := by decide +kernel
theorem dX5_why_11 : decode cX5_why 11 = .ok (.goto 21, 3) := by decide +kernel
theorem dX5_why_14 : decode cX5_why 14 = .ok (.aload_n 0, 1) := by decide +kernel
theorem dX5_why_15 : decode cX5_why 15 = .ok (.getfield 150, 3) := by decide +kernel
theorem dX5_why_18 : decode cX5_why 18 = .ok (.ifCond .eq 12, 3) := by decide +kernel
theorem dX5_why_21 : decode cX5_why 21 = .ok (.aload_n 0, 1) := by decide +kernel
theorem dX5_why_22 : decode cX5_why 22 = .ok (.getfield 28, 3) := by decide +kernel
theorem dX5_why_25 : decode cX5_why 25 = .ok (.iload_n 1, 1) := by decide +kernel
theorem dX5_why_26 : decode cX5_why 26 = .ok (.iaload, 1) := by decide +kernel
theorem dX5_why_27 : decode cX5_why 27 = .ok (.goto 5, 3) := by decide +kernel
theorem dX5_why_30 : decode cX5_why 30 = .ok (.bipush (-6), 2) := by decide +kernel
theorem dX5_why_32 : decode cX5_why 32 = .ok (.ireturn, 1) := by decide +kernel
theorem dX5_undo_0 : decode cX5_undo 0 = .ok (.aload_n 0, 1) := by decide +kernel
theorem dX5_undo_1 : decode cX5_undo 1 = .ok (.getfield 35, 3) := by decide +kernel
theorem dX5_undo_4 : decode cX5_undo 4 = .ok (.ifCond .ne 6, 3) := by decide +kernel
theorem dX5_undo_7 : decode cX5_undo 7 = .ok (.bipush (-6), 2) := by decide +kernel
theorem dX5_undo_9 : decode cX5_undo 9 = .ok (.ireturn, 1) := by decide +kernel
theorem dX5_undo_10 : decode cX5_undo 10 = .ok (.aload_n 0, 1) := by decide +kernel
theorem dX5_undo_11 : decode cX5_undo 11 = .ok (.dup, 1) := by decide +kernel
theorem dX5_undo_12 : decode cX5_undo 12 = .ok (.getfield 35, 3) := by decide +kernel
theorem dX5_undo_15 : decode cX5_undo 15 = .ok (.iconst 1, 1) := by decide +kernel
theorem dX5_undo_16 : decode cX5_undo 16 = .ok (.isub, 1) := by decide +kernel
theorem dX5_undo_17 : decode cX5_undo 17 = .ok (.putfield 35, 3) := by decide +kernel
theorem dX5_undo_20 : decode cX5_undo 20 = .ok (.aload_n 0, 1) := by decide +kernel
theorem dX5_undo_21 : decode cX5_undo 21 = .ok (.getfield 19, 3) := by decide +kernel
theorem dX5_undo_24 : decode cX5_undo 24 = .ok (.sipush 880, 3) := by decide +kernel
theorem dX5_undo_27 : decode cX5_undo 27 = .ok (.aload_n 0, 1) := by decide +kernel
theorem dX5_undo_28 : decode cX5_undo 28 = .ok (.getfield 35, 3) := by decide +kernel
theorem dX5_undo_31 : decode cX5_undo 31 = .ok (.imul, 1) := by decide +kernel
theorem dX5_undo_32 : decode cX5_undo 32 = .ok (.aload_n 0, 1) := by decide +kernel
theorem dX5_undo_33 : decode cX5_undo 33 = .ok (.getfield 7, 3) := by decide +kernel
theorem dX5_undo_36 : decode cX5_undo 36 = .ok (.iconst 0, 1) := by decide +kernel
theorem dX5_undo_37 : decode cX5_undo 37 = .ok (.invokestatic 31, 3) := by decide +kernel
theorem dX5_undo_40 : decode cX5_undo 40 = .ok (.aload_n 0, 1) := by decide +kernel
theorem dX5_undo_41 : decode cX5_undo 41 = .ok (.getfield 35, 3) := by decide +kernel
theorem dX5_undo_44 : decode cX5_undo 44 = .ok (.ireturn, 1) := by decide +kernel
theorem dX5_remove_0 : decode cX5_remove 0 = .ok (.aload_n 0, 1) := by decide +kernel
theorem dX5_remove_1 : decode cX5_remove 1 = .ok (.iload_n 1, 1) := by decide +kernel
theorem dX5_remove_2 : decode cX5_remove 2 = .ok (.invokevirtual 162, 3) := by decide +kernel
theorem dX5_remove_5 : decode cX5_remove 5 = .ok (.ifCond .ne 5, 3) := by decide +kernel
theorem dX5_remove_8 : decode cX5_remove 8 = .ok (.iconst (-1), 1) := by decide +kernel
theorem dX5_remove_9 : decode cX5_remove 9 = .ok (.ireturn, 1) := by decide +kernel
theorem dX5_remove_10 : decode cX5_remove 10 = .ok (.aload_n 0, 1) := by decide +kernel
theorem dX5_remove_11 : decode cX5_remove 11 = .ok (.invokevirtual 147, 3) := by decide +kernel
theorem dX5_remove_14 : decode cX5_remove 14 = .ok (.aload_n 0, 1) := by decide +kernel
theorem dX5_remove_15 : decode cX5_remove 15 = .ok (.iload_n 1, 1) := by decide +kernel
theorem dX5_remove_16 : decode cX5_remove 16 = .ok (.invokevirtual 165, 3) := by decide +kernel
theorem dX5_remove_19 : decode cX5_remove 19 = .ok (.aload_n 0, 1) := by decide +kernel
theorem dX5_remove_20 : decode cX5_remove 20 = .ok (.aload_n 0, 1) := by decide +kernel
theorem dX5_remove_21 : decode cX5_remove 21 = .ok (.getfield 7, 3) := by decide +kernel
theorem dX5_remove_24 : decode cX5_remove 24 = .ok (.iconst 0, 1) := by decide +kernel
theorem dX5_remove_25 : decode cX5_remove 25 = .ok (.iaload, 1) := by decide +kernel
theorem dX5_remove_26 : decode cX5_remove 26 = .ok (.invokevirtual 159, 3) := by decide +kernel
theorem dX5_remove_29 : decode cX5_remove 29 = .ok (.ireturn, 1) := by decide +kernel
theorem dX5_canShift_0 : decode cX5_canShift 0 = .ok (.aload_n 0, 1) := by decide +kernel
theorem dX5_canShift_1 : decode cX5_canShift 1 = .ok (.iload_n 1, 1) := by decide +kernel
theorem dX5_canShift_2 : decode cX5_canShift 2 = .ok (.iconst 0, 1) := by decide +kernel
theorem dX5_canShift_3 : decode cX5_canShift 3 = .ok (.invokevirtual 43, 3) := by decide +kernel
theorem dX5_canShift_6 : decode cX5_canShift 6 = .ok (.iload_n 2, 1) := by decide +kernel
theorem dX5_canShift_7 : decode cX5_canShift 7 = .ok (.iadd, 1) := by decide +kernel
theorem dX5_canShift_8 : decode cX5_canShift 8 = .ok (.istore_n 3, 1) := by decide +kernel
theorem dX5_canShift_9 : decode cX5_canShift 9 = .ok (.iload_n 3, 1) := by decide +kernel
theorem dX5_canShift_10 : decode cX5_canShift 10 = .ok (.ifCond .lt 44, 3) := by decide +kernel
theorem dX5_canShift_13 : decode cX5_canShift 13 = .ok (.iload_n 1, 1) := by decide +kernel
theorem dX5_canShift_14 : decode cX5_canShift 14 = .ok (.ifCond .eq 15, 3) := by decide +kernel
theorem dX5_canShift_17 : decode cX5_canShift 17 = .ok (.iload_n 3, 1) := by decide +kernel
theorem dX5_canShift_18 : decode cX5_canShift 18 = .ok (.aload_n 0, 1) := by decide +kernel
theorem dX5_canShift_19 : decode cX5_canShift 19 = .ok (.iload_n 1, 1) := by decide +kernel
theorem dX5_canShift_20 : decode cX5_canShift 20 = .ok (.iconst 1, 1) := by decide +kernel
theorem dX5_canShift_21 : decode cX5_canShift 21 = .ok (.isub, 1) := by decide +kernel
theorem dX5_canShift_22 : decode cX5_canShift 22 = .ok (.iconst 1, 1) := by decide +kernel
theorem dX5_canShift_23 : decode cX5_canShift 23 = .ok (.invokevirtual 43, 3) := by decide +kernel
theorem dX5_canShift_26 : decode cX5_canShift 26 = .ok (.if_icmp .lt 28, 3) := by decide +kernel
theorem dX5_canShift_29 : decode cX5_canShift 29 = .ok (.aload_n 0, 1) := by decide +kernel
theorem dX5_canShift_30 : decode cX5_canShift 30 = .ok (.aload_n 0, 1) := by decide +kernel
theorem dX5_canShift_31 : decode cX5_canShift 31 = .ok (.getfield 7, 3) := by decide +kernel
theorem dX5_canShift_34 : decode cX5_canShift 34 = .ok (.iconst 0, 1) := by decide +kernel
theorem dX5_canShift_35 : decode cX5_canShift 35 = .ok (.iaload, 1) := by decide +kernel
theorem dX5_canShift_36 : decode cX5_canShift 36 = .ok (.iconst 1, 1) := by decide +kernel
theorem dX5_canShift_37 : decode cX5_canShift 37 = .ok (.isub, 1) := by decide +kernel
theorem dX5_canShift_38 : decode cX5_canShift 38 = .ok (.iconst 1, 1) := by decide +kernel
theorem dX5_canShift_39 : decode cX5_canShift 39 = .ok (.invokevirtual 43, 3) := by decide +kernel
theorem dX5_canShift_42 : decode cX5_canShift 42 = .ok (.iload_n 2, 1) := by decide +kernel
theorem dX5_canShift_43 : decode cX5_canShift 43 = .ok (.iadd, 1) := by decide +kernel
theorem dX5_canShift_44 : decode cX5_canShift 44 = .ok (.sipush 5000, 3) := by decide +kernel
theorem dX5_canShift_47 : decode cX5_canShift 47 = .ok (.if_icmp .gt 7, 3) := by decide +kernel
theorem dX5_canShift_50 : decode cX5_canShift 50 = .ok (.iconst 1, 1) := by decide +kernel
theorem dX5_canShift_51 : decode cX5_canShift 51 = .ok (.goto 4, 3) := by decide +kernel
theorem dX5_canShift_54 : decode cX5_canShift 54 = .ok (.iconst 0, 1) := by decide +kernel
theorem dX5_canShift_55 : decode cX5_canShift 55 = .ok (.ireturn, 1) := by decide +kernel
theorem dX5_shift_0 : decode cX5_shift 0 = .ok (.aload_n 0, 1) := by decide +kernel
theorem dX5_shift_1 : decode cX5_shift 1 = .ok (.iload_n 1, 1) := by decide +kernel
theorem dX5_shift_2 : decode cX5_shift 2 = .ok (.invokevirtual 162, 3) := by decide +kernel
theorem dX5_shift_5 : decode cX5_shift 5 = .ok (.ifCond .ne 5, 3) := by decide +kernel
theorem dX5_shift_8 : decode cX5_shift 8 = .ok (.iconst (-1), 1) := by decide +kernel
theorem dX5_shift_9 : decode cX5_shift 9 = .ok (.ireturn, 1) := by decide +kernel
theorem dX5_shift_10 : decode cX5_shift 10 = .ok (.iload_n 2, 1) := by decide +kernel
theorem dX5_shift_11 : decode cX5_shift 11 = .ok (.sipush (-999), 3) := by decide +kernel
theorem dX5_shift_14 : decode cX5_shift 14 = .ok (.sipush 999, 3) := by decide +kernel
theorem dX5_shift_17 : decode cX5_shift 17 = .ok (.invokestatic 39, 3) := by decide +kernel
theorem dX5_shift_20 : decode cX5_shift 20 = .ok (.ifCond .ne 6, 3) := by decide +kernel
theorem dX5_shift_23 : decode cX5_shift 23 = .ok (.bipush (-2), 2) := by decide +kernel
theorem dX5_shift_25 : decode cX5_shift 25 = .ok (.ireturn, 1) := by decide +kernel
theorem dX5_shift_26 : decode cX5_shift 26 = .ok (.aload_n 0, 1) := by decide +kernel
theorem dX5_shift_27 : decode cX5_shift 27 = .ok (.iload_n 1, 1) := by decide +kernel
theorem dX5_shift_28 : decode cX5_shift 28 = .ok (.iload_n 2, 1) := by decide +kernel
theorem dX5_shift_29 : decode cX5_shift 29 = .ok (.invokevirtual 168, 3) := by decide +kernel
theorem dX5_shift_32 : decode cX5_shift 32 = .ok (.ifCond .ne 6, 3) := by decide +kernel
theorem dX5_shift_35 : decode cX5_shift 35 = .ok (.bipush (-5), 2) := by decide +kernel
theorem dX5_shift_37 : decode cX5_shift 37 = .ok (.ireturn, 1) := by decide +kernel
theorem dX5_shift_38 : decode cX5_shift 38 = .ok (.aload_n 0, 1) := by decide +kernel
theorem dX5_shift_39 : decode cX5_shift 39 = .ok (.invokevirtual 147, 3) := by decide +kernel
theorem dX5_shift_42 : decode cX5_shift 42 = .ok (.iload_n 1, 1) := by decide +kernel
theorem dX5_shift_43 : decode cX5_shift 43 = .ok (.istore_n 3, 1) := by decide +kernel
theorem dX5_shift_44 : decode cX5_shift 44 = .ok (.iload_n 3, 1) := by decide +kernel
theorem dX5_shift_45 : decode cX5_shift 45 = .ok (.aload_n 0, 1) := by decide +kernel
theorem dX5_shift_46 : decode cX5_shift 46 = .ok (.getfield 7, 3) := by decide +kernel
theorem dX5_shift_49 : decode cX5_shift 49 = .ok (.iconst 0, 1) := by decide +kernel
theorem dX5_shift_50 : decode cX5_shift 50 = .ok (.iaload, 1) := by decide +kernel
theorem dX5_shift_51 : decode cX5_shift 51 = .ok (.if_icmp .ge 37, 3) := by decide +kernel
theorem dX5_shift_54 : decode cX5_shift 54 = .ok (.aload_n 0, 1) := by decide +kernel
theorem dX5_shift_55 : decode cX5_shift 55 = .ok (.iload_n 3, 1) := by decide +kernel
theorem dX5_shift_56 : decode cX5_shift 56 = .ok (.iconst 0, 1) := by decide +kernel
theorem dX5_shift_57 : decode cX5_shift 57 = .ok (.aload_n 0, 1) := by decide +kernel
theorem dX5_shift_58 : decode cX5_shift 58 = .ok (.iload_n 3, 1) := by decide +kernel
theorem dX5_shift_59 : decode cX5_shift 59 = .ok (.iconst 0, 1) := by decide +kernel
theorem dX5_shift_60 : decode cX5_shift 60 = .ok (.invokevirtual 43, 3) := by decide +kernel
theorem dX5_shift_63 : decode cX5_shift 63 = .ok (.iload_n 2, 1) := by decide +kernel
theorem dX5_shift_64 : decode cX5_shift 64 = .ok (.iadd, 1) := by decide +kernel
theorem dX5_shift_65 : decode cX5_shift 65 = .ok (.invokevirtual 51, 3) := by decide +kernel
theorem dX5_shift_68 : decode cX5_shift 68 = .ok (.aload_n 0, 1) := by decide +kernel
theorem dX5_shift_69 : decode cX5_shift 69 = .ok (.iload_n 3, 1) := by decide +kernel
theorem dX5_shift_70 : decode cX5_shift 70 = .ok (.iconst 1, 1) := by decide +kernel
theorem dX5_shift_71 : decode cX5_shift 71 = .ok (.aload_n 0, 1) := by decide +kernel
theorem dX5_shift_72 : decode cX5_shift 72 = .ok (.iload_n 3, 1) := by decide +kernel
theorem dX5_shift_73 : decode cX5_shift 73 = .ok (.iconst 1, 1) := by decide +kernel
theorem dX5_shift_74 : decode cX5_shift 74 = .ok (.invokevirtual 43, 3) := by decide +kernel
theorem dX5_shift_77 : decode cX5_shift 77 = .ok (.iload_n 2, 1) := by decide +kernel
theorem dX5_shift_78 : decode cX5_shift 78 = .ok (.iadd, 1) := by decide +kernel
theorem dX5_shift_79 : decode cX5_shift 79 = .ok (.invokevirtual 51, 3) := by decide +kernel
theorem dX5_shift_82 : decode cX5_shift 82 = .ok (.iinc 3 1, 3) := by decide +kernel
theorem dX5_shift_85 : decode cX5_shift 85 = .ok (.goto (-41), 3) := by decide +kernel
theorem dX5_shift_88 : decode cX5_shift 88 = .ok (.aload_n 0, 1) := by decide +kernel
theorem dX5_shift_89 : decode cX5_shift 89 = .ok (.aload_n 0, 1) := by decide +kernel
theorem dX5_shift_90 : decode cX5_shift 90 = .ok (.getfield 7, 3) := by decide +kernel
theorem dX5_shift_93 : decode cX5_shift 93 = .ok (.iconst 0, 1) := by decide +kernel
theorem dX5_shift_94 : decode cX5_shift 94 = .ok (.iaload, 1) := by decide +kernel
theorem dX5_shift_95 : decode cX5_shift 95 = .ok (.iload_n 1, 1) := by decide +kernel
theorem dX5_shift_96 : decode cX5_shift 96 = .ok (.isub, 1) := by decide +kernel
theorem dX5_shift_97 : decode cX5_shift 97 = .ok (.invokevirtual 159, 3) := by decide +kernel
theorem dX5_shift_100 : decode cX5_shift 100 = .ok (.ireturn, 1) := by decide +kernel
theorem dX5_setEnd_0 : decode cX5_setEnd 0 = .ok (.aload_n 0, 1) := by decide +kernel
theorem dX5_setEnd_1 : decode cX5_setEnd 1 = .ok (.iload_n 1, 1) := by decide +kernel
theorem dX5_setEnd_2 : decode cX5_setEnd 2 = .ok (.invokevirtual 162, 3) := by decide +kernel
theorem dX5_setEnd_5 : decode cX5_setEnd 5 = .ok (.ifCond .ne 5, 3) := by decide +kernel
theorem dX5_setEnd_8 : decode cX5_setEnd 8 = .ok (.iconst (-1), 1) := by decide +kernel
theorem dX5_setEnd_9 : decode cX5_setEnd 9 = .ok (.ireturn, 1) := by decide +kernel
theorem dX5_setEnd_10 : decode cX5_setEnd 10 = .ok (.iload_n 2, 1) := by decide +kernel
theorem dX5_setEnd_11 : decode cX5_setEnd 11 = .ok (.iconst 0, 1) := by decide +kernel
theorem dX5_setEnd_12 : decode cX5_setEnd 12 = .ok (.sipush 5000, 3) := by decide +kernel
theorem dX5_setEnd_15 : decode cX5_setEnd 15 = .ok (.invokestatic 39, 3) := by decide +kernel
theorem dX5_setEnd_18 : decode cX5_setEnd 18 = .ok (.ifCond .ne 6, 3) := by decide +kernel
theorem dX5_setEnd_21 : decode cX5_setEnd 21 = .ok (.bipush (-2), 2) := by decide +kernel
theorem dX5_setEnd_23 : decode cX5_setEnd 23 = .ok (.ireturn, 1) := by decide +kernel
theorem dX5_setEnd_24 : decode cX5_setEnd 24 = .ok (.iload_n 1, 1) := by decide +kernel
theorem dX5_setEnd_25 : decode cX5_setEnd 25 = .ok (.iconst 1, 1) := by decide +kernel
theorem dX5_setEnd_26 : decode cX5_setEnd 26 = .ok (.iadd, 1) := by decide +kernel
theorem dX5_setEnd_27 : decode cX5_setEnd 27 = .ok (.aload_n 0, 1) := by decide +kernel
theorem dX5_setEnd_28 : decode cX5_setEnd 28 = .ok (.getfield 7, 3) := by decide +kernel
theorem dX5_setEnd_31 : decode cX5_setEnd 31 = .ok (.iconst 0, 1) := by decide +kernel
theorem dX5_setEnd_32 : decode cX5_setEnd 32 = .ok (.iaload, 1) := by decide +kernel
theorem dX5_setEnd_33 : decode cX5_setEnd 33 = .ok (.if_icmp .ge 14, 3) := by decide +kernel
theorem dX5_setEnd_36 : decode cX5_setEnd 36 = .ok (.aload_n 0, 1) := by decide +kernel
theorem dX5_setEnd_37 : decode cX5_setEnd 37 = .ok (.iload_n 1, 1) := by decide +kernel
theorem dX5_setEnd_38 : decode cX5_setEnd 38 = .ok (.iconst 1, 1) := by decide +kernel
theorem dX5_setEnd_39 : decode cX5_setEnd 39 = .ok (.iadd, 1) := by decide +kernel
theorem dX5_setEnd_40 : decode cX5_setEnd 40 = .ok (.iconst 0, 1) := by decide +kernel
theorem dX5_setEnd_41 : decode cX5_setEnd 41 = .ok (.invokevirtual 43, 3) := by decide +kernel
theorem dX5_setEnd_44 : decode cX5_setEnd 44 = .ok (.goto 6, 3) := by decide +kernel
theorem dX5_setEnd_47 : decode cX5_setEnd 47 = .ok (.sipush 5000, 3) := by decide +kernel
theorem dX5_setEnd_50 : decode cX5_setEnd 50 = .ok (.istore_n 3, 1) := by decide +kernel
theorem dX5_setEnd_51 : decode cX5_setEnd 51 = .ok (.iload_n 2, 1) := by decide +kernel
theorem dX5_setEnd_52 : decode cX5_setEnd 52 = .ok (.aload_n 0, 1) := by decide +kernel
theorem dX5_setEnd_53 : decode cX5_setEnd 53 = .ok (.iload_n 1, 1) := by decide +kernel
theorem dX5_setEnd_54 : decode cX5_setEnd 54 = .ok (.iconst 0, 1) := by decide +kernel
theorem dX5_setEnd_55 : decode cX5_setEnd 55 = .ok (.invokevirtual 43, 3) := by decide +kernel
theorem dX5_setEnd_58 : decode cX5_setEnd 58 = .ok (.if_icmp .le 8, 3) := by decide +kernel
theorem dX5_setEnd_61 : decode cX5_setEnd 61 = .ok (.iload_n 2, 1) := by decide +kernel
theorem dX5_setEnd_62 : decode cX5_setEnd 62 = .ok (.iload_n 3, 1) := by decide +kernel
theorem dX5_setEnd_63 : decode cX5_setEnd 63 = .ok (.if_icmp .le 6, 3) := by decide +kernel
theorem dX5_setEnd_66 : decode cX5_setEnd 66 = .ok (.bipush (-5), 2) := by decide +kernel
theorem dX5_setEnd_68 : decode cX5_setEnd 68 = .ok (.ireturn, 1) := by decide +kernel
theorem dX5_setEnd_69 : decode cX5_setEnd 69 = .ok (.aload_n 0, 1) := by decide +kernel
theorem dX5_setEnd_70 : decode cX5_setEnd 70 = .ok (.invokevirtual 147, 3) := by decide +kernel
theorem dX5_setEnd_73 : decode cX5_setEnd 73 = .ok (.aload_n 0, 1) := by decide +kernel
theorem dX5_setEnd_74 : decode cX5_setEnd 74 = .ok (.iload_n 1, 1) := by decide +kernel
theorem dX5_setEnd_75 : decode cX5_setEnd 75 = .ok (.iconst 1, 1) := by decide +kernel
theorem dX5_setEnd_76 : decode cX5_setEnd 76 = .ok (.invokevirtual 43, 3) := by decide +kernel
theorem dX5_setEnd_79 : decode cX5_setEnd 79 = .ok (.istore 4, 2) := by decide +kernel
theorem dX5_setEnd_81 : decode cX5_setEnd 81 = .ok (.aload_n 0, 1) := by decide +kernel
theorem dX5_setEnd_82 : decode cX5_setEnd 82 = .ok (.iload_n 1, 1) := by decide +kernel
theorem dX5_setEnd_83 : decode cX5_setEnd 83 = .ok (.iconst 1, 1) := by decide +kernel
theorem dX5_setEnd_84 : decode cX5_setEnd 84 = .ok (.iload_n 2, 1) := by decide +kernel
theorem dX5_setEnd_85 : decode cX5_setEnd 85 = .ok (.invokevirtual 51, 3) := by decide +kernel
theorem dX5_setEnd_88 : decode cX5_setEnd 88 = .ok (.aload_n 0, 1) := by decide +kernel
theorem dX5_setEnd_89 : decode cX5_setEnd 89 = .ok (.iload 4, 2) := by decide +kernel
theorem dX5_setEnd_91 : decode cX5_setEnd 91 = .ok (.invokevirtual 159, 3) := by decide +kernel
theorem dX5_setEnd_94 : decode cX5_setEnd 94 = .ok (.ireturn, 1) := by decide +kernel
theorem dX5_kindOf_0 : decode cX5_kindOf 0 = .ok (.aload_n 0, 1) := by decide +kernel
theorem dX5_kindOf_1 : decode cX5_kindOf 1 = .ok (.iload_n 1, 1) := by decide +kernel
theorem dX5_kindOf_2 : decode cX5_kindOf 2 = .ok (.iload_n 2, 1) := by decide +kernel
theorem dX5_kindOf_3 : decode cX5_kindOf 3 = .ok (.iconst 1, 1) := by decide +kernel
theorem dX5_kindOf_4 : decode cX5_kindOf 4 = .ok (.isub, 1) := by decide +kernel
theorem dX5_kindOf_5 : decode cX5_kindOf 5 = .ok (.invokevirtual 59, 3) := by decide +kernel
theorem dX5_kindOf_8 : decode cX5_kindOf 8 = .ok (.istore_n 3, 1) := by decide +kernel
theorem dX5_kindOf_9 : decode cX5_kindOf 9 = .ok (.iload_n 3, 1) := by decide +kernel
theorem dX5_kindOf_10 : decode cX5_kindOf 10 = .ok (.bipush 46, 2) := by decide +kernel
theorem dX5_kindOf_12 : decode cX5_kindOf 12 = .ok (.if_icmp .ne 7, 3) := by decide +kernel
theorem dX5_kindOf_15 : decode cX5_kindOf 15 = .ok (.iconst 3, 1) := by decide +kernel
theorem dX5_kindOf_16 : decode cX5_kindOf 16 = .ok (.goto 14, 3) := by decide +kernel
theorem dX5_kindOf_19 : decode cX5_kindOf 19 = .ok (.iload_n 3, 1) := by decide +kernel
theorem dX5_kindOf_20 : decode cX5_kindOf 20 = .ok (.bipush 44, 2) := by decide +kernel
theorem dX5_kindOf_22 : decode cX5_kindOf 22 = .ok (.if_icmp .ne 7, 3) := by decide +kernel
theorem dX5_kindOf_25 : decode cX5_kindOf 25 = .ok (.iconst 2, 1) := by decide +kernel
theorem dX5_kindOf_26 : decode cX5_kindOf 26 = .ok (.goto 4, 3) := by decide +kernel
theorem dX5_kindOf_29 : decode cX5_kindOf 29 = .ok (.iconst 1, 1) := by decide +kernel
theorem dX5_kindOf_30 : decode cX5_kindOf 30 = .ok (.ireturn, 1) := by decide +kernel
theorem dX5_bestBlank_0 : decode cX5_bestBlank 0 = .ok (.bipush (-6), 2) := by decide +kernel
theorem dX5_bestBlank_2 : decode cX5_bestBlank 2 = .ok (.istore_n 2, 1) := by decide +kernel
theorem dX5_bestBlank_3 : decode cX5_bestBlank 3 = .ok (.iconst 0, 1) := by decide +kernel
theorem dX5_bestBlank_4 : decode cX5_bestBlank 4 = .ok (.istore_n 3, 1) := by decide +kernel
theorem dX5_bestBlank_5 : decode cX5_bestBlank 5 = .ok (.iconst 0, 1) := by decide +kernel
theorem dX5_bestBlank_6 : decode cX5_bestBlank 6 = .ok (.istore 4, 2) := by decide +kernel
theorem dX5_bestBlank_8 : decode cX5_bestBlank 8 = .ok (.iconst 1, 1) := by decide +kernel
theorem dX5_bestBlank_9 : decode cX5_bestBlank 9 = .ok (.istore 5, 2) := by decide +kernel
theorem dX5_bestBlank_11 : decode cX5_bestBlank 11 = .ok (.iload 5, 2) := by decide +kernel
theorem dX5_bestBlank_13 : decode cX5_bestBlank 13 = .ok (.aload_n 0, 1) := by decide +kernel
theorem dX5_bestBlank_14 : decode cX5_bestBlank 14 = .ok (.iload_n 1, 1) := by decide +kernel
theorem dX5_bestBlank_15 : decode cX5_bestBlank 15 = .ok (.iconst 2, 1) := by decide +kernel
theorem dX5_bestBlank_16 : decode cX5_bestBlank 16 = .ok (.invokevirtual 43, 3) := by decide +kernel
theorem dX5_bestBlank_19 : decode cX5_bestBlank 19 = .ok (.if_icmp .ge 117, 3) := by decide +kernel
theorem dX5_bestBlank_22 : decode cX5_bestBlank 22 = .ok (.aload_n 0, 1) := by decide +kernel
theorem dX5_bestBlank_23 : decode cX5_bestBlank 23 = .ok (.iload_n 1, 1) := by decide +kernel
theorem dX5_bestBlank_24 : decode cX5_bestBlank 24 = .ok (.iload 5, 2) := by decide +kernel
theorem dX5_bestBlank_26 : decode cX5_bestBlank 26 = .ok (.invokevirtual 59, 3) := by decide +kernel
theorem dX5_bestBlank_29 : decode cX5_bestBlank 29 = .ok (.bipush 32, 2) := by decide +kernel
theorem dX5_bestBlank_31 : decode cX5_bestBlank 31 = .ok (.if_icmp .ne 99, 3) := by decide +kernel
theorem dX5_bestBlank_34 : decode cX5_bestBlank 34 = .ok (.iconst 2, 1) := by decide +kernel
theorem dX5_bestBlank_35 : decode cX5_bestBlank 35 = .ok (.iload 5, 2) := by decide +kernel
theorem dX5_bestBlank_37 : decode cX5_bestBlank 37 = .ok (.imul, 1) := by decide +kernel
theorem dX5_bestBlank_38 : decode cX5_bestBlank 38 = .ok (.aload_n 0, 1) := by decide +kernel
theorem dX5_bestBlank_39 : decode cX5_bestBlank 39 = .ok (.iload_n 1, 1) := by decide +kernel
theorem dX5_bestBlank_40 : decode cX5_bestBlank 40 = .ok (.iconst 2, 1) := by decide +kernel
theorem dX5_bestBlank_41 : decode cX5_bestBlank 41 = .ok (.invokevirtual 43, 3) := by decide +kernel
theorem dX5_bestBlank_44 : decode cX5_bestBlank 44 = .ok (.iconst 1, 1) := by decide +kernel
theorem dX5_bestBlank_45 : decode cX5_bestBlank 45 = .ok (.isub, 1) := by decide +kernel
theorem dX5_bestBlank_46 : decode cX5_bestBlank 46 = .ok (.invokestatic 82, 3) := by decide +kernel
theorem dX5_bestBlank_49 : decode cX5_bestBlank 49 = .ok (.istore 6, 2) := by decide +kernel
theorem dX5_bestBlank_51 : decode cX5_bestBlank 51 = .ok (.aload_n 0, 1) := by decide +kernel
theorem dX5_bestBlank_52 : decode cX5_bestBlank 52 = .ok (.iload_n 1, 1) := by decide +kernel
theorem dX5_bestBlank_53 : decode cX5_bestBlank 53 = .ok (.iload 5, 2) := by decide +kernel
theorem dX5_bestBlank_55 : decode cX5_bestBlank 55 = .ok (.invokevirtual 171, 3) := by decide +kernel
theorem dX5_bestBlank_58 : decode cX5_bestBlank 58 = .ok (.iload_n 3, 1) := by decide +kernel
theorem dX5_bestBlank_59 : decode cX5_bestBlank 59 = .ok (.if_icmp .gt 21, 3) := by decide +kernel
theorem dX5_bestBlank_62 : decode cX5_bestBlank 62 = .ok (.aload_n 0, 1) := by decide +kernel
theorem dX5_bestBlank_63 : decode cX5_bestBlank 63 = .ok (.iload_n 1, 1) := by decide +kernel
theorem dX5_bestBlank_64 : decode cX5_bestBlank 64 = .ok (.iload 5, 2) := by decide +kernel
theorem dX5_bestBlank_66 : decode cX5_bestBlank 66 = .ok (.invokevirtual 171, 3) := by decide +kernel
theorem dX5_bestBlank_69 : decode cX5_bestBlank 69 = .ok (.iload_n 3, 1) := by decide +kernel
theorem dX5_bestBlank_70 : decode cX5_bestBlank 70 = .ok (.if_icmp .ne 14, 3) := by decide +kernel
theorem dX5_bestBlank_73 : decode cX5_bestBlank 73 = .ok (.iload 6, 2) := by decide +kernel
theorem dX5_bestBlank_75 : decode cX5_bestBlank 75 = .ok (.iload 4, 2) := by decide +kernel
theorem dX5_bestBlank_77 : decode cX5_bestBlank 77 = .ok (.if_icmp .ge 7, 3) := by decide +kernel
theorem dX5_bestBlank_80 : decode cX5_bestBlank 80 = .ok (.iconst 1, 1) := by decide +kernel
theorem dX5_bestBlank_81 : decode cX5_bestBlank 81 = .ok (.goto 4, 3) := by decide +kernel
theorem dX5_bestBlank_84 : decode cX5_bestBlank 84 = .ok (.iconst 0, 1) := by decide +kernel
theorem dX5_bestBlank_85 : decode cX5_bestBlank 85 = .ok (.istore 7, 2) := by decide +kernel
theorem dX5_bestBlank_87 : decode cX5_bestBlank 87 = .ok (.iload 7, 2) := by decide +kernel
theorem dX5_bestBlank_89 : decode cX5_bestBlank 89 = .ok (.ifCond .eq 8, 3) := by decide +kernel
theorem dX5_bestBlank_92 : decode cX5_bestBlank 92 = .ok (.iload 5, 2) := by decide +kernel
theorem dX5_bestBlank_94 : decode cX5_bestBlank 94 = .ok (.goto 4, 3) := by decide +kernel
theorem dX5_bestBlank_97 : decode cX5_bestBlank 97 = .ok (.iload_n 2, 1) := by decide +kernel
theorem dX5_bestBlank_98 : decode cX5_bestBlank 98 = .ok (.istore_n 2, 1) := by decide +kernel
theorem dX5_bestBlank_99 : decode cX5_bestBlank 99 = .ok (.iload 7, 2) := by decide +kernel
theorem dX5_bestBlank_101 : decode cX5_bestBlank 101 = .ok (.ifCond .eq 8, 3) := by decide +kernel
theorem dX5_bestBlank_104 : decode cX5_bestBlank 104 = .ok (.iload 6, 2) := by decide +kernel
theorem dX5_bestBlank_106 : decode cX5_bestBlank 106 = .ok (.goto 5, 3) := by decide +kernel
theorem dX5_bestBlank_109 : decode cX5_bestBlank 109 = .ok (.iload 4, 2) := by decide +kernel
theorem dX5_bestBlank_111 : decode cX5_bestBlank 111 = .ok (.istore 4, 2) := by decide +kernel
theorem dX5_bestBlank_113 : decode cX5_bestBlank 113 = .ok (.iload 7, 2) := by decide +kernel
theorem dX5_bestBlank_115 : decode cX5_bestBlank 115 = .ok (.ifCond .eq 13, 3) := by decide +kernel
theorem dX5_bestBlank_118 : decode cX5_bestBlank 118 = .ok (.aload_n 0, 1) := by decide +kernel
theorem dX5_bestBlank_119 : decode cX5_bestBlank 119 = .ok (.iload_n 1, 1) := by decide +kernel
theorem dX5_bestBlank_120 : decode cX5_bestBlank 120 = .ok (.iload 5, 2) := by decide +kernel
theorem dX5_bestBlank_122 : decode cX5_bestBlank 122 = .ok (.invokevirtual 171, 3) := by decide +kernel
theorem dX5_bestBlank_125 : decode cX5_bestBlank 125 = .ok (.goto 4, 3) := by decide +kernel
theorem dX5_bestBlank_128 : decode cX5_bestBlank 128 = .ok (.iload_n 3, 1) := by decide +kernel
theorem dX5_bestBlank_129 : decode cX5_bestBlank 129 = .ok (.istore_n 3, 1) := by decide +kernel
theorem dX5_bestBlank_130 : decode cX5_bestBlank 130 = .ok (.iinc 5 1, 3) := by decide +kernel
theorem dX5_bestBlank_133 : decode cX5_bestBlank 133 = .ok (.goto (-122), 3) := by decide +kernel
theorem dX5_bestBlank_136 : decode cX5_bestBlank 136 = .ok (.iload_n 2, 1) := by decide +kernel
theorem dX5_bestBlank_137 : decode cX5_bestBlank 137 = .ok (.ireturn, 1) := by decide +kernel
theorem dX5_splits_0 : decode cX5_splits 0 = .ok (.aload_n 0, 1) := by decide +kernel
theorem dX5_splits_1 : decode cX5_splits 1 = .ok (.iload_n 1, 1) := by decide +kernel
theorem dX5_splits_2 : decode cX5_splits 2 = .ok (.invokevirtual 174, 3) := by decide +kernel
theorem dX5_splits_5 : decode cX5_splits 5 = .ok (.istore_n 2, 1) := by decide +kernel
theorem dX5_splits_6 : decode cX5_splits 6 = .ok (.aload_n 0, 1) := by decide +kernel
theorem dX5_splits_7 : decode cX5_splits 7 = .ok (.iload_n 1, 1) := by decide +kernel
theorem dX5_splits_8 : decode cX5_splits 8 = .ok (.iconst 2, 1) := by decide +kernel
theorem dX5_splits_9 : decode cX5_splits 9 = .ok (.invokevirtual 43, 3) := by decide +kernel
theorem dX5_splits_12 : decode cX5_splits 12 = .ok (.istore_n 3, 1) := by decide +kernel
theorem dX5_splits_13 : decode cX5_splits 13 = .ok (.aload_n 0, 1) := by decide +kernel
theorem dX5_splits_14 : decode cX5_splits 14 = .ok (.iload_n 1, 1) := by decide +kernel
theorem dX5_splits_15 : decode cX5_splits 15 = .ok (.invokevirtual 65, 3) := by decide +kernel
theorem dX5_splits_18 : decode cX5_splits 18 = .ok (.aload_n 0, 1) := by decide +kernel
theorem dX5_splits_19 : decode cX5_splits 19 = .ok (.iconst 1, 1) := by decide +kernel
theorem dX5_splits_20 : decode cX5_splits 20 = .ok (.invokevirtual 47, 3) := by decide +kernel
theorem dX5_splits_23 : decode cX5_splits 23 = .ok (.isub, 1) := by decide +kernel
theorem dX5_splits_24 : decode cX5_splits 24 = .ok (.istore 4, 2) := by decide +kernel
theorem dX5_splits_26 : decode cX5_splits 26 = .ok (.iload 4, 2) := by decide +kernel
theorem dX5_splits_28 : decode cX5_splits 28 = .ok (.iload_n 2, 1) := by decide +kernel
theorem dX5_splits_29 : decode cX5_splits 29 = .ok (.imul, 1) := by decide +kernel
theorem dX5_splits_30 : decode cX5_splits 30 = .ok (.iload_n 3, 1) := by decide +kernel
theorem dX5_splits_31 : decode cX5_splits 31 = .ok (.iconst 1, 1) := by decide +kernel
theorem dX5_splits_32 : decode cX5_splits 32 = .ok (.isub, 1) := by decide +kernel
theorem dX5_splits_33 : decode cX5_splits 33 = .ok (.idiv, 1) := by decide +kernel
theorem dX5_splits_34 : decode cX5_splits 34 = .ok (.istore 5, 2) := by decide +kernel
theorem dX5_splits_36 : decode cX5_splits 36 = .ok (.iload 5, 2) := by decide +kernel
theorem dX5_splits_38 : decode cX5_splits 38 = .ok (.iconst 1, 1) := by decide +kernel
theorem dX5_splits_39 : decode cX5_splits 39 = .ok (.if_icmp .ge 7, 3) := by decide +kernel
theorem dX5_splits_42 : decode cX5_splits 42 = .ok (.iconst 1, 1) := by decide +kernel
theorem dX5_splits_43 : decode cX5_splits 43 = .ok (.goto 21, 3) := by decide +kernel
theorem dX5_splits_46 : decode cX5_splits 46 = .ok (.iload 5, 2) := by decide +kernel
theorem dX5_splits_48 : decode cX5_splits 48 = .ok (.iload 4, 2) := by decide +kernel
theorem dX5_splits_50 : decode cX5_splits 50 = .ok (.iconst 1, 1) := by decide +kernel
theorem dX5_splits_51 : decode cX5_splits 51 = .ok (.isub, 1) := by decide +kernel
theorem dX5_splits_52 : decode cX5_splits 52 = .ok (.if_icmp .le 10, 3) := by decide +kernel
theorem dX5_splits_55 : decode cX5_splits 55 = .ok (.iload 4, 2) := by decide +kernel
theorem dX5_splits_57 : decode cX5_splits 57 = .ok (.iconst 1, 1) := by decide +kernel
theorem dX5_splits_58 : decode cX5_splits 58 = .ok (.isub, 1) := by decide +kernel
theorem dX5_splits_59 : decode cX5_splits 59 = .ok (.goto 5, 3) := by decide +kernel
theorem dX5_splits_62 : decode cX5_splits 62 = .ok (.iload 5, 2) := by decide +kernel
theorem dX5_splits_64 : decode cX5_splits 64 = .ok (.istore 5, 2) := by decide +kernel
theorem dX5_splits_66 : decode cX5_splits 66 = .ok (.aload_n 0, 1) := by decide +kernel
theorem dX5_splits_67 : decode cX5_splits 67 = .ok (.iload_n 1, 1) := by decide +kernel
theorem dX5_splits_68 : decode cX5_splits 68 = .ok (.iconst 1, 1) := by decide +kernel
theorem dX5_splits_69 : decode cX5_splits 69 = .ok (.invokevirtual 43, 3) := by decide +kernel
theorem dX5_splits_72 : decode cX5_splits 72 = .ok (.istore 6, 2) := by decide +kernel
theorem dX5_splits_74 : decode cX5_splits 74 = .ok (.aload_n 0, 1) := by decide +kernel
theorem dX5_splits_75 : decode cX5_splits 75 = .ok (.iload_n 1, 1) := by decide +kernel
theorem dX5_splits_76 : decode cX5_splits 76 = .ok (.iconst 1, 1) := by decide +kernel
theorem dX5_splits_77 : decode cX5_splits 77 = .ok (.iadd, 1) := by decide +kernel
theorem dX5_splits_78 : decode cX5_splits 78 = .ok (.invokevirtual 144, 3) := by decide +kernel
theorem dX5_splits_81 : decode cX5_splits 81 = .ok (.aload_n 0, 1) := by decide +kernel
theorem dX5_splits_82 : decode cX5_splits 82 = .ok (.iload_n 1, 1) := by decide +kernel
theorem dX5_splits_83 : decode cX5_splits 83 = .ok (.iconst 1, 1) := by decide +kernel
theorem dX5_splits_84 : decode cX5_splits 84 = .ok (.aload_n 0, 1) := by decide +kernel
theorem dX5_splits_85 : decode cX5_splits 85 = .ok (.iload_n 1, 1) := by decide +kernel
theorem dX5_splits_86 : decode cX5_splits 86 = .ok (.iconst 0, 1) := by decide +kernel
theorem dX5_splits_87 : decode cX5_splits 87 = .ok (.invokevirtual 43, 3) := by decide +kernel
theorem dX5_splits_90 : decode cX5_splits 90 = .ok (.iload 5, 2) := by decide +kernel
theorem dX5_splits_92 : decode cX5_splits 92 = .ok (.iadd, 1) := by decide +kernel
theorem dX5_splits_93 : decode cX5_splits 93 = .ok (.invokevirtual 51, 3) := by decide +kernel
theorem dX5_splits_96 : decode cX5_splits 96 = .ok (.aload_n 0, 1) := by decide +kernel
theorem dX5_splits_97 : decode cX5_splits 97 = .ok (.iload_n 1, 1) := by decide +kernel
theorem dX5_splits_98 : decode cX5_splits 98 = .ok (.iconst 1, 1) := by decide +kernel
theorem dX5_splits_99 : decode cX5_splits 99 = .ok (.iadd, 1) := by decide +kernel
theorem dX5_splits_100 : decode cX5_splits 100 = .ok (.iconst 0, 1) := by decide +kernel
theorem dX5_splits_101 : decode cX5_splits 101 = .ok (.aload_n 0, 1) := by decide +kernel
theorem dX5_splits_102 : decode cX5_splits 102 = .ok (.iload_n 1, 1) := by decide +kernel
theorem dX5_splits_103 : decode cX5_splits 103 = .ok (.iconst 1, 1) := by decide +kernel
theorem dX5_splits_104 : decode cX5_splits 104 = .ok (.invokevirtual 43, 3) := by decide +kernel
theorem dX5_splits_107 : decode cX5_splits 107 = .ok (.aload_n 0, 1) := by decide +kernel
theorem dX5_splits_108 : decode cX5_splits 108 = .ok (.iconst 1, 1) := by decide +kernel
theorem dX5_splits_109 : decode cX5_splits 109 = .ok (.invokevirtual 47, 3) := by decide +kernel
theorem dX5_splits_112 : decode cX5_splits 112 = .ok (.iadd, 1) := by decide +kernel
theorem dX5_splits_113 : decode cX5_splits 113 = .ok (.invokevirtual 51, 3) := by decide +kernel
theorem dX5_splits_116 : decode cX5_splits 116 = .ok (.aload_n 0, 1) := by decide +kernel
theorem dX5_splits_117 : decode cX5_splits 117 = .ok (.iload_n 1, 1) := by decide +kernel
theorem dX5_splits_118 : decode cX5_splits 118 = .ok (.iconst 1, 1) := by decide +kernel
theorem dX5_splits_119 : decode cX5_splits 119 = .ok (.iadd, 1) := by decide +kernel
theorem dX5_splits_120 : decode cX5_splits 120 = .ok (.iconst 1, 1) := by decide +kernel
theorem dX5_splits_121 : decode cX5_splits 121 = .ok (.iload 6, 2) := by decide +kernel
theorem dX5_splits_123 : decode cX5_splits 123 = .ok (.invokevirtual 51, 3) := by decide +kernel
theorem dX5_splits_126 : decode cX5_splits 126 = .ok (.aload_n 0, 1) := by decide +kernel
theorem dX5_splits_127 : decode cX5_splits 127 = .ok (.iload_n 1, 1) := by decide +kernel
theorem dX5_splits_128 : decode cX5_splits 128 = .ok (.iconst 1, 1) := by decide +kernel
theorem dX5_splits_129 : decode cX5_splits 129 = .ok (.iadd, 1) := by decide +kernel
theorem dX5_splits_130 : decode cX5_splits 130 = .ok (.iconst 2, 1) := by decide +kernel
theorem dX5_splits_131 : decode cX5_splits 131 = .ok (.iload_n 3, 1) := by decide +kernel
theorem dX5_splits_132 : decode cX5_splits 132 = .ok (.iload_n 2, 1) := by decide +kernel
theorem dX5_splits_133 : decode cX5_splits 133 = .ok (.isub, 1) := by decide +kernel
theorem dX5_splits_134 : decode cX5_splits 134 = .ok (.iconst 1, 1) := by decide +kernel
theorem dX5_splits_135 : decode cX5_splits 135 = .ok (.isub, 1) := by decide +kernel
theorem dX5_splits_136 : decode cX5_splits 136 = .ok (.invokevirtual 51, 3) := by decide +kernel
theorem dX5_splits_139 : decode cX5_splits 139 = .ok (.iload_n 2, 1) := by decide +kernel
theorem dX5_splits_140 : decode cX5_splits 140 = .ok (.istore 7, 2) := by decide +kernel
theorem dX5_splits_142 : decode cX5_splits 142 = .ok (.iload 7, 2) := by decide +kernel
theorem dX5_splits_144 : decode cX5_splits 144 = .ok (.iload_n 3, 1) := by decide +kernel
theorem dX5_splits_145 : decode cX5_splits 145 = .ok (.if_icmp .ge 47, 3) := by decide +kernel
theorem dX5_splits_148 : decode cX5_splits 148 = .ok (.iload 7, 2) := by decide +kernel
theorem dX5_splits_150 : decode cX5_splits 150 = .ok (.iload_n 2, 1) := by decide +kernel
theorem dX5_splits_151 : decode cX5_splits 151 = .ok (.if_icmp .le 25, 3) := by decide +kernel
theorem dX5_splits_154 : decode cX5_splits 154 = .ok (.aload_n 0, 1) := by decide +kernel
theorem dX5_splits_155 : decode cX5_splits 155 = .ok (.iload_n 1, 1) := by decide +kernel
theorem dX5_splits_156 : decode cX5_splits 156 = .ok (.iconst 1, 1) := by decide +kernel
theorem dX5_splits_157 : decode cX5_splits 157 = .ok (.iadd, 1) := by decide +kernel
theorem dX5_splits_158 : decode cX5_splits 158 = .ok (.iconst 3, 1) := by decide +kernel
theorem dX5_splits_159 : decode cX5_splits 159 = .ok (.iload 7, 2) := by decide +kernel
theorem dX5_splits_161 : decode cX5_splits 161 = .ok (.iadd, 1) := by decide +kernel
theorem dX5_splits_162 : decode cX5_splits 162 = .ok (.iload_n 2, 1) := by decide +kernel
theorem dX5_splits_163 : decode cX5_splits 163 = .ok (.isub, 1) := by decide +kernel
theorem dX5_splits_164 : decode cX5_splits 164 = .ok (.iconst 1, 1) := by decide +kernel
theorem dX5_splits_165 : decode cX5_splits 165 = .ok (.isub, 1) := by decide +kernel
theorem dX5_splits_166 : decode cX5_splits 166 = .ok (.aload_n 0, 1) := by decide +kernel
theorem dX5_splits_167 : decode cX5_splits 167 = .ok (.iload_n 1, 1) := by decide +kernel
theorem dX5_splits_168 : decode cX5_splits 168 = .ok (.iload 7, 2) := by decide +kernel
theorem dX5_splits_170 : decode cX5_splits 170 = .ok (.invokevirtual 59, 3) := by decide +kernel
theorem dX5_splits_173 : decode cX5_splits 173 = .ok (.invokevirtual 51, 3) := by decide +kernel
theorem dX5_splits_176 : decode cX5_splits 176 = .ok (.aload_n 0, 1) := by decide +kernel
theorem dX5_splits_177 : decode cX5_splits 177 = .ok (.iload_n 1, 1) := by decide +kernel
theorem dX5_splits_178 : decode cX5_splits 178 = .ok (.iconst 3, 1) := by decide +kernel
theorem dX5_splits_179 : decode cX5_splits 179 = .ok (.iload 7, 2) := by decide +kernel
theorem dX5_splits_181 : decode cX5_splits 181 = .ok (.iadd, 1) := by decide +kernel
theorem dX5_splits_182 : decode cX5_splits 182 = .ok (.iconst 0, 1) := by decide +kernel
theorem dX5_splits_183 : decode cX5_splits 183 = .ok (.invokevirtual 51, 3) := by decide +kernel
theorem dX5_splits_186 : decode cX5_splits 186 = .ok (.iinc 7 1, 3) := by decide +kernel
theorem dX5_splits_189 : decode cX5_splits 189 = .ok (.goto (-47), 3) := by decide +kernel
theorem dX5_splits_192 : decode cX5_splits 192 = .ok (.aload_n 0, 1) := by decide +kernel
theorem dX5_splits_193 : decode cX5_splits 193 = .ok (.iload_n 1, 1) := by decide +kernel
theorem dX5_splits_194 : decode cX5_splits 194 = .ok (.iconst 2, 1) := by decide +kernel
theorem dX5_splits_195 : decode cX5_splits 195 = .ok (.iload_n 2, 1) := by decide +kernel
theorem dX5_splits_196 : decode cX5_splits 196 = .ok (.invokevirtual 51, 3) := by decide +kernel
theorem dX5_splits_199 : decode cX5_splits 199 = .ok (.iload_n 2, 1) := by decide +kernel
theorem dX5_splits_200 : decode cX5_splits 200 = .ok (.ireturn, 1) := by decide +kernel
theorem dX5_split_0 : decode cX5_split 0 = .ok (.aload_n 0, 1) := by decide +kernel
theorem dX5_split_1 : decode cX5_split 1 = .ok (.iload_n 1, 1) := by decide +kernel
theorem dX5_split_2 : decode cX5_split 2 = .ok (.invokevirtual 162, 3) := by decide +kernel
theorem dX5_split_5 : decode cX5_split 5 = .ok (.ifCond .ne 5, 3) := by decide +kernel
theorem dX5_split_8 : decode cX5_split 8 = .ok (.iconst (-1), 1) := by decide +kernel
theorem dX5_split_9 : decode cX5_split 9 = .ok (.ireturn, 1) := by decide +kernel
theorem dX5_split_10 : decode cX5_split 10 = .ok (.aload_n 0, 1) := by decide +kernel
theorem dX5_split_11 : decode cX5_split 11 = .ok (.iload_n 1, 1) := by decide +kernel
theorem dX5_split_12 : decode cX5_split 12 = .ok (.invokevirtual 174, 3) := by decide +kernel
theorem dX5_split_15 : decode cX5_split 15 = .ok (.ifCond .lt 18, 3) := by decide +kernel
theorem dX5_split_18 : decode cX5_split 18 = .ok (.aload_n 0, 1) := by decide +kernel
theorem dX5_split_19 : decode cX5_split 19 = .ok (.iload_n 1, 1) := by decide +kernel
theorem dX5_split_20 : decode cX5_split 20 = .ok (.invokevirtual 65, 3) := by decide +kernel
theorem dX5_split_23 : decode cX5_split 23 = .ok (.aload_n 0, 1) := by decide +kernel
theorem dX5_split_24 : decode cX5_split 24 = .ok (.iconst 1, 1) := by decide +kernel
theorem dX5_split_25 : decode cX5_split 25 = .ok (.invokevirtual 47, 3) := by decide +kernel
theorem dX5_split_28 : decode cX5_split 28 = .ok (.iconst 2, 1) := by decide +kernel
theorem dX5_split_29 : decode cX5_split 29 = .ok (.iadd, 1) := by decide +kernel
theorem dX5_split_30 : decode cX5_split 30 = .ok (.if_icmp .ge 6, 3) := by decide +kernel
theorem dX5_split_33 : decode cX5_split 33 = .ok (.bipush (-5), 2) := by decide +kernel
theorem dX5_split_35 : decode cX5_split 35 = .ok (.ireturn, 1) := by decide +kernel
theorem dX5_split_36 : decode cX5_split 36 = .ok (.aload_n 0, 1) := by decide +kernel
theorem dX5_split_37 : decode cX5_split 37 = .ok (.getfield 7, 3) := by decide +kernel
theorem dX5_split_40 : decode cX5_split 40 = .ok (.iconst 0, 1) := by decide +kernel
theorem dX5_split_41 : decode cX5_split 41 = .ok (.iaload, 1) := by decide +kernel
theorem dX5_split_42 : decode cX5_split 42 = .ok (.bipush 20, 2) := by decide +kernel
theorem dX5_split_44 : decode cX5_split 44 = .ok (.if_icmp .ne 6, 3) := by decide +kernel
theorem dX5_split_47 : decode cX5_split 47 = .ok (.bipush (-4), 2) := by decide +kernel
theorem dX5_split_49 : decode cX5_split 49 = .ok (.ireturn, 1) := by decide +kernel
theorem dX5_split_50 : decode cX5_split 50 = .ok (.aload_n 0, 1) := by decide +kernel
theorem dX5_split_51 : decode cX5_split 51 = .ok (.invokevirtual 147, 3) := by decide +kernel
theorem dX5_split_54 : decode cX5_split 54 = .ok (.aload_n 0, 1) := by decide +kernel
theorem dX5_split_55 : decode cX5_split 55 = .ok (.aload_n 0, 1) := by decide +kernel
theorem dX5_split_56 : decode cX5_split 56 = .ok (.iload_n 1, 1) := by decide +kernel
theorem dX5_split_57 : decode cX5_split 57 = .ok (.invokevirtual 177, 3) := by decide +kernel
theorem dX5_split_60 : decode cX5_split 60 = .ok (.invokevirtual 159, 3) := by decide +kernel
theorem dX5_split_63 : decode cX5_split 63 = .ok (.ireturn, 1) := by decide +kernel
theorem dX5_join_0 : decode cX5_join 0 = .ok (.aload_n 0, 1) := by decide +kernel
theorem dX5_join_1 : decode cX5_join 1 = .ok (.iload_n 1, 1) := by decide +kernel
theorem dX5_join_2 : decode cX5_join 2 = .ok (.invokevirtual 162, 3) := by decide +kernel
theorem dX5_join_5 : decode cX5_join 5 = .ok (.ifCond .eq 13, 3) := by decide +kernel
theorem dX5_join_8 : decode cX5_join 8 = .ok (.aload_n 0, 1) := by decide +kernel
theorem dX5_join_9 : decode cX5_join 9 = .ok (.iload_n 1, 1) := by decide +kernel
theorem dX5_join_10 : decode cX5_join 10 = .ok (.iconst 1, 1) := by decide +kernel
theorem dX5_join_11 : decode cX5_join 11 = .ok (.iadd, 1) := by decide +kernel
theorem dX5_join_12 : decode cX5_join 12 = .ok (.invokevirtual 162, 3) := by decide +kernel
theorem dX5_join_15 : decode cX5_join 15 = .ok (.ifCond .ne 5, 3) := by decide +kernel
theorem dX5_join_18 : decode cX5_join 18 = .ok (.iconst (-1), 1) := by decide +kernel
theorem dX5_join_19 : decode cX5_join 19 = .ok (.ireturn, 1) := by decide +kernel
theorem dX5_join_20 : decode cX5_join 20 = .ok (.aload_n 0, 1) := by decide +kernel
theorem dX5_join_21 : decode cX5_join 21 = .ok (.iload_n 1, 1) := by decide +kernel
theorem dX5_join_22 : decode cX5_join 22 = .ok (.iconst 2, 1) := by decide +kernel
theorem dX5_join_23 : decode cX5_join 23 = .ok (.invokevirtual 43, 3) := by decide +kernel
theorem dX5_join_26 : decode cX5_join 26 = .ok (.istore_n 2, 1) := by decide +kernel
theorem dX5_join_27 : decode cX5_join 27 = .ok (.aload_n 0, 1) := by decide +kernel
theorem dX5_join_28 : decode cX5_join 28 = .ok (.iload_n 1, 1) := by decide +kernel
theorem dX5_join_29 : decode cX5_join 29 = .ok (.iconst 1, 1) := by decide +kernel
theorem dX5_join_30 : decode cX5_join 30 = .ok (.iadd, 1) := by decide +kernel
theorem dX5_join_31 : decode cX5_join 31 = .ok (.iconst 2, 1) := by decide +kernel
theorem dX5_join_32 : decode cX5_join 32 = .ok (.invokevirtual 43, 3) := by decide +kernel
theorem dX5_join_35 : decode cX5_join 35 = .ok (.istore_n 3, 1) := by decide +kernel
theorem dX5_join_36 : decode cX5_join 36 = .ok (.iload_n 2, 1) := by decide +kernel
theorem dX5_join_37 : decode cX5_join 37 = .ok (.iconst 1, 1) := by decide +kernel
theorem dX5_join_38 : decode cX5_join 38 = .ok (.iadd, 1) := by decide +kernel
theorem dX5_join_39 : decode cX5_join 39 = .ok (.iload_n 3, 1) := by decide +kernel
theorem dX5_join_40 : decode cX5_join 40 = .ok (.iadd, 1) := by decide +kernel
theorem dX5_join_41 : decode cX5_join 41 = .ok (.bipush 40, 2) := by decide +kernel
theorem dX5_join_43 : decode cX5_join 43 = .ok (.if_icmp .le 6, 3) := by decide +kernel
theorem dX5_join_46 : decode cX5_join 46 = .ok (.bipush (-4), 2) := by decide +kernel
theorem dX5_join_48 : decode cX5_join 48 = .ok (.ireturn, 1) := by decide +kernel
theorem dX5_join_49 : decode cX5_join 49 = .ok (.aload_n 0, 1) := by decide +kernel
theorem dX5_join_50 : decode cX5_join 50 = .ok (.invokevirtual 147, 3) := by decide +kernel
theorem dX5_join_53 : decode cX5_join 53 = .ok (.aload_n 0, 1) := by decide +kernel
theorem dX5_join_54 : decode cX5_join 54 = .ok (.iload_n 1, 1) := by decide +kernel
theorem dX5_join_55 : decode cX5_join 55 = .ok (.iconst 3, 1) := by decide +kernel
theorem dX5_join_56 : decode cX5_join 56 = .ok (.iload_n 2, 1) := by decide +kernel
theorem dX5_join_57 : decode cX5_join 57 = .ok (.iadd, 1) := by decide +kernel
theorem dX5_join_58 : decode cX5_join 58 = .ok (.bipush 32, 2) := by decide +kernel
theorem dX5_join_60 : decode cX5_join 60 = .ok (.invokevirtual 51, 3) := by decide +kernel
theorem dX5_join_63 : decode cX5_join 63 = .ok (.iconst 0, 1) := by decide +kernel
theorem dX5_join_64 : decode cX5_join 64 = .ok (.istore 4, 2) := by decide +kernel
theorem dX5_join_66 : decode cX5_join 66 = .ok (.iload 4, 2) := by decide +kernel
theorem dX5_join_68 : decode cX5_join 68 = .ok (.iload_n 3, 1) := by decide +kernel
theorem dX5_join_69 : decode cX5_join 69 = .ok (.if_icmp .ge 31, 3) := by decide +kernel
theorem dX5_join_72 : decode cX5_join 72 = .ok (.aload_n 0, 1) := by decide +kernel
theorem dX5_join_73 : decode cX5_join 73 = .ok (.iload_n 1, 1) := by decide +kernel
theorem dX5_join_74 : decode cX5_join 74 = .ok (.iconst 3, 1) := by decide +kernel
theorem dX5_join_75 : decode cX5_join 75 = .ok (.iload_n 2, 1) := by decide +kernel
theorem dX5_join_76 : decode cX5_join 76 = .ok (.iadd, 1) := by decide +kernel
theorem dX5_join_77 : decode cX5_join 77 = .ok (.iconst 1, 1) := by decide +kernel
theorem dX5_join_78 : decode cX5_join 78 = .ok (.iadd, 1) := by decide +kernel
theorem dX5_join_79 : decode cX5_join 79 = .ok (.iload 4, 2) := by decide +kernel
theorem dX5_join_81 : decode cX5_join 81 = .ok (.iadd, 1) := by decide +kernel
theorem dX5_join_82 : decode cX5_join 82 = .ok (.aload_n 0, 1) := by decide +kernel
theorem dX5_join_83 : decode cX5_join 83 = .ok (.iload_n 1, 1) := by decide +kernel
theorem dX5_join_84 : decode cX5_join 84 = .ok (.iconst 1, 1) := by decide +kernel
theorem dX5_join_85 : decode cX5_join 85 = .ok (.iadd, 1) := by decide +kernel
theorem dX5_join_86 : decode cX5_join 86 = .ok (.iload 4, 2) := by decide +kernel
theorem dX5_join_88 : decode cX5_join 88 = .ok (.invokevirtual 59, 3) := by decide +kernel
theorem dX5_join_91 : decode cX5_join 91 = .ok (.invokevirtual 51, 3) := by decide +kernel
theorem dX5_join_94 : decode cX5_join 94 = .ok (.iinc 4 1, 3) := by decide +kernel
theorem dX5_join_97 : decode cX5_join 97 = .ok (.goto (-31), 3) := by decide +kernel
theorem dX5_join_100 : decode cX5_join 100 = .ok (.aload_n 0, 1) := by decide +kernel
theorem dX5_join_101 : decode cX5_join 101 = .ok (.iload_n 1, 1) := by decide +kernel
theorem dX5_join_102 : decode cX5_join 102 = .ok (.iconst 2, 1) := by decide +kernel
theorem dX5_join_103 : decode cX5_join 103 = .ok (.iload_n 2, 1) := by decide +kernel
theorem dX5_join_104 : decode cX5_join 104 = .ok (.iconst 1, 1) := by decide +kernel
theorem dX5_join_105 : decode cX5_join 105 = .ok (.iadd, 1) := by decide +kernel
theorem dX5_join_106 : decode cX5_join 106 = .ok (.iload_n 3, 1) := by decide +kernel
theorem dX5_join_107 : decode cX5_join 107 = .ok (.iadd, 1) := by decide +kernel
theorem dX5_join_108 : decode cX5_join 108 = .ok (.invokevirtual 51, 3) := by decide +kernel
theorem dX5_join_111 : decode cX5_join 111 = .ok (.aload_n 0, 1) := by decide +kernel
theorem dX5_join_112 : decode cX5_join 112 = .ok (.iload_n 1, 1) := by decide +kernel
theorem dX5_join_113 : decode cX5_join 113 = .ok (.iconst 1, 1) := by decide +kernel
theorem dX5_join_114 : decode cX5_join 114 = .ok (.aload_n 0, 1) := by decide +kernel
theorem dX5_join_115 : decode cX5_join 115 = .ok (.iload_n 1, 1) := by decide +kernel
theorem dX5_join_116 : decode cX5_join 116 = .ok (.iconst 1, 1) := by decide +kernel
theorem dX5_join_117 : decode cX5_join 117 = .ok (.iadd, 1) := by decide +kernel
theorem dX5_join_118 : decode cX5_join 118 = .ok (.iconst 1, 1) := by decide +kernel
theorem dX5_join_119 : decode cX5_join 119 = .ok (.invokevirtual 43, 3) := by decide +kernel
theorem dX5_join_122 : decode cX5_join 122 = .ok (.invokevirtual 51, 3) := by decide +kernel
theorem dX5_join_125 : decode cX5_join 125 = .ok (.aload_n 0, 1) := by decide +kernel
theorem dX5_join_126 : decode cX5_join 126 = .ok (.iload_n 1, 1) := by decide +kernel
theorem dX5_join_127 : decode cX5_join 127 = .ok (.iconst 1, 1) := by decide +kernel
theorem dX5_join_128 : decode cX5_join 128 = .ok (.iadd, 1) := by decide +kernel
theorem dX5_join_129 : decode cX5_join 129 = .ok (.invokevirtual 165, 3) := by decide +kernel
theorem dX5_join_132 : decode cX5_join 132 = .ok (.aload_n 0, 1) := by decide +kernel
theorem dX5_join_133 : decode cX5_join 133 = .ok (.iload_n 2, 1) := by decide +kernel
theorem dX5_join_134 : decode cX5_join 134 = .ok (.iconst 1, 1) := by decide +kernel
theorem dX5_join_135 : decode cX5_join 135 = .ok (.iadd, 1) := by decide +kernel
theorem dX5_join_136 : decode cX5_join 136 = .ok (.iload_n 3, 1) := by decide +kernel
theorem dX5_join_137 : decode cX5_join 137 = .ok (.iadd, 1) := by decide +kernel
theorem dX5_join_138 : decode cX5_join 138 = .ok (.invokevirtual 159, 3) := by decide +kernel
theorem dX5_join_141 : decode cX5_join 141 = .ok (.ireturn, 1) := by decide +kernel
theorem dX5_seat_0 : decode cX5_seat 0 = .ok (.aload_n 0, 1) := by decide +kernel
theorem dX5_seat_1 : decode cX5_seat 1 = .ok (.invokevirtual 147, 3) := by decide +kernel
theorem dX5_seat_4 : decode cX5_seat 4 = .ok (.aload_n 0, 1) := by decide +kernel
theorem dX5_seat_5 : decode cX5_seat 5 = .ok (.aload_n 0, 1) := by decide +kernel
theorem dX5_seat_6 : decode cX5_seat 6 = .ok (.invokevirtual 180, 3) := by decide +kernel
theorem dX5_seat_9 : decode cX5_seat 9 = .ok (.invokevirtual 159, 3) := by decide +kernel
theorem dX5_seat_12 : decode cX5_seat 12 = .ok (.ireturn, 1) := by decide +kernel
theorem dX5_placeOfCut_0 : decode cX5_placeOfCut 0 = .ok (.iconst (-1), 1) := by decide +kernel
theorem dX5_placeOfCut_1 : decode cX5_placeOfCut 1 = .ok (.istore_n 2, 1) := by decide +kernel
theorem dX5_placeOfCut_2 : decode cX5_placeOfCut 2 = .ok (.iconst 0, 1) := by decide +kernel
theorem dX5_placeOfCut_3 : decode cX5_placeOfCut 3 = .ok (.istore_n 3, 1) := by decide +kernel
theorem dX5_placeOfCut_4 : decode cX5_placeOfCut 4 = .ok (.iload_n 3, 1) := by decide +kernel
theorem dX5_placeOfCut_5 : decode cX5_placeOfCut 5 = .ok (.aload_n 0, 1) := by decide +kernel
theorem dX5_placeOfCut_6 : decode cX5_placeOfCut 6 = .ok (.getfield 7, 3) := by decide +kernel
theorem dX5_placeOfCut_9 : decode cX5_placeOfCut 9 = .ok (.bipush 7, 2) := by decide +kernel
theorem dX5_placeOfCut_11 : decode cX5_placeOfCut 11 = .ok (.iaload, 1) := by decide +kernel
theorem dX5_placeOfCut_12 : decode cX5_placeOfCut 12 = .ok (.if_icmp .ge 28, 3) := by decide +kernel
theorem dX5_placeOfCut_15 : decode cX5_placeOfCut 15 = .ok (.aload_n 0, 1) := by decide +kernel
theorem dX5_placeOfCut_16 : decode cX5_placeOfCut 16 = .ok (.getfield 7, 3) := by decide +kernel
theorem dX5_placeOfCut_19 : decode cX5_placeOfCut 19 = .ok (.bipush 8, 2) := by decide +kernel
theorem dX5_placeOfCut_21 : decode cX5_placeOfCut 21 = .ok (.iload_n 3, 1) := by decide +kernel
theorem dX5_placeOfCut_22 : decode cX5_placeOfCut 22 = .ok (.iadd, 1) := by decide +kernel
theorem dX5_placeOfCut_23 : decode cX5_placeOfCut 23 = .ok (.iaload, 1) := by decide +kernel
theorem dX5_placeOfCut_24 : decode cX5_placeOfCut 24 = .ok (.iload_n 1, 1) := by decide +kernel
theorem dX5_placeOfCut_25 : decode cX5_placeOfCut 25 = .ok (.if_icmp .ne 7, 3) := by decide +kernel
theorem dX5_placeOfCut_28 : decode cX5_placeOfCut 28 = .ok (.iload_n 3, 1) := by decide +kernel
theorem dX5_placeOfCut_29 : decode cX5_placeOfCut 29 = .ok (.goto 4, 3) := by decide +kernel
theorem dX5_placeOfCut_32 : decode cX5_placeOfCut 32 = .ok (.iload_n 2, 1) := by decide +kernel
theorem dX5_placeOfCut_33 : decode cX5_placeOfCut 33 = .ok (.istore_n 2, 1) := by decide +kernel
theorem dX5_placeOfCut_34 : decode cX5_placeOfCut 34 = .ok (.iinc 3 1, 3) := by decide +kernel
theorem dX5_placeOfCut_37 : decode cX5_placeOfCut 37 = .ok (.goto (-33), 3) := by decide +kernel
theorem dX5_placeOfCut_40 : decode cX5_placeOfCut 40 = .ok (.iload_n 2, 1) := by decide +kernel
theorem dX5_placeOfCut_41 : decode cX5_placeOfCut 41 = .ok (.ireturn, 1) := by decide +kernel
theorem dX5_cut_0 : decode cX5_cut 0 = .ok (.iload_n 1, 1) := by decide +kernel
theorem dX5_cut_1 : decode cX5_cut 1 = .ok (.iconst 1, 1) := by decide +kernel
theorem dX5_cut_2 : decode cX5_cut 2 = .ok (.sipush 4999, 3) := by decide +kernel
theorem dX5_cut_5 : decode cX5_cut 5 = .ok (.invokestatic 39, 3) := by decide +kernel
theorem dX5_cut_8 : decode cX5_cut 8 = .ok (.ifCond .ne 6, 3) := by decide +kernel
theorem dX5_cut_11 : decode cX5_cut 11 = .ok (.bipush (-2), 2) := by decide +kernel
theorem dX5_cut_13 : decode cX5_cut 13 = .ok (.ireturn, 1) := by decide +kernel
theorem dX5_cut_14 : decode cX5_cut 14 = .ok (.aload_n 0, 1) := by decide +kernel
theorem dX5_cut_15 : decode cX5_cut 15 = .ok (.iload_n 1, 1) := by decide +kernel
theorem dX5_cut_16 : decode cX5_cut 16 = .ok (.invokevirtual 183, 3) := by decide +kernel
theorem dX5_cut_19 : decode cX5_cut 19 = .ok (.ifCond .lt 6, 3) := by decide +kernel
theorem dX5_cut_22 : decode cX5_cut 22 = .ok (.bipush (-5), 2) := by decide +kernel
theorem dX5_cut_24 : decode cX5_cut 24 = .ok (.ireturn, 1) := by decide +kernel
theorem dX5_cut_25 : decode cX5_cut 25 = .ok (.aload_n 0, 1) := by decide +kernel
theorem dX5_cut_26 : decode cX5_cut 26 = .ok (.getfield 7, 3) := by decide +kernel
theorem dX5_cut_29 : decode cX5_cut 29 = .ok (.bipush 7, 2) := by decide +kernel
theorem dX5_cut_31 : decode cX5_cut 31 = .ok (.iaload, 1) := by decide +kernel
theorem dX5_cut_32 : decode cX5_cut 32 = .ok (.bipush 12, 2) := by decide +kernel
theorem dX5_cut_34 : decode cX5_cut 34 = .ok (.if_icmp .ne 6, 3) := by decide +kernel
theorem dX5_cut_37 : decode cX5_cut 37 = .ok (.bipush (-4), 2) := by decide +kernel
theorem dX5_cut_39 : decode cX5_cut 39 = .ok (.ireturn, 1) := by decide +kernel
theorem dX5_cut_40 : decode cX5_cut 40 = .ok (.aload_n 0, 1) := by decide +kernel
theorem dX5_cut_41 : decode cX5_cut 41 = .ok (.invokevirtual 147, 3) := by decide +kernel
theorem dX5_cut_44 : decode cX5_cut 44 = .ok (.aload_n 0, 1) := by decide +kernel
theorem dX5_cut_45 : decode cX5_cut 45 = .ok (.getfield 7, 3) := by decide +kernel
theorem dX5_cut_48 : decode cX5_cut 48 = .ok (.bipush 7, 2) := by decide +kernel
theorem dX5_cut_50 : decode cX5_cut 50 = .ok (.iaload, 1) := by decide +kernel
theorem dX5_cut_51 : decode cX5_cut 51 = .ok (.istore_n 2, 1) := by decide +kernel
theorem dX5_cut_52 : decode cX5_cut 52 = .ok (.iload_n 2, 1) := by decide +kernel
theorem dX5_cut_53 : decode cX5_cut 53 = .ok (.ifCond .le 44, 3) := by decide +kernel
theorem dX5_cut_56 : decode cX5_cut 56 = .ok (.aload_n 0, 1) := by decide +kernel
theorem dX5_cut_57 : decode cX5_cut 57 = .ok (.getfield 7, 3) := by decide +kernel
theorem dX5_cut_60 : decode cX5_cut 60 = .ok (.bipush 8, 2) := by decide +kernel
theorem dX5_cut_62 : decode cX5_cut 62 = .ok (.iload_n 2, 1) := by decide +kernel
theorem dX5_cut_63 : decode cX5_cut 63 = .ok (.iadd, 1) := by decide +kernel
theorem dX5_cut_64 : decode cX5_cut 64 = .ok (.iconst 1, 1) := by decide +kernel
theorem dX5_cut_65 : decode cX5_cut 65 = .ok (.isub, 1) := by decide +kernel
theorem dX5_cut_66 : decode cX5_cut 66 = .ok (.iaload, 1) := by decide +kernel
theorem dX5_cut_67 : decode cX5_cut 67 = .ok (.iload_n 1, 1) := by decide +kernel
theorem dX5_cut_68 : decode cX5_cut 68 = .ok (.if_icmp .le 29, 3) := by decide +kernel
theorem dX5_cut_71 : decode cX5_cut 71 = .ok (.aload_n 0, 1) := by decide +kernel
theorem dX5_cut_72 : decode cX5_cut 72 = .ok (.getfield 7, 3) := by decide +kernel
theorem dX5_cut_75 : decode cX5_cut 75 = .ok (.bipush 8, 2) := by decide +kernel
theorem dX5_cut_77 : decode cX5_cut 77 = .ok (.iload_n 2, 1) := by decide +kernel
theorem dX5_cut_78 : decode cX5_cut 78 = .ok (.iadd, 1) := by decide +kernel
theorem dX5_cut_79 : decode cX5_cut 79 = .ok (.aload_n 0, 1) := by decide +kernel
theorem dX5_cut_80 : decode cX5_cut 80 = .ok (.getfield 7, 3) := by decide +kernel
theorem dX5_cut_83 : decode cX5_cut 83 = .ok (.bipush 8, 2) := by decide +kernel
theorem dX5_cut_85 : decode cX5_cut 85 = .ok (.iload_n 2, 1) := by decide +kernel
theorem dX5_cut_86 : decode cX5_cut 86 = .ok (.iadd, 1) := by decide +kernel
theorem dX5_cut_87 : decode cX5_cut 87 = .ok (.iconst 1, 1) := by decide +kernel
theorem dX5_cut_88 : decode cX5_cut 88 = .ok (.isub, 1) := by decide +kernel
theorem dX5_cut_89 : decode cX5_cut 89 = .ok (.iaload, 1) := by decide +kernel
theorem dX5_cut_90 : decode cX5_cut 90 = .ok (.iastore, 1) := by decide +kernel
theorem dX5_cut_91 : decode cX5_cut 91 = .ok (.iinc 2 (-1), 3) := by decide +kernel
theorem dX5_cut_94 : decode cX5_cut 94 = .ok (.goto (-42), 3) := by decide +kernel
theorem dX5_cut_97 : decode cX5_cut 97 = .ok (.aload_n 0, 1) := by decide +kernel
theorem dX5_cut_98 : decode cX5_cut 98 = .ok (.getfield 7, 3) := by decide +kernel
theorem dX5_cut_101 : decode cX5_cut 101 = .ok (.bipush 8, 2) := by decide +kernel
theorem dX5_cut_103 : decode cX5_cut 103 = .ok (.iload_n 2, 1) := by decide +kernel
theorem dX5_cut_104 : decode cX5_cut 104 = .ok (.iadd, 1) := by decide +kernel
theorem dX5_cut_105 : decode cX5_cut 105 = .ok (.iload_n 1, 1) := by decide +kernel
theorem dX5_cut_106 : decode cX5_cut 106 = .ok (.iastore, 1) := by decide +kernel
theorem dX5_cut_107 : decode cX5_cut 107 = .ok (.aload_n 0, 1) := by decide +kernel
theorem dX5_cut_108 : decode cX5_cut 108 = .ok (.getfield 7, 3) := by decide +kernel
theorem dX5_cut_111 : decode cX5_cut 111 = .ok (.bipush 7, 2) := by decide +kernel
theorem dX5_cut_113 : decode cX5_cut 113 = .ok (.dup2, 1) := by decide +kernel
theorem dX5_cut_114 : decode cX5_cut 114 = .ok (.iaload, 1) := by decide +kernel
theorem dX5_cut_115 : decode cX5_cut 115 = .ok (.iconst 1, 1) := by decide +kernel
theorem dX5_cut_116 : decode cX5_cut 116 = .ok (.iadd, 1) := by decide +kernel
theorem dX5_cut_117 : decode cX5_cut 117 = .ok (.iastore, 1) := by decide +kernel
theorem dX5_cut_118 : decode cX5_cut 118 = .ok (.aload_n 0, 1) := by decide +kernel
theorem dX5_cut_119 : decode cX5_cut 119 = .ok (.aload_n 0, 1) := by decide +kernel
theorem dX5_cut_120 : decode cX5_cut 120 = .ok (.getfield 7, 3) := by decide +kernel
theorem dX5_cut_123 : decode cX5_cut 123 = .ok (.bipush 7, 2) := by decide +kernel
theorem dX5_cut_125 : decode cX5_cut 125 = .ok (.iaload, 1) := by decide +kernel
theorem dX5_cut_126 : decode cX5_cut 126 = .ok (.invokevirtual 159, 3) := by decide +kernel
theorem dX5_cut_129 : decode cX5_cut 129 = .ok (.ireturn, 1) := by decide +kernel
theorem dX5_uncut_0 : decode cX5_uncut 0 = .ok (.aload_n 0, 1) := by decide +kernel
theorem dX5_uncut_1 : decode cX5_uncut 1 = .ok (.iload_n 1, 1) := by decide +kernel
theorem dX5_uncut_2 : decode cX5_uncut 2 = .ok (.invokevirtual 183, 3) := by decide +kernel
theorem dX5_uncut_5 : decode cX5_uncut 5 = .ok (.istore_n 2, 1) := by decide +kernel
theorem dX5_uncut_6 : decode cX5_uncut 6 = .ok (.iload_n 2, 1) := by decide +kernel
theorem dX5_uncut_7 : decode cX5_uncut 7 = .ok (.ifCond .ge 5, 3) := by decide +kernel
theorem dX5_uncut_10 : decode cX5_uncut 10 = .ok (.iconst (-1), 1) := by decide +kernel
theorem dX5_uncut_11 : decode cX5_uncut 11 = .ok (.ireturn, 1) := by decide +kernel
theorem dX5_uncut_12 : decode cX5_uncut 12 = .ok (.aload_n 0, 1) := by decide +kernel
theorem dX5_uncut_13 : decode cX5_uncut 13 = .ok (.invokevirtual 147, 3) := by decide +kernel
theorem dX5_uncut_16 : decode cX5_uncut 16 = .ok (.aload_n 0, 1) := by decide +kernel
theorem dX5_uncut_17 : decode cX5_uncut 17 = .ok (.getfield 7, 3) := by decide +kernel
theorem dX5_uncut_20 : decode cX5_uncut 20 = .ok (.bipush 7, 2) := by decide +kernel
theorem dX5_uncut_22 : decode cX5_uncut 22 = .ok (.dup2, 1) := by decide +kernel
theorem dX5_uncut_23 : decode cX5_uncut 23 = .ok (.iaload, 1) := by decide +kernel
theorem dX5_uncut_24 : decode cX5_uncut 24 = .ok (.iconst 1, 1) := by decide +kernel
theorem dX5_uncut_25 : decode cX5_uncut 25 = .ok (.isub, 1) := by decide +kernel
theorem dX5_uncut_26 : decode cX5_uncut 26 = .ok (.iastore, 1) := by decide +kernel
theorem dX5_uncut_27 : decode cX5_uncut 27 = .ok (.iload_n 2, 1) := by decide +kernel
theorem dX5_uncut_28 : decode cX5_uncut 28 = .ok (.istore_n 3, 1) := by decide +kernel
theorem dX5_uncut_29 : decode cX5_uncut 29 = .ok (.iload_n 3, 1) := by decide +kernel
theorem dX5_uncut_30 : decode cX5_uncut 30 = .ok (.bipush 12, 2) := by decide +kernel
theorem dX5_uncut_32 : decode cX5_uncut 32 = .ok (.if_icmp .ge 44, 3) := by decide +kernel
theorem dX5_uncut_35 : decode cX5_uncut 35 = .ok (.aload_n 0, 1) := by decide +kernel
theorem dX5_uncut_36 : decode cX5_uncut 36 = .ok (.getfield 7, 3) := by decide +kernel
theorem dX5_uncut_39 : decode cX5_uncut 39 = .ok (.bipush 8, 2) := by decide +kernel
theorem dX5_uncut_41 : decode cX5_uncut 41 = .ok (.iload_n 3, 1) := by decide +kernel
theorem dX5_uncut_42 : decode cX5_uncut 42 = .ok (.iadd, 1) := by decide +kernel
theorem dX5_uncut_43 : decode cX5_uncut 43 = .ok (.iload_n 3, 1) := by decide +kernel
theorem dX5_uncut_44 : decode cX5_uncut 44 = .ok (.aload_n 0, 1) := by decide +kernel
theorem dX5_uncut_45 : decode cX5_uncut 45 = .ok (.getfield 7, 3) := by decide +kernel
theorem dX5_uncut_48 : decode cX5_uncut 48 = .ok (.bipush 7, 2) := by decide +kernel
theorem dX5_uncut_50 : decode cX5_uncut 50 = .ok (.iaload, 1) := by decide +kernel
theorem dX5_uncut_51 : decode cX5_uncut 51 = .ok (.if_icmp .ge 17, 3) := by decide +kernel
theorem dX5_uncut_54 : decode cX5_uncut 54 = .ok (.aload_n 0, 1) := by decide +kernel
theorem dX5_uncut_55 : decode cX5_uncut 55 = .ok (.getfield 7, 3) := by decide +kernel
theorem dX5_uncut_58 : decode cX5_uncut 58 = .ok (.bipush 8, 2) := by decide +kernel
theorem dX5_uncut_60 : decode cX5_uncut 60 = .ok (.iload_n 3, 1) := by decide +kernel
theorem dX5_uncut_61 : decode cX5_uncut 61 = .ok (.iadd, 1) := by decide +kernel
theorem dX5_uncut_62 : decode cX5_uncut 62 = .ok (.iconst 1, 1) := by decide +kernel
theorem dX5_uncut_63 : decode cX5_uncut 63 = .ok (.iadd, 1) := by decide +kernel
theorem dX5_uncut_64 : decode cX5_uncut 64 = .ok (.iaload, 1) := by decide +kernel
theorem dX5_uncut_65 : decode cX5_uncut 65 = .ok (.goto 4, 3) := by decide +kernel
theorem dX5_uncut_68 : decode cX5_uncut 68 = .ok (.iconst 0, 1) := by decide +kernel
theorem dX5_uncut_69 : decode cX5_uncut 69 = .ok (.iastore, 1) := by decide +kernel
theorem dX5_uncut_70 : decode cX5_uncut 70 = .ok (.iinc 3 1, 3) := by decide +kernel
theorem dX5_uncut_73 : decode cX5_uncut 73 = .ok (.goto (-44), 3) := by decide +kernel
theorem dX5_uncut_76 : decode cX5_uncut 76 = .ok (.aload_n 0, 1) := by decide +kernel
theorem dX5_uncut_77 : decode cX5_uncut 77 = .ok (.aload_n 0, 1) := by decide +kernel
theorem dX5_uncut_78 : decode cX5_uncut 78 = .ok (.getfield 7, 3) := by decide +kernel
theorem dX5_uncut_81 : decode cX5_uncut 81 = .ok (.bipush 7, 2) := by decide +kernel
theorem dX5_uncut_83 : decode cX5_uncut 83 = .ok (.iaload, 1) := by decide +kernel
theorem dX5_uncut_84 : decode cX5_uncut 84 = .ok (.invokevirtual 159, 3) := by decide +kernel
theorem dX5_uncut_87 : decode cX5_uncut 87 = .ok (.ireturn, 1) := by decide +kernel
theorem dX5_leastOf_0 : decode cX5_leastOf 0 = .ok (.iload_n 0, 1) := by decide +kernel
theorem dX5_leastOf_1 : decode cX5_leastOf 1 = .ok (.ifCond .eq 8, 3) := by decide +kernel
theorem dX5_leastOf_4 : decode cX5_leastOf 4 = .ok (.iload_n 0, 1) := by decide +kernel
theorem dX5_leastOf_5 : decode cX5_leastOf 5 = .ok (.iconst 2, 1) := by decide +kernel
theorem dX5_leastOf_6 : decode cX5_leastOf 6 = .ok (.if_icmp .ne 7, 3) := by decide +kernel
theorem dX5_leastOf_9 : decode cX5_leastOf 9 = .ok (.iconst 5, 1) := by decide +kernel
theorem dX5_leastOf_10 : decode cX5_leastOf 10 = .ok (.goto 24, 3) := by decide +kernel
theorem dX5_leastOf_13 : decode cX5_leastOf 13 = .ok (.iload_n 0, 1) := by decide +kernel
theorem dX5_leastOf_14 : decode cX5_leastOf 14 = .ok (.iconst 3, 1) := by decide +kernel
theorem dX5_leastOf_15 : decode cX5_leastOf 15 = .ok (.if_icmp .ne 8, 3) := by decide +kernel
theorem dX5_leastOf_18 : decode cX5_leastOf 18 = .ok (.bipush 50, 2) := by decide +kernel
theorem dX5_leastOf_20 : decode cX5_leastOf 20 = .ok (.goto 14, 3) := by decide +kernel
theorem dX5_leastOf_23 : decode cX5_leastOf 23 = .ok (.iload_n 0, 1) := by decide +kernel
theorem dX5_leastOf_24 : decode cX5_leastOf 24 = .ok (.iconst 4, 1) := by decide +kernel
theorem dX5_leastOf_25 : decode cX5_leastOf 25 = .ok (.if_icmp .ne 8, 3) := by decide +kernel
theorem dX5_leastOf_28 : decode cX5_leastOf 28 = .ok (.bipush 10, 2) := by decide +kernel
theorem dX5_leastOf_30 : decode cX5_leastOf 30 = .ok (.goto 4, 3) := by decide +kernel
theorem dX5_leastOf_33 : decode cX5_leastOf 33 = .ok (.iconst 0, 1) := by decide +kernel
theorem dX5_leastOf_34 : decode cX5_leastOf 34 = .ok (.ireturn, 1) := by decide +kernel
theorem dX5_mostOf_0 : decode cX5_mostOf 0 = .ok (.iload_n 0, 1) := by decide +kernel
theorem dX5_mostOf_1 : decode cX5_mostOf 1 = .ok (.ifCond .eq 8, 3) := by decide +kernel
theorem dX5_mostOf_4 : decode cX5_mostOf 4 = .ok (.iload_n 0, 1) := by decide +kernel
theorem dX5_mostOf_5 : decode cX5_mostOf 5 = .ok (.iconst 4, 1) := by decide +kernel
theorem dX5_mostOf_6 : decode cX5_mostOf 6 = .ok (.if_icmp .ne 8, 3) := by decide +kernel
theorem dX5_mostOf_9 : decode cX5_mostOf 9 = .ok (.bipush 40, 2) := by decide +kernel
theorem dX5_mostOf_11 : decode cX5_mostOf 11 = .ok (.goto 36, 3) := by decide +kernel
theorem dX5_mostOf_14 : decode cX5_mostOf 14 = .ok (.iload_n 0, 1) := by decide +kernel
theorem dX5_mostOf_15 : decode cX5_mostOf 15 = .ok (.iconst 1, 1) := by decide +kernel
theorem dX5_mostOf_16 : decode cX5_mostOf 16 = .ok (.if_icmp .ne 8, 3) := by decide +kernel
theorem dX5_mostOf_19 : decode cX5_mostOf 19 = .ok (.bipush 20, 2) := by decide +kernel
theorem dX5_mostOf_21 : decode cX5_mostOf 21 = .ok (.goto 26, 3) := by decide +kernel
theorem dX5_mostOf_24 : decode cX5_mostOf 24 = .ok (.iload_n 0, 1) := by decide +kernel
theorem dX5_mostOf_25 : decode cX5_mostOf 25 = .ok (.iconst 2, 1) := by decide +kernel
theorem dX5_mostOf_26 : decode cX5_mostOf 26 = .ok (.if_icmp .ne 8, 3) := by decide +kernel
theorem dX5_mostOf_29 : decode cX5_mostOf 29 = .ok (.bipush 50, 2) := by decide +kernel
theorem dX5_mostOf_31 : decode cX5_mostOf 31 = .ok (.goto 16, 3) := by decide +kernel
theorem dX5_mostOf_34 : decode cX5_mostOf 34 = .ok (.iload_n 0, 1) := by decide +kernel
theorem dX5_mostOf_35 : decode cX5_mostOf 35 = .ok (.iconst 3, 1) := by decide +kernel
theorem dX5_mostOf_36 : decode cX5_mostOf 36 = .ok (.if_icmp .ne 9, 3) := by decide +kernel
theorem dX5_mostOf_39 : decode cX5_mostOf 39 = .ok (.sipush 250, 3) := by decide +kernel
theorem dX5_mostOf_42 : decode cX5_mostOf 42 = .ok (.goto 5, 3) := by decide +kernel
theorem dX5_mostOf_45 : decode cX5_mostOf 45 = .ok (.bipush 12, 2) := by decide +kernel
theorem dX5_mostOf_47 : decode cX5_mostOf 47 = .ok (.ireturn, 1) := by decide +kernel
theorem dX5_set_0 : decode cX5_set 0 = .ok (.iload_n 1, 1) := by decide +kernel
theorem dX5_set_1 : decode cX5_set 1 = .ok (.iconst 0, 1) := by decide +kernel
theorem dX5_set_2 : decode cX5_set 2 = .ok (.iconst 5, 1) := by decide +kernel
theorem dX5_set_3 : decode cX5_set 3 = .ok (.invokestatic 39, 3) := by decide +kernel
theorem dX5_set_6 : decode cX5_set 6 = .ok (.ifCond .ne 5, 3) := by decide +kernel
theorem dX5_set_9 : decode cX5_set 9 = .ok (.iconst (-1), 1) := by decide +kernel
theorem dX5_set_10 : decode cX5_set 10 = .ok (.ireturn, 1) := by decide +kernel
theorem dX5_set_11 : decode cX5_set 11 = .ok (.iload_n 2, 1) := by decide +kernel
theorem dX5_set_12 : decode cX5_set 12 = .ok (.iload_n 1, 1) := by decide +kernel
theorem dX5_set_13 : decode cX5_set 13 = .ok (.invokestatic 186, 3) := by decide +kernel
theorem dX5_set_16 : decode cX5_set 16 = .ok (.iload_n 1, 1) := by decide +kernel
theorem dX5_set_17 : decode cX5_set 17 = .ok (.invokestatic 189, 3) := by decide +kernel
theorem dX5_set_20 : decode cX5_set 20 = .ok (.invokestatic 39, 3) := by decide +kernel
theorem dX5_set_23 : decode cX5_set 23 = .ok (.ifCond .ne 6, 3) := by decide +kernel
theorem dX5_set_26 : decode cX5_set 26 = .ok (.bipush (-2), 2) := by decide +kernel
theorem dX5_set_28 : decode cX5_set 28 = .ok (.ireturn, 1) := by decide +kernel
theorem dX5_set_29 : decode cX5_set 29 = .ok (.aload_n 0, 1) := by decide +kernel
theorem dX5_set_30 : decode cX5_set 30 = .ok (.invokevirtual 147, 3) := by decide +kernel
theorem dX5_set_33 : decode cX5_set 33 = .ok (.aload_n 0, 1) := by decide +kernel
theorem dX5_set_34 : decode cX5_set 34 = .ok (.iload_n 1, 1) := by decide +kernel
theorem dX5_set_35 : decode cX5_set 35 = .ok (.invokevirtual 47, 3) := by decide +kernel
theorem dX5_set_38 : decode cX5_set 38 = .ok (.istore_n 3, 1) := by decide +kernel
theorem dX5_set_39 : decode cX5_set 39 = .ok (.aload_n 0, 1) := by decide +kernel
theorem dX5_set_40 : decode cX5_set 40 = .ok (.getfield 7, 3) := by decide +kernel
theorem dX5_set_43 : decode cX5_set 43 = .ok (.iconst 1, 1) := by decide +kernel
theorem dX5_set_44 : decode cX5_set 44 = .ok (.iload_n 1, 1) := by decide +kernel
theorem dX5_set_45 : decode cX5_set 45 = .ok (.iadd, 1) := by decide +kernel
theorem dX5_set_46 : decode cX5_set 46 = .ok (.iload_n 2, 1) := by decide +kernel
theorem dX5_set_47 : decode cX5_set 47 = .ok (.iastore, 1) := by decide +kernel
theorem dX5_set_48 : decode cX5_set 48 = .ok (.aload_n 0, 1) := by decide +kernel
theorem dX5_set_49 : decode cX5_set 49 = .ok (.iload_n 3, 1) := by decide +kernel
theorem dX5_set_50 : decode cX5_set 50 = .ok (.invokevirtual 159, 3) := by decide +kernel
theorem dX5_set_53 : decode cX5_set 53 = .ok (.ireturn, 1) := by decide +kernel
theorem dX5_subtitles_0 : decode cX5_subtitles 0 = .ok (.aload_n 0, 1) := by decide +kernel
theorem dX5_subtitles_1 : decode cX5_subtitles 1 = .ok (.getfield 7, 3) := by decide +kernel
theorem dX5_subtitles_4 : decode cX5_subtitles 4 = .ok (.iconst 0, 1) := by decide +kernel
theorem dX5_subtitles_5 : decode cX5_subtitles 5 = .ok (.iaload, 1) := by decide +kernel
theorem dX5_subtitles_6 : decode cX5_subtitles 6 = .ok (.ireturn, 1) := by decide +kernel
theorem dX5_subtitle_0 : decode cX5_subtitle 0 = .ok (.aload_n 0, 1) := by decide +kernel
theorem dX5_subtitle_1 : decode cX5_subtitle 1 = .ok (.iload_n 1, 1) := by decide +kernel
theorem dX5_subtitle_2 : decode cX5_subtitle 2 = .ok (.invokevirtual 162, 3) := by decide +kernel
theorem dX5_subtitle_5 : decode cX5_subtitle 5 = .ok (.ifCond .ne 5, 3) := by decide +kernel
theorem dX5_subtitle_8 : decode cX5_subtitle 8 = .ok (.iconst (-1), 1) := by decide +kernel
theorem dX5_subtitle_9 : decode cX5_subtitle 9 = .ok (.ireturn, 1) := by decide +kernel
theorem dX5_subtitle_10 : decode cX5_subtitle 10 = .ok (.iload_n 2, 1) := by decide +kernel
theorem dX5_subtitle_11 : decode cX5_subtitle 11 = .ok (.tableswitch 72 0 6 #[41, 41, 41, 48, 54, 60, 66], 41) := by decide +kernel
theorem dX5_subtitle_52 : decode cX5_subtitle 52 = .ok (.aload_n 0, 1) := by decide +kernel
theorem dX5_subtitle_53 : decode cX5_subtitle 53 = .ok (.iload_n 1, 1) := by decide +kernel
theorem dX5_subtitle_54 : decode cX5_subtitle 54 = .ok (.iload_n 2, 1) := by decide +kernel
theorem dX5_subtitle_55 : decode cX5_subtitle 55 = .ok (.invokevirtual 43, 3) := by decide +kernel
theorem dX5_subtitle_58 : decode cX5_subtitle 58 = .ok (.ireturn, 1) := by decide +kernel
theorem dX5_subtitle_59 : decode cX5_subtitle 59 = .ok (.aload_n 0, 1) := by decide +kernel
theorem dX5_subtitle_60 : decode cX5_subtitle 60 = .ok (.iload_n 1, 1) := by decide +kernel
theorem dX5_subtitle_61 : decode cX5_subtitle 61 = .ok (.invokevirtual 85, 3) := by decide +kernel
theorem dX5_subtitle_64 : decode cX5_subtitle 64 = .ok (.ireturn, 1) := by decide +kernel
theorem dX5_subtitle_65 : decode cX5_subtitle 65 = .ok (.aload_n 0, 1) := by decide +kernel
theorem dX5_subtitle_66 : decode cX5_subtitle 66 = .ok (.iload_n 1, 1) := by decide +kernel
theorem dX5_subtitle_67 : decode cX5_subtitle 67 = .ok (.invokevirtual 79, 3) := by decide +kernel
theorem dX5_subtitle_70 : decode cX5_subtitle 70 = .ok (.ireturn, 1) := by decide +kernel
theorem dX5_subtitle_71 : decode cX5_subtitle 71 = .ok (.aload_n 0, 1) := by decide +kernel
theorem dX5_subtitle_72 : decode cX5_subtitle 72 = .ok (.iload_n 1, 1) := by decide +kernel
theorem dX5_subtitle_73 : decode cX5_subtitle 73 = .ok (.invokevirtual 62, 3) := by decide +kernel
theorem dX5_subtitle_76 : decode cX5_subtitle 76 = .ok (.ireturn, 1) := by decide +kernel
theorem dX5_subtitle_77 : decode cX5_subtitle 77 = .ok (.aload_n 0, 1) := by decide +kernel
theorem dX5_subtitle_78 : decode cX5_subtitle 78 = .ok (.iload_n 1, 1) := by decide +kernel
theorem dX5_subtitle_79 : decode cX5_subtitle 79 = .ok (.invokevirtual 174, 3) := by decide +kernel
theorem dX5_subtitle_82 : decode cX5_subtitle 82 = .ok (.ireturn, 1) := by decide +kernel
theorem dX5_subtitle_83 : decode cX5_subtitle 83 = .ok (.bipush (-2), 2) := by decide +kernel
theorem dX5_subtitle_85 : decode cX5_subtitle 85 = .ok (.ireturn, 1) := by decide +kernel
theorem dX5_character_0 : decode cX5_character 0 = .ok (.aload_n 0, 1) := by decide +kernel
theorem dX5_character_1 : decode cX5_character 1 = .ok (.iload_n 1, 1) := by decide +kernel
theorem dX5_character_2 : decode cX5_character 2 = .ok (.invokevirtual 162, 3) := by decide +kernel
theorem dX5_character_5 : decode cX5_character 5 = .ok (.ifCond .ne 5, 3) := by decide +kernel
theorem dX5_character_8 : decode cX5_character 8 = .ok (.iconst (-1), 1) := by decide +kernel
theorem dX5_character_9 : decode cX5_character 9 = .ok (.ireturn, 1) := by decide +kernel
theorem dX5_character_10 : decode cX5_character 10 = .ok (.iload_n 2, 1) := by decide +kernel
theorem dX5_character_11 : decode cX5_character 11 = .ok (.ifCond .ge 8, 3) := by decide +kernel
theorem dX5_character_14 : decode cX5_character 14 = .ok (.bipush (-2), 2) := by decide +kernel
theorem dX5_character_16 : decode cX5_character 16 = .ok (.goto 24, 3) := by decide +kernel
theorem dX5_character_19 : decode cX5_character 19 = .ok (.iload_n 2, 1) := by decide +kernel
theorem dX5_character_20 : decode cX5_character 20 = .ok (.aload_n 0, 1) := by decide +kernel
theorem dX5_character_21 : decode cX5_character 21 = .ok (.iload_n 1, 1) := by decide +kernel
theorem dX5_character_22 : decode cX5_character 22 = .ok (.iconst 2, 1) := by decide +kernel
theorem dX5_character_23 : decode cX5_character 23 = .ok (.invokevirtual 43, 3) := by decide +kernel
theorem dX5_character_26 : decode cX5_character 26 = .ok (.if_icmp .ge 12, 3) := by decide +kernel
theorem dX5_character_29 : decode cX5_character 29 = .ok (.aload_n 0, 1) := by decide +kernel
theorem dX5_character_30 : decode cX5_character 30 = .ok (.iload_n 1, 1) := by decide +kernel
theorem dX5_character_31 : decode cX5_character 31 = .ok (.iload_n 2, 1) := by decide +kernel
theorem dX5_character_32 : decode cX5_character 32 = .ok (.invokevirtual 59, 3) := by decide +kernel
theorem dX5_character_35 : decode cX5_character 35 = .ok (.goto 5, 3) := by decide +kernel
theorem dX5_character_38 : decode cX5_character 38 = .ok (.bipush (-6), 2) := by decide +kernel
theorem dX5_character_40 : decode cX5_character 40 = .ok (.ireturn, 1) := by decide +kernel
theorem dX5_line_0 : decode cX5_line 0 = .ok (.aload_n 0, 1) := by decide +kernel
theorem dX5_line_1 : decode cX5_line 1 = .ok (.iload_n 1, 1) := by decide +kernel
theorem dX5_line_2 : decode cX5_line 2 = .ok (.invokevirtual 162, 3) := by decide +kernel
theorem dX5_line_5 : decode cX5_line 5 = .ok (.ifCond .ne 5, 3) := by decide +kernel
theorem dX5_line_8 : decode cX5_line 8 = .ok (.iconst (-1), 1) := by decide +kernel
theorem dX5_line_9 : decode cX5_line 9 = .ok (.ireturn, 1) := by decide +kernel
theorem dX5_line_10 : decode cX5_line 10 = .ok (.iload_n 2, 1) := by decide +kernel
theorem dX5_line_11 : decode cX5_line 11 = .ok (.ifCond .ge 8, 3) := by decide +kernel
theorem dX5_line_14 : decode cX5_line 14 = .ok (.bipush (-2), 2) := by decide +kernel
theorem dX5_line_16 : decode cX5_line 16 = .ok (.goto 23, 3) := by decide +kernel
theorem dX5_line_19 : decode cX5_line 19 = .ok (.iload_n 2, 1) := by decide +kernel
theorem dX5_line_20 : decode cX5_line 20 = .ok (.aload_n 0, 1) := by decide +kernel
theorem dX5_line_21 : decode cX5_line 21 = .ok (.iload_n 1, 1) := by decide +kernel
theorem dX5_line_22 : decode cX5_line 22 = .ok (.invokevirtual 62, 3) := by decide +kernel
theorem dX5_line_25 : decode cX5_line 25 = .ok (.if_icmp .ge 12, 3) := by decide +kernel
theorem dX5_line_28 : decode cX5_line 28 = .ok (.aload_n 0, 1) := by decide +kernel
theorem dX5_line_29 : decode cX5_line 29 = .ok (.getfield 25, 3) := by decide +kernel
theorem dX5_line_32 : decode cX5_line 32 = .ok (.iload_n 2, 1) := by decide +kernel
theorem dX5_line_33 : decode cX5_line 33 = .ok (.iaload, 1) := by decide +kernel
theorem dX5_line_34 : decode cX5_line 34 = .ok (.goto 5, 3) := by decide +kernel
theorem dX5_line_37 : decode cX5_line 37 = .ok (.bipush (-6), 2) := by decide +kernel
theorem dX5_line_39 : decode cX5_line 39 = .ok (.ireturn, 1) := by decide +kernel
theorem dX5_at_0 : decode cX5_at 0 = .ok (.iload_n 1, 1) := by decide +kernel
theorem dX5_at_1 : decode cX5_at 1 = .ok (.iconst 0, 1) := by decide +kernel
theorem dX5_at_2 : decode cX5_at 2 = .ok (.sipush 4999, 3) := by decide +kernel
theorem dX5_at_5 : decode cX5_at 5 = .ok (.invokestatic 39, 3) := by decide +kernel
theorem dX5_at_8 : decode cX5_at 8 = .ok (.ifCond .ne 6, 3) := by decide +kernel
theorem dX5_at_11 : decode cX5_at 11 = .ok (.bipush (-2), 2) := by decide +kernel
theorem dX5_at_13 : decode cX5_at 13 = .ok (.ireturn, 1) := by decide +kernel
theorem dX5_at_14 : decode cX5_at 14 = .ok (.bipush (-6), 2) := by decide +kernel
theorem dX5_at_16 : decode cX5_at 16 = .ok (.istore_n 2, 1) := by decide +kernel
theorem dX5_at_17 : decode cX5_at 17 = .ok (.iconst 0, 1) := by decide +kernel
theorem dX5_at_18 : decode cX5_at 18 = .ok (.istore_n 3, 1) := by decide +kernel
theorem dX5_at_19 : decode cX5_at 19 = .ok (.iload_n 3, 1) := by decide +kernel
theorem dX5_at_20 : decode cX5_at 20 = .ok (.aload_n 0, 1) := by decide +kernel
theorem dX5_at_21 : decode cX5_at 21 = .ok (.getfield 7, 3) := by decide +kernel
theorem dX5_at_24 : decode cX5_at 24 = .ok (.iconst 0, 1) := by decide +kernel
theorem dX5_at_25 : decode cX5_at 25 = .ok (.iaload, 1) := by decide +kernel
theorem dX5_at_26 : decode cX5_at 26 = .ok (.if_icmp .ge 36, 3) := by decide +kernel
theorem dX5_at_29 : decode cX5_at 29 = .ok (.iload_n 1, 1) := by decide +kernel
theorem dX5_at_30 : decode cX5_at 30 = .ok (.aload_n 0, 1) := by decide +kernel
theorem dX5_at_31 : decode cX5_at 31 = .ok (.iload_n 3, 1) := by decide +kernel
theorem dX5_at_32 : decode cX5_at 32 = .ok (.iconst 0, 1) := by decide +kernel
theorem dX5_at_33 : decode cX5_at 33 = .ok (.invokevirtual 43, 3) := by decide +kernel
theorem dX5_at_36 : decode cX5_at 36 = .ok (.aload_n 0, 1) := by decide +kernel
theorem dX5_at_37 : decode cX5_at 37 = .ok (.iload_n 3, 1) := by decide +kernel
theorem dX5_at_38 : decode cX5_at 38 = .ok (.iconst 1, 1) := by decide +kernel
theorem dX5_at_39 : decode cX5_at 39 = .ok (.invokevirtual 43, 3) := by decide +kernel
theorem dX5_at_42 : decode cX5_at 42 = .ok (.iconst 1, 1) := by decide +kernel
theorem dX5_at_43 : decode cX5_at 43 = .ok (.isub, 1) := by decide +kernel
theorem dX5_at_44 : decode cX5_at 44 = .ok (.invokestatic 39, 3) := by decide +kernel
theorem dX5_at_47 : decode cX5_at 47 = .ok (.ifCond .eq 7, 3) := by decide +kernel
theorem dX5_at_50 : decode cX5_at 50 = .ok (.iload_n 3, 1) := by decide +kernel
theorem dX5_at_51 : decode cX5_at 51 = .ok (.goto 4, 3) := by decide +kernel
theorem dX5_at_54 : decode cX5_at 54 = .ok (.iload_n 2, 1) := by decide +kernel
theorem dX5_at_55 : decode cX5_at 55 = .ok (.istore_n 2, 1) := by decide +kernel
theorem dX5_at_56 : decode cX5_at 56 = .ok (.iinc 3 1, 3) := by decide +kernel
theorem dX5_at_59 : decode cX5_at 59 = .ok (.goto (-40), 3) := by decide +kernel
theorem dX5_at_62 : decode cX5_at 62 = .ok (.iload_n 2, 1) := by decide +kernel
theorem dX5_at_63 : decode cX5_at 63 = .ok (.ireturn, 1) := by decide +kernel
theorem dX5_cuts_0 : decode cX5_cuts 0 = .ok (.aload_n 0, 1) := by decide +kernel
theorem dX5_cuts_1 : decode cX5_cuts 1 = .ok (.getfield 7, 3) := by decide +kernel
theorem dX5_cuts_4 : decode cX5_cuts 4 = .ok (.bipush 7, 2) := by decide +kernel
theorem dX5_cuts_6 : decode cX5_cuts 6 = .ok (.iaload, 1) := by decide +kernel
theorem dX5_cuts_7 : decode cX5_cuts 7 = .ok (.ireturn, 1) := by decide +kernel
theorem dX5_cutAt_0 : decode cX5_cutAt 0 = .ok (.iload_n 1, 1) := by decide +kernel
theorem dX5_cutAt_1 : decode cX5_cutAt 1 = .ok (.ifCond .ge 8, 3) := by decide +kernel
theorem dX5_cutAt_4 : decode cX5_cutAt 4 = .ok (.bipush (-2), 2) := by decide +kernel
theorem dX5_cutAt_6 : decode cX5_cutAt 6 = .ok (.goto 28, 3) := by decide +kernel
theorem dX5_cutAt_9 : decode cX5_cutAt 9 = .ok (.iload_n 1, 1) := by decide +kernel
theorem dX5_cutAt_10 : decode cX5_cutAt 10 = .ok (.aload_n 0, 1) := by decide +kernel
theorem dX5_cutAt_11 : decode cX5_cutAt 11 = .ok (.getfield 7, 3) := by decide +kernel
theorem dX5_cutAt_14 : decode cX5_cutAt 14 = .ok (.bipush 7, 2) := by decide +kernel
theorem dX5_cutAt_16 : decode cX5_cutAt 16 = .ok (.iaload, 1) := by decide +kernel
theorem dX5_cutAt_17 : decode cX5_cutAt 17 = .ok (.if_icmp .ge 15, 3) := by decide +kernel
theorem dX5_cutAt_20 : decode cX5_cutAt 20 = .ok (.aload_n 0, 1) := by decide +kernel
theorem dX5_cutAt_21 : decode cX5_cutAt 21 = .ok (.getfield 7, 3) := by decide +kernel
theorem dX5_cutAt_24 : decode cX5_cutAt 24 = .ok (.bipush 8, 2) := by decide +kernel
theorem dX5_cutAt_26 : decode cX5_cutAt 26 = .ok (.iload_n 1, 1) := by decide +kernel
theorem dX5_cutAt_27 : decode cX5_cutAt 27 = .ok (.iadd, 1) := by decide +kernel
theorem dX5_cutAt_28 : decode cX5_cutAt 28 = .ok (.iaload, 1) := by decide +kernel
theorem dX5_cutAt_29 : decode cX5_cutAt 29 = .ok (.goto 5, 3) := by decide +kernel
theorem dX5_cutAt_32 : decode cX5_cutAt 32 = .ok (.bipush (-6), 2) := by decide +kernel
theorem dX5_cutAt_34 : decode cX5_cutAt 34 = .ok (.ireturn, 1) := by decide +kernel
theorem dX5_setting_0 : decode cX5_setting 0 = .ok (.iload_n 1, 1) := by decide +kernel
theorem dX5_setting_1 : decode cX5_setting 1 = .ok (.iconst 0, 1) := by decide +kernel
theorem dX5_setting_2 : decode cX5_setting 2 = .ok (.iconst 5, 1) := by decide +kernel
theorem dX5_setting_3 : decode cX5_setting 3 = .ok (.invokestatic 39, 3) := by decide +kernel
theorem dX5_setting_6 : decode cX5_setting 6 = .ok (.ifCond .eq 11, 3) := by decide +kernel
theorem dX5_setting_9 : decode cX5_setting 9 = .ok (.aload_n 0, 1) := by decide +kernel
theorem dX5_setting_10 : decode cX5_setting 10 = .ok (.iload_n 1, 1) := by decide +kernel
theorem dX5_setting_11 : decode cX5_setting 11 = .ok (.invokevirtual 47, 3) := by decide +kernel
theorem dX5_setting_14 : decode cX5_setting 14 = .ok (.goto 4, 3) := by decide +kernel
theorem dX5_setting_17 : decode cX5_setting 17 = .ok (.iconst (-1), 1) := by decide +kernel
theorem dX5_setting_18 : decode cX5_setting 18 = .ok (.ireturn, 1) := by decide +kernel
theorem dX5_faulty_0 : decode cX5_faulty 0 = .ok (.iload_n 1, 1) := by decide +kernel
theorem dX5_faulty_1 : decode cX5_faulty 1 = .ok (.ifCond .eq 36, 3) := by decide +kernel
theorem dX5_faulty_4 : decode cX5_faulty 4 = .ok (.iload_n 1, 1) := by decide +kernel
theorem dX5_faulty_5 : decode cX5_faulty 5 = .ok (.iconst 1, 1) := by decide +kernel
theorem dX5_faulty_6 : decode cX5_faulty 6 = .ok (.if_icmp .eq 31, 3) := by decide +kernel
theorem dX5_faulty_9 : decode cX5_faulty 9 = .ok (.iload_n 1, 1) := by decide +kernel
theorem dX5_faulty_10 : decode cX5_faulty 10 = .ok (.iconst 2, 1) := by decide +kernel
theorem dX5_faulty_11 : decode cX5_faulty 11 = .ok (.if_icmp .eq 26, 3) := by decide +kernel
theorem dX5_faulty_14 : decode cX5_faulty 14 = .ok (.iload_n 1, 1) := by decide +kernel
theorem dX5_faulty_15 : decode cX5_faulty 15 = .ok (.iconst 4, 1) := by decide +kernel
theorem dX5_faulty_16 : decode cX5_faulty 16 = .ok (.if_icmp .eq 21, 3) := by decide +kernel
theorem dX5_faulty_19 : decode cX5_faulty 19 = .ok (.iload_n 1, 1) := by decide +kernel
theorem dX5_faulty_20 : decode cX5_faulty 20 = .ok (.bipush 8, 2) := by decide +kernel
theorem dX5_faulty_22 : decode cX5_faulty 22 = .ok (.if_icmp .eq 15, 3) := by decide +kernel
theorem dX5_faulty_25 : decode cX5_faulty 25 = .ok (.iload_n 1, 1) := by decide +kernel
theorem dX5_faulty_26 : decode cX5_faulty 26 = .ok (.bipush 16, 2) := by decide +kernel
theorem dX5_faulty_28 : decode cX5_faulty 28 = .ok (.if_icmp .eq 9, 3) := by decide +kernel
theorem dX5_faulty_31 : decode cX5_faulty 31 = .ok (.iload_n 1, 1) := by decide +kernel
theorem dX5_faulty_32 : decode cX5_faulty 32 = .ok (.bipush 32, 2) := by decide +kernel
theorem dX5_faulty_34 : decode cX5_faulty 34 = .ok (.if_icmp .ne 7, 3) := by decide +kernel
theorem dX5_faulty_37 : decode cX5_faulty 37 = .ok (.iconst 1, 1) := by decide +kernel
theorem dX5_faulty_38 : decode cX5_faulty 38 = .ok (.goto 4, 3) := by decide +kernel
theorem dX5_faulty_41 : decode cX5_faulty 41 = .ok (.iconst 0, 1) := by decide +kernel
theorem dX5_faulty_42 : decode cX5_faulty 42 = .ok (.istore_n 2, 1) := by decide +kernel
theorem dX5_faulty_43 : decode cX5_faulty 43 = .ok (.iload_n 2, 1) := by decide +kernel
theorem dX5_faulty_44 : decode cX5_faulty 44 = .ok (.ifCond .eq 11, 3) := by decide +kernel
theorem dX5_faulty_47 : decode cX5_faulty 47 = .ok (.aload_n 0, 1) := by decide +kernel
theorem dX5_faulty_48 : decode cX5_faulty 48 = .ok (.iload_n 1, 1) := by decide +kernel
theorem dX5_faulty_49 : decode cX5_faulty 49 = .ok (.invokevirtual 192, 3) := by decide +kernel
theorem dX5_faulty_52 : decode cX5_faulty 52 = .ok (.goto 5, 3) := by decide +kernel
theorem dX5_faulty_55 : decode cX5_faulty 55 = .ok (.bipush (-2), 2) := by decide +kernel
theorem dX5_faulty_57 : decode cX5_faulty 57 = .ok (.ireturn, 1) := by decide +kernel
theorem dX5_shown_0 : decode cX5_shown 0 = .ok (.aload_n 0, 1) := by decide +kernel
theorem dX5_shown_1 : decode cX5_shown 1 = .ok (.invokevirtual 195, 3) := by decide +kernel
theorem dX5_shown_4 : decode cX5_shown 4 = .ok (.ireturn, 1) := by decide +kernel
theorem dX5_meanSpeed_0 : decode cX5_meanSpeed 0 = .ok (.iconst 0, 1) := by decide +kernel
theorem dX5_meanSpeed_1 : decode cX5_meanSpeed 1 = .ok (.istore_n 1, 1) := by decide +kernel
theorem dX5_meanSpeed_2 : decode cX5_meanSpeed 2 = .ok (.iconst 0, 1) := by decide +kernel
theorem dX5_meanSpeed_3 : decode cX5_meanSpeed 3 = .ok (.istore_n 2, 1) := by decide +kernel
theorem dX5_meanSpeed_4 : decode cX5_meanSpeed 4 = .ok (.iload_n 2, 1) := by decide +kernel
theorem dX5_meanSpeed_5 : decode cX5_meanSpeed 5 = .ok (.aload_n 0, 1) := by decide +kernel
theorem dX5_meanSpeed_6 : decode cX5_meanSpeed 6 = .ok (.getfield 7, 3) := by decide +kernel
theorem dX5_meanSpeed_9 : decode cX5_meanSpeed 9 = .ok (.iconst 0, 1) := by decide +kernel
theorem dX5_meanSpeed_10 : decode cX5_meanSpeed 10 = .ok (.iaload, 1) := by decide +kernel
theorem dX5_meanSpeed_11 : decode cX5_meanSpeed 11 = .ok (.if_icmp .ge 18, 3) := by decide +kernel
theorem dX5_meanSpeed_14 : decode cX5_meanSpeed 14 = .ok (.iload_n 1, 1) := by decide +kernel
theorem dX5_meanSpeed_15 : decode cX5_meanSpeed 15 = .ok (.aload_n 0, 1) := by decide +kernel
theorem dX5_meanSpeed_16 : decode cX5_meanSpeed 16 = .ok (.iload_n 2, 1) := by decide +kernel
theorem dX5_meanSpeed_17 : decode cX5_meanSpeed 17 = .ok (.iconst 2, 1) := by decide +kernel
theorem dX5_meanSpeed_18 : decode cX5_meanSpeed 18 = .ok (.invokevirtual 43, 3) := by decide +kernel
theorem dX5_meanSpeed_21 : decode cX5_meanSpeed 21 = .ok (.iadd, 1) := by decide +kernel
theorem dX5_meanSpeed_22 : decode cX5_meanSpeed 22 = .ok (.istore_n 1, 1) := by decide +kernel
theorem dX5_meanSpeed_23 : decode cX5_meanSpeed 23 = .ok (.iinc 2 1, 3) := by decide +kernel
theorem dX5_meanSpeed_26 : decode cX5_meanSpeed 26 = .ok (.goto (-22), 3) := by decide +kernel
theorem dX5_meanSpeed_29 : decode cX5_meanSpeed 29 = .ok (.aload_n 0, 1) := by decide +kernel
theorem dX5_meanSpeed_30 : decode cX5_meanSpeed 30 = .ok (.getfield 7, 3) := by decide +kernel
theorem dX5_meanSpeed_33 : decode cX5_meanSpeed 33 = .ok (.iconst 0, 1) := by decide +kernel
theorem dX5_meanSpeed_34 : decode cX5_meanSpeed 34 = .ok (.iaload, 1) := by decide +kernel
theorem dX5_meanSpeed_35 : decode cX5_meanSpeed 35 = .ok (.ifCond .ne 7, 3) := by decide +kernel
theorem dX5_meanSpeed_38 : decode cX5_meanSpeed 38 = .ok (.fconst 0, 1) := by decide +kernel
theorem dX5_meanSpeed_39 : decode cX5_meanSpeed 39 = .ok (.goto 14, 3) := by decide +kernel
theorem dX5_meanSpeed_42 : decode cX5_meanSpeed 42 = .ok (.iload_n 1, 1) := by decide +kernel
theorem dX5_meanSpeed_43 : decode cX5_meanSpeed 43 = .ok (.i2f, 1) := by decide +kernel
theorem dX5_meanSpeed_44 : decode cX5_meanSpeed 44 = .ok (.ldc 198, 2) := by decide +kernel
theorem dX5_meanSpeed_46 : decode cX5_meanSpeed 46 = .ok (.fmul, 1) := by decide +kernel
theorem dX5_meanSpeed_47 : decode cX5_meanSpeed 47 = .ok (.aload_n 0, 1) := by decide +kernel
theorem dX5_meanSpeed_48 : decode cX5_meanSpeed 48 = .ok (.invokevirtual 195, 3) := by decide +kernel
theorem dX5_meanSpeed_51 : decode cX5_meanSpeed 51 = .ok (.i2f, 1) := by decide +kernel
theorem dX5_meanSpeed_52 : decode cX5_meanSpeed 52 = .ok (.fdiv, 1) := by decide +kernel
theorem dX5_meanSpeed_53 : decode cX5_meanSpeed 53 = .ok (.freturn, 1) := by decide +kernel
theorem dX5_unreadBy_0 : decode cX5_unreadBy 0 = .ok (.iconst 0, 1) := by decide +kernel
theorem dX5_unreadBy_1 : decode cX5_unreadBy 1 = .ok (.istore_n 2, 1) := by decide +kernel
theorem dX5_unreadBy_2 : decode cX5_unreadBy 2 = .ok (.iconst 0, 1) := by decide +kernel
theorem dX5_unreadBy_3 : decode cX5_unreadBy 3 = .ok (.istore_n 3, 1) := by decide +kernel
theorem dX5_unreadBy_4 : decode cX5_unreadBy 4 = .ok (.iload_n 3, 1) := by decide +kernel
theorem dX5_unreadBy_5 : decode cX5_unreadBy 5 = .ok (.aload_n 0, 1) := by decide +kernel
theorem dX5_unreadBy_6 : decode cX5_unreadBy 6 = .ok (.getfield 7, 3) := by decide +kernel
theorem dX5_unreadBy_9 : decode cX5_unreadBy 9 = .ok (.iconst 0, 1) := by decide +kernel
theorem dX5_unreadBy_10 : decode cX5_unreadBy 10 = .ok (.iaload, 1) := by decide +kernel
theorem dX5_unreadBy_11 : decode cX5_unreadBy 11 = .ok (.if_icmp .ge 26, 3) := by decide +kernel
theorem dX5_unreadBy_14 : decode cX5_unreadBy 14 = .ok (.iload_n 2, 1) := by decide +kernel
theorem dX5_unreadBy_15 : decode cX5_unreadBy 15 = .ok (.aload_n 0, 1) := by decide +kernel
theorem dX5_unreadBy_16 : decode cX5_unreadBy 16 = .ok (.iload_n 3, 1) := by decide +kernel
theorem dX5_unreadBy_17 : decode cX5_unreadBy 17 = .ok (.iload_n 1, 1) := by decide +kernel
theorem dX5_unreadBy_18 : decode cX5_unreadBy 18 = .ok (.invokevirtual 68, 3) := by decide +kernel
theorem dX5_unreadBy_21 : decode cX5_unreadBy 21 = .ok (.ifCond .eq 7, 3) := by decide +kernel
theorem dX5_unreadBy_24 : decode cX5_unreadBy 24 = .ok (.iconst 1, 1) := by decide +kernel
theorem dX5_unreadBy_25 : decode cX5_unreadBy 25 = .ok (.goto 4, 3) := by decide +kernel
theorem dX5_unreadBy_28 : decode cX5_unreadBy 28 = .ok (.iconst 0, 1) := by decide +kernel
theorem dX5_unreadBy_29 : decode cX5_unreadBy 29 = .ok (.iadd, 1) := by decide +kernel
theorem dX5_unreadBy_30 : decode cX5_unreadBy 30 = .ok (.istore_n 2, 1) := by decide +kernel
theorem dX5_unreadBy_31 : decode cX5_unreadBy 31 = .ok (.iinc 3 1, 3) := by decide +kernel
theorem dX5_unreadBy_34 : decode cX5_unreadBy 34 = .ok (.goto (-30), 3) := by decide +kernel
theorem dX5_unreadBy_37 : decode cX5_unreadBy 37 = .ok (.iload_n 2, 1) := by decide +kernel
theorem dX5_unreadBy_38 : decode cX5_unreadBy 38 = .ok (.ireturn, 1) := by decide +kernel
theorem dX5_unread_0 : decode cX5_unread 0 = .ok (.iload_n 1, 1) := by decide +kernel
theorem dX5_unread_1 : decode cX5_unread 1 = .ok (.iconst 1, 1) := by decide +kernel
theorem dX5_unread_2 : decode cX5_unread 2 = .ok (.bipush 60, 2) := by decide +kernel
theorem dX5_unread_4 : decode cX5_unread 4 = .ok (.invokestatic 39, 3) := by decide +kernel
theorem dX5_unread_7 : decode cX5_unread 7 = .ok (.ifCond .eq 11, 3) := by decide +kernel
theorem dX5_unread_10 : decode cX5_unread 10 = .ok (.aload_n 0, 1) := by decide +kernel
theorem dX5_unread_11 : decode cX5_unread 11 = .ok (.iload_n 1, 1) := by decide +kernel
theorem dX5_unread_12 : decode cX5_unread 12 = .ok (.invokevirtual 199, 3) := by decide +kernel
theorem dX5_unread_15 : decode cX5_unread 15 = .ok (.goto 5, 3) := by decide +kernel
theorem dX5_unread_18 : decode cX5_unread 18 = .ok (.bipush (-2), 2) := by decide +kernel
theorem dX5_unread_20 : decode cX5_unread 20 = .ok (.ireturn, 1) := by decide +kernel
theorem dX5_leastPace_0 : decode cX5_leastPace 0 = .ok (.bipush (-6), 2) := by decide +kernel
theorem dX5_leastPace_2 : decode cX5_leastPace 2 = .ok (.istore_n 1, 1) := by decide +kernel
theorem dX5_leastPace_3 : decode cX5_leastPace 3 = .ok (.bipush 60, 2) := by decide +kernel
theorem dX5_leastPace_5 : decode cX5_leastPace 5 = .ok (.istore_n 2, 1) := by decide +kernel
theorem dX5_leastPace_6 : decode cX5_leastPace 6 = .ok (.iload_n 2, 1) := by decide +kernel
theorem dX5_leastPace_7 : decode cX5_leastPace 7 = .ok (.ifCond .le 23, 3) := by decide +kernel
theorem dX5_leastPace_10 : decode cX5_leastPace 10 = .ok (.aload_n 0, 1) := by decide +kernel
theorem dX5_leastPace_11 : decode cX5_leastPace 11 = .ok (.iload_n 2, 1) := by decide +kernel
theorem dX5_leastPace_12 : decode cX5_leastPace 12 = .ok (.invokevirtual 199, 3) := by decide +kernel
theorem dX5_leastPace_15 : decode cX5_leastPace 15 = .ok (.ifCond .ne 7, 3) := by decide +kernel
theorem dX5_leastPace_18 : decode cX5_leastPace 18 = .ok (.iload_n 2, 1) := by decide +kernel
theorem dX5_leastPace_19 : decode cX5_leastPace 19 = .ok (.goto 4, 3) := by decide +kernel
theorem dX5_leastPace_22 : decode cX5_leastPace 22 = .ok (.iload_n 1, 1) := by decide +kernel
theorem dX5_leastPace_23 : decode cX5_leastPace 23 = .ok (.istore_n 1, 1) := by decide +kernel
theorem dX5_leastPace_24 : decode cX5_leastPace 24 = .ok (.iinc 2 (-1), 3) := by decide +kernel
theorem dX5_leastPace_27 : decode cX5_leastPace 27 = .ok (.goto (-21), 3) := by decide +kernel
theorem dX5_leastPace_30 : decode cX5_leastPace 30 = .ok (.iload_n 1, 1) := by decide +kernel
theorem dX5_leastPace_31 : decode cX5_leastPace 31 = .ok (.ireturn, 1) := by decide +kernel
theorem dX5_ifSeated_0 : decode cX5_ifSeated 0 = .ok (.iload_n 1, 1) := by decide +kernel
theorem dX5_ifSeated_1 : decode cX5_ifSeated 1 = .ok (.iconst 0, 1) := by decide +kernel
theorem dX5_ifSeated_2 : decode cX5_ifSeated 2 = .ok (.iconst 2, 1) := by decide +kernel
theorem dX5_ifSeated_3 : decode cX5_ifSeated 3 = .ok (.invokestatic 39, 3) := by decide +kernel
theorem dX5_ifSeated_6 : decode cX5_ifSeated 6 = .ok (.ifCond .ne 6, 3) := by decide +kernel
theorem dX5_ifSeated_9 : decode cX5_ifSeated 9 = .ok (.bipush (-2), 2) := by decide +kernel
theorem dX5_ifSeated_11 : decode cX5_ifSeated 11 = .ok (.ireturn, 1) := by decide +kernel
theorem dX5_ifSeated_12 : decode cX5_ifSeated 12 = .ok (.aload_n 0, 1) := by decide +kernel
theorem dX5_ifSeated_13 : decode cX5_ifSeated 13 = .ok (.getfield 7, 3) := by decide +kernel
theorem dX5_ifSeated_16 : decode cX5_ifSeated 16 = .ok (.iconst 0, 1) := by decide +kernel
theorem dX5_ifSeated_17 : decode cX5_ifSeated 17 = .ok (.aload_n 0, 1) := by decide +kernel
theorem dX5_ifSeated_18 : decode cX5_ifSeated 18 = .ok (.getfield 13, 3) := by decide +kernel
theorem dX5_ifSeated_21 : decode cX5_ifSeated 21 = .ok (.iconst 0, 1) := by decide +kernel
theorem dX5_ifSeated_22 : decode cX5_ifSeated 22 = .ok (.invokestatic 31, 3) := by decide +kernel
theorem dX5_ifSeated_25 : decode cX5_ifSeated 25 = .ok (.aload_n 0, 1) := by decide +kernel
theorem dX5_ifSeated_26 : decode cX5_ifSeated 26 = .ok (.invokevirtual 180, 3) := by decide +kernel
theorem dX5_ifSeated_29 : decode cX5_ifSeated 29 = .ok (.istore_n 2, 1) := by decide +kernel
theorem dX5_ifSeated_30 : decode cX5_ifSeated 30 = .ok (.iload_n 1, 1) := by decide +kernel
theorem dX5_ifSeated_31 : decode cX5_ifSeated 31 = .ok (.ifCond .ne 7, 3) := by decide +kernel
theorem dX5_ifSeated_34 : decode cX5_ifSeated 34 = .ok (.iload_n 2, 1) := by decide +kernel
theorem dX5_ifSeated_35 : decode cX5_ifSeated 35 = .ok (.goto 20, 3) := by decide +kernel
theorem dX5_ifSeated_38 : decode cX5_ifSeated 38 = .ok (.iload_n 1, 1) := by decide +kernel
theorem dX5_ifSeated_39 : decode cX5_ifSeated 39 = .ok (.iconst 1, 1) := by decide +kernel
theorem dX5_ifSeated_40 : decode cX5_ifSeated 40 = .ok (.if_icmp .ne 11, 3) := by decide +kernel
theorem dX5_ifSeated_43 : decode cX5_ifSeated 43 = .ok (.aload_n 0, 1) := by decide +kernel
theorem dX5_ifSeated_44 : decode cX5_ifSeated 44 = .ok (.iconst 0, 1) := by decide +kernel
theorem dX5_ifSeated_45 : decode cX5_ifSeated 45 = .ok (.invokevirtual 192, 3) := by decide +kernel
theorem dX5_ifSeated_48 : decode cX5_ifSeated 48 = .ok (.goto 7, 3) := by decide +kernel
theorem dX5_ifSeated_51 : decode cX5_ifSeated 51 = .ok (.aload_n 0, 1) := by decide +kernel
theorem dX5_ifSeated_52 : decode cX5_ifSeated 52 = .ok (.invokevirtual 195, 3) := by decide +kernel
theorem dX5_ifSeated_55 : decode cX5_ifSeated 55 = .ok (.istore_n 3, 1) := by decide +kernel
theorem dX5_ifSeated_56 : decode cX5_ifSeated 56 = .ok (.aload_n 0, 1) := by decide +kernel
theorem dX5_ifSeated_57 : decode cX5_ifSeated 57 = .ok (.getfield 13, 3) := by decide +kernel
theorem dX5_ifSeated_60 : decode cX5_ifSeated 60 = .ok (.iconst 0, 1) := by decide +kernel
theorem dX5_ifSeated_61 : decode cX5_ifSeated 61 = .ok (.aload_n 0, 1) := by decide +kernel
theorem dX5_ifSeated_62 : decode cX5_ifSeated 62 = .ok (.getfield 7, 3) := by decide +kernel
theorem dX5_ifSeated_65 : decode cX5_ifSeated 65 = .ok (.iconst 0, 1) := by decide +kernel
theorem dX5_ifSeated_66 : decode cX5_ifSeated 66 = .ok (.invokestatic 31, 3) := by decide +kernel
theorem dX5_ifSeated_69 : decode cX5_ifSeated 69 = .ok (.iload_n 3, 1) := by decide +kernel
theorem dX5_ifSeated_70 : decode cX5_ifSeated 70 = .ok (.ireturn, 1) := by decide +kernel
theorem dX5_bestGap_0 : decode cX5_bestGap 0 = .ok (.aload_n 0, 1) := by decide +kernel
theorem dX5_bestGap_1 : decode cX5_bestGap 1 = .ok (.getfield 7, 3) := by decide +kernel
theorem dX5_bestGap_4 : decode cX5_bestGap 4 = .ok (.iconst 0, 1) := by decide +kernel
theorem dX5_bestGap_5 : decode cX5_bestGap 5 = .ok (.aload_n 0, 1) := by decide +kernel
theorem dX5_bestGap_6 : decode cX5_bestGap 6 = .ok (.getfield 13, 3) := by decide +kernel
theorem dX5_bestGap_9 : decode cX5_bestGap 9 = .ok (.iconst 0, 1) := by decide +kernel
theorem dX5_bestGap_10 : decode cX5_bestGap 10 = .ok (.invokestatic 31, 3) := by decide +kernel
theorem dX5_bestGap_13 : decode cX5_bestGap 13 = .ok (.iconst 0, 1) := by decide +kernel
theorem dX5_bestGap_14 : decode cX5_bestGap 14 = .ok (.istore_n 1, 1) := by decide +kernel
theorem dX5_bestGap_15 : decode cX5_bestGap 15 = .ok (.bipush 21, 2) := by decide +kernel
theorem dX5_bestGap_17 : decode cX5_bestGap 17 = .ok (.istore_n 2, 1) := by decide +kernel
theorem dX5_bestGap_18 : decode cX5_bestGap 18 = .ok (.iconst 0, 1) := by decide +kernel
theorem dX5_bestGap_19 : decode cX5_bestGap 19 = .ok (.istore_n 3, 1) := by decide +kernel
theorem dX5_bestGap_20 : decode cX5_bestGap 20 = .ok (.iload_n 3, 1) := by decide +kernel
theorem dX5_bestGap_21 : decode cX5_bestGap 21 = .ok (.bipush 20, 2) := by decide +kernel
theorem dX5_bestGap_23 : decode cX5_bestGap 23 = .ok (.if_icmp .gt 71, 3) := by decide +kernel
theorem dX5_bestGap_26 : decode cX5_bestGap 26 = .ok (.aload_n 0, 1) := by decide +kernel
theorem dX5_bestGap_27 : decode cX5_bestGap 27 = .ok (.getfield 7, 3) := by decide +kernel
theorem dX5_bestGap_30 : decode cX5_bestGap 30 = .ok (.iconst 2, 1) := by decide +kernel
theorem dX5_bestGap_31 : decode cX5_bestGap 31 = .ok (.iload_n 3, 1) := by decide +kernel
theorem dX5_bestGap_32 : decode cX5_bestGap 32 = .ok (.iastore, 1) := by decide +kernel
theorem dX5_bestGap_33 : decode cX5_bestGap 33 = .ok (.aload_n 0, 1) := by decide +kernel
theorem dX5_bestGap_34 : decode cX5_bestGap 34 = .ok (.invokevirtual 180, 3) := by decide +kernel
theorem dX5_bestGap_37 : decode cX5_bestGap 37 = .ok (.istore 4, 2) := by decide +kernel
theorem dX5_bestGap_39 : decode cX5_bestGap 39 = .ok (.aload_n 0, 1) := by decide +kernel
theorem dX5_bestGap_40 : decode cX5_bestGap 40 = .ok (.aload_n 0, 1) := by decide +kernel
theorem dX5_bestGap_41 : decode cX5_bestGap 41 = .ok (.iconst 0, 1) := by decide +kernel
theorem dX5_bestGap_42 : decode cX5_bestGap 42 = .ok (.invokevirtual 47, 3) := by decide +kernel
theorem dX5_bestGap_45 : decode cX5_bestGap 45 = .ok (.invokevirtual 199, 3) := by decide +kernel
theorem dX5_bestGap_48 : decode cX5_bestGap 48 = .ok (.istore 5, 2) := by decide +kernel
theorem dX5_bestGap_50 : decode cX5_bestGap 50 = .ok (.aload_n 0, 1) := by decide +kernel
theorem dX5_bestGap_51 : decode cX5_bestGap 51 = .ok (.getfield 13, 3) := by decide +kernel
theorem dX5_bestGap_54 : decode cX5_bestGap 54 = .ok (.iconst 0, 1) := by decide +kernel
theorem dX5_bestGap_55 : decode cX5_bestGap 55 = .ok (.aload_n 0, 1) := by decide +kernel
theorem dX5_bestGap_56 : decode cX5_bestGap 56 = .ok (.getfield 7, 3) := by decide +kernel
theorem dX5_bestGap_59 : decode cX5_bestGap 59 = .ok (.iconst 0, 1) := by decide +kernel
theorem dX5_bestGap_60 : decode cX5_bestGap 60 = .ok (.invokestatic 31, 3) := by decide +kernel
theorem dX5_bestGap_63 : decode cX5_bestGap 63 = .ok (.iload 5, 2) := by decide +kernel
theorem dX5_bestGap_65 : decode cX5_bestGap 65 = .ok (.iload_n 2, 1) := by decide +kernel
theorem dX5_bestGap_66 : decode cX5_bestGap 66 = .ok (.if_icmp .ge 7, 3) := by decide +kernel
theorem dX5_bestGap_69 : decode cX5_bestGap 69 = .ok (.iload_n 3, 1) := by decide +kernel
theorem dX5_bestGap_70 : decode cX5_bestGap 70 = .ok (.goto 4, 3) := by decide +kernel
theorem dX5_bestGap_73 : decode cX5_bestGap 73 = .ok (.iload_n 1, 1) := by decide +kernel
theorem dX5_bestGap_74 : decode cX5_bestGap 74 = .ok (.istore_n 1, 1) := by decide +kernel
theorem dX5_bestGap_75 : decode cX5_bestGap 75 = .ok (.iload 5, 2) := by decide +kernel
theorem dX5_bestGap_77 : decode cX5_bestGap 77 = .ok (.iload_n 2, 1) := by decide +kernel
theorem dX5_bestGap_78 : decode cX5_bestGap 78 = .ok (.if_icmp .ge 8, 3) := by decide +kernel
theorem dX5_bestGap_81 : decode cX5_bestGap 81 = .ok (.iload 5, 2) := by decide +kernel
theorem dX5_bestGap_83 : decode cX5_bestGap 83 = .ok (.goto 4, 3) := by decide +kernel
theorem dX5_bestGap_86 : decode cX5_bestGap 86 = .ok (.iload_n 2, 1) := by decide +kernel
theorem dX5_bestGap_87 : decode cX5_bestGap 87 = .ok (.istore_n 2, 1) := by decide +kernel
theorem dX5_bestGap_88 : decode cX5_bestGap 88 = .ok (.iinc 3 1, 3) := by decide +kernel
theorem dX5_bestGap_91 : decode cX5_bestGap 91 = .ok (.goto (-71), 3) := by decide +kernel
theorem dX5_bestGap_94 : decode cX5_bestGap 94 = .ok (.iload_n 1, 1) := by decide +kernel
theorem dX5_bestGap_95 : decode cX5_bestGap 95 = .ok (.ireturn, 1) := by decide +kernel
