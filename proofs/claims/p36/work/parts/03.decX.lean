theorem dX0_init_0 : decode cX0_init 0 = .ok (.aload_n 0, 1) := by decide +kernel
theorem dX0_init_1 : decode cX0_init 1 = .ok (.invokespecial 3, 3) := by decide +kernel
theorem dX0_init_4 : decode cX0_init 4 = .ok (.aload_n 0, 1) := by decide +kernel
theorem dX0_init_5 : decode cX0_init 5 = .ok (.bipush 12, 2) := by decide +kernel
theorem dX0_init_7 : decode cX0_init 7 = .ok (.newarray .int, 2) := by decide +kernel
theorem dX0_init_9 : decode cX0_init 9 = .ok (.putfield 11, 3) := by decide +kernel
theorem dX0_init_12 : decode cX0_init 12 = .ok (.aload_n 0, 1) := by decide +kernel
theorem dX0_init_13 : decode cX0_init 13 = .ok (.bipush 12, 2) := by decide +kernel
theorem dX0_init_15 : decode cX0_init 15 = .ok (.newarray .int, 2) := by decide +kernel
theorem dX0_init_17 : decode cX0_init 17 = .ok (.putfield 17, 3) := by decide +kernel
theorem dX0_init_20 : decode cX0_init 20 = .ok (.aload_n 0, 1) := by decide +kernel
theorem dX0_init_21 : decode cX0_init 21 = .ok (.iconst 0, 1) := by decide +kernel
theorem dX0_init_22 : decode cX0_init 22 = .ok (.putfield 20, 3) := by decide +kernel
theorem dX0_init_25 : decode cX0_init 25 = .ok (.aload_n 0, 1) := by decide +kernel
theorem dX0_init_26 : decode cX0_init 26 = .ok (.bipush 20, 2) := by decide +kernel
theorem dX0_init_28 : decode cX0_init 28 = .ok (.newarray .int, 2) := by decide +kernel
theorem dX0_init_30 : decode cX0_init 30 = .ok (.putfield 24, 3) := by decide +kernel
theorem dX0_init_33 : decode cX0_init 33 = .ok (.aload_n 0, 1) := by decide +kernel
theorem dX0_init_34 : decode cX0_init 34 = .ok (.bipush 20, 2) := by decide +kernel
theorem dX0_init_36 : decode cX0_init 36 = .ok (.newarray .int, 2) := by decide +kernel
theorem dX0_init_38 : decode cX0_init 38 = .ok (.putfield 27, 3) := by decide +kernel
theorem dX0_init_41 : decode cX0_init 41 = .ok (.aload_n 0, 1) := by decide +kernel
theorem dX0_init_42 : decode cX0_init 42 = .ok (.bipush 20, 2) := by decide +kernel
theorem dX0_init_44 : decode cX0_init 44 = .ok (.newarray .int, 2) := by decide +kernel
theorem dX0_init_46 : decode cX0_init 46 = .ok (.putfield 30, 3) := by decide +kernel
theorem dX0_init_49 : decode cX0_init 49 = .ok (.aload_n 0, 1) := by decide +kernel
theorem dX0_init_50 : decode cX0_init 50 = .ok (.bipush 12, 2) := by decide +kernel
theorem dX0_init_52 : decode cX0_init 52 = .ok (.newarray .int, 2) := by decide +kernel
theorem dX0_init_54 : decode cX0_init 54 = .ok (.putfield 33, 3) := by decide +kernel
theorem dX0_init_57 : decode cX0_init 57 = .ok (.aload_n 0, 1) := by decide +kernel
theorem dX0_init_58 : decode cX0_init 58 = .ok (.bipush 12, 2) := by decide +kernel
theorem dX0_init_60 : decode cX0_init 60 = .ok (.newarray .int, 2) := by decide +kernel
theorem dX0_init_62 : decode cX0_init 62 = .ok (.putfield 36, 3) := by decide +kernel
theorem dX0_init_65 : decode cX0_init 65 = .ok (.aload_n 0, 1) := by decide +kernel
theorem dX0_init_66 : decode cX0_init 66 = .ok (.bipush 12, 2) := by decide +kernel
theorem dX0_init_68 : decode cX0_init 68 = .ok (.bipush 12, 2) := by decide +kernel
theorem dX0_init_70 : decode cX0_init 70 = .ok (.multianewarray 39 2, 4) := by decide +kernel
theorem dX0_init_74 : decode cX0_init 74 = .ok (.putfield 41, 3) := by decide +kernel
theorem dX0_init_77 : decode cX0_init 77 = .ok (.return_, 1) := by decide +kernel
theorem dX0_isShift_0 : decode cX0_isShift 0 = .ok (.iload_n 0, 1) := by decide +kernel
theorem dX0_isShift_1 : decode cX0_isShift 1 = .ok (.sipush (-500), 3) := by decide +kernel
theorem dX0_isShift_4 : decode cX0_isShift 4 = .ok (.if_icmp .lt 14, 3) := by decide +kernel
theorem dX0_isShift_7 : decode cX0_isShift 7 = .ok (.iload_n 0, 1) := by decide +kernel
theorem dX0_isShift_8 : decode cX0_isShift 8 = .ok (.sipush 500, 3) := by decide +kernel
theorem dX0_isShift_11 : decode cX0_isShift 11 = .ok (.if_icmp .gt 7, 3) := by decide +kernel
theorem dX0_isShift_14 : decode cX0_isShift 14 = .ok (.iconst 1, 1) := by decide +kernel
theorem dX0_isShift_15 : decode cX0_isShift 15 = .ok (.goto 4, 3) := by decide +kernel
theorem dX0_isShift_18 : decode cX0_isShift 18 = .ok (.iconst 0, 1) := by decide +kernel
theorem dX0_isShift_19 : decode cX0_isShift 19 = .ok (.ireturn, 1) := by decide +kernel
theorem dX0_add_0 : decode cX0_add 0 = .ok (.aload_n 0, 1) := by decide +kernel
theorem dX0_add_1 : decode cX0_add 1 = .ok (.getfield 20, 3) := by decide +kernel
theorem dX0_add_4 : decode cX0_add 4 = .ok (.bipush 20, 2) := by decide +kernel
theorem dX0_add_6 : decode cX0_add 6 = .ok (.if_icmp .lt 6, 3) := by decide +kernel
theorem dX0_add_9 : decode cX0_add 9 = .ok (.bipush (-4), 2) := by decide +kernel
theorem dX0_add_11 : decode cX0_add 11 = .ok (.ireturn, 1) := by decide +kernel
theorem dX0_add_12 : decode cX0_add 12 = .ok (.aload_n 0, 1) := by decide +kernel
theorem dX0_add_13 : decode cX0_add 13 = .ok (.getfield 24, 3) := by decide +kernel
theorem dX0_add_16 : decode cX0_add 16 = .ok (.aload_n 0, 1) := by decide +kernel
theorem dX0_add_17 : decode cX0_add 17 = .ok (.getfield 20, 3) := by decide +kernel
theorem dX0_add_20 : decode cX0_add 20 = .ok (.iload_n 1, 1) := by decide +kernel
theorem dX0_add_21 : decode cX0_add 21 = .ok (.iastore, 1) := by decide +kernel
theorem dX0_add_22 : decode cX0_add 22 = .ok (.aload_n 0, 1) := by decide +kernel
theorem dX0_add_23 : decode cX0_add 23 = .ok (.getfield 27, 3) := by decide +kernel
theorem dX0_add_26 : decode cX0_add 26 = .ok (.aload_n 0, 1) := by decide +kernel
theorem dX0_add_27 : decode cX0_add 27 = .ok (.getfield 20, 3) := by decide +kernel
theorem dX0_add_30 : decode cX0_add 30 = .ok (.iload_n 2, 1) := by decide +kernel
theorem dX0_add_31 : decode cX0_add 31 = .ok (.iastore, 1) := by decide +kernel
theorem dX0_add_32 : decode cX0_add 32 = .ok (.aload_n 0, 1) := by decide +kernel
theorem dX0_add_33 : decode cX0_add 33 = .ok (.getfield 30, 3) := by decide +kernel
theorem dX0_add_36 : decode cX0_add 36 = .ok (.aload_n 0, 1) := by decide +kernel
theorem dX0_add_37 : decode cX0_add 37 = .ok (.getfield 20, 3) := by decide +kernel
theorem dX0_add_40 : decode cX0_add 40 = .ok (.iload_n 3, 1) := by decide +kernel
theorem dX0_add_41 : decode cX0_add 41 = .ok (.iastore, 1) := by decide +kernel
theorem dX0_add_42 : decode cX0_add 42 = .ok (.aload_n 0, 1) := by decide +kernel
theorem dX0_add_43 : decode cX0_add 43 = .ok (.dup, 1) := by decide +kernel
theorem dX0_add_44 : decode cX0_add 44 = .ok (.getfield 20, 3) := by decide +kernel
theorem dX0_add_47 : decode cX0_add 47 = .ok (.iconst 1, 1) := by decide +kernel
theorem dX0_add_48 : decode cX0_add 48 = .ok (.iadd, 1) := by decide +kernel
theorem dX0_add_49 : decode cX0_add 49 = .ok (.putfield 20, 3) := by decide +kernel
theorem dX0_add_52 : decode cX0_add 52 = .ok (.aload_n 0, 1) := by decide +kernel
theorem dX0_add_53 : decode cX0_add 53 = .ok (.getfield 20, 3) := by decide +kernel
theorem dX0_add_56 : decode cX0_add 56 = .ok (.ireturn, 1) := by decide +kernel
theorem dX0_removeLast_0 : decode cX0_removeLast 0 = .ok (.aload_n 0, 1) := by decide +kernel
theorem dX0_removeLast_1 : decode cX0_removeLast 1 = .ok (.getfield 20, 3) := by decide +kernel
theorem dX0_removeLast_4 : decode cX0_removeLast 4 = .ok (.ifCond .ne 6, 3) := by decide +kernel
theorem dX0_removeLast_7 : decode cX0_removeLast 7 = .ok (.bipush (-3), 2) := by decide +kernel
theorem dX0_removeLast_9 : decode cX0_removeLast 9 = .ok (.ireturn, 1) := by decide +kernel
theorem dX0_removeLast_10 : decode cX0_removeLast 10 = .ok (.aload_n 0, 1) := by decide +kernel
theorem dX0_removeLast_11 : decode cX0_removeLast 11 = .ok (.dup, 1) := by decide +kernel
theorem dX0_removeLast_12 : decode cX0_removeLast 12 = .ok (.getfield 20, 3) := by decide +kernel
theorem dX0_removeLast_15 : decode cX0_removeLast 15 = .ok (.iconst 1, 1) := by decide +kernel
theorem dX0_removeLast_16 : decode cX0_removeLast 16 = .ok (.isub, 1) := by decide +kernel
theorem dX0_removeLast_17 : decode cX0_removeLast 17 = .ok (.putfield 20, 3) := by decide +kernel
theorem dX0_removeLast_20 : decode cX0_removeLast 20 = .ok (.aload_n 0, 1) := by decide +kernel
theorem dX0_removeLast_21 : decode cX0_removeLast 21 = .ok (.getfield 20, 3) := by decide +kernel
theorem dX0_removeLast_24 : decode cX0_removeLast 24 = .ok (.ireturn, 1) := by decide +kernel
theorem dX0_settle_0 : decode cX0_settle 0 = .ok (.aload_n 0, 1) := by decide +kernel
theorem dX0_settle_1 : decode cX0_settle 1 = .ok (.aload_n 1, 1) := by decide +kernel
theorem dX0_settle_2 : decode cX0_settle 2 = .ok (.aload_n 0, 1) := by decide +kernel
theorem dX0_settle_3 : decode cX0_settle 3 = .ok (.invokevirtual 44, 3) := by decide +kernel
theorem dX0_settle_6 : decode cX0_settle 6 = .ok (.invokevirtual 48, 3) := by decide +kernel
theorem dX0_settle_9 : decode cX0_settle 9 = .ok (.ifCond .ne 5, 3) := by decide +kernel
theorem dX0_settle_12 : decode cX0_settle 12 = .ok (.iconst 0, 1) := by decide +kernel
theorem dX0_settle_13 : decode cX0_settle 13 = .ok (.ireturn, 1) := by decide +kernel
theorem dX0_settle_14 : decode cX0_settle 14 = .ok (.aload_n 0, 1) := by decide +kernel
theorem dX0_settle_15 : decode cX0_settle 15 = .ok (.invokevirtual 52, 3) := by decide +kernel
theorem dX0_settle_18 : decode cX0_settle 18 = .ok (.iconst 0, 1) := by decide +kernel
theorem dX0_settle_19 : decode cX0_settle 19 = .ok (.istore_n 2, 1) := by decide +kernel
theorem dX0_settle_20 : decode cX0_settle 20 = .ok (.iload_n 2, 1) := by decide +kernel
theorem dX0_settle_21 : decode cX0_settle 21 = .ok (.aload_n 1, 1) := by decide +kernel
theorem dX0_settle_22 : decode cX0_settle 22 = .ok (.getfield 55, 3) := by decide +kernel
theorem dX0_settle_25 : decode cX0_settle 25 = .ok (.if_icmp .ge 43, 3) := by decide +kernel
theorem dX0_settle_28 : decode cX0_settle 28 = .ok (.aload_n 0, 1) := by decide +kernel
theorem dX0_settle_29 : decode cX0_settle 29 = .ok (.getfield 11, 3) := by decide +kernel
theorem dX0_settle_32 : decode cX0_settle 32 = .ok (.iload_n 2, 1) := by decide +kernel
theorem dX0_settle_33 : decode cX0_settle 33 = .ok (.aload_n 0, 1) := by decide +kernel
theorem dX0_settle_34 : decode cX0_settle 34 = .ok (.getfield 11, 3) := by decide +kernel
theorem dX0_settle_37 : decode cX0_settle 37 = .ok (.aload_n 0, 1) := by decide +kernel
theorem dX0_settle_38 : decode cX0_settle 38 = .ok (.getfield 33, 3) := by decide +kernel
theorem dX0_settle_41 : decode cX0_settle 41 = .ok (.iload_n 2, 1) := by decide +kernel
theorem dX0_settle_42 : decode cX0_settle 42 = .ok (.iaload, 1) := by decide +kernel
theorem dX0_settle_43 : decode cX0_settle 43 = .ok (.iaload, 1) := by decide +kernel
theorem dX0_settle_44 : decode cX0_settle 44 = .ok (.iastore, 1) := by decide +kernel
theorem dX0_settle_45 : decode cX0_settle 45 = .ok (.aload_n 0, 1) := by decide +kernel
theorem dX0_settle_46 : decode cX0_settle 46 = .ok (.getfield 17, 3) := by decide +kernel
theorem dX0_settle_49 : decode cX0_settle 49 = .ok (.iload_n 2, 1) := by decide +kernel
theorem dX0_settle_50 : decode cX0_settle 50 = .ok (.aload_n 0, 1) := by decide +kernel
theorem dX0_settle_51 : decode cX0_settle 51 = .ok (.getfield 17, 3) := by decide +kernel
theorem dX0_settle_54 : decode cX0_settle 54 = .ok (.aload_n 0, 1) := by decide +kernel
theorem dX0_settle_55 : decode cX0_settle 55 = .ok (.getfield 33, 3) := by decide +kernel
theorem dX0_settle_58 : decode cX0_settle 58 = .ok (.iload_n 2, 1) := by decide +kernel
theorem dX0_settle_59 : decode cX0_settle 59 = .ok (.iaload, 1) := by decide +kernel
theorem dX0_settle_60 : decode cX0_settle 60 = .ok (.iaload, 1) := by decide +kernel
theorem dX0_settle_61 : decode cX0_settle 61 = .ok (.iastore, 1) := by decide +kernel
theorem dX0_settle_62 : decode cX0_settle 62 = .ok (.iinc 2 1, 3) := by decide +kernel
theorem dX0_settle_65 : decode cX0_settle 65 = .ok (.goto (-45), 3) := by decide +kernel
theorem dX0_settle_68 : decode cX0_settle 68 = .ok (.iconst 1, 1) := by decide +kernel
theorem dX0_settle_69 : decode cX0_settle 69 = .ok (.ireturn, 1) := by decide +kernel
theorem dX0_conflict_0 : decode cX0_conflict 0 = .ok (.aload_n 0, 1) := by decide +kernel
theorem dX0_conflict_1 : decode cX0_conflict 1 = .ok (.invokevirtual 44, 3) := by decide +kernel
theorem dX0_conflict_4 : decode cX0_conflict 4 = .ok (.istore_n 2, 1) := by decide +kernel
theorem dX0_conflict_5 : decode cX0_conflict 5 = .ok (.aload_n 0, 1) := by decide +kernel
theorem dX0_conflict_6 : decode cX0_conflict 6 = .ok (.aload_n 1, 1) := by decide +kernel
theorem dX0_conflict_7 : decode cX0_conflict 7 = .ok (.iload_n 2, 1) := by decide +kernel
theorem dX0_conflict_8 : decode cX0_conflict 8 = .ok (.invokevirtual 48, 3) := by decide +kernel
theorem dX0_conflict_11 : decode cX0_conflict 11 = .ok (.ifCond .eq 5, 3) := by decide +kernel
theorem dX0_conflict_14 : decode cX0_conflict 14 = .ok (.iconst (-1), 1) := by decide +kernel
theorem dX0_conflict_15 : decode cX0_conflict 15 = .ok (.ireturn, 1) := by decide +kernel
theorem dX0_conflict_16 : decode cX0_conflict 16 = .ok (.aload_n 0, 1) := by decide +kernel
theorem dX0_conflict_17 : decode cX0_conflict 17 = .ok (.getfield 20, 3) := by decide +kernel
theorem dX0_conflict_20 : decode cX0_conflict 20 = .ok (.iconst 1, 1) := by decide +kernel
theorem dX0_conflict_21 : decode cX0_conflict 21 = .ok (.isub, 1) := by decide +kernel
theorem dX0_conflict_22 : decode cX0_conflict 22 = .ok (.istore_n 3, 1) := by decide +kernel
theorem dX0_conflict_23 : decode cX0_conflict 23 = .ok (.iload_n 3, 1) := by decide +kernel
theorem dX0_conflict_24 : decode cX0_conflict 24 = .ok (.ifCond .lt 31, 3) := by decide +kernel
theorem dX0_conflict_27 : decode cX0_conflict 27 = .ok (.iload_n 2, 1) := by decide +kernel
theorem dX0_conflict_28 : decode cX0_conflict 28 = .ok (.iconst 1, 1) := by decide +kernel
theorem dX0_conflict_29 : decode cX0_conflict 29 = .ok (.iload_n 3, 1) := by decide +kernel
theorem dX0_conflict_30 : decode cX0_conflict 30 = .ok (.ishl, 1) := by decide +kernel
theorem dX0_conflict_31 : decode cX0_conflict 31 = .ok (.iconst (-1), 1) := by decide +kernel
theorem dX0_conflict_32 : decode cX0_conflict 32 = .ok (.ixor, 1) := by decide +kernel
theorem dX0_conflict_33 : decode cX0_conflict 33 = .ok (.iand, 1) := by decide +kernel
theorem dX0_conflict_34 : decode cX0_conflict 34 = .ok (.istore 4, 2) := by decide +kernel
theorem dX0_conflict_36 : decode cX0_conflict 36 = .ok (.aload_n 0, 1) := by decide +kernel
theorem dX0_conflict_37 : decode cX0_conflict 37 = .ok (.aload_n 1, 1) := by decide +kernel
theorem dX0_conflict_38 : decode cX0_conflict 38 = .ok (.iload 4, 2) := by decide +kernel
theorem dX0_conflict_40 : decode cX0_conflict 40 = .ok (.invokevirtual 48, 3) := by decide +kernel
theorem dX0_conflict_43 : decode cX0_conflict 43 = .ok (.ifCond .ne 6, 3) := by decide +kernel
theorem dX0_conflict_46 : decode cX0_conflict 46 = .ok (.iload 4, 2) := by decide +kernel
theorem dX0_conflict_48 : decode cX0_conflict 48 = .ok (.istore_n 2, 1) := by decide +kernel
theorem dX0_conflict_49 : decode cX0_conflict 49 = .ok (.iinc 3 (-1), 3) := by decide +kernel
theorem dX0_conflict_52 : decode cX0_conflict 52 = .ok (.goto (-29), 3) := by decide +kernel
theorem dX0_conflict_55 : decode cX0_conflict 55 = .ok (.iload_n 2, 1) := by decide +kernel
theorem dX0_conflict_56 : decode cX0_conflict 56 = .ok (.ireturn, 1) := by decide +kernel
theorem dX0_isAhead_0 : decode cX0_isAhead 0 = .ok (.aload_n 0, 1) := by decide +kernel
theorem dX0_isAhead_1 : decode cX0_isAhead 1 = .ok (.getfield 17, 3) := by decide +kernel
theorem dX0_isAhead_4 : decode cX0_isAhead 4 = .ok (.iload_n 1, 1) := by decide +kernel
theorem dX0_isAhead_5 : decode cX0_isAhead 5 = .ok (.iaload, 1) := by decide +kernel
theorem dX0_isAhead_6 : decode cX0_isAhead 6 = .ok (.aload_n 0, 1) := by decide +kernel
theorem dX0_isAhead_7 : decode cX0_isAhead 7 = .ok (.getfield 11, 3) := by decide +kernel
theorem dX0_isAhead_10 : decode cX0_isAhead 10 = .ok (.iload_n 2, 1) := by decide +kernel
theorem dX0_isAhead_11 : decode cX0_isAhead 11 = .ok (.iaload, 1) := by decide +kernel
theorem dX0_isAhead_12 : decode cX0_isAhead 12 = .ok (.if_icmp .lt 24, 3) := by decide +kernel
theorem dX0_isAhead_15 : decode cX0_isAhead 15 = .ok (.aload_n 0, 1) := by decide +kernel
theorem dX0_isAhead_16 : decode cX0_isAhead 16 = .ok (.getfield 41, 3) := by decide +kernel
theorem dX0_isAhead_19 : decode cX0_isAhead 19 = .ok (.aload_n 0, 1) := by decide +kernel
theorem dX0_isAhead_20 : decode cX0_isAhead 20 = .ok (.getfield 33, 3) := by decide +kernel
theorem dX0_isAhead_23 : decode cX0_isAhead 23 = .ok (.iload_n 1, 1) := by decide +kernel
theorem dX0_isAhead_24 : decode cX0_isAhead 24 = .ok (.iaload, 1) := by decide +kernel
theorem dX0_isAhead_25 : decode cX0_isAhead 25 = .ok (.aaload, 1) := by decide +kernel
theorem dX0_isAhead_26 : decode cX0_isAhead 26 = .ok (.aload_n 0, 1) := by decide +kernel
theorem dX0_isAhead_27 : decode cX0_isAhead 27 = .ok (.getfield 33, 3) := by decide +kernel
theorem dX0_isAhead_30 : decode cX0_isAhead 30 = .ok (.iload_n 2, 1) := by decide +kernel
theorem dX0_isAhead_31 : decode cX0_isAhead 31 = .ok (.iaload, 1) := by decide +kernel
theorem dX0_isAhead_32 : decode cX0_isAhead 32 = .ok (.iaload, 1) := by decide +kernel
theorem dX0_isAhead_33 : decode cX0_isAhead 33 = .ok (.ifCond .le 7, 3) := by decide +kernel
theorem dX0_isAhead_36 : decode cX0_isAhead 36 = .ok (.iconst 1, 1) := by decide +kernel
theorem dX0_isAhead_37 : decode cX0_isAhead 37 = .ok (.goto 4, 3) := by decide +kernel
theorem dX0_isAhead_40 : decode cX0_isAhead 40 = .ok (.iconst 0, 1) := by decide +kernel
theorem dX0_isAhead_41 : decode cX0_isAhead 41 = .ok (.ireturn, 1) := by decide +kernel
theorem dX0_measurePaths_0 : decode cX0_measurePaths 0 = .ok (.iconst 0, 1) := by decide +kernel
theorem dX0_measurePaths_1 : decode cX0_measurePaths 1 = .ok (.istore_n 2, 1) := by decide +kernel
theorem dX0_measurePaths_2 : decode cX0_measurePaths 2 = .ok (.iload_n 2, 1) := by decide +kernel
theorem dX0_measurePaths_3 : decode cX0_measurePaths 3 = .ok (.iload_n 1, 1) := by decide +kernel
theorem dX0_measurePaths_4 : decode cX0_measurePaths 4 = .ok (.if_icmp .ge 41, 3) := by decide +kernel
theorem dX0_measurePaths_7 : decode cX0_measurePaths 7 = .ok (.iconst 0, 1) := by decide +kernel
theorem dX0_measurePaths_8 : decode cX0_measurePaths 8 = .ok (.istore_n 3, 1) := by decide +kernel
theorem dX0_measurePaths_9 : decode cX0_measurePaths 9 = .ok (.iload_n 3, 1) := by decide +kernel
theorem dX0_measurePaths_10 : decode cX0_measurePaths 10 = .ok (.iload_n 1, 1) := by decide +kernel
theorem dX0_measurePaths_11 : decode cX0_measurePaths 11 = .ok (.if_icmp .ge 28, 3) := by decide +kernel
theorem dX0_measurePaths_14 : decode cX0_measurePaths 14 = .ok (.aload_n 0, 1) := by decide +kernel
theorem dX0_measurePaths_15 : decode cX0_measurePaths 15 = .ok (.getfield 41, 3) := by decide +kernel
theorem dX0_measurePaths_18 : decode cX0_measurePaths 18 = .ok (.iload_n 2, 1) := by decide +kernel
theorem dX0_measurePaths_19 : decode cX0_measurePaths 19 = .ok (.aaload, 1) := by decide +kernel
theorem dX0_measurePaths_20 : decode cX0_measurePaths 20 = .ok (.iload_n 3, 1) := by decide +kernel
theorem dX0_measurePaths_21 : decode cX0_measurePaths 21 = .ok (.iload_n 2, 1) := by decide +kernel
theorem dX0_measurePaths_22 : decode cX0_measurePaths 22 = .ok (.iload_n 3, 1) := by decide +kernel
theorem dX0_measurePaths_23 : decode cX0_measurePaths 23 = .ok (.if_icmp .ne 7, 3) := by decide +kernel
theorem dX0_measurePaths_26 : decode cX0_measurePaths 26 = .ok (.iconst 0, 1) := by decide +kernel
theorem dX0_measurePaths_27 : decode cX0_measurePaths 27 = .ok (.goto 5, 3) := by decide +kernel
theorem dX0_measurePaths_30 : decode cX0_measurePaths 30 = .ok (.ldc 56, 2) := by decide +kernel
theorem dX0_measurePaths_32 : decode cX0_measurePaths 32 = .ok (.iastore, 1) := by decide +kernel
theorem dX0_measurePaths_33 : decode cX0_measurePaths 33 = .ok (.iinc 3 1, 3) := by decide +kernel
theorem dX0_measurePaths_36 : decode cX0_measurePaths 36 = .ok (.goto (-27), 3) := by decide +kernel
theorem dX0_measurePaths_39 : decode cX0_measurePaths 39 = .ok (.iinc 2 1, 3) := by decide +kernel
theorem dX0_measurePaths_42 : decode cX0_measurePaths 42 = .ok (.goto (-40), 3) := by decide +kernel
theorem dX0_measurePaths_45 : decode cX0_measurePaths 45 = .ok (.iconst 0, 1) := by decide +kernel
theorem dX0_measurePaths_46 : decode cX0_measurePaths 46 = .ok (.istore_n 2, 1) := by decide +kernel
theorem dX0_measurePaths_47 : decode cX0_measurePaths 47 = .ok (.iload_n 2, 1) := by decide +kernel
theorem dX0_measurePaths_48 : decode cX0_measurePaths 48 = .ok (.aload_n 0, 1) := by decide +kernel
theorem dX0_measurePaths_49 : decode cX0_measurePaths 49 = .ok (.getfield 20, 3) := by decide +kernel
theorem dX0_measurePaths_52 : decode cX0_measurePaths 52 = .ok (.if_icmp .ge 61, 3) := by decide +kernel
theorem dX0_measurePaths_55 : decode cX0_measurePaths 55 = .ok (.aload_n 0, 1) := by decide +kernel
theorem dX0_measurePaths_56 : decode cX0_measurePaths 56 = .ok (.getfield 33, 3) := by decide +kernel
theorem dX0_measurePaths_59 : decode cX0_measurePaths 59 = .ok (.aload_n 0, 1) := by decide +kernel
theorem dX0_measurePaths_60 : decode cX0_measurePaths 60 = .ok (.getfield 24, 3) := by decide +kernel
theorem dX0_measurePaths_63 : decode cX0_measurePaths 63 = .ok (.iload_n 2, 1) := by decide +kernel
theorem dX0_measurePaths_64 : decode cX0_measurePaths 64 = .ok (.iaload, 1) := by decide +kernel
theorem dX0_measurePaths_65 : decode cX0_measurePaths 65 = .ok (.iaload, 1) := by decide +kernel
theorem dX0_measurePaths_66 : decode cX0_measurePaths 66 = .ok (.istore_n 3, 1) := by decide +kernel
theorem dX0_measurePaths_67 : decode cX0_measurePaths 67 = .ok (.aload_n 0, 1) := by decide +kernel
theorem dX0_measurePaths_68 : decode cX0_measurePaths 68 = .ok (.getfield 33, 3) := by decide +kernel
theorem dX0_measurePaths_71 : decode cX0_measurePaths 71 = .ok (.aload_n 0, 1) := by decide +kernel
theorem dX0_measurePaths_72 : decode cX0_measurePaths 72 = .ok (.getfield 27, 3) := by decide +kernel
theorem dX0_measurePaths_75 : decode cX0_measurePaths 75 = .ok (.iload_n 2, 1) := by decide +kernel
theorem dX0_measurePaths_76 : decode cX0_measurePaths 76 = .ok (.iaload, 1) := by decide +kernel
theorem dX0_measurePaths_77 : decode cX0_measurePaths 77 = .ok (.iaload, 1) := by decide +kernel
theorem dX0_measurePaths_78 : decode cX0_measurePaths 78 = .ok (.istore 4, 2) := by decide +kernel
theorem dX0_measurePaths_80 : decode cX0_measurePaths 80 = .ok (.aload_n 0, 1) := by decide +kernel
theorem dX0_measurePaths_81 : decode cX0_measurePaths 81 = .ok (.getfield 41, 3) := by decide +kernel
theorem dX0_measurePaths_84 : decode cX0_measurePaths 84 = .ok (.iload_n 3, 1) := by decide +kernel
theorem dX0_measurePaths_85 : decode cX0_measurePaths 85 = .ok (.aaload, 1) := by decide +kernel
theorem dX0_measurePaths_86 : decode cX0_measurePaths 86 = .ok (.iload 4, 2) := by decide +kernel
theorem dX0_measurePaths_88 : decode cX0_measurePaths 88 = .ok (.aload_n 0, 1) := by decide +kernel
theorem dX0_measurePaths_89 : decode cX0_measurePaths 89 = .ok (.getfield 41, 3) := by decide +kernel
theorem dX0_measurePaths_92 : decode cX0_measurePaths 92 = .ok (.iload_n 3, 1) := by decide +kernel
theorem dX0_measurePaths_93 : decode cX0_measurePaths 93 = .ok (.aaload, 1) := by decide +kernel
theorem dX0_measurePaths_94 : decode cX0_measurePaths 94 = .ok (.iload 4, 2) := by decide +kernel
theorem dX0_measurePaths_96 : decode cX0_measurePaths 96 = .ok (.iaload, 1) := by decide +kernel
theorem dX0_measurePaths_97 : decode cX0_measurePaths 97 = .ok (.aload_n 0, 1) := by decide +kernel
theorem dX0_measurePaths_98 : decode cX0_measurePaths 98 = .ok (.getfield 30, 3) := by decide +kernel
theorem dX0_measurePaths_101 : decode cX0_measurePaths 101 = .ok (.iload_n 2, 1) := by decide +kernel
theorem dX0_measurePaths_102 : decode cX0_measurePaths 102 = .ok (.iaload, 1) := by decide +kernel
theorem dX0_measurePaths_103 : decode cX0_measurePaths 103 = .ok (.invokestatic 57, 3) := by decide +kernel
theorem dX0_measurePaths_106 : decode cX0_measurePaths 106 = .ok (.iastore, 1) := by decide +kernel
theorem dX0_measurePaths_107 : decode cX0_measurePaths 107 = .ok (.iinc 2 1, 3) := by decide +kernel
theorem dX0_measurePaths_110 : decode cX0_measurePaths 110 = .ok (.goto (-63), 3) := by decide +kernel
theorem dX0_measurePaths_113 : decode cX0_measurePaths 113 = .ok (.iconst 0, 1) := by decide +kernel
theorem dX0_measurePaths_114 : decode cX0_measurePaths 114 = .ok (.istore_n 2, 1) := by decide +kernel
theorem dX0_measurePaths_115 : decode cX0_measurePaths 115 = .ok (.iload_n 2, 1) := by decide +kernel
theorem dX0_measurePaths_116 : decode cX0_measurePaths 116 = .ok (.iload_n 1, 1) := by decide +kernel
theorem dX0_measurePaths_117 : decode cX0_measurePaths 117 = .ok (.if_icmp .ge 15, 3) := by decide +kernel
theorem dX0_measurePaths_120 : decode cX0_measurePaths 120 = .ok (.aload_n 0, 1) := by decide +kernel
theorem dX0_measurePaths_121 : decode cX0_measurePaths 121 = .ok (.iload_n 1, 1) := by decide +kernel
theorem dX0_measurePaths_122 : decode cX0_measurePaths 122 = .ok (.iload_n 2, 1) := by decide +kernel
theorem dX0_measurePaths_123 : decode cX0_measurePaths 123 = .ok (.invokevirtual 63, 3) := by decide +kernel
theorem dX0_measurePaths_126 : decode cX0_measurePaths 126 = .ok (.iinc 2 1, 3) := by decide +kernel
theorem dX0_measurePaths_129 : decode cX0_measurePaths 129 = .ok (.goto (-14), 3) := by decide +kernel
theorem dX0_measurePaths_132 : decode cX0_measurePaths 132 = .ok (.return_, 1) := by decide +kernel
theorem dX0_joinPaths_0 : decode cX0_joinPaths 0 = .ok (.iconst 0, 1) := by decide +kernel
theorem dX0_joinPaths_1 : decode cX0_joinPaths 1 = .ok (.istore_n 3, 1) := by decide +kernel
theorem dX0_joinPaths_2 : decode cX0_joinPaths 2 = .ok (.iload_n 3, 1) := by decide +kernel
theorem dX0_joinPaths_3 : decode cX0_joinPaths 3 = .ok (.iload_n 1, 1) := by decide +kernel
theorem dX0_joinPaths_4 : decode cX0_joinPaths 4 = .ok (.if_icmp .ge 90, 3) := by decide +kernel
theorem dX0_joinPaths_7 : decode cX0_joinPaths 7 = .ok (.iconst 0, 1) := by decide +kernel
theorem dX0_joinPaths_8 : decode cX0_joinPaths 8 = .ok (.istore 4, 2) := by decide +kernel
theorem dX0_joinPaths_10 : decode cX0_joinPaths 10 = .ok (.iload 4, 2) := by decide +kernel
theorem dX0_joinPaths_12 : decode cX0_joinPaths 12 = .ok (.iload_n 1, 1) := by decide +kernel
theorem dX0_joinPaths_13 : decode cX0_joinPaths 13 = .ok (.if_icmp .ge 75, 3) := by decide +kernel
theorem dX0_joinPaths_16 : decode cX0_joinPaths 16 = .ok (.aload_n 0, 1) := by decide +kernel
theorem dX0_joinPaths_17 : decode cX0_joinPaths 17 = .ok (.getfield 41, 3) := by decide +kernel
theorem dX0_joinPaths_20 : decode cX0_joinPaths 20 = .ok (.iload_n 3, 1) := by decide +kernel
theorem dX0_joinPaths_21 : decode cX0_joinPaths 21 = .ok (.aaload, 1) := by decide +kernel
theorem dX0_joinPaths_22 : decode cX0_joinPaths 22 = .ok (.iload_n 2, 1) := by decide +kernel
theorem dX0_joinPaths_23 : decode cX0_joinPaths 23 = .ok (.iaload, 1) := by decide +kernel
theorem dX0_joinPaths_24 : decode cX0_joinPaths 24 = .ok (.ldc 56, 2) := by decide +kernel
theorem dX0_joinPaths_26 : decode cX0_joinPaths 26 = .ok (.if_icmp .eq 56, 3) := by decide +kernel
theorem dX0_joinPaths_29 : decode cX0_joinPaths 29 = .ok (.aload_n 0, 1) := by decide +kernel
theorem dX0_joinPaths_30 : decode cX0_joinPaths 30 = .ok (.getfield 41, 3) := by decide +kernel
theorem dX0_joinPaths_33 : decode cX0_joinPaths 33 = .ok (.iload_n 2, 1) := by decide +kernel
theorem dX0_joinPaths_34 : decode cX0_joinPaths 34 = .ok (.aaload, 1) := by decide +kernel
theorem dX0_joinPaths_35 : decode cX0_joinPaths 35 = .ok (.iload 4, 2) := by decide +kernel
theorem dX0_joinPaths_37 : decode cX0_joinPaths 37 = .ok (.iaload, 1) := by decide +kernel
theorem dX0_joinPaths_38 : decode cX0_joinPaths 38 = .ok (.ldc 56, 2) := by decide +kernel
theorem dX0_joinPaths_40 : decode cX0_joinPaths 40 = .ok (.if_icmp .eq 42, 3) := by decide +kernel
theorem dX0_joinPaths_43 : decode cX0_joinPaths 43 = .ok (.aload_n 0, 1) := by decide +kernel
theorem dX0_joinPaths_44 : decode cX0_joinPaths 44 = .ok (.getfield 41, 3) := by decide +kernel
theorem dX0_joinPaths_47 : decode cX0_joinPaths 47 = .ok (.iload_n 3, 1) := by decide +kernel
theorem dX0_joinPaths_48 : decode cX0_joinPaths 48 = .ok (.aaload, 1) := by decide +kernel
theorem dX0_joinPaths_49 : decode cX0_joinPaths 49 = .ok (.iload 4, 2) := by decide +kernel
theorem dX0_joinPaths_51 : decode cX0_joinPaths 51 = .ok (.aload_n 0, 1) := by decide +kernel
theorem dX0_joinPaths_52 : decode cX0_joinPaths 52 = .ok (.getfield 41, 3) := by decide +kernel
theorem dX0_joinPaths_55 : decode cX0_joinPaths 55 = .ok (.iload_n 3, 1) := by decide +kernel
theorem dX0_joinPaths_56 : decode cX0_joinPaths 56 = .ok (.aaload, 1) := by decide +kernel
theorem dX0_joinPaths_57 : decode cX0_joinPaths 57 = .ok (.iload 4, 2) := by decide +kernel
theorem dX0_joinPaths_59 : decode cX0_joinPaths 59 = .ok (.iaload, 1) := by decide +kernel
theorem dX0_joinPaths_60 : decode cX0_joinPaths 60 = .ok (.aload_n 0, 1) := by decide +kernel
theorem dX0_joinPaths_61 : decode cX0_joinPaths 61 = .ok (.getfield 41, 3) := by decide +kernel
theorem dX0_joinPaths_64 : decode cX0_joinPaths 64 = .ok (.iload_n 3, 1) := by decide +kernel
theorem dX0_joinPaths_65 : decode cX0_joinPaths 65 = .ok (.aaload, 1) := by decide +kernel
theorem dX0_joinPaths_66 : decode cX0_joinPaths 66 = .ok (.iload_n 2, 1) := by decide +kernel
theorem dX0_joinPaths_67 : decode cX0_joinPaths 67 = .ok (.iaload, 1) := by decide +kernel
theorem dX0_joinPaths_68 : decode cX0_joinPaths 68 = .ok (.aload_n 0, 1) := by decide +kernel
theorem dX0_joinPaths_69 : decode cX0_joinPaths 69 = .ok (.getfield 41, 3) := by decide +kernel
theorem dX0_joinPaths_72 : decode cX0_joinPaths 72 = .ok (.iload_n 2, 1) := by decide +kernel
theorem dX0_joinPaths_73 : decode cX0_joinPaths 73 = .ok (.aaload, 1) := by decide +kernel
theorem dX0_joinPaths_74 : decode cX0_joinPaths 74 = .ok (.iload 4, 2) := by decide +kernel
theorem dX0_joinPaths_76 : decode cX0_joinPaths 76 = .ok (.iaload, 1) := by decide +kernel
theorem dX0_joinPaths_77 : decode cX0_joinPaths 77 = .ok (.iadd, 1) := by decide +kernel
theorem dX0_joinPaths_78 : decode cX0_joinPaths 78 = .ok (.invokestatic 57, 3) := by decide +kernel
theorem dX0_joinPaths_81 : decode cX0_joinPaths 81 = .ok (.iastore, 1) := by decide +kernel
theorem dX0_joinPaths_82 : decode cX0_joinPaths 82 = .ok (.iinc 4 1, 3) := by decide +kernel
theorem dX0_joinPaths_85 : decode cX0_joinPaths 85 = .ok (.goto (-75), 3) := by decide +kernel
theorem dX0_joinPaths_88 : decode cX0_joinPaths 88 = .ok (.iinc 3 1, 3) := by decide +kernel
theorem dX0_joinPaths_91 : decode cX0_joinPaths 91 = .ok (.goto (-89), 3) := by decide +kernel
theorem dX0_joinPaths_94 : decode cX0_joinPaths 94 = .ok (.return_, 1) := by decide +kernel
theorem dX0_allBounds_0 : decode cX0_allBounds 0 = .ok (.iconst 1, 1) := by decide +kernel
theorem dX0_allBounds_1 : decode cX0_allBounds 1 = .ok (.aload_n 0, 1) := by decide +kernel
theorem dX0_allBounds_2 : decode cX0_allBounds 2 = .ok (.getfield 20, 3) := by decide +kernel
theorem dX0_allBounds_5 : decode cX0_allBounds 5 = .ok (.ishl, 1) := by decide +kernel
theorem dX0_allBounds_6 : decode cX0_allBounds 6 = .ok (.iconst 1, 1) := by decide +kernel
theorem dX0_allBounds_7 : decode cX0_allBounds 7 = .ok (.isub, 1) := by decide +kernel
theorem dX0_allBounds_8 : decode cX0_allBounds 8 = .ok (.ireturn, 1) := by decide +kernel
theorem dX0_isPossible_0 : decode cX0_isPossible 0 = .ok (.iconst 0, 1) := by decide +kernel
theorem dX0_isPossible_1 : decode cX0_isPossible 1 = .ok (.istore_n 3, 1) := by decide +kernel
theorem dX0_isPossible_2 : decode cX0_isPossible 2 = .ok (.iload_n 3, 1) := by decide +kernel
theorem dX0_isPossible_3 : decode cX0_isPossible 3 = .ok (.aload_n 1, 1) := by decide +kernel
theorem dX0_isPossible_4 : decode cX0_isPossible 4 = .ok (.getfield 55, 3) := by decide +kernel
theorem dX0_isPossible_7 : decode cX0_isPossible 7 = .ok (.if_icmp .ge 71, 3) := by decide +kernel
theorem dX0_isPossible_10 : decode cX0_isPossible 10 = .ok (.aload_n 0, 1) := by decide +kernel
theorem dX0_isPossible_11 : decode cX0_isPossible 11 = .ok (.getfield 33, 3) := by decide +kernel
theorem dX0_isPossible_14 : decode cX0_isPossible 14 = .ok (.iload_n 3, 1) := by decide +kernel
theorem dX0_isPossible_15 : decode cX0_isPossible 15 = .ok (.aload_n 1, 1) := by decide +kernel
theorem dX0_isPossible_16 : decode cX0_isPossible 16 = .ok (.getfield 67, 3) := by decide +kernel
theorem dX0_isPossible_19 : decode cX0_isPossible 19 = .ok (.iload_n 3, 1) := by decide +kernel
theorem dX0_isPossible_20 : decode cX0_isPossible 20 = .ok (.iaload, 1) := by decide +kernel
theorem dX0_isPossible_21 : decode cX0_isPossible 21 = .ok (.iconst (-1), 1) := by decide +kernel
theorem dX0_isPossible_22 : decode cX0_isPossible 22 = .ok (.if_icmp .ne 7, 3) := by decide +kernel
theorem dX0_isPossible_25 : decode cX0_isPossible 25 = .ok (.iload_n 3, 1) := by decide +kernel
theorem dX0_isPossible_26 : decode cX0_isPossible 26 = .ok (.goto 9, 3) := by decide +kernel
theorem dX0_isPossible_29 : decode cX0_isPossible 29 = .ok (.aload_n 1, 1) := by decide +kernel
theorem dX0_isPossible_30 : decode cX0_isPossible 30 = .ok (.getfield 67, 3) := by decide +kernel
theorem dX0_isPossible_33 : decode cX0_isPossible 33 = .ok (.iload_n 3, 1) := by decide +kernel
theorem dX0_isPossible_34 : decode cX0_isPossible 34 = .ok (.iaload, 1) := by decide +kernel
theorem dX0_isPossible_35 : decode cX0_isPossible 35 = .ok (.iastore, 1) := by decide +kernel
theorem dX0_isPossible_36 : decode cX0_isPossible 36 = .ok (.aload_n 0, 1) := by decide +kernel
theorem dX0_isPossible_37 : decode cX0_isPossible 37 = .ok (.getfield 11, 3) := by decide +kernel
theorem dX0_isPossible_40 : decode cX0_isPossible 40 = .ok (.iload_n 3, 1) := by decide +kernel
theorem dX0_isPossible_41 : decode cX0_isPossible 41 = .ok (.aload_n 1, 1) := by decide +kernel
theorem dX0_isPossible_42 : decode cX0_isPossible 42 = .ok (.getfield 70, 3) := by decide +kernel
theorem dX0_isPossible_45 : decode cX0_isPossible 45 = .ok (.iload_n 3, 1) := by decide +kernel
theorem dX0_isPossible_46 : decode cX0_isPossible 46 = .ok (.iaload, 1) := by decide +kernel
theorem dX0_isPossible_47 : decode cX0_isPossible 47 = .ok (.iastore, 1) := by decide +kernel
theorem dX0_isPossible_48 : decode cX0_isPossible 48 = .ok (.aload_n 0, 1) := by decide +kernel
theorem dX0_isPossible_49 : decode cX0_isPossible 49 = .ok (.getfield 17, 3) := by decide +kernel
theorem dX0_isPossible_52 : decode cX0_isPossible 52 = .ok (.iload_n 3, 1) := by decide +kernel
theorem dX0_isPossible_53 : decode cX0_isPossible 53 = .ok (.aload_n 1, 1) := by decide +kernel
theorem dX0_isPossible_54 : decode cX0_isPossible 54 = .ok (.getfield 73, 3) := by decide +kernel
theorem dX0_isPossible_57 : decode cX0_isPossible 57 = .ok (.iload_n 3, 1) := by decide +kernel
theorem dX0_isPossible_58 : decode cX0_isPossible 58 = .ok (.iaload, 1) := by decide +kernel
theorem dX0_isPossible_59 : decode cX0_isPossible 59 = .ok (.iastore, 1) := by decide +kernel
theorem dX0_isPossible_60 : decode cX0_isPossible 60 = .ok (.aload_n 0, 1) := by decide +kernel
theorem dX0_isPossible_61 : decode cX0_isPossible 61 = .ok (.getfield 36, 3) := by decide +kernel
theorem dX0_isPossible_64 : decode cX0_isPossible 64 = .ok (.iload_n 3, 1) := by decide +kernel
theorem dX0_isPossible_65 : decode cX0_isPossible 65 = .ok (.aload_n 1, 1) := by decide +kernel
theorem dX0_isPossible_66 : decode cX0_isPossible 66 = .ok (.getfield 76, 3) := by decide +kernel
theorem dX0_isPossible_69 : decode cX0_isPossible 69 = .ok (.iload_n 3, 1) := by decide +kernel
theorem dX0_isPossible_70 : decode cX0_isPossible 70 = .ok (.iaload, 1) := by decide +kernel
theorem dX0_isPossible_71 : decode cX0_isPossible 71 = .ok (.iastore, 1) := by decide +kernel
theorem dX0_isPossible_72 : decode cX0_isPossible 72 = .ok (.iinc 3 1, 3) := by decide +kernel
theorem dX0_isPossible_75 : decode cX0_isPossible 75 = .ok (.goto (-73), 3) := by decide +kernel
theorem dX0_isPossible_78 : decode cX0_isPossible 78 = .ok (.aload_n 0, 1) := by decide +kernel
theorem dX0_isPossible_79 : decode cX0_isPossible 79 = .ok (.aload_n 1, 1) := by decide +kernel
theorem dX0_isPossible_80 : decode cX0_isPossible 80 = .ok (.getfield 55, 3) := by decide +kernel
theorem dX0_isPossible_83 : decode cX0_isPossible 83 = .ok (.invokevirtual 77, 3) := by decide +kernel
theorem dX0_isPossible_86 : decode cX0_isPossible 86 = .ok (.ifCond .eq 19, 3) := by decide +kernel
theorem dX0_isPossible_89 : decode cX0_isPossible 89 = .ok (.aload_n 0, 1) := by decide +kernel
theorem dX0_isPossible_90 : decode cX0_isPossible 90 = .ok (.aload_n 1, 1) := by decide +kernel
theorem dX0_isPossible_91 : decode cX0_isPossible 91 = .ok (.getfield 55, 3) := by decide +kernel
theorem dX0_isPossible_94 : decode cX0_isPossible 94 = .ok (.iload_n 2, 1) := by decide +kernel
theorem dX0_isPossible_95 : decode cX0_isPossible 95 = .ok (.invokevirtual 81, 3) := by decide +kernel
theorem dX0_isPossible_98 : decode cX0_isPossible 98 = .ok (.ifCond .eq 7, 3) := by decide +kernel
theorem dX0_isPossible_101 : decode cX0_isPossible 101 = .ok (.iconst 1, 1) := by decide +kernel
theorem dX0_isPossible_102 : decode cX0_isPossible 102 = .ok (.goto 4, 3) := by decide +kernel
theorem dX0_isPossible_105 : decode cX0_isPossible 105 = .ok (.iconst 0, 1) := by decide +kernel
theorem dX0_isPossible_106 : decode cX0_isPossible 106 = .ok (.ireturn, 1) := by decide +kernel
theorem dX0_joinFound_0 : decode cX0_joinFound 0 = .ok (.iconst 0, 1) := by decide +kernel
theorem dX0_joinFound_1 : decode cX0_joinFound 1 = .ok (.istore_n 2, 1) := by decide +kernel
theorem dX0_joinFound_2 : decode cX0_joinFound 2 = .ok (.iload_n 2, 1) := by decide +kernel
theorem dX0_joinFound_3 : decode cX0_joinFound 3 = .ok (.iload_n 1, 1) := by decide +kernel
theorem dX0_joinFound_4 : decode cX0_joinFound 4 = .ok (.if_icmp .ge 110, 3) := by decide +kernel
theorem dX0_joinFound_7 : decode cX0_joinFound 7 = .ok (.aload_n 0, 1) := by decide +kernel
theorem dX0_joinFound_8 : decode cX0_joinFound 8 = .ok (.getfield 33, 3) := by decide +kernel
theorem dX0_joinFound_11 : decode cX0_joinFound 11 = .ok (.iload_n 2, 1) := by decide +kernel
theorem dX0_joinFound_12 : decode cX0_joinFound 12 = .ok (.iaload, 1) := by decide +kernel
theorem dX0_joinFound_13 : decode cX0_joinFound 13 = .ok (.istore_n 3, 1) := by decide +kernel
theorem dX0_joinFound_14 : decode cX0_joinFound 14 = .ok (.aload_n 0, 1) := by decide +kernel
theorem dX0_joinFound_15 : decode cX0_joinFound 15 = .ok (.getfield 11, 3) := by decide +kernel
theorem dX0_joinFound_18 : decode cX0_joinFound 18 = .ok (.iload_n 3, 1) := by decide +kernel
theorem dX0_joinFound_19 : decode cX0_joinFound 19 = .ok (.aload_n 0, 1) := by decide +kernel
theorem dX0_joinFound_20 : decode cX0_joinFound 20 = .ok (.getfield 11, 3) := by decide +kernel
theorem dX0_joinFound_23 : decode cX0_joinFound 23 = .ok (.iload_n 3, 1) := by decide +kernel
theorem dX0_joinFound_24 : decode cX0_joinFound 24 = .ok (.iaload, 1) := by decide +kernel
theorem dX0_joinFound_25 : decode cX0_joinFound 25 = .ok (.aload_n 0, 1) := by decide +kernel
theorem dX0_joinFound_26 : decode cX0_joinFound 26 = .ok (.getfield 11, 3) := by decide +kernel
theorem dX0_joinFound_29 : decode cX0_joinFound 29 = .ok (.iload_n 2, 1) := by decide +kernel
theorem dX0_joinFound_30 : decode cX0_joinFound 30 = .ok (.iaload, 1) := by decide +kernel
theorem dX0_joinFound_31 : decode cX0_joinFound 31 = .ok (.invokestatic 57, 3) := by decide +kernel
theorem dX0_joinFound_34 : decode cX0_joinFound 34 = .ok (.iastore, 1) := by decide +kernel
theorem dX0_joinFound_35 : decode cX0_joinFound 35 = .ok (.aload_n 0, 1) := by decide +kernel
theorem dX0_joinFound_36 : decode cX0_joinFound 36 = .ok (.getfield 17, 3) := by decide +kernel
theorem dX0_joinFound_39 : decode cX0_joinFound 39 = .ok (.iload_n 3, 1) := by decide +kernel
theorem dX0_joinFound_40 : decode cX0_joinFound 40 = .ok (.aload_n 0, 1) := by decide +kernel
theorem dX0_joinFound_41 : decode cX0_joinFound 41 = .ok (.getfield 17, 3) := by decide +kernel
theorem dX0_joinFound_44 : decode cX0_joinFound 44 = .ok (.iload_n 3, 1) := by decide +kernel
theorem dX0_joinFound_45 : decode cX0_joinFound 45 = .ok (.iaload, 1) := by decide +kernel
theorem dX0_joinFound_46 : decode cX0_joinFound 46 = .ok (.aload_n 0, 1) := by decide +kernel
theorem dX0_joinFound_47 : decode cX0_joinFound 47 = .ok (.getfield 17, 3) := by decide +kernel
theorem dX0_joinFound_50 : decode cX0_joinFound 50 = .ok (.iload_n 2, 1) := by decide +kernel
theorem dX0_joinFound_51 : decode cX0_joinFound 51 = .ok (.iaload, 1) := by decide +kernel
theorem dX0_joinFound_52 : decode cX0_joinFound 52 = .ok (.invokestatic 85, 3) := by decide +kernel
theorem dX0_joinFound_55 : decode cX0_joinFound 55 = .ok (.iastore, 1) := by decide +kernel
theorem dX0_joinFound_56 : decode cX0_joinFound 56 = .ok (.aload_n 0, 1) := by decide +kernel
theorem dX0_joinFound_57 : decode cX0_joinFound 57 = .ok (.getfield 36, 3) := by decide +kernel
theorem dX0_joinFound_60 : decode cX0_joinFound 60 = .ok (.iload_n 3, 1) := by decide +kernel
theorem dX0_joinFound_61 : decode cX0_joinFound 61 = .ok (.iaload, 1) := by decide +kernel
theorem dX0_joinFound_62 : decode cX0_joinFound 62 = .ok (.iconst (-1), 1) := by decide +kernel
theorem dX0_joinFound_63 : decode cX0_joinFound 63 = .ok (.if_icmp .ne 18, 3) := by decide +kernel
theorem dX0_joinFound_66 : decode cX0_joinFound 66 = .ok (.aload_n 0, 1) := by decide +kernel
theorem dX0_joinFound_67 : decode cX0_joinFound 67 = .ok (.getfield 36, 3) := by decide +kernel
theorem dX0_joinFound_70 : decode cX0_joinFound 70 = .ok (.iload_n 3, 1) := by decide +kernel
theorem dX0_joinFound_71 : decode cX0_joinFound 71 = .ok (.aload_n 0, 1) := by decide +kernel
theorem dX0_joinFound_72 : decode cX0_joinFound 72 = .ok (.getfield 36, 3) := by decide +kernel
theorem dX0_joinFound_75 : decode cX0_joinFound 75 = .ok (.iload_n 2, 1) := by decide +kernel
theorem dX0_joinFound_76 : decode cX0_joinFound 76 = .ok (.iaload, 1) := by decide +kernel
theorem dX0_joinFound_77 : decode cX0_joinFound 77 = .ok (.iastore, 1) := by decide +kernel
theorem dX0_joinFound_78 : decode cX0_joinFound 78 = .ok (.goto 30, 3) := by decide +kernel
theorem dX0_joinFound_81 : decode cX0_joinFound 81 = .ok (.aload_n 0, 1) := by decide +kernel
theorem dX0_joinFound_82 : decode cX0_joinFound 82 = .ok (.getfield 36, 3) := by decide +kernel
theorem dX0_joinFound_85 : decode cX0_joinFound 85 = .ok (.iload_n 2, 1) := by decide +kernel
theorem dX0_joinFound_86 : decode cX0_joinFound 86 = .ok (.iaload, 1) := by decide +kernel
theorem dX0_joinFound_87 : decode cX0_joinFound 87 = .ok (.iconst (-1), 1) := by decide +kernel
theorem dX0_joinFound_88 : decode cX0_joinFound 88 = .ok (.if_icmp .eq 20, 3) := by decide +kernel
theorem dX0_joinFound_91 : decode cX0_joinFound 91 = .ok (.aload_n 0, 1) := by decide +kernel
theorem dX0_joinFound_92 : decode cX0_joinFound 92 = .ok (.getfield 36, 3) := by decide +kernel
theorem dX0_joinFound_95 : decode cX0_joinFound 95 = .ok (.iload_n 2, 1) := by decide +kernel
theorem dX0_joinFound_96 : decode cX0_joinFound 96 = .ok (.iaload, 1) := by decide +kernel
theorem dX0_joinFound_97 : decode cX0_joinFound 97 = .ok (.aload_n 0, 1) := by decide +kernel
theorem dX0_joinFound_98 : decode cX0_joinFound 98 = .ok (.getfield 36, 3) := by decide +kernel
theorem dX0_joinFound_101 : decode cX0_joinFound 101 = .ok (.iload_n 3, 1) := by decide +kernel
theorem dX0_joinFound_102 : decode cX0_joinFound 102 = .ok (.iaload, 1) := by decide +kernel
theorem dX0_joinFound_103 : decode cX0_joinFound 103 = .ok (.if_icmp .eq 5, 3) := by decide +kernel
theorem dX0_joinFound_106 : decode cX0_joinFound 106 = .ok (.iconst 0, 1) := by decide +kernel
theorem dX0_joinFound_107 : decode cX0_joinFound 107 = .ok (.ireturn, 1) := by decide +kernel
theorem dX0_joinFound_108 : decode cX0_joinFound 108 = .ok (.iinc 2 1, 3) := by decide +kernel
theorem dX0_joinFound_111 : decode cX0_joinFound 111 = .ok (.goto (-109), 3) := by decide +kernel
theorem dX0_joinFound_114 : decode cX0_joinFound 114 = .ok (.iconst 0, 1) := by decide +kernel
theorem dX0_joinFound_115 : decode cX0_joinFound 115 = .ok (.istore_n 2, 1) := by decide +kernel
theorem dX0_joinFound_116 : decode cX0_joinFound 116 = .ok (.iload_n 2, 1) := by decide +kernel
theorem dX0_joinFound_117 : decode cX0_joinFound 117 = .ok (.iload_n 1, 1) := by decide +kernel
theorem dX0_joinFound_118 : decode cX0_joinFound 118 = .ok (.if_icmp .ge 51, 3) := by decide +kernel
theorem dX0_joinFound_121 : decode cX0_joinFound 121 = .ok (.aload_n 0, 1) := by decide +kernel
theorem dX0_joinFound_122 : decode cX0_joinFound 122 = .ok (.getfield 11, 3) := by decide +kernel
theorem dX0_joinFound_125 : decode cX0_joinFound 125 = .ok (.iload_n 2, 1) := by decide +kernel
theorem dX0_joinFound_126 : decode cX0_joinFound 126 = .ok (.aload_n 0, 1) := by decide +kernel
theorem dX0_joinFound_127 : decode cX0_joinFound 127 = .ok (.getfield 11, 3) := by decide +kernel
theorem dX0_joinFound_130 : decode cX0_joinFound 130 = .ok (.iload_n 2, 1) := by decide +kernel
theorem dX0_joinFound_131 : decode cX0_joinFound 131 = .ok (.iaload, 1) := by decide +kernel
theorem dX0_joinFound_132 : decode cX0_joinFound 132 = .ok (.aload_n 0, 1) := by decide +kernel
theorem dX0_joinFound_133 : decode cX0_joinFound 133 = .ok (.getfield 36, 3) := by decide +kernel
theorem dX0_joinFound_136 : decode cX0_joinFound 136 = .ok (.iload_n 2, 1) := by decide +kernel
theorem dX0_joinFound_137 : decode cX0_joinFound 137 = .ok (.iaload, 1) := by decide +kernel
theorem dX0_joinFound_138 : decode cX0_joinFound 138 = .ok (.invokestatic 88, 3) := by decide +kernel
theorem dX0_joinFound_141 : decode cX0_joinFound 141 = .ok (.iastore, 1) := by decide +kernel
theorem dX0_joinFound_142 : decode cX0_joinFound 142 = .ok (.aload_n 0, 1) := by decide +kernel
theorem dX0_joinFound_143 : decode cX0_joinFound 143 = .ok (.getfield 17, 3) := by decide +kernel
theorem dX0_joinFound_146 : decode cX0_joinFound 146 = .ok (.iload_n 2, 1) := by decide +kernel
theorem dX0_joinFound_147 : decode cX0_joinFound 147 = .ok (.aload_n 0, 1) := by decide +kernel
theorem dX0_joinFound_148 : decode cX0_joinFound 148 = .ok (.getfield 17, 3) := by decide +kernel
theorem dX0_joinFound_151 : decode cX0_joinFound 151 = .ok (.iload_n 2, 1) := by decide +kernel
theorem dX0_joinFound_152 : decode cX0_joinFound 152 = .ok (.iaload, 1) := by decide +kernel
theorem dX0_joinFound_153 : decode cX0_joinFound 153 = .ok (.aload_n 0, 1) := by decide +kernel
theorem dX0_joinFound_154 : decode cX0_joinFound 154 = .ok (.getfield 36, 3) := by decide +kernel
theorem dX0_joinFound_157 : decode cX0_joinFound 157 = .ok (.iload_n 2, 1) := by decide +kernel
theorem dX0_joinFound_158 : decode cX0_joinFound 158 = .ok (.iaload, 1) := by decide +kernel
theorem dX0_joinFound_159 : decode cX0_joinFound 159 = .ok (.invokestatic 91, 3) := by decide +kernel
theorem dX0_joinFound_162 : decode cX0_joinFound 162 = .ok (.iastore, 1) := by decide +kernel
theorem dX0_joinFound_163 : decode cX0_joinFound 163 = .ok (.iinc 2 1, 3) := by decide +kernel
theorem dX0_joinFound_166 : decode cX0_joinFound 166 = .ok (.goto (-50), 3) := by decide +kernel
theorem dX0_joinFound_169 : decode cX0_joinFound 169 = .ok (.iconst 1, 1) := by decide +kernel
theorem dX0_joinFound_170 : decode cX0_joinFound 170 = .ok (.ireturn, 1) := by decide +kernel
theorem dX0_raiseLows_0 : decode cX0_raiseLows 0 = .ok (.iconst 1, 1) := by decide +kernel
theorem dX0_raiseLows_1 : decode cX0_raiseLows 1 = .ok (.istore_n 3, 1) := by decide +kernel
theorem dX0_raiseLows_2 : decode cX0_raiseLows 2 = .ok (.iconst 0, 1) := by decide +kernel
theorem dX0_raiseLows_3 : decode cX0_raiseLows 3 = .ok (.istore 4, 2) := by decide +kernel
theorem dX0_raiseLows_5 : decode cX0_raiseLows 5 = .ok (.iload 4, 2) := by decide +kernel
theorem dX0_raiseLows_7 : decode cX0_raiseLows 7 = .ok (.bipush 50, 2) := by decide +kernel
theorem dX0_raiseLows_9 : decode cX0_raiseLows 9 = .ok (.if_icmp .ge 64, 3) := by decide +kernel
theorem dX0_raiseLows_12 : decode cX0_raiseLows 12 = .ok (.iload_n 3, 1) := by decide +kernel
theorem dX0_raiseLows_13 : decode cX0_raiseLows 13 = .ok (.ifCond .eq 60, 3) := by decide +kernel
theorem dX0_raiseLows_16 : decode cX0_raiseLows 16 = .ok (.iconst 0, 1) := by decide +kernel
theorem dX0_raiseLows_17 : decode cX0_raiseLows 17 = .ok (.istore_n 3, 1) := by decide +kernel
theorem dX0_raiseLows_18 : decode cX0_raiseLows 18 = .ok (.iconst 0, 1) := by decide +kernel
theorem dX0_raiseLows_19 : decode cX0_raiseLows 19 = .ok (.istore 5, 2) := by decide +kernel
theorem dX0_raiseLows_21 : decode cX0_raiseLows 21 = .ok (.iload 5, 2) := by decide +kernel
theorem dX0_raiseLows_23 : decode cX0_raiseLows 23 = .ok (.aload_n 0, 1) := by decide +kernel
theorem dX0_raiseLows_24 : decode cX0_raiseLows 24 = .ok (.getfield 20, 3) := by decide +kernel
theorem dX0_raiseLows_27 : decode cX0_raiseLows 27 = .ok (.if_icmp .ge 30, 3) := by decide +kernel
theorem dX0_raiseLows_30 : decode cX0_raiseLows 30 = .ok (.iload_n 2, 1) := by decide +kernel
theorem dX0_raiseLows_31 : decode cX0_raiseLows 31 = .ok (.iload 5, 2) := by decide +kernel
theorem dX0_raiseLows_33 : decode cX0_raiseLows 33 = .ok (.ishr, 1) := by decide +kernel
theorem dX0_raiseLows_34 : decode cX0_raiseLows 34 = .ok (.iconst 1, 1) := by decide +kernel
theorem dX0_raiseLows_35 : decode cX0_raiseLows 35 = .ok (.iand, 1) := by decide +kernel
theorem dX0_raiseLows_36 : decode cX0_raiseLows 36 = .ok (.iconst 1, 1) := by decide +kernel
theorem dX0_raiseLows_37 : decode cX0_raiseLows 37 = .ok (.if_icmp .ne 14, 3) := by decide +kernel
theorem dX0_raiseLows_40 : decode cX0_raiseLows 40 = .ok (.aload_n 0, 1) := by decide +kernel
theorem dX0_raiseLows_41 : decode cX0_raiseLows 41 = .ok (.iload 5, 2) := by decide +kernel
theorem dX0_raiseLows_43 : decode cX0_raiseLows 43 = .ok (.invokevirtual 94, 3) := by decide +kernel
theorem dX0_raiseLows_46 : decode cX0_raiseLows 46 = .ok (.ifCond .eq 5, 3) := by decide +kernel
theorem dX0_raiseLows_49 : decode cX0_raiseLows 49 = .ok (.iconst 1, 1) := by decide +kernel
theorem dX0_raiseLows_50 : decode cX0_raiseLows 50 = .ok (.istore_n 3, 1) := by decide +kernel
theorem dX0_raiseLows_51 : decode cX0_raiseLows 51 = .ok (.iinc 5 1, 3) := by decide +kernel
theorem dX0_raiseLows_54 : decode cX0_raiseLows 54 = .ok (.goto (-33), 3) := by decide +kernel
theorem dX0_raiseLows_57 : decode cX0_raiseLows 57 = .ok (.aload_n 0, 1) := by decide +kernel
theorem dX0_raiseLows_58 : decode cX0_raiseLows 58 = .ok (.iload_n 1, 1) := by decide +kernel
theorem dX0_raiseLows_59 : decode cX0_raiseLows 59 = .ok (.invokevirtual 97, 3) := by decide +kernel
theorem dX0_raiseLows_62 : decode cX0_raiseLows 62 = .ok (.ifCond .ne 5, 3) := by decide +kernel
theorem dX0_raiseLows_65 : decode cX0_raiseLows 65 = .ok (.iconst 0, 1) := by decide +kernel
theorem dX0_raiseLows_66 : decode cX0_raiseLows 66 = .ok (.ireturn, 1) := by decide +kernel
theorem dX0_raiseLows_67 : decode cX0_raiseLows 67 = .ok (.iinc 4 1, 3) := by decide +kernel
theorem dX0_raiseLows_70 : decode cX0_raiseLows 70 = .ok (.goto (-65), 3) := by decide +kernel
theorem dX0_raiseLows_73 : decode cX0_raiseLows 73 = .ok (.iload_n 3, 1) := by decide +kernel
theorem dX0_raiseLows_74 : decode cX0_raiseLows 74 = .ok (.ifCond .ne 7, 3) := by decide +kernel
theorem dX0_raiseLows_77 : decode cX0_raiseLows 77 = .ok (.iconst 1, 1) := by decide +kernel
theorem dX0_raiseLows_78 : decode cX0_raiseLows 78 = .ok (.goto 4, 3) := by decide +kernel
theorem dX0_raiseLows_81 : decode cX0_raiseLows 81 = .ok (.iconst 0, 1) := by decide +kernel
theorem dX0_raiseLows_82 : decode cX0_raiseLows 82 = .ok (.ireturn, 1) := by decide +kernel
theorem dX0_raiseBy_0 : decode cX0_raiseBy 0 = .ok (.aload_n 0, 1) := by decide +kernel
theorem dX0_raiseBy_1 : decode cX0_raiseBy 1 = .ok (.getfield 33, 3) := by decide +kernel
theorem dX0_raiseBy_4 : decode cX0_raiseBy 4 = .ok (.aload_n 0, 1) := by decide +kernel
theorem dX0_raiseBy_5 : decode cX0_raiseBy 5 = .ok (.getfield 27, 3) := by decide +kernel
theorem dX0_raiseBy_8 : decode cX0_raiseBy 8 = .ok (.iload_n 1, 1) := by decide +kernel
theorem dX0_raiseBy_9 : decode cX0_raiseBy 9 = .ok (.iaload, 1) := by decide +kernel
theorem dX0_raiseBy_10 : decode cX0_raiseBy 10 = .ok (.iaload, 1) := by decide +kernel
theorem dX0_raiseBy_11 : decode cX0_raiseBy 11 = .ok (.istore_n 2, 1) := by decide +kernel
theorem dX0_raiseBy_12 : decode cX0_raiseBy 12 = .ok (.aload_n 0, 1) := by decide +kernel
theorem dX0_raiseBy_13 : decode cX0_raiseBy 13 = .ok (.getfield 11, 3) := by decide +kernel
theorem dX0_raiseBy_16 : decode cX0_raiseBy 16 = .ok (.aload_n 0, 1) := by decide +kernel
theorem dX0_raiseBy_17 : decode cX0_raiseBy 17 = .ok (.getfield 33, 3) := by decide +kernel
theorem dX0_raiseBy_20 : decode cX0_raiseBy 20 = .ok (.aload_n 0, 1) := by decide +kernel
theorem dX0_raiseBy_21 : decode cX0_raiseBy 21 = .ok (.getfield 24, 3) := by decide +kernel
theorem dX0_raiseBy_24 : decode cX0_raiseBy 24 = .ok (.iload_n 1, 1) := by decide +kernel
theorem dX0_raiseBy_25 : decode cX0_raiseBy 25 = .ok (.iaload, 1) := by decide +kernel
theorem dX0_raiseBy_26 : decode cX0_raiseBy 26 = .ok (.iaload, 1) := by decide +kernel
theorem dX0_raiseBy_27 : decode cX0_raiseBy 27 = .ok (.iaload, 1) := by decide +kernel
theorem dX0_raiseBy_28 : decode cX0_raiseBy 28 = .ok (.aload_n 0, 1) := by decide +kernel
theorem dX0_raiseBy_29 : decode cX0_raiseBy 29 = .ok (.getfield 30, 3) := by decide +kernel
theorem dX0_raiseBy_32 : decode cX0_raiseBy 32 = .ok (.iload_n 1, 1) := by decide +kernel
theorem dX0_raiseBy_33 : decode cX0_raiseBy 33 = .ok (.iaload, 1) := by decide +kernel
theorem dX0_raiseBy_34 : decode cX0_raiseBy 34 = .ok (.iadd, 1) := by decide +kernel
theorem dX0_raiseBy_35 : decode cX0_raiseBy 35 = .ok (.aload_n 0, 1) := by decide +kernel
theorem dX0_raiseBy_36 : decode cX0_raiseBy 36 = .ok (.getfield 36, 3) := by decide +kernel
theorem dX0_raiseBy_39 : decode cX0_raiseBy 39 = .ok (.iload_n 2, 1) := by decide +kernel
theorem dX0_raiseBy_40 : decode cX0_raiseBy 40 = .ok (.iaload, 1) := by decide +kernel
theorem dX0_raiseBy_41 : decode cX0_raiseBy 41 = .ok (.invokestatic 88, 3) := by decide +kernel
theorem dX0_raiseBy_44 : decode cX0_raiseBy 44 = .ok (.istore_n 3, 1) := by decide +kernel
theorem dX0_raiseBy_45 : decode cX0_raiseBy 45 = .ok (.iload_n 3, 1) := by decide +kernel
theorem dX0_raiseBy_46 : decode cX0_raiseBy 46 = .ok (.aload_n 0, 1) := by decide +kernel
theorem dX0_raiseBy_47 : decode cX0_raiseBy 47 = .ok (.getfield 11, 3) := by decide +kernel
theorem dX0_raiseBy_50 : decode cX0_raiseBy 50 = .ok (.iload_n 2, 1) := by decide +kernel
theorem dX0_raiseBy_51 : decode cX0_raiseBy 51 = .ok (.iaload, 1) := by decide +kernel
theorem dX0_raiseBy_52 : decode cX0_raiseBy 52 = .ok (.if_icmp .gt 5, 3) := by decide +kernel
theorem dX0_raiseBy_55 : decode cX0_raiseBy 55 = .ok (.iconst 0, 1) := by decide +kernel
theorem dX0_raiseBy_56 : decode cX0_raiseBy 56 = .ok (.ireturn, 1) := by decide +kernel
theorem dX0_raiseBy_57 : decode cX0_raiseBy 57 = .ok (.aload_n 0, 1) := by decide +kernel
theorem dX0_raiseBy_58 : decode cX0_raiseBy 58 = .ok (.getfield 11, 3) := by decide +kernel
theorem dX0_raiseBy_61 : decode cX0_raiseBy 61 = .ok (.iload_n 2, 1) := by decide +kernel
theorem dX0_raiseBy_62 : decode cX0_raiseBy 62 = .ok (.iload_n 3, 1) := by decide +kernel
theorem dX0_raiseBy_63 : decode cX0_raiseBy 63 = .ok (.iastore, 1) := by decide +kernel
theorem dX0_raiseBy_64 : decode cX0_raiseBy 64 = .ok (.iconst 1, 1) := by decide +kernel
theorem dX0_raiseBy_65 : decode cX0_raiseBy 65 = .ok (.ireturn, 1) := by decide +kernel
theorem dX0_isOrdered_0 : decode cX0_isOrdered 0 = .ok (.iconst 0, 1) := by decide +kernel
theorem dX0_isOrdered_1 : decode cX0_isOrdered 1 = .ok (.istore_n 2, 1) := by decide +kernel
theorem dX0_isOrdered_2 : decode cX0_isOrdered 2 = .ok (.iload_n 2, 1) := by decide +kernel
theorem dX0_isOrdered_3 : decode cX0_isOrdered 3 = .ok (.iload_n 1, 1) := by decide +kernel
theorem dX0_isOrdered_4 : decode cX0_isOrdered 4 = .ok (.if_icmp .ge 36, 3) := by decide +kernel
theorem dX0_isOrdered_7 : decode cX0_isOrdered 7 = .ok (.aload_n 0, 1) := by decide +kernel
theorem dX0_isOrdered_8 : decode cX0_isOrdered 8 = .ok (.getfield 33, 3) := by decide +kernel
theorem dX0_isOrdered_11 : decode cX0_isOrdered 11 = .ok (.iload_n 2, 1) := by decide +kernel
theorem dX0_isOrdered_12 : decode cX0_isOrdered 12 = .ok (.iaload, 1) := by decide +kernel
theorem dX0_isOrdered_13 : decode cX0_isOrdered 13 = .ok (.iload_n 2, 1) := by decide +kernel
theorem dX0_isOrdered_14 : decode cX0_isOrdered 14 = .ok (.if_icmp .ne 20, 3) := by decide +kernel
theorem dX0_isOrdered_17 : decode cX0_isOrdered 17 = .ok (.aload_n 0, 1) := by decide +kernel
theorem dX0_isOrdered_18 : decode cX0_isOrdered 18 = .ok (.getfield 11, 3) := by decide +kernel
theorem dX0_isOrdered_21 : decode cX0_isOrdered 21 = .ok (.iload_n 2, 1) := by decide +kernel
theorem dX0_isOrdered_22 : decode cX0_isOrdered 22 = .ok (.iaload, 1) := by decide +kernel
theorem dX0_isOrdered_23 : decode cX0_isOrdered 23 = .ok (.aload_n 0, 1) := by decide +kernel
theorem dX0_isOrdered_24 : decode cX0_isOrdered 24 = .ok (.getfield 17, 3) := by decide +kernel
theorem dX0_isOrdered_27 : decode cX0_isOrdered 27 = .ok (.iload_n 2, 1) := by decide +kernel
theorem dX0_isOrdered_28 : decode cX0_isOrdered 28 = .ok (.iaload, 1) := by decide +kernel
theorem dX0_isOrdered_29 : decode cX0_isOrdered 29 = .ok (.if_icmp .le 5, 3) := by decide +kernel
theorem dX0_isOrdered_32 : decode cX0_isOrdered 32 = .ok (.iconst 0, 1) := by decide +kernel
theorem dX0_isOrdered_33 : decode cX0_isOrdered 33 = .ok (.ireturn, 1) := by decide +kernel
theorem dX0_isOrdered_34 : decode cX0_isOrdered 34 = .ok (.iinc 2 1, 3) := by decide +kernel
theorem dX0_isOrdered_37 : decode cX0_isOrdered 37 = .ok (.goto (-35), 3) := by decide +kernel
theorem dX0_isOrdered_40 : decode cX0_isOrdered 40 = .ok (.iconst 1, 1) := by decide +kernel
theorem dX0_isOrdered_41 : decode cX0_isOrdered 41 = .ok (.ireturn, 1) := by decide +kernel
theorem dX0_sinkHighs_0 : decode cX0_sinkHighs 0 = .ok (.iconst 1, 1) := by decide +kernel
theorem dX0_sinkHighs_1 : decode cX0_sinkHighs 1 = .ok (.istore_n 1, 1) := by decide +kernel
theorem dX0_sinkHighs_2 : decode cX0_sinkHighs 2 = .ok (.iconst 0, 1) := by decide +kernel
theorem dX0_sinkHighs_3 : decode cX0_sinkHighs 3 = .ok (.istore_n 2, 1) := by decide +kernel
theorem dX0_sinkHighs_4 : decode cX0_sinkHighs 4 = .ok (.iload_n 2, 1) := by decide +kernel
theorem dX0_sinkHighs_5 : decode cX0_sinkHighs 5 = .ok (.bipush 50, 2) := by decide +kernel
theorem dX0_sinkHighs_7 : decode cX0_sinkHighs 7 = .ok (.if_icmp .ge 41, 3) := by decide +kernel
theorem dX0_sinkHighs_10 : decode cX0_sinkHighs 10 = .ok (.iload_n 1, 1) := by decide +kernel
theorem dX0_sinkHighs_11 : decode cX0_sinkHighs 11 = .ok (.ifCond .eq 37, 3) := by decide +kernel
theorem dX0_sinkHighs_14 : decode cX0_sinkHighs 14 = .ok (.iconst 0, 1) := by decide +kernel
theorem dX0_sinkHighs_15 : decode cX0_sinkHighs 15 = .ok (.istore_n 1, 1) := by decide +kernel
theorem dX0_sinkHighs_16 : decode cX0_sinkHighs 16 = .ok (.iconst 0, 1) := by decide +kernel
theorem dX0_sinkHighs_17 : decode cX0_sinkHighs 17 = .ok (.istore_n 3, 1) := by decide +kernel
theorem dX0_sinkHighs_18 : decode cX0_sinkHighs 18 = .ok (.iload_n 3, 1) := by decide +kernel
theorem dX0_sinkHighs_19 : decode cX0_sinkHighs 19 = .ok (.aload_n 0, 1) := by decide +kernel
theorem dX0_sinkHighs_20 : decode cX0_sinkHighs 20 = .ok (.getfield 20, 3) := by decide +kernel
theorem dX0_sinkHighs_23 : decode cX0_sinkHighs 23 = .ok (.if_icmp .ge 19, 3) := by decide +kernel
theorem dX0_sinkHighs_26 : decode cX0_sinkHighs 26 = .ok (.aload_n 0, 1) := by decide +kernel
theorem dX0_sinkHighs_27 : decode cX0_sinkHighs 27 = .ok (.iload_n 3, 1) := by decide +kernel
theorem dX0_sinkHighs_28 : decode cX0_sinkHighs 28 = .ok (.invokevirtual 100, 3) := by decide +kernel
theorem dX0_sinkHighs_31 : decode cX0_sinkHighs 31 = .ok (.ifCond .eq 5, 3) := by decide +kernel
theorem dX0_sinkHighs_34 : decode cX0_sinkHighs 34 = .ok (.iconst 1, 1) := by decide +kernel
theorem dX0_sinkHighs_35 : decode cX0_sinkHighs 35 = .ok (.istore_n 1, 1) := by decide +kernel
theorem dX0_sinkHighs_36 : decode cX0_sinkHighs 36 = .ok (.iinc 3 1, 3) := by decide +kernel
theorem dX0_sinkHighs_39 : decode cX0_sinkHighs 39 = .ok (.goto (-21), 3) := by decide +kernel
theorem dX0_sinkHighs_42 : decode cX0_sinkHighs 42 = .ok (.iinc 2 1, 3) := by decide +kernel
theorem dX0_sinkHighs_45 : decode cX0_sinkHighs 45 = .ok (.goto (-41), 3) := by decide +kernel
theorem dX0_sinkHighs_48 : decode cX0_sinkHighs 48 = .ok (.return_, 1) := by decide +kernel
theorem dX0_sinkBy_0 : decode cX0_sinkBy 0 = .ok (.aload_n 0, 1) := by decide +kernel
theorem dX0_sinkBy_1 : decode cX0_sinkBy 1 = .ok (.getfield 33, 3) := by decide +kernel
theorem dX0_sinkBy_4 : decode cX0_sinkBy 4 = .ok (.aload_n 0, 1) := by decide +kernel
theorem dX0_sinkBy_5 : decode cX0_sinkBy 5 = .ok (.getfield 24, 3) := by decide +kernel
theorem dX0_sinkBy_8 : decode cX0_sinkBy 8 = .ok (.iload_n 1, 1) := by decide +kernel
theorem dX0_sinkBy_9 : decode cX0_sinkBy 9 = .ok (.iaload, 1) := by decide +kernel
theorem dX0_sinkBy_10 : decode cX0_sinkBy 10 = .ok (.iaload, 1) := by decide +kernel
theorem dX0_sinkBy_11 : decode cX0_sinkBy 11 = .ok (.istore_n 2, 1) := by decide +kernel
theorem dX0_sinkBy_12 : decode cX0_sinkBy 12 = .ok (.aload_n 0, 1) := by decide +kernel
theorem dX0_sinkBy_13 : decode cX0_sinkBy 13 = .ok (.getfield 17, 3) := by decide +kernel
theorem dX0_sinkBy_16 : decode cX0_sinkBy 16 = .ok (.aload_n 0, 1) := by decide +kernel
theorem dX0_sinkBy_17 : decode cX0_sinkBy 17 = .ok (.getfield 33, 3) := by decide +kernel
theorem dX0_sinkBy_20 : decode cX0_sinkBy 20 = .ok (.aload_n 0, 1) := by decide +kernel
theorem dX0_sinkBy_21 : decode cX0_sinkBy 21 = .ok (.getfield 27, 3) := by decide +kernel
theorem dX0_sinkBy_24 : decode cX0_sinkBy 24 = .ok (.iload_n 1, 1) := by decide +kernel
theorem dX0_sinkBy_25 : decode cX0_sinkBy 25 = .ok (.iaload, 1) := by decide +kernel
theorem dX0_sinkBy_26 : decode cX0_sinkBy 26 = .ok (.iaload, 1) := by decide +kernel
theorem dX0_sinkBy_27 : decode cX0_sinkBy 27 = .ok (.iaload, 1) := by decide +kernel
theorem dX0_sinkBy_28 : decode cX0_sinkBy 28 = .ok (.aload_n 0, 1) := by decide +kernel
theorem dX0_sinkBy_29 : decode cX0_sinkBy 29 = .ok (.getfield 30, 3) := by decide +kernel
theorem dX0_sinkBy_32 : decode cX0_sinkBy 32 = .ok (.iload_n 1, 1) := by decide +kernel
theorem dX0_sinkBy_33 : decode cX0_sinkBy 33 = .ok (.iaload, 1) := by decide +kernel
theorem dX0_sinkBy_34 : decode cX0_sinkBy 34 = .ok (.isub, 1) := by decide +kernel
theorem dX0_sinkBy_35 : decode cX0_sinkBy 35 = .ok (.aload_n 0, 1) := by decide +kernel
theorem dX0_sinkBy_36 : decode cX0_sinkBy 36 = .ok (.getfield 36, 3) := by decide +kernel
theorem dX0_sinkBy_39 : decode cX0_sinkBy 39 = .ok (.iload_n 2, 1) := by decide +kernel
theorem dX0_sinkBy_40 : decode cX0_sinkBy 40 = .ok (.iaload, 1) := by decide +kernel
theorem dX0_sinkBy_41 : decode cX0_sinkBy 41 = .ok (.invokestatic 91, 3) := by decide +kernel
theorem dX0_sinkBy_44 : decode cX0_sinkBy 44 = .ok (.istore_n 3, 1) := by decide +kernel
theorem dX0_sinkBy_45 : decode cX0_sinkBy 45 = .ok (.iload_n 3, 1) := by decide +kernel
theorem dX0_sinkBy_46 : decode cX0_sinkBy 46 = .ok (.aload_n 0, 1) := by decide +kernel
theorem dX0_sinkBy_47 : decode cX0_sinkBy 47 = .ok (.getfield 17, 3) := by decide +kernel
theorem dX0_sinkBy_50 : decode cX0_sinkBy 50 = .ok (.iload_n 2, 1) := by decide +kernel
theorem dX0_sinkBy_51 : decode cX0_sinkBy 51 = .ok (.iaload, 1) := by decide +kernel
theorem dX0_sinkBy_52 : decode cX0_sinkBy 52 = .ok (.if_icmp .lt 5, 3) := by decide +kernel
theorem dX0_sinkBy_55 : decode cX0_sinkBy 55 = .ok (.iconst 0, 1) := by decide +kernel
theorem dX0_sinkBy_56 : decode cX0_sinkBy 56 = .ok (.ireturn, 1) := by decide +kernel
theorem dX0_sinkBy_57 : decode cX0_sinkBy 57 = .ok (.aload_n 0, 1) := by decide +kernel
theorem dX0_sinkBy_58 : decode cX0_sinkBy 58 = .ok (.getfield 17, 3) := by decide +kernel
theorem dX0_sinkBy_61 : decode cX0_sinkBy 61 = .ok (.iload_n 2, 1) := by decide +kernel
theorem dX0_sinkBy_62 : decode cX0_sinkBy 62 = .ok (.iload_n 3, 1) := by decide +kernel
theorem dX0_sinkBy_63 : decode cX0_sinkBy 63 = .ok (.iastore, 1) := by decide +kernel
theorem dX0_sinkBy_64 : decode cX0_sinkBy 64 = .ok (.iconst 1, 1) := by decide +kernel
theorem dX0_sinkBy_65 : decode cX0_sinkBy 65 = .ok (.ireturn, 1) := by decide +kernel
theorem dX0_dayFrom_0 : decode cX0_dayFrom 0 = .ok (.iload_n 1, 1) := by decide +kernel
theorem dX0_dayFrom_1 : decode cX0_dayFrom 1 = .ok (.iconst (-1), 1) := by decide +kernel
theorem dX0_dayFrom_2 : decode cX0_dayFrom 2 = .ok (.if_icmp .ne 7, 3) := by decide +kernel
theorem dX0_dayFrom_5 : decode cX0_dayFrom 5 = .ok (.iload_n 0, 1) := by decide +kernel
theorem dX0_dayFrom_6 : decode cX0_dayFrom 6 = .ok (.goto 13, 3) := by decide +kernel
theorem dX0_dayFrom_9 : decode cX0_dayFrom 9 = .ok (.iload_n 0, 1) := by decide +kernel
theorem dX0_dayFrom_10 : decode cX0_dayFrom 10 = .ok (.iload_n 1, 1) := by decide +kernel
theorem dX0_dayFrom_11 : decode cX0_dayFrom 11 = .ok (.iload_n 0, 1) := by decide +kernel
theorem dX0_dayFrom_12 : decode cX0_dayFrom 12 = .ok (.isub, 1) := by decide +kernel
theorem dX0_dayFrom_13 : decode cX0_dayFrom 13 = .ok (.bipush 7, 2) := by decide +kernel
theorem dX0_dayFrom_15 : decode cX0_dayFrom 15 = .ok (.invokestatic 103, 3) := by decide +kernel
theorem dX0_dayFrom_18 : decode cX0_dayFrom 18 = .ok (.iadd, 1) := by decide +kernel
theorem dX0_dayFrom_19 : decode cX0_dayFrom 19 = .ok (.ireturn, 1) := by decide +kernel
theorem dX0_dayUpTo_0 : decode cX0_dayUpTo 0 = .ok (.iload_n 1, 1) := by decide +kernel
theorem dX0_dayUpTo_1 : decode cX0_dayUpTo 1 = .ok (.iconst (-1), 1) := by decide +kernel
theorem dX0_dayUpTo_2 : decode cX0_dayUpTo 2 = .ok (.if_icmp .ne 7, 3) := by decide +kernel
theorem dX0_dayUpTo_5 : decode cX0_dayUpTo 5 = .ok (.iload_n 0, 1) := by decide +kernel
theorem dX0_dayUpTo_6 : decode cX0_dayUpTo 6 = .ok (.goto 13, 3) := by decide +kernel
theorem dX0_dayUpTo_9 : decode cX0_dayUpTo 9 = .ok (.iload_n 0, 1) := by decide +kernel
theorem dX0_dayUpTo_10 : decode cX0_dayUpTo 10 = .ok (.iload_n 0, 1) := by decide +kernel
theorem dX0_dayUpTo_11 : decode cX0_dayUpTo 11 = .ok (.iload_n 1, 1) := by decide +kernel
theorem dX0_dayUpTo_12 : decode cX0_dayUpTo 12 = .ok (.isub, 1) := by decide +kernel
theorem dX0_dayUpTo_13 : decode cX0_dayUpTo 13 = .ok (.bipush 7, 2) := by decide +kernel
theorem dX0_dayUpTo_15 : decode cX0_dayUpTo 15 = .ok (.invokestatic 103, 3) := by decide +kernel
theorem dX0_dayUpTo_18 : decode cX0_dayUpTo 18 = .ok (.isub, 1) := by decide +kernel
theorem dX0_dayUpTo_19 : decode cX0_dayUpTo 19 = .ok (.ireturn, 1) := by decide +kernel
theorem dX1_init_0 : decode cX1_init 0 = .ok (.aload_n 0, 1) := by decide +kernel
theorem dX1_init_1 : decode cX1_init 1 = .ok (.invokespecial 3, 3) := by decide +kernel
theorem dX1_init_4 : decode cX1_init 4 = .ok (.aload_n 0, 1) := by decide +kernel
theorem dX1_init_5 : decode cX1_init 5 = .ok (.bipush 10, 2) := by decide +kernel
theorem dX1_init_7 : decode cX1_init 7 = .ok (.newarray .int, 2) := by decide +kernel
theorem dX1_init_9 : decode cX1_init 9 = .ok (.putfield 11, 3) := by decide +kernel
theorem dX1_init_12 : decode cX1_init 12 = .ok (.aload_n 0, 1) := by decide +kernel
theorem dX1_init_13 : decode cX1_init 13 = .ok (.iconst 0, 1) := by decide +kernel
theorem dX1_init_14 : decode cX1_init 14 = .ok (.putfield 15, 3) := by decide +kernel
theorem dX1_init_17 : decode cX1_init 17 = .ok (.aload_n 0, 1) := by decide +kernel
theorem dX1_init_18 : decode cX1_init 18 = .ok (.bipush 10, 2) := by decide +kernel
theorem dX1_init_20 : decode cX1_init 20 = .ok (.newarray .int, 2) := by decide +kernel
theorem dX1_init_22 : decode cX1_init 22 = .ok (.putfield 19, 3) := by decide +kernel
theorem dX1_init_25 : decode cX1_init 25 = .ok (.aload_n 0, 1) := by decide +kernel
theorem dX1_init_26 : decode cX1_init 26 = .ok (.bipush 10, 2) := by decide +kernel
theorem dX1_init_28 : decode cX1_init 28 = .ok (.newarray .int, 2) := by decide +kernel
theorem dX1_init_30 : decode cX1_init 30 = .ok (.putfield 22, 3) := by decide +kernel
theorem dX1_init_33 : decode cX1_init 33 = .ok (.return_, 1) := by decide +kernel
theorem dX1_find_0 : decode cX1_find 0 = .ok (.iconst 0, 1) := by decide +kernel
theorem dX1_find_1 : decode cX1_find 1 = .ok (.istore_n 3, 1) := by decide +kernel
theorem dX1_find_2 : decode cX1_find 2 = .ok (.iload_n 3, 1) := by decide +kernel
theorem dX1_find_3 : decode cX1_find 3 = .ok (.aload_n 0, 1) := by decide +kernel
theorem dX1_find_4 : decode cX1_find 4 = .ok (.getfield 15, 3) := by decide +kernel
theorem dX1_find_7 : decode cX1_find 7 = .ok (.if_icmp .ge 31, 3) := by decide +kernel
theorem dX1_find_10 : decode cX1_find 10 = .ok (.aload_n 0, 1) := by decide +kernel
theorem dX1_find_11 : decode cX1_find 11 = .ok (.getfield 19, 3) := by decide +kernel
theorem dX1_find_14 : decode cX1_find 14 = .ok (.iload_n 3, 1) := by decide +kernel
theorem dX1_find_15 : decode cX1_find 15 = .ok (.iaload, 1) := by decide +kernel
theorem dX1_find_16 : decode cX1_find 16 = .ok (.iload_n 1, 1) := by decide +kernel
theorem dX1_find_17 : decode cX1_find 17 = .ok (.if_icmp .ne 15, 3) := by decide +kernel
theorem dX1_find_20 : decode cX1_find 20 = .ok (.aload_n 0, 1) := by decide +kernel
theorem dX1_find_21 : decode cX1_find 21 = .ok (.getfield 22, 3) := by decide +kernel
theorem dX1_find_24 : decode cX1_find 24 = .ok (.iload_n 3, 1) := by decide +kernel
theorem dX1_find_25 : decode cX1_find 25 = .ok (.iaload, 1) := by decide +kernel
theorem dX1_find_26 : decode cX1_find 26 = .ok (.iload_n 2, 1) := by decide +kernel
theorem dX1_find_27 : decode cX1_find 27 = .ok (.if_icmp .ne 5, 3) := by decide +kernel
theorem dX1_find_30 : decode cX1_find 30 = .ok (.iload_n 3, 1) := by decide +kernel
theorem dX1_find_31 : decode cX1_find 31 = .ok (.ireturn, 1) := by decide +kernel
theorem dX1_find_32 : decode cX1_find 32 = .ok (.iinc 3 1, 3) := by decide +kernel
theorem dX1_find_35 : decode cX1_find 35 = .ok (.goto (-33), 3) := by decide +kernel
theorem dX1_find_38 : decode cX1_find 38 = .ok (.iconst (-1), 1) := by decide +kernel
theorem dX1_find_39 : decode cX1_find 39 = .ok (.ireturn, 1) := by decide +kernel
theorem dX1_put_0 : decode cX1_put 0 = .ok (.aload_n 0, 1) := by decide +kernel
theorem dX1_put_1 : decode cX1_put 1 = .ok (.iload_n 1, 1) := by decide +kernel
theorem dX1_put_2 : decode cX1_put 2 = .ok (.iload_n 2, 1) := by decide +kernel
theorem dX1_put_3 : decode cX1_put 3 = .ok (.invokevirtual 25, 3) := by decide +kernel
theorem dX1_put_6 : decode cX1_put 6 = .ok (.istore 4, 2) := by decide +kernel
theorem dX1_put_8 : decode cX1_put 8 = .ok (.iload 4, 2) := by decide +kernel
theorem dX1_put_10 : decode cX1_put 10 = .ok (.iconst (-1), 1) := by decide +kernel
theorem dX1_put_11 : decode cX1_put 11 = .ok (.if_icmp .eq 16, 3) := by decide +kernel
theorem dX1_put_14 : decode cX1_put 14 = .ok (.aload_n 0, 1) := by decide +kernel
theorem dX1_put_15 : decode cX1_put 15 = .ok (.getfield 11, 3) := by decide +kernel
theorem dX1_put_18 : decode cX1_put 18 = .ok (.iload 4, 2) := by decide +kernel
theorem dX1_put_20 : decode cX1_put 20 = .ok (.iload_n 3, 1) := by decide +kernel
theorem dX1_put_21 : decode cX1_put 21 = .ok (.iastore, 1) := by decide +kernel
theorem dX1_put_22 : decode cX1_put 22 = .ok (.aload_n 0, 1) := by decide +kernel
theorem dX1_put_23 : decode cX1_put 23 = .ok (.getfield 15, 3) := by decide +kernel
theorem dX1_put_26 : decode cX1_put 26 = .ok (.ireturn, 1) := by decide +kernel
theorem dX1_put_27 : decode cX1_put 27 = .ok (.aload_n 0, 1) := by decide +kernel
theorem dX1_put_28 : decode cX1_put 28 = .ok (.getfield 15, 3) := by decide +kernel
theorem dX1_put_31 : decode cX1_put 31 = .ok (.bipush 10, 2) := by decide +kernel
theorem dX1_put_33 : decode cX1_put 33 = .ok (.if_icmp .lt 6, 3) := by decide +kernel
theorem dX1_put_36 : decode cX1_put 36 = .ok (.bipush (-4), 2) := by decide +kernel
theorem dX1_put_38 : decode cX1_put 38 = .ok (.ireturn, 1) := by decide +kernel
theorem dX1_put_39 : decode cX1_put 39 = .ok (.aload_n 0, 1) := by decide +kernel
theorem dX1_put_40 : decode cX1_put 40 = .ok (.getfield 19, 3) := by decide +kernel
theorem dX1_put_43 : decode cX1_put 43 = .ok (.aload_n 0, 1) := by decide +kernel
theorem dX1_put_44 : decode cX1_put 44 = .ok (.getfield 15, 3) := by decide +kernel
theorem dX1_put_47 : decode cX1_put 47 = .ok (.iload_n 1, 1) := by decide +kernel
theorem dX1_put_48 : decode cX1_put 48 = .ok (.iastore, 1) := by decide +kernel
theorem dX1_put_49 : decode cX1_put 49 = .ok (.aload_n 0, 1) := by decide +kernel
theorem dX1_put_50 : decode cX1_put 50 = .ok (.getfield 22, 3) := by decide +kernel
theorem dX1_put_53 : decode cX1_put 53 = .ok (.aload_n 0, 1) := by decide +kernel
theorem dX1_put_54 : decode cX1_put 54 = .ok (.getfield 15, 3) := by decide +kernel
theorem dX1_put_57 : decode cX1_put 57 = .ok (.iload_n 2, 1) := by decide +kernel
theorem dX1_put_58 : decode cX1_put 58 = .ok (.iastore, 1) := by decide +kernel
theorem dX1_put_59 : decode cX1_put 59 = .ok (.aload_n 0, 1) := by decide +kernel
theorem dX1_put_60 : decode cX1_put 60 = .ok (.getfield 11, 3) := by decide +kernel
theorem dX1_put_63 : decode cX1_put 63 = .ok (.aload_n 0, 1) := by decide +kernel
theorem dX1_put_64 : decode cX1_put 64 = .ok (.getfield 15, 3) := by decide +kernel
theorem dX1_put_67 : decode cX1_put 67 = .ok (.iload_n 3, 1) := by decide +kernel
theorem dX1_put_68 : decode cX1_put 68 = .ok (.iastore, 1) := by decide +kernel
theorem dX1_put_69 : decode cX1_put 69 = .ok (.aload_n 0, 1) := by decide +kernel
theorem dX1_put_70 : decode cX1_put 70 = .ok (.dup, 1) := by decide +kernel
theorem dX1_put_71 : decode cX1_put 71 = .ok (.getfield 15, 3) := by decide +kernel
theorem dX1_put_74 : decode cX1_put 74 = .ok (.iconst 1, 1) := by decide +kernel
theorem dX1_put_75 : decode cX1_put 75 = .ok (.iadd, 1) := by decide +kernel
theorem dX1_put_76 : decode cX1_put 76 = .ok (.putfield 15, 3) := by decide +kernel
theorem dX1_put_79 : decode cX1_put 79 = .ok (.aload_n 0, 1) := by decide +kernel
theorem dX1_put_80 : decode cX1_put 80 = .ok (.getfield 15, 3) := by decide +kernel
theorem dX1_put_83 : decode cX1_put 83 = .ok (.ireturn, 1) := by decide +kernel
theorem dX2_init_0 : decode cX2_init 0 = .ok (.aload_n 0, 1) := by decide +kernel
theorem dX2_init_1 : decode cX2_init 1 = .ok (.invokespecial 3, 3) := by decide +kernel
theorem dX2_init_4 : decode cX2_init 4 = .ok (.aload_n 0, 1) := by decide +kernel
theorem dX2_init_5 : decode cX2_init 5 = .ok (.bipush 12, 2) := by decide +kernel
theorem dX2_init_7 : decode cX2_init 7 = .ok (.newarray .int, 2) := by decide +kernel
theorem dX2_init_9 : decode cX2_init 9 = .ok (.putfield 11, 3) := by decide +kernel
theorem dX2_init_12 : decode cX2_init 12 = .ok (.aload_n 0, 1) := by decide +kernel
theorem dX2_init_13 : decode cX2_init 13 = .ok (.bipush 12, 2) := by decide +kernel
theorem dX2_init_15 : decode cX2_init 15 = .ok (.newarray .int, 2) := by decide +kernel
theorem dX2_init_17 : decode cX2_init 17 = .ok (.putfield 15, 3) := by decide +kernel
theorem dX2_init_20 : decode cX2_init 20 = .ok (.aload_n 0, 1) := by decide +kernel
theorem dX2_init_21 : decode cX2_init 21 = .ok (.bipush 12, 2) := by decide +kernel
theorem dX2_init_23 : decode cX2_init 23 = .ok (.newarray .int, 2) := by decide +kernel
theorem dX2_init_25 : decode cX2_init 25 = .ok (.putfield 18, 3) := by decide +kernel
theorem dX2_init_28 : decode cX2_init 28 = .ok (.aload_n 0, 1) := by decide +kernel
theorem dX2_init_29 : decode cX2_init 29 = .ok (.bipush 12, 2) := by decide +kernel
theorem dX2_init_31 : decode cX2_init 31 = .ok (.newarray .int, 2) := by decide +kernel
theorem dX2_init_33 : decode cX2_init 33 = .ok (.putfield 21, 3) := by decide +kernel
theorem dX2_init_36 : decode cX2_init 36 = .ok (.aload_n 0, 1) := by decide +kernel
theorem dX2_init_37 : decode cX2_init 37 = .ok (.bipush 12, 2) := by decide +kernel
theorem dX2_init_39 : decode cX2_init 39 = .ok (.newarray .int, 2) := by decide +kernel
theorem dX2_init_41 : decode cX2_init 41 = .ok (.putfield 24, 3) := by decide +kernel
theorem dX2_init_44 : decode cX2_init 44 = .ok (.aload_n 0, 1) := by decide +kernel
theorem dX2_init_45 : decode cX2_init 45 = .ok (.bipush 12, 2) := by decide +kernel
theorem dX2_init_47 : decode cX2_init 47 = .ok (.newarray .int, 2) := by decide +kernel
theorem dX2_init_49 : decode cX2_init 49 = .ok (.putfield 27, 3) := by decide +kernel
theorem dX2_init_52 : decode cX2_init 52 = .ok (.aload_n 0, 1) := by decide +kernel
theorem dX2_init_53 : decode cX2_init 53 = .ok (.bipush 12, 2) := by decide +kernel
theorem dX2_init_55 : decode cX2_init 55 = .ok (.newarray .int, 2) := by decide +kernel
theorem dX2_init_57 : decode cX2_init 57 = .ok (.putfield 30, 3) := by decide +kernel
theorem dX2_init_60 : decode cX2_init 60 = .ok (.aload_n 0, 1) := by decide +kernel
theorem dX2_init_61 : decode cX2_init 61 = .ok (.bipush 12, 2) := by decide +kernel
theorem dX2_init_63 : decode cX2_init 63 = .ok (.newarray .int, 2) := by decide +kernel
theorem dX2_init_65 : decode cX2_init 65 = .ok (.putfield 33, 3) := by decide +kernel
theorem dX2_init_68 : decode cX2_init 68 = .ok (.aload_n 0, 1) := by decide +kernel
theorem dX2_init_69 : decode cX2_init 69 = .ok (.bipush 12, 2) := by decide +kernel
theorem dX2_init_71 : decode cX2_init 71 = .ok (.newarray .int, 2) := by decide +kernel
theorem dX2_init_73 : decode cX2_init 73 = .ok (.putfield 36, 3) := by decide +kernel
theorem dX2_init_76 : decode cX2_init 76 = .ok (.aload_n 0, 1) := by decide +kernel
theorem dX2_init_77 : decode cX2_init 77 = .ok (.bipush 12, 2) := by decide +kernel
theorem dX2_init_79 : decode cX2_init 79 = .ok (.sipush 160, 3) := by decide +kernel
theorem dX2_init_82 : decode cX2_init 82 = .ok (.multianewarray 39 2, 4) := by decide +kernel
theorem dX2_init_86 : decode cX2_init 86 = .ok (.putfield 41, 3) := by decide +kernel
theorem dX2_init_89 : decode cX2_init 89 = .ok (.aload_n 0, 1) := by decide +kernel
theorem dX2_init_90 : decode cX2_init 90 = .ok (.iconst 0, 1) := by decide +kernel
theorem dX2_init_91 : decode cX2_init 91 = .ok (.putfield 44, 3) := by decide +kernel
theorem dX2_init_94 : decode cX2_init 94 = .ok (.return_, 1) := by decide +kernel
theorem dX2_isKind_0 : decode cX2_isKind 0 = .ok (.iload_n 0, 1) := by decide +kernel
theorem dX2_isKind_1 : decode cX2_isKind 1 = .ok (.ifCond .lt 13, 3) := by decide +kernel
theorem dX2_isKind_4 : decode cX2_isKind 4 = .ok (.iload_n 0, 1) := by decide +kernel
theorem dX2_isKind_5 : decode cX2_isKind 5 = .ok (.bipush 6, 2) := by decide +kernel
theorem dX2_isKind_7 : decode cX2_isKind 7 = .ok (.if_icmp .ge 7, 3) := by decide +kernel
theorem dX2_isKind_10 : decode cX2_isKind 10 = .ok (.iconst 1, 1) := by decide +kernel
theorem dX2_isKind_11 : decode cX2_isKind 11 = .ok (.goto 4, 3) := by decide +kernel
theorem dX2_isKind_14 : decode cX2_isKind 14 = .ok (.iconst 0, 1) := by decide +kernel
theorem dX2_isKind_15 : decode cX2_isKind 15 = .ok (.ireturn, 1) := by decide +kernel
theorem dX2_isUnder_0 : decode cX2_isUnder 0 = .ok (.iload_n 0, 1) := by decide +kernel
theorem dX2_isUnder_1 : decode cX2_isUnder 1 = .ok (.istore_n 2, 1) := by decide +kernel
theorem dX2_isUnder_2 : decode cX2_isUnder 2 = .ok (.iconst 0, 1) := by decide +kernel
theorem dX2_isUnder_3 : decode cX2_isUnder 3 = .ok (.istore_n 3, 1) := by decide +kernel
theorem dX2_isUnder_4 : decode cX2_isUnder 4 = .ok (.iload_n 3, 1) := by decide +kernel
theorem dX2_isUnder_5 : decode cX2_isUnder 5 = .ok (.bipush 6, 2) := by decide +kernel
theorem dX2_isUnder_7 : decode cX2_isUnder 7 = .ok (.if_icmp .ge 29, 3) := by decide +kernel
theorem dX2_isUnder_10 : decode cX2_isUnder 10 = .ok (.iload_n 2, 1) := by decide +kernel
theorem dX2_isUnder_11 : decode cX2_isUnder 11 = .ok (.invokestatic 48, 3) := by decide +kernel
theorem dX2_isUnder_14 : decode cX2_isUnder 14 = .ok (.ifCond .eq 22, 3) := by decide +kernel
theorem dX2_isUnder_17 : decode cX2_isUnder 17 = .ok (.iload_n 2, 1) := by decide +kernel
theorem dX2_isUnder_18 : decode cX2_isUnder 18 = .ok (.iload_n 1, 1) := by decide +kernel
theorem dX2_isUnder_19 : decode cX2_isUnder 19 = .ok (.if_icmp .ne 5, 3) := by decide +kernel
theorem dX2_isUnder_22 : decode cX2_isUnder 22 = .ok (.iconst 1, 1) := by decide +kernel
theorem dX2_isUnder_23 : decode cX2_isUnder 23 = .ok (.ireturn, 1) := by decide +kernel
theorem dX2_isUnder_24 : decode cX2_isUnder 24 = .ok (.getstatic 52, 3) := by decide +kernel
theorem dX2_isUnder_27 : decode cX2_isUnder 27 = .ok (.iload_n 2, 1) := by decide +kernel
theorem dX2_isUnder_28 : decode cX2_isUnder 28 = .ok (.iaload, 1) := by decide +kernel
theorem dX2_isUnder_29 : decode cX2_isUnder 29 = .ok (.istore_n 2, 1) := by decide +kernel
theorem dX2_isUnder_30 : decode cX2_isUnder 30 = .ok (.iinc 3 1, 3) := by decide +kernel
theorem dX2_isUnder_33 : decode cX2_isUnder 33 = .ok (.goto (-29), 3) := by decide +kernel
theorem dX2_isUnder_36 : decode cX2_isUnder 36 = .ok (.iconst 0, 1) := by decide +kernel
theorem dX2_isUnder_37 : decode cX2_isUnder 37 = .ok (.ireturn, 1) := by decide +kernel
theorem dX2_has_0 : decode cX2_has 0 = .ok (.iload_n 1, 1) := by decide +kernel
theorem dX2_has_1 : decode cX2_has 1 = .ok (.ifCond .lt 15, 3) := by decide +kernel
theorem dX2_has_4 : decode cX2_has 4 = .ok (.iload_n 1, 1) := by decide +kernel
theorem dX2_has_5 : decode cX2_has 5 = .ok (.aload_n 0, 1) := by decide +kernel
theorem dX2_has_6 : decode cX2_has 6 = .ok (.getfield 44, 3) := by decide +kernel
theorem dX2_has_9 : decode cX2_has 9 = .ok (.if_icmp .ge 7, 3) := by decide +kernel
theorem dX2_has_12 : decode cX2_has 12 = .ok (.iconst 1, 1) := by decide +kernel
theorem dX2_has_13 : decode cX2_has 13 = .ok (.goto 4, 3) := by decide +kernel
theorem dX2_has_16 : decode cX2_has 16 = .ok (.iconst 0, 1) := by decide +kernel
theorem dX2_has_17 : decode cX2_has 17 = .ok (.ireturn, 1) := by decide +kernel
theorem dX2_add_0 : decode cX2_add 0 = .ok (.aload_n 0, 1) := by decide +kernel
theorem dX2_add_1 : decode cX2_add 1 = .ok (.getfield 44, 3) := by decide +kernel
theorem dX2_add_4 : decode cX2_add 4 = .ok (.bipush 12, 2) := by decide +kernel
theorem dX2_add_6 : decode cX2_add 6 = .ok (.if_icmp .lt 6, 3) := by decide +kernel
theorem dX2_add_9 : decode cX2_add 9 = .ok (.bipush (-4), 2) := by decide +kernel
theorem dX2_add_11 : decode cX2_add 11 = .ok (.ireturn, 1) := by decide +kernel
theorem dX2_add_12 : decode cX2_add 12 = .ok (.aload_n 0, 1) := by decide +kernel
theorem dX2_add_13 : decode cX2_add 13 = .ok (.getfield 11, 3) := by decide +kernel
theorem dX2_add_16 : decode cX2_add 16 = .ok (.aload_n 0, 1) := by decide +kernel
theorem dX2_add_17 : decode cX2_add 17 = .ok (.getfield 44, 3) := by decide +kernel
theorem dX2_add_20 : decode cX2_add 20 = .ok (.iload_n 1, 1) := by decide +kernel
theorem dX2_add_21 : decode cX2_add 21 = .ok (.iastore, 1) := by decide +kernel
theorem dX2_add_22 : decode cX2_add 22 = .ok (.aload_n 0, 1) := by decide +kernel
theorem dX2_add_23 : decode cX2_add 23 = .ok (.getfield 15, 3) := by decide +kernel
theorem dX2_add_26 : decode cX2_add 26 = .ok (.aload_n 0, 1) := by decide +kernel
theorem dX2_add_27 : decode cX2_add 27 = .ok (.getfield 44, 3) := by decide +kernel
theorem dX2_add_30 : decode cX2_add 30 = .ok (.iload_n 2, 1) := by decide +kernel
theorem dX2_add_31 : decode cX2_add 31 = .ok (.iastore, 1) := by decide +kernel
theorem dX2_add_32 : decode cX2_add 32 = .ok (.aload_n 0, 1) := by decide +kernel
theorem dX2_add_33 : decode cX2_add 33 = .ok (.getfield 18, 3) := by decide +kernel
theorem dX2_add_36 : decode cX2_add 36 = .ok (.aload_n 0, 1) := by decide +kernel
theorem dX2_add_37 : decode cX2_add 37 = .ok (.getfield 44, 3) := by decide +kernel
theorem dX2_add_40 : decode cX2_add 40 = .ok (.iload_n 3, 1) := by decide +kernel
theorem dX2_add_41 : decode cX2_add 41 = .ok (.iastore, 1) := by decide +kernel
theorem dX2_add_42 : decode cX2_add 42 = .ok (.aload_n 0, 1) := by decide +kernel
theorem dX2_add_43 : decode cX2_add 43 = .ok (.getfield 21, 3) := by decide +kernel
theorem dX2_add_46 : decode cX2_add 46 = .ok (.aload_n 0, 1) := by decide +kernel
theorem dX2_add_47 : decode cX2_add 47 = .ok (.getfield 44, 3) := by decide +kernel
theorem dX2_add_50 : decode cX2_add 50 = .ok (.iload 4, 2) := by decide +kernel
theorem dX2_add_52 : decode cX2_add 52 = .ok (.iastore, 1) := by decide +kernel
theorem dX2_add_53 : decode cX2_add 53 = .ok (.aload_n 0, 1) := by decide +kernel
theorem dX2_add_54 : decode cX2_add 54 = .ok (.getfield 24, 3) := by decide +kernel
theorem dX2_add_57 : decode cX2_add 57 = .ok (.aload_n 0, 1) := by decide +kernel
theorem dX2_add_58 : decode cX2_add 58 = .ok (.getfield 44, 3) := by decide +kernel
theorem dX2_add_61 : decode cX2_add 61 = .ok (.iconst 0, 1) := by decide +kernel
theorem dX2_add_62 : decode cX2_add 62 = .ok (.iastore, 1) := by decide +kernel
theorem dX2_add_63 : decode cX2_add 63 = .ok (.aload_n 0, 1) := by decide +kernel
theorem dX2_add_64 : decode cX2_add 64 = .ok (.getfield 27, 3) := by decide +kernel
theorem dX2_add_67 : decode cX2_add 67 = .ok (.aload_n 0, 1) := by decide +kernel
theorem dX2_add_68 : decode cX2_add 68 = .ok (.getfield 44, 3) := by decide +kernel
theorem dX2_add_71 : decode cX2_add 71 = .ok (.sipush 9999, 3) := by decide +kernel
theorem dX2_add_74 : decode cX2_add 74 = .ok (.iastore, 1) := by decide +kernel
theorem dX2_add_75 : decode cX2_add 75 = .ok (.aload_n 0, 1) := by decide +kernel
theorem dX2_add_76 : decode cX2_add 76 = .ok (.getfield 30, 3) := by decide +kernel
theorem dX2_add_79 : decode cX2_add 79 = .ok (.aload_n 0, 1) := by decide +kernel
theorem dX2_add_80 : decode cX2_add 80 = .ok (.getfield 44, 3) := by decide +kernel
theorem dX2_add_83 : decode cX2_add 83 = .ok (.iconst (-1), 1) := by decide +kernel
theorem dX2_add_84 : decode cX2_add 84 = .ok (.iastore, 1) := by decide +kernel
theorem dX2_add_85 : decode cX2_add 85 = .ok (.aload_n 0, 1) := by decide +kernel
theorem dX2_add_86 : decode cX2_add 86 = .ok (.getfield 33, 3) := by decide +kernel
theorem dX2_add_89 : decode cX2_add 89 = .ok (.aload_n 0, 1) := by decide +kernel
theorem dX2_add_90 : decode cX2_add 90 = .ok (.getfield 44, 3) := by decide +kernel
theorem dX2_add_93 : decode cX2_add 93 = .ok (.iconst (-1), 1) := by decide +kernel
theorem dX2_add_94 : decode cX2_add 94 = .ok (.iastore, 1) := by decide +kernel
theorem dX2_add_95 : decode cX2_add 95 = .ok (.aload_n 0, 1) := by decide +kernel
theorem dX2_add_96 : decode cX2_add 96 = .ok (.getfield 36, 3) := by decide +kernel
theorem dX2_add_99 : decode cX2_add 99 = .ok (.aload_n 0, 1) := by decide +kernel
theorem dX2_add_100 : decode cX2_add 100 = .ok (.getfield 44, 3) := by decide +kernel
theorem dX2_add_103 : decode cX2_add 103 = .ok (.iconst 0, 1) := by decide +kernel
theorem dX2_add_104 : decode cX2_add 104 = .ok (.iastore, 1) := by decide +kernel
theorem dX2_add_105 : decode cX2_add 105 = .ok (.aload_n 0, 1) := by decide +kernel
theorem dX2_add_106 : decode cX2_add 106 = .ok (.dup, 1) := by decide +kernel
theorem dX2_add_107 : decode cX2_add 107 = .ok (.getfield 44, 3) := by decide +kernel
theorem dX2_add_110 : decode cX2_add 110 = .ok (.iconst 1, 1) := by decide +kernel
theorem dX2_add_111 : decode cX2_add 111 = .ok (.iadd, 1) := by decide +kernel
theorem dX2_add_112 : decode cX2_add 112 = .ok (.putfield 44, 3) := by decide +kernel
theorem dX2_add_115 : decode cX2_add 115 = .ok (.aload_n 0, 1) := by decide +kernel
theorem dX2_add_116 : decode cX2_add 116 = .ok (.getfield 44, 3) := by decide +kernel
theorem dX2_add_119 : decode cX2_add 119 = .ok (.iconst 1, 1) := by decide +kernel
theorem dX2_add_120 : decode cX2_add 120 = .ok (.isub, 1) := by decide +kernel
theorem dX2_add_121 : decode cX2_add 121 = .ok (.ireturn, 1) := by decide +kernel
theorem dX2_isLost_0 : decode cX2_isLost 0 = .ok (.aload_n 0, 1) := by decide +kernel
theorem dX2_isLost_1 : decode cX2_isLost 1 = .ok (.getfield 11, 3) := by decide +kernel
theorem dX2_isLost_4 : decode cX2_isLost 4 = .ok (.iload_n 1, 1) := by decide +kernel
theorem dX2_isLost_5 : decode cX2_isLost 5 = .ok (.iaload, 1) := by decide +kernel
theorem dX2_isLost_6 : decode cX2_isLost 6 = .ok (.iconst 4, 1) := by decide +kernel
theorem dX2_isLost_7 : decode cX2_isLost 7 = .ok (.if_icmp .ne 7, 3) := by decide +kernel
theorem dX2_isLost_10 : decode cX2_isLost 10 = .ok (.iconst 1, 1) := by decide +kernel
theorem dX2_isLost_11 : decode cX2_isLost 11 = .ok (.goto 4, 3) := by decide +kernel
theorem dX2_isLost_14 : decode cX2_isLost 14 = .ok (.iconst 0, 1) := by decide +kernel
theorem dX2_isLost_15 : decode cX2_isLost 15 = .ok (.ireturn, 1) := by decide +kernel
theorem dX2_stillLost_0 : decode cX2_stillLost 0 = .ok (.iconst 0, 1) := by decide +kernel
theorem dX2_stillLost_1 : decode cX2_stillLost 1 = .ok (.istore_n 1, 1) := by decide +kernel
theorem dX2_stillLost_2 : decode cX2_stillLost 2 = .ok (.iconst 0, 1) := by decide +kernel
theorem dX2_stillLost_3 : decode cX2_stillLost 3 = .ok (.istore_n 2, 1) := by decide +kernel
theorem dX2_stillLost_4 : decode cX2_stillLost 4 = .ok (.iload_n 2, 1) := by decide +kernel
theorem dX2_stillLost_5 : decode cX2_stillLost 5 = .ok (.aload_n 0, 1) := by decide +kernel
theorem dX2_stillLost_6 : decode cX2_stillLost 6 = .ok (.getfield 44, 3) := by decide +kernel
theorem dX2_stillLost_9 : decode cX2_stillLost 9 = .ok (.if_icmp .ge 30, 3) := by decide +kernel
theorem dX2_stillLost_12 : decode cX2_stillLost 12 = .ok (.aload_n 0, 1) := by decide +kernel
theorem dX2_stillLost_13 : decode cX2_stillLost 13 = .ok (.iload_n 2, 1) := by decide +kernel
theorem dX2_stillLost_14 : decode cX2_stillLost 14 = .ok (.invokevirtual 55, 3) := by decide +kernel
theorem dX2_stillLost_17 : decode cX2_stillLost 17 = .ok (.ifCond .eq 16, 3) := by decide +kernel
theorem dX2_stillLost_20 : decode cX2_stillLost 20 = .ok (.aload_n 0, 1) := by decide +kernel
theorem dX2_stillLost_21 : decode cX2_stillLost 21 = .ok (.getfield 33, 3) := by decide +kernel
theorem dX2_stillLost_24 : decode cX2_stillLost 24 = .ok (.iload_n 2, 1) := by decide +kernel
theorem dX2_stillLost_25 : decode cX2_stillLost 25 = .ok (.iaload, 1) := by decide +kernel
theorem dX2_stillLost_26 : decode cX2_stillLost 26 = .ok (.iconst (-1), 1) := by decide +kernel
theorem dX2_stillLost_27 : decode cX2_stillLost 27 = .ok (.if_icmp .ne 6, 3) := by decide +kernel
theorem dX2_stillLost_30 : decode cX2_stillLost 30 = .ok (.iinc 1 1, 3) := by decide +kernel
theorem dX2_stillLost_33 : decode cX2_stillLost 33 = .ok (.iinc 2 1, 3) := by decide +kernel
theorem dX2_stillLost_36 : decode cX2_stillLost 36 = .ok (.goto (-32), 3) := by decide +kernel
theorem dX2_stillLost_39 : decode cX2_stillLost 39 = .ok (.iload_n 1, 1) := by decide +kernel
theorem dX2_stillLost_40 : decode cX2_stillLost 40 = .ok (.ireturn, 1) := by decide +kernel
theorem dX2_isReader_0 : decode cX2_isReader 0 = .ok (.aload_n 0, 1) := by decide +kernel
theorem dX2_isReader_1 : decode cX2_isReader 1 = .ok (.getfield 11, 3) := by decide +kernel
theorem dX2_isReader_4 : decode cX2_isReader 4 = .ok (.iload_n 1, 1) := by decide +kernel
theorem dX2_isReader_5 : decode cX2_isReader 5 = .ok (.iaload, 1) := by decide +kernel
theorem dX2_isReader_6 : decode cX2_isReader 6 = .ok (.iconst 1, 1) := by decide +kernel
theorem dX2_isReader_7 : decode cX2_isReader 7 = .ok (.if_icmp .ne 5, 3) := by decide +kernel
theorem dX2_isReader_10 : decode cX2_isReader 10 = .ok (.iconst 0, 1) := by decide +kernel
theorem dX2_isReader_11 : decode cX2_isReader 11 = .ok (.ireturn, 1) := by decide +kernel
theorem dX2_isReader_12 : decode cX2_isReader 12 = .ok (.aload_n 0, 1) := by decide +kernel
theorem dX2_isReader_13 : decode cX2_isReader 13 = .ok (.getfield 11, 3) := by decide +kernel
theorem dX2_isReader_16 : decode cX2_isReader 16 = .ok (.iload_n 1, 1) := by decide +kernel
theorem dX2_isReader_17 : decode cX2_isReader 17 = .ok (.iaload, 1) := by decide +kernel
theorem dX2_isReader_18 : decode cX2_isReader 18 = .ok (.iconst 5, 1) := by decide +kernel
theorem dX2_isReader_19 : decode cX2_isReader 19 = .ok (.if_icmp .ne 19, 3) := by decide +kernel
theorem dX2_isReader_22 : decode cX2_isReader 22 = .ok (.aload_n 0, 1) := by decide +kernel
theorem dX2_isReader_23 : decode cX2_isReader 23 = .ok (.getfield 15, 3) := by decide +kernel
theorem dX2_isReader_26 : decode cX2_isReader 26 = .ok (.iload_n 1, 1) := by decide +kernel
theorem dX2_isReader_27 : decode cX2_isReader 27 = .ok (.iaload, 1) := by decide +kernel
theorem dX2_isReader_28 : decode cX2_isReader 28 = .ok (.iload_n 2, 1) := by decide +kernel
theorem dX2_isReader_29 : decode cX2_isReader 29 = .ok (.if_icmp .eq 7, 3) := by decide +kernel
theorem dX2_isReader_32 : decode cX2_isReader 32 = .ok (.iconst 1, 1) := by decide +kernel
theorem dX2_isReader_33 : decode cX2_isReader 33 = .ok (.goto 4, 3) := by decide +kernel
theorem dX2_isReader_36 : decode cX2_isReader 36 = .ok (.iconst 0, 1) := by decide +kernel
theorem dX2_isReader_37 : decode cX2_isReader 37 = .ok (.ireturn, 1) := by decide +kernel
theorem dX2_isReader_38 : decode cX2_isReader 38 = .ok (.aload_n 0, 1) := by decide +kernel
theorem dX2_isReader_39 : decode cX2_isReader 39 = .ok (.getfield 18, 3) := by decide +kernel
theorem dX2_isReader_42 : decode cX2_isReader 42 = .ok (.iload_n 1, 1) := by decide +kernel
theorem dX2_isReader_43 : decode cX2_isReader 43 = .ok (.iaload, 1) := by decide +kernel
theorem dX2_isReader_44 : decode cX2_isReader 44 = .ok (.iload_n 2, 1) := by decide +kernel
theorem dX2_isReader_45 : decode cX2_isReader 45 = .ok (.if_icmp .ne 7, 3) := by decide +kernel
theorem dX2_isReader_48 : decode cX2_isReader 48 = .ok (.iconst 1, 1) := by decide +kernel
theorem dX2_isReader_49 : decode cX2_isReader 49 = .ok (.goto 4, 3) := by decide +kernel
theorem dX2_isReader_52 : decode cX2_isReader 52 = .ok (.iconst 0, 1) := by decide +kernel
theorem dX2_isReader_53 : decode cX2_isReader 53 = .ok (.ireturn, 1) := by decide +kernel
theorem dX2_write_0 : decode cX2_write 0 = .ok (.aload_n 0, 1) := by decide +kernel
theorem dX2_write_1 : decode cX2_write 1 = .ok (.getfield 36, 3) := by decide +kernel
theorem dX2_write_4 : decode cX2_write 4 = .ok (.iload_n 1, 1) := by decide +kernel
theorem dX2_write_5 : decode cX2_write 5 = .ok (.iload_n 3, 1) := by decide +kernel
theorem dX2_write_6 : decode cX2_write 6 = .ok (.sipush 160, 3) := by decide +kernel
theorem dX2_write_9 : decode cX2_write 9 = .ok (.invokestatic 58, 3) := by decide +kernel
theorem dX2_write_12 : decode cX2_write 12 = .ok (.iastore, 1) := by decide +kernel
theorem dX2_write_13 : decode cX2_write 13 = .ok (.iconst 0, 1) := by decide +kernel
theorem dX2_write_14 : decode cX2_write 14 = .ok (.istore 4, 2) := by decide +kernel
theorem dX2_write_16 : decode cX2_write 16 = .ok (.iload 4, 2) := by decide +kernel
theorem dX2_write_18 : decode cX2_write 18 = .ok (.aload_n 0, 1) := by decide +kernel
theorem dX2_write_19 : decode cX2_write 19 = .ok (.getfield 36, 3) := by decide +kernel
theorem dX2_write_22 : decode cX2_write 22 = .ok (.iload_n 1, 1) := by decide +kernel
theorem dX2_write_23 : decode cX2_write 23 = .ok (.iaload, 1) := by decide +kernel
theorem dX2_write_24 : decode cX2_write 24 = .ok (.if_icmp .ge 22, 3) := by decide +kernel
theorem dX2_write_27 : decode cX2_write 27 = .ok (.aload_n 0, 1) := by decide +kernel
theorem dX2_write_28 : decode cX2_write 28 = .ok (.getfield 41, 3) := by decide +kernel
theorem dX2_write_31 : decode cX2_write 31 = .ok (.iload_n 1, 1) := by decide +kernel
theorem dX2_write_32 : decode cX2_write 32 = .ok (.aaload, 1) := by decide +kernel
theorem dX2_write_33 : decode cX2_write 33 = .ok (.iload 4, 2) := by decide +kernel
theorem dX2_write_35 : decode cX2_write 35 = .ok (.aload_n 2, 1) := by decide +kernel
theorem dX2_write_36 : decode cX2_write 36 = .ok (.iload 4, 2) := by decide +kernel
theorem dX2_write_38 : decode cX2_write 38 = .ok (.baload, 1) := by decide +kernel
theorem dX2_write_39 : decode cX2_write 39 = .ok (.bastore, 1) := by decide +kernel
theorem dX2_write_40 : decode cX2_write 40 = .ok (.iinc 4 1, 3) := by decide +kernel
theorem dX2_write_43 : decode cX2_write 43 = .ok (.goto (-27), 3) := by decide +kernel
theorem dX2_write_46 : decode cX2_write 46 = .ok (.return_, 1) := by decide +kernel
theorem dX3_init_0 : decode cX3_init 0 = .ok (.aload_n 0, 1) := by decide +kernel
theorem dX3_init_1 : decode cX3_init 1 = .ok (.invokespecial 1, 3) := by decide +kernel
theorem dX3_init_4 : decode cX3_init 4 = .ok (.aload_n 0, 1) := by decide +kernel
theorem dX3_init_5 : decode cX3_init 5 = .ok (.iconst 0, 1) := by decide +kernel
theorem dX3_init_6 : decode cX3_init 6 = .ok (.putfield 7, 3) := by decide +kernel
theorem dX3_init_9 : decode cX3_init 9 = .ok (.aload_n 0, 1) := by decide +kernel
theorem dX3_init_10 : decode cX3_init 10 = .ok (.iconst 0, 1) := by decide +kernel
theorem dX3_init_11 : decode cX3_init 11 = .ok (.putfield 13, 3) := by decide +kernel
theorem dX3_init_14 : decode cX3_init 14 = .ok (.aload_n 0, 1) := by decide +kernel
theorem dX3_init_15 : decode cX3_init 15 = .ok (.iconst 0, 1) := by decide +kernel
theorem dX3_init_16 : decode cX3_init 16 = .ok (.putfield 16, 3) := by decide +kernel
theorem dX3_init_19 : decode cX3_init 19 = .ok (.aload_n 0, 1) := by decide +kernel
theorem dX3_init_20 : decode cX3_init 20 = .ok (.iconst 0, 1) := by decide +kernel
theorem dX3_init_21 : decode cX3_init 21 = .ok (.putfield 19, 3) := by decide +kernel
theorem dX3_init_24 : decode cX3_init 24 = .ok (.aload_n 0, 1) := by decide +kernel
theorem dX3_init_25 : decode cX3_init 25 = .ok (.iconst 0, 1) := by decide +kernel
theorem dX3_init_26 : decode cX3_init 26 = .ok (.putfield 22, 3) := by decide +kernel
theorem dX3_init_29 : decode cX3_init 29 = .ok (.aload_n 0, 1) := by decide +kernel
theorem dX3_init_30 : decode cX3_init 30 = .ok (.iconst 4, 1) := by decide +kernel
theorem dX3_init_31 : decode cX3_init 31 = .ok (.newarray .int, 2) := by decide +kernel
theorem dX3_init_33 : decode cX3_init 33 = .ok (.putfield 25, 3) := by decide +kernel
theorem dX3_init_36 : decode cX3_init 36 = .ok (.aload_n 0, 1) := by decide +kernel
theorem dX3_init_37 : decode cX3_init 37 = .ok (.iconst 0, 1) := by decide +kernel
theorem dX3_init_38 : decode cX3_init 38 = .ok (.putfield 29, 3) := by decide +kernel
theorem dX3_init_41 : decode cX3_init 41 = .ok (.aload_n 0, 1) := by decide +kernel
theorem dX3_init_42 : decode cX3_init 42 = .ok (.iconst 0, 1) := by decide +kernel
theorem dX3_init_43 : decode cX3_init 43 = .ok (.putfield 32, 3) := by decide +kernel
theorem dX3_init_46 : decode cX3_init 46 = .ok (.return_, 1) := by decide +kernel
theorem dX3_begin_0 : decode cX3_begin 0 = .ok (.aload_n 0, 1) := by decide +kernel
theorem dX3_begin_1 : decode cX3_begin 1 = .ok (.iconst 0, 1) := by decide +kernel
theorem dX3_begin_2 : decode cX3_begin 2 = .ok (.putfield 7, 3) := by decide +kernel
theorem dX3_begin_5 : decode cX3_begin 5 = .ok (.aload_n 0, 1) := by decide +kernel
theorem dX3_begin_6 : decode cX3_begin 6 = .ok (.iconst 0, 1) := by decide +kernel
theorem dX3_begin_7 : decode cX3_begin 7 = .ok (.putfield 29, 3) := by decide +kernel
theorem dX3_begin_10 : decode cX3_begin 10 = .ok (.return_, 1) := by decide +kernel
theorem dX3_isWhole_0 : decode cX3_isWhole 0 = .ok (.aload_n 0, 1) := by decide +kernel
theorem dX3_isWhole_1 : decode cX3_isWhole 1 = .ok (.getfield 29, 3) := by decide +kernel
theorem dX3_isWhole_4 : decode cX3_isWhole 4 = .ok (.ifCond .ne 14, 3) := by decide +kernel
theorem dX3_isWhole_7 : decode cX3_isWhole 7 = .ok (.aload_n 0, 1) := by decide +kernel
theorem dX3_isWhole_8 : decode cX3_isWhole 8 = .ok (.getfield 7, 3) := by decide +kernel
theorem dX3_isWhole_11 : decode cX3_isWhole 11 = .ok (.ifCond .ne 7, 3) := by decide +kernel
theorem dX3_isWhole_14 : decode cX3_isWhole 14 = .ok (.iconst 1, 1) := by decide +kernel
theorem dX3_isWhole_15 : decode cX3_isWhole 15 = .ok (.goto 4, 3) := by decide +kernel
theorem dX3_isWhole_18 : decode cX3_isWhole 18 = .ok (.iconst 0, 1) := by decide +kernel
theorem dX3_isWhole_19 : decode cX3_isWhole 19 = .ok (.ireturn, 1) := by decide +kernel
theorem dX3_take_0 : decode cX3_take 0 = .ok (.aload_n 0, 1) := by decide +kernel
theorem dX3_take_1 : decode cX3_take 1 = .ok (.getfield 29, 3) := by decide +kernel
theorem dX3_take_4 : decode cX3_take 4 = .ok (.lookupswitch 42 #[(1, 28), (2, 35)], 28) := by decide +kernel
theorem dX3_take_32 : decode cX3_take 32 = .ok (.aload_n 0, 1) := by decide +kernel
theorem dX3_take_33 : decode cX3_take 33 = .ok (.iload_n 1, 1) := by decide +kernel
theorem dX3_take_34 : decode cX3_take 34 = .ok (.iload_n 2, 1) := by decide +kernel
theorem dX3_take_35 : decode cX3_take 35 = .ok (.invokevirtual 35, 3) := by decide +kernel
theorem dX3_take_38 : decode cX3_take 38 = .ok (.ireturn, 1) := by decide +kernel
theorem dX3_take_39 : decode cX3_take 39 = .ok (.aload_n 0, 1) := by decide +kernel
theorem dX3_take_40 : decode cX3_take 40 = .ok (.iload_n 1, 1) := by decide +kernel
theorem dX3_take_41 : decode cX3_take 41 = .ok (.iload_n 2, 1) := by decide +kernel
theorem dX3_take_42 : decode cX3_take 42 = .ok (.invokevirtual 39, 3) := by decide +kernel
theorem dX3_take_45 : decode cX3_take 45 = .ok (.ireturn, 1) := by decide +kernel
theorem dX3_take_46 : decode cX3_take 46 = .ok (.aload_n 0, 1) := by decide +kernel
theorem dX3_take_47 : decode cX3_take 47 = .ok (.iload_n 1, 1) := by decide +kernel
theorem dX3_take_48 : decode cX3_take 48 = .ok (.iload_n 2, 1) := by decide +kernel
theorem dX3_take_49 : decode cX3_take 49 = .ok (.invokevirtual 42, 3) := by decide +kernel
theorem dX3_take_52 : decode cX3_take 52 = .ok (.ireturn, 1) := by decide +kernel
theorem dX3_takeText_0 : decode cX3_takeText 0 = .ok (.iload_n 1, 1) := by decide +kernel
theorem dX3_takeText_1 : decode cX3_takeText 1 = .ok (.invokestatic 45, 3) := by decide +kernel
theorem dX3_takeText_4 : decode cX3_takeText 4 = .ok (.ifCond .ne 15, 3) := by decide +kernel
theorem dX3_takeText_7 : decode cX3_takeText 7 = .ok (.iload_n 1, 1) := by decide +kernel
theorem dX3_takeText_8 : decode cX3_takeText 8 = .ok (.bipush 32, 2) := by decide +kernel
theorem dX3_takeText_10 : decode cX3_takeText 10 = .ok (.if_icmp .eq 9, 3) := by decide +kernel
theorem dX3_takeText_13 : decode cX3_takeText 13 = .ok (.iload_n 1, 1) := by decide +kernel
theorem dX3_takeText_14 : decode cX3_takeText 14 = .ok (.bipush 46, 2) := by decide +kernel
theorem dX3_takeText_16 : decode cX3_takeText 16 = .ok (.if_icmp .ne 5, 3) := by decide +kernel
theorem dX3_takeText_19 : decode cX3_takeText 19 = .ok (.iconst 0, 1) := by decide +kernel
theorem dX3_takeText_20 : decode cX3_takeText 20 = .ok (.ireturn, 1) := by decide +kernel
theorem dX3_takeText_21 : decode cX3_takeText 21 = .ok (.iload_n 1, 1) := by decide +kernel
theorem dX3_takeText_22 : decode cX3_takeText 22 = .ok (.bipush 125, 2) := by decide +kernel
theorem dX3_takeText_24 : decode cX3_takeText 24 = .ok (.if_icmp .ne 35, 3) := by decide +kernel
theorem dX3_takeText_27 : decode cX3_takeText 27 = .ok (.aload_n 0, 1) := by decide +kernel
theorem dX3_takeText_28 : decode cX3_takeText 28 = .ok (.getfield 7, 3) := by decide +kernel
theorem dX3_takeText_31 : decode cX3_takeText 31 = .ok (.ifCond .le 28, 3) := by decide +kernel
theorem dX3_takeText_34 : decode cX3_takeText 34 = .ok (.aload_n 0, 1) := by decide +kernel
theorem dX3_takeText_35 : decode cX3_takeText 35 = .ok (.dup, 1) := by decide +kernel
theorem dX3_takeText_36 : decode cX3_takeText 36 = .ok (.getfield 7, 3) := by decide +kernel
theorem dX3_takeText_39 : decode cX3_takeText 39 = .ok (.iconst 1, 1) := by decide +kernel
theorem dX3_takeText_40 : decode cX3_takeText 40 = .ok (.isub, 1) := by decide +kernel
theorem dX3_takeText_41 : decode cX3_takeText 41 = .ok (.putfield 7, 3) := by decide +kernel
theorem dX3_takeText_44 : decode cX3_takeText 44 = .ok (.aload_n 0, 1) := by decide +kernel
theorem dX3_takeText_45 : decode cX3_takeText 45 = .ok (.aload_n 0, 1) := by decide +kernel
theorem dX3_takeText_46 : decode cX3_takeText 46 = .ok (.getfield 25, 3) := by decide +kernel
theorem dX3_takeText_49 : decode cX3_takeText 49 = .ok (.aload_n 0, 1) := by decide +kernel
theorem dX3_takeText_50 : decode cX3_takeText 50 = .ok (.getfield 7, 3) := by decide +kernel
theorem dX3_takeText_53 : decode cX3_takeText 53 = .ok (.iaload, 1) := by decide +kernel
theorem dX3_takeText_54 : decode cX3_takeText 54 = .ok (.putfield 13, 3) := by decide +kernel
theorem dX3_takeText_57 : decode cX3_takeText 57 = .ok (.iconst 3, 1) := by decide +kernel
theorem dX3_takeText_58 : decode cX3_takeText 58 = .ok (.ireturn, 1) := by decide +kernel
theorem dX3_takeText_59 : decode cX3_takeText 59 = .ok (.iload_n 1, 1) := by decide +kernel
theorem dX3_takeText_60 : decode cX3_takeText 60 = .ok (.bipush 123, 2) := by decide +kernel
theorem dX3_takeText_62 : decode cX3_takeText 62 = .ok (.if_icmp .ne 23, 3) := by decide +kernel
theorem dX3_takeText_65 : decode cX3_takeText 65 = .ok (.aload_n 0, 1) := by decide +kernel
theorem dX3_takeText_66 : decode cX3_takeText 66 = .ok (.getfield 7, 3) := by decide +kernel
theorem dX3_takeText_69 : decode cX3_takeText 69 = .ok (.iconst 4, 1) := by decide +kernel
theorem dX3_takeText_70 : decode cX3_takeText 70 = .ok (.if_icmp .ge 15, 3) := by decide +kernel
theorem dX3_takeText_73 : decode cX3_takeText 73 = .ok (.aload_n 0, 1) := by decide +kernel
theorem dX3_takeText_74 : decode cX3_takeText 74 = .ok (.iload_n 2, 1) := by decide +kernel
theorem dX3_takeText_75 : decode cX3_takeText 75 = .ok (.putfield 19, 3) := by decide +kernel
theorem dX3_takeText_78 : decode cX3_takeText 78 = .ok (.aload_n 0, 1) := by decide +kernel
theorem dX3_takeText_79 : decode cX3_takeText 79 = .ok (.iconst 1, 1) := by decide +kernel
theorem dX3_takeText_80 : decode cX3_takeText 80 = .ok (.putfield 29, 3) := by decide +kernel
theorem dX3_takeText_83 : decode cX3_takeText 83 = .ok (.iconst 1, 1) := by decide +kernel
theorem dX3_takeText_84 : decode cX3_takeText 84 = .ok (.ireturn, 1) := by decide +kernel
theorem dX3_takeText_85 : decode cX3_takeText 85 = .ok (.aload_n 0, 1) := by decide +kernel
theorem dX3_takeText_86 : decode cX3_takeText 86 = .ok (.iload_n 2, 1) := by decide +kernel
theorem dX3_takeText_87 : decode cX3_takeText 87 = .ok (.invokevirtual 49, 3) := by decide +kernel
theorem dX3_takeText_90 : decode cX3_takeText 90 = .ok (.ireturn, 1) := by decide +kernel
theorem dX3_takeSort_0 : decode cX3_takeSort 0 = .ok (.iload_n 1, 1) := by decide +kernel
theorem dX3_takeSort_1 : decode cX3_takeSort 1 = .ok (.invokestatic 53, 3) := by decide +kernel
theorem dX3_takeSort_4 : decode cX3_takeSort 4 = .ok (.ifCond .ne 9, 3) := by decide +kernel
theorem dX3_takeSort_7 : decode cX3_takeSort 7 = .ok (.aload_n 0, 1) := by decide +kernel
theorem dX3_takeSort_8 : decode cX3_takeSort 8 = .ok (.iload_n 2, 1) := by decide +kernel
theorem dX3_takeSort_9 : decode cX3_takeSort 9 = .ok (.invokevirtual 49, 3) := by decide +kernel
theorem dX3_takeSort_12 : decode cX3_takeSort 12 = .ok (.ireturn, 1) := by decide +kernel
theorem dX3_takeSort_13 : decode cX3_takeSort 13 = .ok (.aload_n 0, 1) := by decide +kernel
theorem dX3_takeSort_14 : decode cX3_takeSort 14 = .ok (.iload_n 1, 1) := by decide +kernel
theorem dX3_takeSort_15 : decode cX3_takeSort 15 = .ok (.invokevirtual 56, 3) := by decide +kernel
theorem dX3_takeSort_18 : decode cX3_takeSort 18 = .ok (.ifCond .eq 12, 3) := by decide +kernel
theorem dX3_takeSort_21 : decode cX3_takeSort 21 = .ok (.aload_n 0, 1) := by decide +kernel
theorem dX3_takeSort_22 : decode cX3_takeSort 22 = .ok (.aload_n 0, 1) := by decide +kernel
theorem dX3_takeSort_23 : decode cX3_takeSort 23 = .ok (.getfield 19, 3) := by decide +kernel
theorem dX3_takeSort_26 : decode cX3_takeSort 26 = .ok (.invokevirtual 49, 3) := by decide +kernel
theorem dX3_takeSort_29 : decode cX3_takeSort 29 = .ok (.ireturn, 1) := by decide +kernel
theorem dX3_takeSort_30 : decode cX3_takeSort 30 = .ok (.aload_n 0, 1) := by decide +kernel
theorem dX3_takeSort_31 : decode cX3_takeSort 31 = .ok (.iload_n 1, 1) := by decide +kernel
theorem dX3_takeSort_32 : decode cX3_takeSort 32 = .ok (.putfield 13, 3) := by decide +kernel
theorem dX3_takeSort_35 : decode cX3_takeSort 35 = .ok (.iload_n 1, 1) := by decide +kernel
theorem dX3_takeSort_36 : decode cX3_takeSort 36 = .ok (.bipush 115, 2) := by decide +kernel
theorem dX3_takeSort_38 : decode cX3_takeSort 38 = .ok (.if_icmp .eq 9, 3) := by decide +kernel
theorem dX3_takeSort_41 : decode cX3_takeSort 41 = .ok (.iload_n 1, 1) := by decide +kernel
theorem dX3_takeSort_42 : decode cX3_takeSort 42 = .ok (.bipush 110, 2) := by decide +kernel
theorem dX3_takeSort_44 : decode cX3_takeSort 44 = .ok (.if_icmp .ne 20, 3) := by decide +kernel
theorem dX3_takeSort_47 : decode cX3_takeSort 47 = .ok (.aload_n 0, 1) := by decide +kernel
theorem dX3_takeSort_48 : decode cX3_takeSort 48 = .ok (.iconst 0, 1) := by decide +kernel
theorem dX3_takeSort_49 : decode cX3_takeSort 49 = .ok (.putfield 16, 3) := by decide +kernel
theorem dX3_takeSort_52 : decode cX3_takeSort 52 = .ok (.aload_n 0, 1) := by decide +kernel
theorem dX3_takeSort_53 : decode cX3_takeSort 53 = .ok (.iconst 0, 1) := by decide +kernel
theorem dX3_takeSort_54 : decode cX3_takeSort 54 = .ok (.putfield 32, 3) := by decide +kernel
theorem dX3_takeSort_57 : decode cX3_takeSort 57 = .ok (.aload_n 0, 1) := by decide +kernel
theorem dX3_takeSort_58 : decode cX3_takeSort 58 = .ok (.iconst 2, 1) := by decide +kernel
theorem dX3_takeSort_59 : decode cX3_takeSort 59 = .ok (.putfield 29, 3) := by decide +kernel
theorem dX3_takeSort_62 : decode cX3_takeSort 62 = .ok (.iconst 1, 1) := by decide +kernel
theorem dX3_takeSort_63 : decode cX3_takeSort 63 = .ok (.ireturn, 1) := by decide +kernel
theorem dX3_takeSort_64 : decode cX3_takeSort 64 = .ok (.aload_n 0, 1) := by decide +kernel
theorem dX3_takeSort_65 : decode cX3_takeSort 65 = .ok (.invokevirtual 59, 3) := by decide +kernel
theorem dX3_takeSort_68 : decode cX3_takeSort 68 = .ok (.ireturn, 1) := by decide +kernel
theorem dX3_takeNumber_0 : decode cX3_takeNumber 0 = .ok (.iload_n 1, 1) := by decide +kernel
theorem dX3_takeNumber_1 : decode cX3_takeNumber 1 = .ok (.bipush 48, 2) := by decide +kernel
theorem dX3_takeNumber_3 : decode cX3_takeNumber 3 = .ok (.if_icmp .lt 45, 3) := by decide +kernel
theorem dX3_takeNumber_6 : decode cX3_takeNumber 6 = .ok (.iload_n 1, 1) := by decide +kernel
theorem dX3_takeNumber_7 : decode cX3_takeNumber 7 = .ok (.bipush 57, 2) := by decide +kernel
theorem dX3_takeNumber_9 : decode cX3_takeNumber 9 = .ok (.if_icmp .gt 39, 3) := by decide +kernel
theorem dX3_takeNumber_12 : decode cX3_takeNumber 12 = .ok (.aload_n 0, 1) := by decide +kernel
theorem dX3_takeNumber_13 : decode cX3_takeNumber 13 = .ok (.getfield 32, 3) := by decide +kernel
theorem dX3_takeNumber_16 : decode cX3_takeNumber 16 = .ok (.iconst 4, 1) := by decide +kernel
theorem dX3_takeNumber_17 : decode cX3_takeNumber 17 = .ok (.if_icmp .ge 31, 3) := by decide +kernel
theorem dX3_takeNumber_20 : decode cX3_takeNumber 20 = .ok (.aload_n 0, 1) := by decide +kernel
theorem dX3_takeNumber_21 : decode cX3_takeNumber 21 = .ok (.aload_n 0, 1) := by decide +kernel
theorem dX3_takeNumber_22 : decode cX3_takeNumber 22 = .ok (.getfield 16, 3) := by decide +kernel
theorem dX3_takeNumber_25 : decode cX3_takeNumber 25 = .ok (.bipush 10, 2) := by decide +kernel
theorem dX3_takeNumber_27 : decode cX3_takeNumber 27 = .ok (.imul, 1) := by decide +kernel
theorem dX3_takeNumber_28 : decode cX3_takeNumber 28 = .ok (.iload_n 1, 1) := by decide +kernel
theorem dX3_takeNumber_29 : decode cX3_takeNumber 29 = .ok (.iadd, 1) := by decide +kernel
theorem dX3_takeNumber_30 : decode cX3_takeNumber 30 = .ok (.bipush 48, 2) := by decide +kernel
theorem dX3_takeNumber_32 : decode cX3_takeNumber 32 = .ok (.isub, 1) := by decide +kernel
theorem dX3_takeNumber_33 : decode cX3_takeNumber 33 = .ok (.putfield 16, 3) := by decide +kernel
theorem dX3_takeNumber_36 : decode cX3_takeNumber 36 = .ok (.aload_n 0, 1) := by decide +kernel
theorem dX3_takeNumber_37 : decode cX3_takeNumber 37 = .ok (.dup, 1) := by decide +kernel
theorem dX3_takeNumber_38 : decode cX3_takeNumber 38 = .ok (.getfield 32, 3) := by decide +kernel
theorem dX3_takeNumber_41 : decode cX3_takeNumber 41 = .ok (.iconst 1, 1) := by decide +kernel
theorem dX3_takeNumber_42 : decode cX3_takeNumber 42 = .ok (.iadd, 1) := by decide +kernel
theorem dX3_takeNumber_43 : decode cX3_takeNumber 43 = .ok (.putfield 32, 3) := by decide +kernel
theorem dX3_takeNumber_46 : decode cX3_takeNumber 46 = .ok (.iconst 1, 1) := by decide +kernel
theorem dX3_takeNumber_47 : decode cX3_takeNumber 47 = .ok (.ireturn, 1) := by decide +kernel
theorem dX3_takeNumber_48 : decode cX3_takeNumber 48 = .ok (.aload_n 0, 1) := by decide +kernel
theorem dX3_takeNumber_49 : decode cX3_takeNumber 49 = .ok (.getfield 32, 3) := by decide +kernel
theorem dX3_takeNumber_52 : decode cX3_takeNumber 52 = .ok (.ifCond .eq 23, 3) := by decide +kernel
theorem dX3_takeNumber_55 : decode cX3_takeNumber 55 = .ok (.iload_n 1, 1) := by decide +kernel
theorem dX3_takeNumber_56 : decode cX3_takeNumber 56 = .ok (.aload_n 0, 1) := by decide +kernel
theorem dX3_takeNumber_57 : decode cX3_takeNumber 57 = .ok (.getfield 13, 3) := by decide +kernel
theorem dX3_takeNumber_60 : decode cX3_takeNumber 60 = .ok (.bipush 115, 2) := by decide +kernel
theorem dX3_takeNumber_62 : decode cX3_takeNumber 62 = .ok (.if_icmp .ne 8, 3) := by decide +kernel
theorem dX3_takeNumber_65 : decode cX3_takeNumber 65 = .ok (.bipush 58, 2) := by decide +kernel
theorem dX3_takeNumber_67 : decode cX3_takeNumber 67 = .ok (.goto 5, 3) := by decide +kernel
theorem dX3_takeNumber_70 : decode cX3_takeNumber 70 = .ok (.bipush 125, 2) := by decide +kernel
theorem dX3_takeNumber_72 : decode cX3_takeNumber 72 = .ok (.if_icmp .eq 9, 3) := by decide +kernel
theorem dX3_takeNumber_75 : decode cX3_takeNumber 75 = .ok (.aload_n 0, 1) := by decide +kernel
theorem dX3_takeNumber_76 : decode cX3_takeNumber 76 = .ok (.iload_n 2, 1) := by decide +kernel
theorem dX3_takeNumber_77 : decode cX3_takeNumber 77 = .ok (.invokevirtual 49, 3) := by decide +kernel
theorem dX3_takeNumber_80 : decode cX3_takeNumber 80 = .ok (.ireturn, 1) := by decide +kernel
theorem dX3_takeNumber_81 : decode cX3_takeNumber 81 = .ok (.aload_n 0, 1) := by decide +kernel
theorem dX3_takeNumber_82 : decode cX3_takeNumber 82 = .ok (.getfield 13, 3) := by decide +kernel
theorem dX3_takeNumber_85 : decode cX3_takeNumber 85 = .ok (.bipush 115, 2) := by decide +kernel
theorem dX3_takeNumber_87 : decode cX3_takeNumber 87 = .ok (.if_icmp .ne 8, 3) := by decide +kernel
theorem dX3_takeNumber_90 : decode cX3_takeNumber 90 = .ok (.aload_n 0, 1) := by decide +kernel
theorem dX3_takeNumber_91 : decode cX3_takeNumber 91 = .ok (.invokevirtual 59, 3) := by decide +kernel
theorem dX3_takeNumber_94 : decode cX3_takeNumber 94 = .ok (.ireturn, 1) := by decide +kernel
theorem dX3_takeNumber_95 : decode cX3_takeNumber 95 = .ok (.aload_n 0, 1) := by decide +kernel
theorem dX3_takeNumber_96 : decode cX3_takeNumber 96 = .ok (.iconst 0, 1) := by decide +kernel
theorem dX3_takeNumber_97 : decode cX3_takeNumber 97 = .ok (.putfield 29, 3) := by decide +kernel
theorem dX3_takeNumber_100 : decode cX3_takeNumber 100 = .ok (.iconst 4, 1) := by decide +kernel
theorem dX3_takeNumber_101 : decode cX3_takeNumber 101 = .ok (.ireturn, 1) := by decide +kernel
theorem dX3_openMark_0 : decode cX3_openMark 0 = .ok (.aload_n 0, 1) := by decide +kernel
theorem dX3_openMark_1 : decode cX3_openMark 1 = .ok (.getfield 7, 3) := by decide +kernel
theorem dX3_openMark_4 : decode cX3_openMark 4 = .ok (.iconst 4, 1) := by decide +kernel
theorem dX3_openMark_5 : decode cX3_openMark 5 = .ok (.if_icmp .ge 26, 3) := by decide +kernel
theorem dX3_openMark_8 : decode cX3_openMark 8 = .ok (.aload_n 0, 1) := by decide +kernel
theorem dX3_openMark_9 : decode cX3_openMark 9 = .ok (.getfield 25, 3) := by decide +kernel
theorem dX3_openMark_12 : decode cX3_openMark 12 = .ok (.aload_n 0, 1) := by decide +kernel
theorem dX3_openMark_13 : decode cX3_openMark 13 = .ok (.getfield 7, 3) := by decide +kernel
theorem dX3_openMark_16 : decode cX3_openMark 16 = .ok (.aload_n 0, 1) := by decide +kernel
theorem dX3_openMark_17 : decode cX3_openMark 17 = .ok (.getfield 13, 3) := by decide +kernel
theorem dX3_openMark_20 : decode cX3_openMark 20 = .ok (.iastore, 1) := by decide +kernel
theorem dX3_openMark_21 : decode cX3_openMark 21 = .ok (.aload_n 0, 1) := by decide +kernel
theorem dX3_openMark_22 : decode cX3_openMark 22 = .ok (.dup, 1) := by decide +kernel
theorem dX3_openMark_23 : decode cX3_openMark 23 = .ok (.getfield 7, 3) := by decide +kernel
theorem dX3_openMark_26 : decode cX3_openMark 26 = .ok (.iconst 1, 1) := by decide +kernel
theorem dX3_openMark_27 : decode cX3_openMark 27 = .ok (.iadd, 1) := by decide +kernel
theorem dX3_openMark_28 : decode cX3_openMark 28 = .ok (.putfield 7, 3) := by decide +kernel
theorem dX3_openMark_31 : decode cX3_openMark 31 = .ok (.aload_n 0, 1) := by decide +kernel
theorem dX3_openMark_32 : decode cX3_openMark 32 = .ok (.iconst 0, 1) := by decide +kernel
theorem dX3_openMark_33 : decode cX3_openMark 33 = .ok (.putfield 29, 3) := by decide +kernel
theorem dX3_openMark_36 : decode cX3_openMark 36 = .ok (.iconst 2, 1) := by decide +kernel
theorem dX3_openMark_37 : decode cX3_openMark 37 = .ok (.ireturn, 1) := by decide +kernel
theorem dX3_stopAt_0 : decode cX3_stopAt 0 = .ok (.aload_n 0, 1) := by decide +kernel
theorem dX3_stopAt_1 : decode cX3_stopAt 1 = .ok (.iload_n 1, 1) := by decide +kernel
theorem dX3_stopAt_2 : decode cX3_stopAt 2 = .ok (.putfield 22, 3) := by decide +kernel
theorem dX3_stopAt_5 : decode cX3_stopAt 5 = .ok (.iconst 5, 1) := by decide +kernel
theorem dX3_stopAt_6 : decode cX3_stopAt 6 = .ok (.ireturn, 1) := by decide +kernel
theorem dX3_isOpen_0 : decode cX3_isOpen 0 = .ok (.iconst 0, 1) := by decide +kernel
theorem dX3_isOpen_1 : decode cX3_isOpen 1 = .ok (.istore_n 2, 1) := by decide +kernel
theorem dX3_isOpen_2 : decode cX3_isOpen 2 = .ok (.iload_n 2, 1) := by decide +kernel
theorem dX3_isOpen_3 : decode cX3_isOpen 3 = .ok (.aload_n 0, 1) := by decide +kernel
theorem dX3_isOpen_4 : decode cX3_isOpen 4 = .ok (.getfield 7, 3) := by decide +kernel
theorem dX3_isOpen_7 : decode cX3_isOpen 7 = .ok (.if_icmp .ge 21, 3) := by decide +kernel
theorem dX3_isOpen_10 : decode cX3_isOpen 10 = .ok (.aload_n 0, 1) := by decide +kernel
theorem dX3_isOpen_11 : decode cX3_isOpen 11 = .ok (.getfield 25, 3) := by decide +kernel
theorem dX3_isOpen_14 : decode cX3_isOpen 14 = .ok (.iload_n 2, 1) := by decide +kernel
theorem dX3_isOpen_15 : decode cX3_isOpen 15 = .ok (.iaload, 1) := by decide +kernel
theorem dX3_isOpen_16 : decode cX3_isOpen 16 = .ok (.iload_n 1, 1) := by decide +kernel
theorem dX3_isOpen_17 : decode cX3_isOpen 17 = .ok (.if_icmp .ne 5, 3) := by decide +kernel
theorem dX3_isOpen_20 : decode cX3_isOpen 20 = .ok (.iconst 1, 1) := by decide +kernel
theorem dX3_isOpen_21 : decode cX3_isOpen 21 = .ok (.ireturn, 1) := by decide +kernel
theorem dX3_isOpen_22 : decode cX3_isOpen 22 = .ok (.iinc 2 1, 3) := by decide +kernel
theorem dX3_isOpen_25 : decode cX3_isOpen 25 = .ok (.goto (-23), 3) := by decide +kernel
theorem dX3_isOpen_28 : decode cX3_isOpen 28 = .ok (.iconst 0, 1) := by decide +kernel
theorem dX3_isOpen_29 : decode cX3_isOpen 29 = .ok (.ireturn, 1) := by decide +kernel
theorem dX3_isLetter_0 : decode cX3_isLetter 0 = .ok (.iload_n 0, 1) := by decide +kernel
theorem dX3_isLetter_1 : decode cX3_isLetter 1 = .ok (.bipush 97, 2) := by decide +kernel
theorem dX3_isLetter_3 : decode cX3_isLetter 3 = .ok (.if_icmp .lt 13, 3) := by decide +kernel
theorem dX3_isLetter_6 : decode cX3_isLetter 6 = .ok (.iload_n 0, 1) := by decide +kernel
theorem dX3_isLetter_7 : decode cX3_isLetter 7 = .ok (.bipush 122, 2) := by decide +kernel
theorem dX3_isLetter_9 : decode cX3_isLetter 9 = .ok (.if_icmp .gt 7, 3) := by decide +kernel
theorem dX3_isLetter_12 : decode cX3_isLetter 12 = .ok (.iconst 1, 1) := by decide +kernel
theorem dX3_isLetter_13 : decode cX3_isLetter 13 = .ok (.goto 4, 3) := by decide +kernel
theorem dX3_isLetter_16 : decode cX3_isLetter 16 = .ok (.iconst 0, 1) := by decide +kernel
theorem dX3_isLetter_17 : decode cX3_isLetter 17 = .ok (.ireturn, 1) := by decide +kernel
theorem dX3_isSort_0 : decode cX3_isSort 0 = .ok (.iload_n 0, 1) := by decide +kernel
theorem dX3_isSort_1 : decode cX3_isSort 1 = .ok (.bipush 100, 2) := by decide +kernel
theorem dX3_isSort_3 : decode cX3_isSort 3 = .ok (.if_icmp .eq 33, 3) := by decide +kernel
theorem dX3_isSort_6 : decode cX3_isSort 6 = .ok (.iload_n 0, 1) := by decide +kernel
theorem dX3_isSort_7 : decode cX3_isSort 7 = .ok (.bipush 97, 2) := by decide +kernel
theorem dX3_isSort_9 : decode cX3_isSort 9 = .ok (.if_icmp .eq 27, 3) := by decide +kernel
theorem dX3_isSort_12 : decode cX3_isSort 12 = .ok (.iload_n 0, 1) := by decide +kernel
theorem dX3_isSort_13 : decode cX3_isSort 13 = .ok (.bipush 117, 2) := by decide +kernel
theorem dX3_isSort_15 : decode cX3_isSort 15 = .ok (.if_icmp .eq 21, 3) := by decide +kernel
theorem dX3_isSort_18 : decode cX3_isSort 18 = .ok (.iload_n 0, 1) := by decide +kernel
theorem dX3_isSort_19 : decode cX3_isSort 19 = .ok (.bipush 104, 2) := by decide +kernel
theorem dX3_isSort_21 : decode cX3_isSort 21 = .ok (.if_icmp .eq 15, 3) := by decide +kernel
theorem dX3_isSort_24 : decode cX3_isSort 24 = .ok (.iload_n 0, 1) := by decide +kernel
theorem dX3_isSort_25 : decode cX3_isSort 25 = .ok (.bipush 115, 2) := by decide +kernel
theorem dX3_isSort_27 : decode cX3_isSort 27 = .ok (.if_icmp .eq 9, 3) := by decide +kernel
theorem dX3_isSort_30 : decode cX3_isSort 30 = .ok (.iload_n 0, 1) := by decide +kernel
theorem dX3_isSort_31 : decode cX3_isSort 31 = .ok (.bipush 110, 2) := by decide +kernel
theorem dX3_isSort_33 : decode cX3_isSort 33 = .ok (.if_icmp .ne 7, 3) := by decide +kernel
theorem dX3_isSort_36 : decode cX3_isSort 36 = .ok (.iconst 1, 1) := by decide +kernel
theorem dX3_isSort_37 : decode cX3_isSort 37 = .ok (.goto 4, 3) := by decide +kernel
theorem dX3_isSort_40 : decode cX3_isSort 40 = .ok (.iconst 0, 1) := by decide +kernel
theorem dX3_isSort_41 : decode cX3_isSort 41 = .ok (.ireturn, 1) := by decide +kernel
theorem dX4_init_0 : decode cX4_init 0 = .ok (.aload_n 0, 1) := by decide +kernel
theorem dX4_init_1 : decode cX4_init 1 = .ok (.invokespecial 3, 3) := by decide +kernel
theorem dX4_init_4 : decode cX4_init 4 = .ok (.aload_n 0, 1) := by decide +kernel
theorem dX4_init_5 : decode cX4_init 5 = .ok (.bipush 10, 2) := by decide +kernel
theorem dX4_init_7 : decode cX4_init 7 = .ok (.newarray .int, 2) := by decide +kernel
theorem dX4_init_9 : decode cX4_init 9 = .ok (.putfield 11, 3) := by decide +kernel
theorem dX4_init_12 : decode cX4_init 12 = .ok (.aload_n 0, 1) := by decide +kernel
theorem dX4_init_13 : decode cX4_init 13 = .ok (.bipush 10, 2) := by decide +kernel
theorem dX4_init_15 : decode cX4_init 15 = .ok (.newarray .int, 2) := by decide +kernel
theorem dX4_init_17 : decode cX4_init 17 = .ok (.putfield 15, 3) := by decide +kernel
theorem dX4_init_20 : decode cX4_init 20 = .ok (.aload_n 0, 1) := by decide +kernel
theorem dX4_init_21 : decode cX4_init 21 = .ok (.bipush 10, 2) := by decide +kernel
theorem dX4_init_23 : decode cX4_init 23 = .ok (.newarray .int, 2) := by decide +kernel
theorem dX4_init_25 : decode cX4_init 25 = .ok (.putfield 18, 3) := by decide +kernel
theorem dX4_init_28 : decode cX4_init 28 = .ok (.aload_n 0, 1) := by decide +kernel
theorem dX4_init_29 : decode cX4_init 29 = .ok (.bipush 10, 2) := by decide +kernel
theorem dX4_init_31 : decode cX4_init 31 = .ok (.newarray .int, 2) := by decide +kernel
theorem dX4_init_33 : decode cX4_init 33 = .ok (.putfield 21, 3) := by decide +kernel
theorem dX4_init_36 : decode cX4_init 36 = .ok (.aload_n 0, 1) := by decide +kernel
theorem dX4_init_37 : decode cX4_init 37 = .ok (.bipush 10, 2) := by decide +kernel
theorem dX4_init_39 : decode cX4_init 39 = .ok (.newarray .int, 2) := by decide +kernel
theorem dX4_init_41 : decode cX4_init 41 = .ok (.putfield 24, 3) := by decide +kernel
theorem dX4_init_44 : decode cX4_init 44 = .ok (.aload_n 0, 1) := by decide +kernel
theorem dX4_init_45 : decode cX4_init 45 = .ok (.iconst 0, 1) := by decide +kernel
theorem dX4_init_46 : decode cX4_init 46 = .ok (.putfield 27, 3) := by decide +kernel
theorem dX4_init_49 : decode cX4_init 49 = .ok (.return_, 1) := by decide +kernel
theorem dX4_has_0 : decode cX4_has 0 = .ok (.iload_n 1, 1) := by decide +kernel
theorem dX4_has_1 : decode cX4_has 1 = .ok (.ifCond .lt 15, 3) := by decide +kernel
theorem dX4_has_4 : decode cX4_has 4 = .ok (.iload_n 1, 1) := by decide +kernel
theorem dX4_has_5 : decode cX4_has 5 = .ok (.aload_n 0, 1) := by decide +kernel
theorem dX4_has_6 : decode cX4_has 6 = .ok (.getfield 27, 3) := by decide +kernel
theorem dX4_has_9 : decode cX4_has 9 = .ok (.if_icmp .ge 7, 3) := by decide +kernel
theorem dX4_has_12 : decode cX4_has 12 = .ok (.iconst 1, 1) := by decide +kernel
theorem dX4_has_13 : decode cX4_has 13 = .ok (.goto 4, 3) := by decide +kernel
theorem dX4_has_16 : decode cX4_has 16 = .ok (.iconst 0, 1) := by decide +kernel
theorem dX4_has_17 : decode cX4_has 17 = .ok (.ireturn, 1) := by decide +kernel
theorem dX4_add_0 : decode cX4_add 0 = .ok (.aload_n 0, 1) := by decide +kernel
theorem dX4_add_1 : decode cX4_add 1 = .ok (.getfield 27, 3) := by decide +kernel
theorem dX4_add_4 : decode cX4_add 4 = .ok (.bipush 10, 2) := by decide +kernel
theorem dX4_add_6 : decode cX4_add 6 = .ok (.if_icmp .lt 6, 3) := by decide +kernel
theorem dX4_add_9 : decode cX4_add 9 = .ok (.bipush (-4), 2) := by decide +kernel
theorem dX4_add_11 : decode cX4_add 11 = .ok (.ireturn, 1) := by decide +kernel
theorem dX4_add_12 : decode cX4_add 12 = .ok (.aload_n 0, 1) := by decide +kernel
theorem dX4_add_13 : decode cX4_add 13 = .ok (.getfield 11, 3) := by decide +kernel
theorem dX4_add_16 : decode cX4_add 16 = .ok (.aload_n 0, 1) := by decide +kernel
theorem dX4_add_17 : decode cX4_add 17 = .ok (.getfield 27, 3) := by decide +kernel
theorem dX4_add_20 : decode cX4_add 20 = .ok (.iload_n 1, 1) := by decide +kernel
theorem dX4_add_21 : decode cX4_add 21 = .ok (.iastore, 1) := by decide +kernel
theorem dX4_add_22 : decode cX4_add 22 = .ok (.aload_n 0, 1) := by decide +kernel
theorem dX4_add_23 : decode cX4_add 23 = .ok (.getfield 15, 3) := by decide +kernel
theorem dX4_add_26 : decode cX4_add 26 = .ok (.aload_n 0, 1) := by decide +kernel
theorem dX4_add_27 : decode cX4_add 27 = .ok (.getfield 27, 3) := by decide +kernel
theorem dX4_add_30 : decode cX4_add 30 = .ok (.iload_n 2, 1) := by decide +kernel
theorem dX4_add_31 : decode cX4_add 31 = .ok (.iastore, 1) := by decide +kernel
theorem dX4_add_32 : decode cX4_add 32 = .ok (.aload_n 0, 1) := by decide +kernel
theorem dX4_add_33 : decode cX4_add 33 = .ok (.getfield 18, 3) := by decide +kernel
theorem dX4_add_36 : decode cX4_add 36 = .ok (.aload_n 0, 1) := by decide +kernel
theorem dX4_add_37 : decode cX4_add 37 = .ok (.getfield 27, 3) := by decide +kernel
theorem dX4_add_40 : decode cX4_add 40 = .ok (.iconst 0, 1) := by decide +kernel
theorem dX4_add_41 : decode cX4_add 41 = .ok (.iastore, 1) := by decide +kernel
theorem dX4_add_42 : decode cX4_add 42 = .ok (.aload_n 0, 1) := by decide +kernel
theorem dX4_add_43 : decode cX4_add 43 = .ok (.getfield 21, 3) := by decide +kernel
theorem dX4_add_46 : decode cX4_add 46 = .ok (.aload_n 0, 1) := by decide +kernel
theorem dX4_add_47 : decode cX4_add 47 = .ok (.getfield 27, 3) := by decide +kernel
theorem dX4_add_50 : decode cX4_add 50 = .ok (.sipush 9999, 3) := by decide +kernel
theorem dX4_add_53 : decode cX4_add 53 = .ok (.iastore, 1) := by decide +kernel
theorem dX4_add_54 : decode cX4_add 54 = .ok (.aload_n 0, 1) := by decide +kernel
theorem dX4_add_55 : decode cX4_add 55 = .ok (.getfield 24, 3) := by decide +kernel
theorem dX4_add_58 : decode cX4_add 58 = .ok (.aload_n 0, 1) := by decide +kernel
theorem dX4_add_59 : decode cX4_add 59 = .ok (.getfield 27, 3) := by decide +kernel
theorem dX4_add_62 : decode cX4_add 62 = .ok (.iconst 0, 1) := by decide +kernel
theorem dX4_add_63 : decode cX4_add 63 = .ok (.iastore, 1) := by decide +kernel
theorem dX4_add_64 : decode cX4_add 64 = .ok (.aload_n 0, 1) := by decide +kernel
theorem dX4_add_65 : decode cX4_add 65 = .ok (.dup, 1) := by decide +kernel
theorem dX4_add_66 : decode cX4_add 66 = .ok (.getfield 27, 3) := by decide +kernel
theorem dX4_add_69 : decode cX4_add 69 = .ok (.iconst 1, 1) := by decide +kernel
theorem dX4_add_70 : decode cX4_add 70 = .ok (.iadd, 1) := by decide +kernel
theorem dX4_add_71 : decode cX4_add 71 = .ok (.putfield 27, 3) := by decide +kernel
theorem dX4_add_74 : decode cX4_add 74 = .ok (.aload_n 0, 1) := by decide +kernel
theorem dX4_add_75 : decode cX4_add 75 = .ok (.getfield 27, 3) := by decide +kernel
theorem dX4_add_78 : decode cX4_add 78 = .ok (.iconst 1, 1) := by decide +kernel
theorem dX4_add_79 : decode cX4_add 79 = .ok (.isub, 1) := by decide +kernel
theorem dX4_add_80 : decode cX4_add 80 = .ok (.ireturn, 1) := by decide +kernel
theorem dX4_acquaint_0 : decode cX4_acquaint 0 = .ok (.iload_n 3, 1) := by decide +kernel
theorem dX4_acquaint_1 : decode cX4_acquaint 1 = .ok (.ifCond .eq 16, 3) := by decide +kernel
theorem dX4_acquaint_4 : decode cX4_acquaint 4 = .ok (.aload_n 0, 1) := by decide +kernel
theorem dX4_acquaint_5 : decode cX4_acquaint 5 = .ok (.getfield 24, 3) := by decide +kernel
theorem dX4_acquaint_8 : decode cX4_acquaint 8 = .ok (.iload_n 1, 1) := by decide +kernel
theorem dX4_acquaint_9 : decode cX4_acquaint 9 = .ok (.iaload, 1) := by decide +kernel
theorem dX4_acquaint_10 : decode cX4_acquaint 10 = .ok (.iconst 1, 1) := by decide +kernel
theorem dX4_acquaint_11 : decode cX4_acquaint 11 = .ok (.iload_n 2, 1) := by decide +kernel
theorem dX4_acquaint_12 : decode cX4_acquaint 12 = .ok (.ishl, 1) := by decide +kernel
theorem dX4_acquaint_13 : decode cX4_acquaint 13 = .ok (.ior, 1) := by decide +kernel
theorem dX4_acquaint_14 : decode cX4_acquaint 14 = .ok (.goto 15, 3) := by decide +kernel
theorem dX4_acquaint_17 : decode cX4_acquaint 17 = .ok (.aload_n 0, 1) := by decide +kernel
theorem dX4_acquaint_18 : decode cX4_acquaint 18 = .ok (.getfield 24, 3) := by decide +kernel
theorem dX4_acquaint_21 : decode cX4_acquaint 21 = .ok (.iload_n 1, 1) := by decide +kernel
theorem dX4_acquaint_22 : decode cX4_acquaint 22 = .ok (.iaload, 1) := by decide +kernel
theorem dX4_acquaint_23 : decode cX4_acquaint 23 = .ok (.iconst 1, 1) := by decide +kernel
theorem dX4_acquaint_24 : decode cX4_acquaint 24 = .ok (.iload_n 2, 1) := by decide +kernel
theorem dX4_acquaint_25 : decode cX4_acquaint 25 = .ok (.ishl, 1) := by decide +kernel
theorem dX4_acquaint_26 : decode cX4_acquaint 26 = .ok (.iconst (-1), 1) := by decide +kernel
theorem dX4_acquaint_27 : decode cX4_acquaint 27 = .ok (.ixor, 1) := by decide +kernel
theorem dX4_acquaint_28 : decode cX4_acquaint 28 = .ok (.iand, 1) := by decide +kernel
theorem dX4_acquaint_29 : decode cX4_acquaint 29 = .ok (.istore 4, 2) := by decide +kernel
theorem dX4_acquaint_31 : decode cX4_acquaint 31 = .ok (.iload 4, 2) := by decide +kernel
theorem dX4_acquaint_33 : decode cX4_acquaint 33 = .ok (.aload_n 0, 1) := by decide +kernel
theorem dX4_acquaint_34 : decode cX4_acquaint 34 = .ok (.getfield 24, 3) := by decide +kernel
theorem dX4_acquaint_37 : decode cX4_acquaint 37 = .ok (.iload_n 1, 1) := by decide +kernel
theorem dX4_acquaint_38 : decode cX4_acquaint 38 = .ok (.iaload, 1) := by decide +kernel
theorem dX4_acquaint_39 : decode cX4_acquaint 39 = .ok (.if_icmp .eq 7, 3) := by decide +kernel
theorem dX4_acquaint_42 : decode cX4_acquaint 42 = .ok (.iconst 1, 1) := by decide +kernel
theorem dX4_acquaint_43 : decode cX4_acquaint 43 = .ok (.goto 4, 3) := by decide +kernel
theorem dX4_acquaint_46 : decode cX4_acquaint 46 = .ok (.iconst 0, 1) := by decide +kernel
theorem dX4_acquaint_47 : decode cX4_acquaint 47 = .ok (.istore 5, 2) := by decide +kernel
theorem dX4_acquaint_49 : decode cX4_acquaint 49 = .ok (.aload_n 0, 1) := by decide +kernel
theorem dX4_acquaint_50 : decode cX4_acquaint 50 = .ok (.getfield 24, 3) := by decide +kernel
theorem dX4_acquaint_53 : decode cX4_acquaint 53 = .ok (.iload_n 1, 1) := by decide +kernel
theorem dX4_acquaint_54 : decode cX4_acquaint 54 = .ok (.iload 4, 2) := by decide +kernel
theorem dX4_acquaint_56 : decode cX4_acquaint 56 = .ok (.iastore, 1) := by decide +kernel
theorem dX4_acquaint_57 : decode cX4_acquaint 57 = .ok (.iload 5, 2) := by decide +kernel
theorem dX4_acquaint_59 : decode cX4_acquaint 59 = .ok (.ireturn, 1) := by decide +kernel
theorem dX4_knownBy_0 : decode cX4_knownBy 0 = .ok (.iconst 0, 1) := by decide +kernel
theorem dX4_knownBy_1 : decode cX4_knownBy 1 = .ok (.istore 5, 2) := by decide +kernel
theorem dX4_knownBy_3 : decode cX4_knownBy 3 = .ok (.iconst 0, 1) := by decide +kernel
theorem dX4_knownBy_4 : decode cX4_knownBy 4 = .ok (.istore 6, 2) := by decide +kernel
theorem dX4_knownBy_6 : decode cX4_knownBy 6 = .ok (.iload 6, 2) := by decide +kernel
theorem dX4_knownBy_8 : decode cX4_knownBy 8 = .ok (.aload_n 0, 1) := by decide +kernel
theorem dX4_knownBy_9 : decode cX4_knownBy 9 = .ok (.getfield 27, 3) := by decide +kernel
theorem dX4_knownBy_12 : decode cX4_knownBy 12 = .ok (.if_icmp .ge 68, 3) := by decide +kernel
theorem dX4_knownBy_15 : decode cX4_knownBy 15 = .ok (.aload_n 0, 1) := by decide +kernel
theorem dX4_knownBy_16 : decode cX4_knownBy 16 = .ok (.getfield 24, 3) := by decide +kernel
theorem dX4_knownBy_19 : decode cX4_knownBy 19 = .ok (.iload_n 1, 1) := by decide +kernel
theorem dX4_knownBy_20 : decode cX4_knownBy 20 = .ok (.iaload, 1) := by decide +kernel
theorem dX4_knownBy_21 : decode cX4_knownBy 21 = .ok (.iload 6, 2) := by decide +kernel
theorem dX4_knownBy_23 : decode cX4_knownBy 23 = .ok (.ishr, 1) := by decide +kernel
theorem dX4_knownBy_24 : decode cX4_knownBy 24 = .ok (.iconst 1, 1) := by decide +kernel
theorem dX4_knownBy_25 : decode cX4_knownBy 25 = .ok (.iand, 1) := by decide +kernel
theorem dX4_knownBy_26 : decode cX4_knownBy 26 = .ok (.iconst 1, 1) := by decide +kernel
theorem dX4_knownBy_27 : decode cX4_knownBy 27 = .ok (.if_icmp .ne 7, 3) := by decide +kernel
theorem dX4_knownBy_30 : decode cX4_knownBy 30 = .ok (.iconst 1, 1) := by decide +kernel
theorem dX4_knownBy_31 : decode cX4_knownBy 31 = .ok (.goto 4, 3) := by decide +kernel
theorem dX4_knownBy_34 : decode cX4_knownBy 34 = .ok (.iconst 0, 1) := by decide +kernel
theorem dX4_knownBy_35 : decode cX4_knownBy 35 = .ok (.istore 7, 2) := by decide +kernel
theorem dX4_knownBy_37 : decode cX4_knownBy 37 = .ok (.iload 7, 2) := by decide +kernel
theorem dX4_knownBy_39 : decode cX4_knownBy 39 = .ok (.ifCond .eq 35, 3) := by decide +kernel
theorem dX4_knownBy_42 : decode cX4_knownBy 42 = .ok (.aload_n 0, 1) := by decide +kernel
theorem dX4_knownBy_43 : decode cX4_knownBy 43 = .ok (.getfield 11, 3) := by decide +kernel
theorem dX4_knownBy_46 : decode cX4_knownBy 46 = .ok (.iload 6, 2) := by decide +kernel
theorem dX4_knownBy_48 : decode cX4_knownBy 48 = .ok (.iaload, 1) := by decide +kernel
theorem dX4_knownBy_49 : decode cX4_knownBy 49 = .ok (.iload_n 2, 1) := by decide +kernel
theorem dX4_knownBy_50 : decode cX4_knownBy 50 = .ok (.if_icmp .ne 24, 3) := by decide +kernel
theorem dX4_knownBy_53 : decode cX4_knownBy 53 = .ok (.aload_n 0, 1) := by decide +kernel
theorem dX4_knownBy_54 : decode cX4_knownBy 54 = .ok (.iload 6, 2) := by decide +kernel
theorem dX4_knownBy_56 : decode cX4_knownBy 56 = .ok (.iload_n 3, 1) := by decide +kernel
theorem dX4_knownBy_57 : decode cX4_knownBy 57 = .ok (.iload 4, 2) := by decide +kernel
theorem dX4_knownBy_59 : decode cX4_knownBy 59 = .ok (.invokevirtual 31, 3) := by decide +kernel
theorem dX4_knownBy_62 : decode cX4_knownBy 62 = .ok (.ifCond .eq 12, 3) := by decide +kernel
theorem dX4_knownBy_65 : decode cX4_knownBy 65 = .ok (.iload 5, 2) := by decide +kernel
theorem dX4_knownBy_67 : decode cX4_knownBy 67 = .ok (.iconst 1, 1) := by decide +kernel
theorem dX4_knownBy_68 : decode cX4_knownBy 68 = .ok (.iload 6, 2) := by decide +kernel
theorem dX4_knownBy_70 : decode cX4_knownBy 70 = .ok (.ishl, 1) := by decide +kernel
theorem dX4_knownBy_71 : decode cX4_knownBy 71 = .ok (.ior, 1) := by decide +kernel
theorem dX4_knownBy_72 : decode cX4_knownBy 72 = .ok (.istore 5, 2) := by decide +kernel
theorem dX4_knownBy_74 : decode cX4_knownBy 74 = .ok (.iinc 6 1, 3) := by decide +kernel
theorem dX4_knownBy_77 : decode cX4_knownBy 77 = .ok (.goto (-71), 3) := by decide +kernel
theorem dX4_knownBy_80 : decode cX4_knownBy 80 = .ok (.iload 5, 2) := by decide +kernel
theorem dX4_knownBy_82 : decode cX4_knownBy 82 = .ok (.ireturn, 1) := by decide +kernel
theorem dX4_onlyOne_0 : decode cX4_onlyOne 0 = .ok (.iconst (-1), 1) := by decide +kernel
theorem dX4_onlyOne_1 : decode cX4_onlyOne 1 = .ok (.istore_n 2, 1) := by decide +kernel
theorem dX4_onlyOne_2 : decode cX4_onlyOne 2 = .ok (.iconst 0, 1) := by decide +kernel
theorem dX4_onlyOne_3 : decode cX4_onlyOne 3 = .ok (.istore_n 3, 1) := by decide +kernel
theorem dX4_onlyOne_4 : decode cX4_onlyOne 4 = .ok (.iload_n 3, 1) := by decide +kernel
theorem dX4_onlyOne_5 : decode cX4_onlyOne 5 = .ok (.aload_n 0, 1) := by decide +kernel
theorem dX4_onlyOne_6 : decode cX4_onlyOne 6 = .ok (.getfield 27, 3) := by decide +kernel
theorem dX4_onlyOne_9 : decode cX4_onlyOne 9 = .ok (.if_icmp .ge 18, 3) := by decide +kernel
theorem dX4_onlyOne_12 : decode cX4_onlyOne 12 = .ok (.iload_n 1, 1) := by decide +kernel
theorem dX4_onlyOne_13 : decode cX4_onlyOne 13 = .ok (.iconst 1, 1) := by decide +kernel
theorem dX4_onlyOne_14 : decode cX4_onlyOne 14 = .ok (.iload_n 3, 1) := by decide +kernel
theorem dX4_onlyOne_15 : decode cX4_onlyOne 15 = .ok (.ishl, 1) := by decide +kernel
theorem dX4_onlyOne_16 : decode cX4_onlyOne 16 = .ok (.if_icmp .ne 5, 3) := by decide +kernel
theorem dX4_onlyOne_19 : decode cX4_onlyOne 19 = .ok (.iload_n 3, 1) := by decide +kernel
theorem dX4_onlyOne_20 : decode cX4_onlyOne 20 = .ok (.istore_n 2, 1) := by decide +kernel
theorem dX4_onlyOne_21 : decode cX4_onlyOne 21 = .ok (.iinc 3 1, 3) := by decide +kernel
theorem dX4_onlyOne_24 : decode cX4_onlyOne 24 = .ok (.goto (-20), 3) := by decide +kernel
theorem dX4_onlyOne_27 : decode cX4_onlyOne 27 = .ok (.iload_n 2, 1) := by decide +kernel
theorem dX4_onlyOne_28 : decode cX4_onlyOne 28 = .ok (.ireturn, 1) := by decide +kernel
theorem dX4_isAlive_0 : decode cX4_isAlive 0 = .ok (.aload_n 0, 1) := by decide +kernel
theorem dX4_isAlive_1 : decode cX4_isAlive 1 = .ok (.getfield 18, 3) := by decide +kernel
theorem dX4_isAlive_4 : decode cX4_isAlive 4 = .ok (.iload_n 1, 1) := by decide +kernel
theorem dX4_isAlive_5 : decode cX4_isAlive 5 = .ok (.iaload, 1) := by decide +kernel
theorem dX4_isAlive_6 : decode cX4_isAlive 6 = .ok (.iload_n 2, 1) := by decide +kernel
theorem dX4_isAlive_7 : decode cX4_isAlive 7 = .ok (.invokestatic 35, 3) := by decide +kernel
theorem dX4_isAlive_10 : decode cX4_isAlive 10 = .ok (.aload_n 0, 1) := by decide +kernel
theorem dX4_isAlive_11 : decode cX4_isAlive 11 = .ok (.getfield 21, 3) := by decide +kernel
theorem dX4_isAlive_14 : decode cX4_isAlive 14 = .ok (.iload_n 1, 1) := by decide +kernel
theorem dX4_isAlive_15 : decode cX4_isAlive 15 = .ok (.iaload, 1) := by decide +kernel
theorem dX4_isAlive_16 : decode cX4_isAlive 16 = .ok (.iload_n 3, 1) := by decide +kernel
theorem dX4_isAlive_17 : decode cX4_isAlive 17 = .ok (.invokestatic 41, 3) := by decide +kernel
theorem dX4_isAlive_20 : decode cX4_isAlive 20 = .ok (.if_icmp .gt 7, 3) := by decide +kernel
theorem dX4_isAlive_23 : decode cX4_isAlive 23 = .ok (.iconst 1, 1) := by decide +kernel
theorem dX4_isAlive_24 : decode cX4_isAlive 24 = .ok (.goto 4, 3) := by decide +kernel
theorem dX4_isAlive_27 : decode cX4_isAlive 27 = .ok (.iconst 0, 1) := by decide +kernel
theorem dX4_isAlive_28 : decode cX4_isAlive 28 = .ok (.ireturn, 1) := by decide +kernel
theorem dX5_init_0 : decode cX5_init 0 = .ok (.aload_n 0, 1) := by decide +kernel
theorem dX5_init_1 : decode cX5_init 1 = .ok (.invokespecial 3, 3) := by decide +kernel
theorem dX5_init_4 : decode cX5_init 4 = .ok (.aload_n 0, 1) := by decide +kernel
theorem dX5_init_5 : decode cX5_init 5 = .ok (.bipush 6, 2) := by decide +kernel
theorem dX5_init_7 : decode cX5_init 7 = .ok (.bipush 6, 2) := by decide +kernel
theorem dX5_init_9 : decode cX5_init 9 = .ok (.multianewarray 9 2, 4) := by decide +kernel
theorem dX5_init_13 : decode cX5_init 13 = .ok (.putfield 11, 3) := by decide +kernel
theorem dX5_init_16 : decode cX5_init 16 = .ok (.aload_n 0, 1) := by decide +kernel
theorem dX5_init_17 : decode cX5_init 17 = .ok (.bipush 6, 2) := by decide +kernel
theorem dX5_init_19 : decode cX5_init 19 = .ok (.bipush 6, 2) := by decide +kernel
theorem dX5_init_21 : decode cX5_init 21 = .ok (.multianewarray 9 2, 4) := by decide +kernel
theorem dX5_init_25 : decode cX5_init 25 = .ok (.putfield 16, 3) := by decide +kernel
theorem dX5_init_28 : decode cX5_init 28 = .ok (.iconst 0, 1) := by decide +kernel
theorem dX5_init_29 : decode cX5_init 29 = .ok (.istore_n 1, 1) := by decide +kernel
theorem dX5_init_30 : decode cX5_init 30 = .ok (.iload_n 1, 1) := by decide +kernel
theorem dX5_init_31 : decode cX5_init 31 = .ok (.bipush 6, 2) := by decide +kernel
theorem dX5_init_33 : decode cX5_init 33 = .ok (.if_icmp .ge 60, 3) := by decide +kernel
theorem dX5_init_36 : decode cX5_init 36 = .ok (.iconst 0, 1) := by decide +kernel
theorem dX5_init_37 : decode cX5_init 37 = .ok (.istore_n 2, 1) := by decide +kernel
theorem dX5_init_38 : decode cX5_init 38 = .ok (.iload_n 2, 1) := by decide +kernel
theorem dX5_init_39 : decode cX5_init 39 = .ok (.bipush 6, 2) := by decide +kernel
theorem dX5_init_41 : decode cX5_init 41 = .ok (.if_icmp .ge 46, 3) := by decide +kernel
theorem dX5_init_44 : decode cX5_init 44 = .ok (.aload_n 0, 1) := by decide +kernel
theorem dX5_init_45 : decode cX5_init 45 = .ok (.getfield 11, 3) := by decide +kernel
theorem dX5_init_48 : decode cX5_init 48 = .ok (.iload_n 1, 1) := by decide +kernel
theorem dX5_init_49 : decode cX5_init 49 = .ok (.aaload, 1) := by decide +kernel
theorem dX5_init_50 : decode cX5_init 50 = .ok (.iload_n 2, 1) := by decide +kernel
theorem dX5_init_51 : decode cX5_init 51 = .ok (.iload_n 1, 1) := by decide +kernel
theorem dX5_init_52 : decode cX5_init 52 = .ok (.iload_n 2, 1) := by decide +kernel
theorem dX5_init_53 : decode cX5_init 53 = .ok (.if_icmp .ne 7, 3) := by decide +kernel
theorem dX5_init_56 : decode cX5_init 56 = .ok (.iconst 0, 1) := by decide +kernel
theorem dX5_init_57 : decode cX5_init 57 = .ok (.goto 4, 3) := by decide +kernel
theorem dX5_init_60 : decode cX5_init 60 = .ok (.iconst 1, 1) := by decide +kernel
theorem dX5_init_61 : decode cX5_init 61 = .ok (.iastore, 1) := by decide +kernel
theorem dX5_init_62 : decode cX5_init 62 = .ok (.aload_n 0, 1) := by decide +kernel
theorem dX5_init_63 : decode cX5_init 63 = .ok (.getfield 16, 3) := by decide +kernel
theorem dX5_init_66 : decode cX5_init 66 = .ok (.iload_n 1, 1) := by decide +kernel
theorem dX5_init_67 : decode cX5_init 67 = .ok (.aaload, 1) := by decide +kernel
theorem dX5_init_68 : decode cX5_init 68 = .ok (.iload_n 2, 1) := by decide +kernel
theorem dX5_init_69 : decode cX5_init 69 = .ok (.iload_n 1, 1) := by decide +kernel
theorem dX5_init_70 : decode cX5_init 70 = .ok (.iload_n 2, 1) := by decide +kernel
theorem dX5_init_71 : decode cX5_init 71 = .ok (.if_icmp .ne 7, 3) := by decide +kernel
theorem dX5_init_74 : decode cX5_init 74 = .ok (.iconst 2, 1) := by decide +kernel
theorem dX5_init_75 : decode cX5_init 75 = .ok (.goto 5, 3) := by decide +kernel
theorem dX5_init_78 : decode cX5_init 78 = .ok (.bipush 30, 2) := by decide +kernel
theorem dX5_init_80 : decode cX5_init 80 = .ok (.iastore, 1) := by decide +kernel
theorem dX5_init_81 : decode cX5_init 81 = .ok (.iinc 2 1, 3) := by decide +kernel
theorem dX5_init_84 : decode cX5_init 84 = .ok (.goto (-46), 3) := by decide +kernel
theorem dX5_init_87 : decode cX5_init 87 = .ok (.iinc 1 1, 3) := by decide +kernel
theorem dX5_init_90 : decode cX5_init 90 = .ok (.goto (-60), 3) := by decide +kernel
theorem dX5_init_93 : decode cX5_init 93 = .ok (.return_, 1) := by decide +kernel
theorem dX5_isTime_0 : decode cX5_isTime 0 = .ok (.iload_n 0, 1) := by decide +kernel
theorem dX5_isTime_1 : decode cX5_isTime 1 = .ok (.ifCond .lt 14, 3) := by decide +kernel
theorem dX5_isTime_4 : decode cX5_isTime 4 = .ok (.iload_n 0, 1) := by decide +kernel
theorem dX5_isTime_5 : decode cX5_isTime 5 = .ok (.sipush 400, 3) := by decide +kernel
theorem dX5_isTime_8 : decode cX5_isTime 8 = .ok (.if_icmp .gt 7, 3) := by decide +kernel
theorem dX5_isTime_11 : decode cX5_isTime 11 = .ok (.iconst 1, 1) := by decide +kernel
theorem dX5_isTime_12 : decode cX5_isTime 12 = .ok (.goto 4, 3) := by decide +kernel
theorem dX5_isTime_15 : decode cX5_isTime 15 = .ok (.iconst 0, 1) := by decide +kernel
theorem dX5_isTime_16 : decode cX5_isTime 16 = .ok (.ireturn, 1) := by decide +kernel
theorem dX6_init_0 : decode cX6_init 0 = .ok (.aload_n 0, 1) := by decide +kernel
theorem dX6_init_1 : decode cX6_init 1 = .ok (.invokespecial 3, 3) := by decide +kernel
theorem dX6_init_4 : decode cX6_init 4 = .ok (.aload_n 0, 1) := by decide +kernel
theorem dX6_init_5 : decode cX6_init 5 = .ok (.sipush 160, 3) := by decide +kernel
theorem dX6_init_8 : decode cX6_init 8 = .ok (.newarray .byte, 2) := by decide +kernel
theorem dX6_init_10 : decode cX6_init 10 = .ok (.putfield 9, 3) := by decide +kernel
theorem dX6_init_13 : decode cX6_init 13 = .ok (.aload_n 0, 1) := by decide +kernel
theorem dX6_init_14 : decode cX6_init 14 = .ok (.iconst 0, 1) := by decide +kernel
theorem dX6_init_15 : decode cX6_init 15 = .ok (.putfield 15, 3) := by decide +kernel
theorem dX6_init_18 : decode cX6_init 18 = .ok (.return_, 1) := by decide +kernel
theorem dX6_render_0 : decode cX6_render 0 = .ok (.iconst 0, 1) := by decide +kernel
theorem dX6_render_1 : decode cX6_render 1 = .ok (.istore 6, 2) := by decide +kernel
theorem dX6_render_3 : decode cX6_render 3 = .ok (.aload_n 0, 1) := by decide +kernel
theorem dX6_render_4 : decode cX6_render 4 = .ok (.iconst 0, 1) := by decide +kernel
theorem dX6_render_5 : decode cX6_render 5 = .ok (.putfield 15, 3) := by decide +kernel
theorem dX6_render_8 : decode cX6_render 8 = .ok (.aload_n 1, 1) := by decide +kernel
theorem dX6_render_9 : decode cX6_render 9 = .ok (.invokevirtual 19, 3) := by decide +kernel
theorem dX6_render_12 : decode cX6_render 12 = .ok (.iconst 0, 1) := by decide +kernel
theorem dX6_render_13 : decode cX6_render 13 = .ok (.istore 7, 2) := by decide +kernel
theorem dX6_render_15 : decode cX6_render 15 = .ok (.iload 7, 2) := by decide +kernel
theorem dX6_render_17 : decode cX6_render 17 = .ok (.iload_n 3, 1) := by decide +kernel
theorem dX6_render_18 : decode cX6_render 18 = .ok (.if_icmp .ge 125, 3) := by decide +kernel
theorem dX6_render_21 : decode cX6_render 21 = .ok (.iload 7, 2) := by decide +kernel
theorem dX6_render_23 : decode cX6_render 23 = .ok (.aload_n 2, 1) := by decide +kernel
theorem dX6_render_24 : decode cX6_render 24 = .ok (.arraylength, 1) := by decide +kernel
theorem dX6_render_25 : decode cX6_render 25 = .ok (.if_icmp .ge 118, 3) := by decide +kernel
theorem dX6_render_28 : decode cX6_render 28 = .ok (.aload_n 1, 1) := by decide +kernel
theorem dX6_render_29 : decode cX6_render 29 = .ok (.aload_n 2, 1) := by decide +kernel
theorem dX6_render_30 : decode cX6_render 30 = .ok (.iload 7, 2) := by decide +kernel
theorem dX6_render_32 : decode cX6_render 32 = .ok (.baload, 1) := by decide +kernel
theorem dX6_render_33 : decode cX6_render 33 = .ok (.sipush 255, 3) := by decide +kernel
theorem dX6_render_36 : decode cX6_render 36 = .ok (.iand, 1) := by decide +kernel
theorem dX6_render_37 : decode cX6_render 37 = .ok (.iload 7, 2) := by decide +kernel
theorem dX6_render_39 : decode cX6_render 39 = .ok (.invokevirtual 24, 3) := by decide +kernel
theorem dX6_render_42 : decode cX6_render 42 = .ok (.istore 8, 2) := by decide +kernel
theorem dX6_render_44 : decode cX6_render 44 = .ok (.iload 6, 2) := by decide +kernel
theorem dX6_render_46 : decode cX6_render 46 = .ok (.ifCond .eq 24, 3) := by decide +kernel
theorem dX6_render_49 : decode cX6_render 49 = .ok (.iload 8, 2) := by decide +kernel
theorem dX6_render_51 : decode cX6_render 51 = .ok (.iconst 3, 1) := by decide +kernel
theorem dX6_render_52 : decode cX6_render 52 = .ok (.if_icmp .ne 85, 3) := by decide +kernel
theorem dX6_render_55 : decode cX6_render 55 = .ok (.aload_n 1, 1) := by decide +kernel
theorem dX6_render_56 : decode cX6_render 56 = .ok (.getfield 28, 3) := by decide +kernel
theorem dX6_render_59 : decode cX6_render 59 = .ok (.iload 6, 2) := by decide +kernel
theorem dX6_render_61 : decode cX6_render 61 = .ok (.if_icmp .ge 76, 3) := by decide +kernel
theorem dX6_render_64 : decode cX6_render 64 = .ok (.iconst 0, 1) := by decide +kernel
theorem dX6_render_65 : decode cX6_render 65 = .ok (.istore 6, 2) := by decide +kernel
theorem dX6_render_67 : decode cX6_render 67 = .ok (.goto 70, 3) := by decide +kernel
theorem dX6_render_70 : decode cX6_render 70 = .ok (.iload 8, 2) := by decide +kernel
theorem dX6_render_72 : decode cX6_render 72 = .ok (.ifCond .ne 14, 3) := by decide +kernel
theorem dX6_render_75 : decode cX6_render 75 = .ok (.aload_n 0, 1) := by decide +kernel
theorem dX6_render_76 : decode cX6_render 76 = .ok (.aload_n 2, 1) := by decide +kernel
theorem dX6_render_77 : decode cX6_render 77 = .ok (.iload 7, 2) := by decide +kernel
theorem dX6_render_79 : decode cX6_render 79 = .ok (.baload, 1) := by decide +kernel
theorem dX6_render_80 : decode cX6_render 80 = .ok (.invokevirtual 31, 3) := by decide +kernel
theorem dX6_render_83 : decode cX6_render 83 = .ok (.goto 54, 3) := by decide +kernel
theorem dX6_render_86 : decode cX6_render 86 = .ok (.iload 8, 2) := by decide +kernel
theorem dX6_render_88 : decode cX6_render 88 = .ok (.iconst 2, 1) := by decide +kernel
theorem dX6_render_89 : decode cX6_render 89 = .ok (.if_icmp .ne 35, 3) := by decide +kernel
theorem dX6_render_92 : decode cX6_render 92 = .ok (.aload_n 1, 1) := by decide +kernel
theorem dX6_render_93 : decode cX6_render 93 = .ok (.iload 4, 2) := by decide +kernel
theorem dX6_render_95 : decode cX6_render 95 = .ok (.iload 5, 2) := by decide +kernel
theorem dX6_render_97 : decode cX6_render 97 = .ok (.invokestatic 35, 3) := by decide +kernel
theorem dX6_render_100 : decode cX6_render 100 = .ok (.ifCond .eq 24, 3) := by decide +kernel
theorem dX6_render_103 : decode cX6_render 103 = .ok (.aload_n 1, 1) := by decide +kernel
theorem dX6_render_104 : decode cX6_render 104 = .ok (.getfield 28, 3) := by decide +kernel
theorem dX6_render_107 : decode cX6_render 107 = .ok (.istore 6, 2) := by decide +kernel
theorem dX6_render_109 : decode cX6_render 109 = .ok (.iload 5, 2) := by decide +kernel
theorem dX6_render_111 : decode cX6_render 111 = .ok (.iconst 1, 1) := by decide +kernel
theorem dX6_render_112 : decode cX6_render 112 = .ok (.if_icmp .ne 25, 3) := by decide +kernel
theorem dX6_render_115 : decode cX6_render 115 = .ok (.aload_n 0, 1) := by decide +kernel
theorem dX6_render_116 : decode cX6_render 116 = .ok (.bipush 95, 2) := by decide +kernel
theorem dX6_render_118 : decode cX6_render 118 = .ok (.invokevirtual 31, 3) := by decide +kernel
theorem dX6_render_121 : decode cX6_render 121 = .ok (.goto 16, 3) := by decide +kernel
theorem dX6_render_124 : decode cX6_render 124 = .ok (.iload 5, 2) := by decide +kernel
theorem dX6_render_126 : decode cX6_render 126 = .ok (.iconst 1, 1) := by decide +kernel
theorem dX6_render_127 : decode cX6_render 127 = .ok (.if_icmp .ne 10, 3) := by decide +kernel
theorem dX6_render_130 : decode cX6_render 130 = .ok (.aload_n 0, 1) := by decide +kernel
theorem dX6_render_131 : decode cX6_render 131 = .ok (.iload 8, 2) := by decide +kernel
theorem dX6_render_133 : decode cX6_render 133 = .ok (.aload_n 1, 1) := by decide +kernel
theorem dX6_render_134 : decode cX6_render 134 = .ok (.invokevirtual 39, 3) := by decide +kernel
theorem dX6_render_137 : decode cX6_render 137 = .ok (.iinc 7 1, 3) := by decide +kernel
theorem dX6_render_140 : decode cX6_render 140 = .ok (.goto (-125), 3) := by decide +kernel
theorem dX6_render_143 : decode cX6_render 143 = .ok (.return_, 1) := by decide +kernel
theorem dX6_isHidden_0 : decode cX6_isHidden 0 = .ok (.aload_n 0, 1) := by decide +kernel
theorem dX6_isHidden_1 : decode cX6_isHidden 1 = .ok (.getfield 43, 3) := by decide +kernel
theorem dX6_isHidden_4 : decode cX6_isHidden 4 = .ok (.bipush 115, 2) := by decide +kernel
theorem dX6_isHidden_6 : decode cX6_isHidden 6 = .ok (.if_icmp .ne 11, 3) := by decide +kernel
theorem dX6_isHidden_9 : decode cX6_isHidden 9 = .ok (.aload_n 0, 1) := by decide +kernel
theorem dX6_isHidden_10 : decode cX6_isHidden 10 = .ok (.getfield 46, 3) := by decide +kernel
theorem dX6_isHidden_13 : decode cX6_isHidden 13 = .ok (.iload_n 1, 1) := by decide +kernel
theorem dX6_isHidden_14 : decode cX6_isHidden 14 = .ok (.if_icmp .gt 16, 3) := by decide +kernel
theorem dX6_isHidden_17 : decode cX6_isHidden 17 = .ok (.aload_n 0, 1) := by decide +kernel
theorem dX6_isHidden_18 : decode cX6_isHidden 18 = .ok (.getfield 43, 3) := by decide +kernel
theorem dX6_isHidden_21 : decode cX6_isHidden 21 = .ok (.bipush 100, 2) := by decide +kernel
theorem dX6_isHidden_23 : decode cX6_isHidden 23 = .ok (.if_icmp .ne 11, 3) := by decide +kernel
theorem dX6_isHidden_26 : decode cX6_isHidden 26 = .ok (.iload_n 2, 1) := by decide +kernel
theorem dX6_isHidden_27 : decode cX6_isHidden 27 = .ok (.ifCond .ne 7, 3) := by decide +kernel
theorem dX6_isHidden_30 : decode cX6_isHidden 30 = .ok (.iconst 1, 1) := by decide +kernel
theorem dX6_isHidden_31 : decode cX6_isHidden 31 = .ok (.goto 4, 3) := by decide +kernel
theorem dX6_isHidden_34 : decode cX6_isHidden 34 = .ok (.iconst 0, 1) := by decide +kernel
theorem dX6_isHidden_35 : decode cX6_isHidden 35 = .ok (.ireturn, 1) := by decide +kernel
theorem dX6_addMark_0 : decode cX6_addMark 0 = .ok (.iload_n 1, 1) := by decide +kernel
theorem dX6_addMark_1 : decode cX6_addMark 1 = .ok (.iconst 4, 1) := by decide +kernel
theorem dX6_addMark_2 : decode cX6_addMark 2 = .ok (.if_icmp .ne 24, 3) := by decide +kernel
theorem dX6_addMark_5 : decode cX6_addMark 5 = .ok (.aload_n 0, 1) := by decide +kernel
theorem dX6_addMark_6 : decode cX6_addMark 6 = .ok (.bipush 40, 2) := by decide +kernel
theorem dX6_addMark_8 : decode cX6_addMark 8 = .ok (.invokevirtual 31, 3) := by decide +kernel
theorem dX6_addMark_11 : decode cX6_addMark 11 = .ok (.aload_n 0, 1) := by decide +kernel
theorem dX6_addMark_12 : decode cX6_addMark 12 = .ok (.aload_n 2, 1) := by decide +kernel
theorem dX6_addMark_13 : decode cX6_addMark 13 = .ok (.getfield 46, 3) := by decide +kernel
theorem dX6_addMark_16 : decode cX6_addMark 16 = .ok (.invokevirtual 49, 3) := by decide +kernel
theorem dX6_addMark_19 : decode cX6_addMark 19 = .ok (.aload_n 0, 1) := by decide +kernel
theorem dX6_addMark_20 : decode cX6_addMark 20 = .ok (.bipush 41, 2) := by decide +kernel
theorem dX6_addMark_22 : decode cX6_addMark 22 = .ok (.invokevirtual 31, 3) := by decide +kernel
theorem dX6_addMark_25 : decode cX6_addMark 25 = .ok (.return_, 1) := by decide +kernel
theorem dX6_addMark_26 : decode cX6_addMark 26 = .ok (.iload_n 1, 1) := by decide +kernel
theorem dX6_addMark_27 : decode cX6_addMark 27 = .ok (.iconst 2, 1) := by decide +kernel
theorem dX6_addMark_28 : decode cX6_addMark 28 = .ok (.if_icmp .eq 9, 3) := by decide +kernel
theorem dX6_addMark_31 : decode cX6_addMark 31 = .ok (.iload_n 1, 1) := by decide +kernel
theorem dX6_addMark_32 : decode cX6_addMark 32 = .ok (.iconst 3, 1) := by decide +kernel
theorem dX6_addMark_33 : decode cX6_addMark 33 = .ok (.if_icmp .eq 4, 3) := by decide +kernel
theorem dX6_addMark_36 : decode cX6_addMark 36 = .ok (.return_, 1) := by decide +kernel
theorem dX6_addMark_37 : decode cX6_addMark 37 = .ok (.iload_n 1, 1) := by decide +kernel
theorem dX6_addMark_38 : decode cX6_addMark 38 = .ok (.iconst 2, 1) := by decide +kernel
theorem dX6_addMark_39 : decode cX6_addMark 39 = .ok (.if_icmp .ne 7, 3) := by decide +kernel
theorem dX6_addMark_42 : decode cX6_addMark 42 = .ok (.iconst 1, 1) := by decide +kernel
theorem dX6_addMark_43 : decode cX6_addMark 43 = .ok (.goto 4, 3) := by decide +kernel
theorem dX6_addMark_46 : decode cX6_addMark 46 = .ok (.iconst 0, 1) := by decide +kernel
theorem dX6_addMark_47 : decode cX6_addMark 47 = .ok (.istore_n 3, 1) := by decide +kernel
theorem dX6_addMark_48 : decode cX6_addMark 48 = .ok (.aload_n 2, 1) := by decide +kernel
theorem dX6_addMark_49 : decode cX6_addMark 49 = .ok (.getfield 43, 3) := by decide +kernel
theorem dX6_addMark_52 : decode cX6_addMark 52 = .ok (.lookupswitch 98 #[(97, 62), (100, 44), (104, 89), (117, 71)], 44) := by decide +kernel
theorem dX6_addMark_96 : decode cX6_addMark 96 = .ok (.aload_n 0, 1) := by decide +kernel
theorem dX6_addMark_97 : decode cX6_addMark 97 = .ok (.iload_n 3, 1) := by decide +kernel
theorem dX6_addMark_98 : decode cX6_addMark 98 = .ok (.ifCond .eq 8, 3) := by decide +kernel
theorem dX6_addMark_101 : decode cX6_addMark 101 = .ok (.bipush 60, 2) := by decide +kernel
theorem dX6_addMark_103 : decode cX6_addMark 103 = .ok (.goto 5, 3) := by decide +kernel
theorem dX6_addMark_106 : decode cX6_addMark 106 = .ok (.bipush 62, 2) := by decide +kernel
theorem dX6_addMark_108 : decode cX6_addMark 108 = .ok (.invokevirtual 31, 3) := by decide +kernel
theorem dX6_addMark_111 : decode cX6_addMark 111 = .ok (.goto 39, 3) := by decide +kernel
theorem dX6_addMark_114 : decode cX6_addMark 114 = .ok (.aload_n 0, 1) := by decide +kernel
theorem dX6_addMark_115 : decode cX6_addMark 115 = .ok (.bipush 47, 2) := by decide +kernel
theorem dX6_addMark_117 : decode cX6_addMark 117 = .ok (.invokevirtual 31, 3) := by decide +kernel
theorem dX6_addMark_120 : decode cX6_addMark 120 = .ok (.goto 30, 3) := by decide +kernel
theorem dX6_addMark_123 : decode cX6_addMark 123 = .ok (.aload_n 0, 1) := by decide +kernel
theorem dX6_addMark_124 : decode cX6_addMark 124 = .ok (.iload_n 3, 1) := by decide +kernel
theorem dX6_addMark_125 : decode cX6_addMark 125 = .ok (.ifCond .eq 8, 3) := by decide +kernel
theorem dX6_addMark_128 : decode cX6_addMark 128 = .ok (.bipush 91, 2) := by decide +kernel
theorem dX6_addMark_130 : decode cX6_addMark 130 = .ok (.goto 5, 3) := by decide +kernel
theorem dX6_addMark_133 : decode cX6_addMark 133 = .ok (.bipush 93, 2) := by decide +kernel
theorem dX6_addMark_135 : decode cX6_addMark 135 = .ok (.invokevirtual 31, 3) := by decide +kernel
theorem dX6_addMark_138 : decode cX6_addMark 138 = .ok (.goto 12, 3) := by decide +kernel
theorem dX6_addMark_141 : decode cX6_addMark 141 = .ok (.aload_n 0, 1) := by decide +kernel
theorem dX6_addMark_142 : decode cX6_addMark 142 = .ok (.bipush 39, 2) := by decide +kernel
theorem dX6_addMark_144 : decode cX6_addMark 144 = .ok (.invokevirtual 31, 3) := by decide +kernel
theorem dX6_addMark_147 : decode cX6_addMark 147 = .ok (.goto 3, 3) := by decide +kernel
theorem dX6_addMark_150 : decode cX6_addMark 150 = .ok (.return_, 1) := by decide +kernel
theorem dX6_addNumber_0 : decode cX6_addNumber 0 = .ok (.sipush 1000, 3) := by decide +kernel
theorem dX6_addNumber_3 : decode cX6_addNumber 3 = .ok (.istore_n 2, 1) := by decide +kernel
theorem dX6_addNumber_4 : decode cX6_addNumber 4 = .ok (.iload_n 2, 1) := by decide +kernel
theorem dX6_addNumber_5 : decode cX6_addNumber 5 = .ok (.ifCond .le 34, 3) := by decide +kernel
theorem dX6_addNumber_8 : decode cX6_addNumber 8 = .ok (.iload_n 1, 1) := by decide +kernel
theorem dX6_addNumber_9 : decode cX6_addNumber 9 = .ok (.iload_n 2, 1) := by decide +kernel
theorem dX6_addNumber_10 : decode cX6_addNumber 10 = .ok (.if_icmp .ge 8, 3) := by decide +kernel
theorem dX6_addNumber_13 : decode cX6_addNumber 13 = .ok (.iload_n 2, 1) := by decide +kernel
theorem dX6_addNumber_14 : decode cX6_addNumber 14 = .ok (.iconst 1, 1) := by decide +kernel
theorem dX6_addNumber_15 : decode cX6_addNumber 15 = .ok (.if_icmp .ne 16, 3) := by decide +kernel
theorem dX6_addNumber_18 : decode cX6_addNumber 18 = .ok (.aload_n 0, 1) := by decide +kernel
theorem dX6_addNumber_19 : decode cX6_addNumber 19 = .ok (.bipush 48, 2) := by decide +kernel
theorem dX6_addNumber_21 : decode cX6_addNumber 21 = .ok (.iload_n 1, 1) := by decide +kernel
theorem dX6_addNumber_22 : decode cX6_addNumber 22 = .ok (.iload_n 2, 1) := by decide +kernel
theorem dX6_addNumber_23 : decode cX6_addNumber 23 = .ok (.idiv, 1) := by decide +kernel
theorem dX6_addNumber_24 : decode cX6_addNumber 24 = .ok (.bipush 10, 2) := by decide +kernel
theorem dX6_addNumber_26 : decode cX6_addNumber 26 = .ok (.irem, 1) := by decide +kernel
theorem dX6_addNumber_27 : decode cX6_addNumber 27 = .ok (.iadd, 1) := by decide +kernel
theorem dX6_addNumber_28 : decode cX6_addNumber 28 = .ok (.invokevirtual 31, 3) := by decide +kernel
theorem dX6_addNumber_31 : decode cX6_addNumber 31 = .ok (.iload_n 2, 1) := by decide +kernel
theorem dX6_addNumber_32 : decode cX6_addNumber 32 = .ok (.bipush 10, 2) := by decide +kernel
theorem dX6_addNumber_34 : decode cX6_addNumber 34 = .ok (.idiv, 1) := by decide +kernel
theorem dX6_addNumber_35 : decode cX6_addNumber 35 = .ok (.istore_n 2, 1) := by decide +kernel
theorem dX6_addNumber_36 : decode cX6_addNumber 36 = .ok (.goto (-32), 3) := by decide +kernel
theorem dX6_addNumber_39 : decode cX6_addNumber 39 = .ok (.return_, 1) := by decide +kernel
theorem dX6_add_0 : decode cX6_add 0 = .ok (.aload_n 0, 1) := by decide +kernel
theorem dX6_add_1 : decode cX6_add 1 = .ok (.getfield 15, 3) := by decide +kernel
theorem dX6_add_4 : decode cX6_add 4 = .ok (.sipush 160, 3) := by decide +kernel
theorem dX6_add_7 : decode cX6_add 7 = .ok (.if_icmp .ge 24, 3) := by decide +kernel
theorem dX6_add_10 : decode cX6_add 10 = .ok (.aload_n 0, 1) := by decide +kernel
theorem dX6_add_11 : decode cX6_add 11 = .ok (.getfield 9, 3) := by decide +kernel
theorem dX6_add_14 : decode cX6_add 14 = .ok (.aload_n 0, 1) := by decide +kernel
theorem dX6_add_15 : decode cX6_add 15 = .ok (.getfield 15, 3) := by decide +kernel
theorem dX6_add_18 : decode cX6_add 18 = .ok (.iload_n 1, 1) := by decide +kernel
theorem dX6_add_19 : decode cX6_add 19 = .ok (.i2b, 1) := by decide +kernel
theorem dX6_add_20 : decode cX6_add 20 = .ok (.bastore, 1) := by decide +kernel
theorem dX6_add_21 : decode cX6_add 21 = .ok (.aload_n 0, 1) := by decide +kernel
theorem dX6_add_22 : decode cX6_add 22 = .ok (.dup, 1) := by decide +kernel
theorem dX6_add_23 : decode cX6_add 23 = .ok (.getfield 15, 3) := by decide +kernel
theorem dX6_add_26 : decode cX6_add 26 = .ok (.iconst 1, 1) := by decide +kernel
theorem dX6_add_27 : decode cX6_add 27 = .ok (.iadd, 1) := by decide +kernel
theorem dX6_add_28 : decode cX6_add 28 = .ok (.putfield 15, 3) := by decide +kernel
theorem dX6_add_31 : decode cX6_add 31 = .ok (.return_, 1) := by decide +kernel
theorem dX7_init_0 : decode cX7_init 0 = .ok (.aload_n 0, 1) := by decide +kernel
theorem dX7_init_1 : decode cX7_init 1 = .ok (.invokespecial 1, 3) := by decide +kernel
theorem dX7_init_4 : decode cX7_init 4 = .ok (.aload_n 0, 1) := by decide +kernel
theorem dX7_init_5 : decode cX7_init 5 = .ok (.bipush 8, 2) := by decide +kernel
theorem dX7_init_7 : decode cX7_init 7 = .ok (.newarray .int, 2) := by decide +kernel
theorem dX7_init_9 : decode cX7_init 9 = .ok (.putfield 9, 3) := by decide +kernel
theorem dX7_init_12 : decode cX7_init 12 = .ok (.aload_n 0, 1) := by decide +kernel
theorem dX7_init_13 : decode cX7_init 13 = .ok (.iconst 0, 1) := by decide +kernel
theorem dX7_init_14 : decode cX7_init 14 = .ok (.putfield 13, 3) := by decide +kernel
theorem dX7_init_17 : decode cX7_init 17 = .ok (.aload_n 0, 1) := by decide +kernel
theorem dX7_init_18 : decode cX7_init 18 = .ok (.iconst 0, 1) := by decide +kernel
theorem dX7_init_19 : decode cX7_init 19 = .ok (.putfield 17, 3) := by decide +kernel
theorem dX7_init_22 : decode cX7_init 22 = .ok (.return_, 1) := by decide +kernel
theorem dX7_arrange_0 : decode cX7_arrange 0 = .ok (.aload_n 0, 1) := by decide +kernel
theorem dX7_arrange_1 : decode cX7_arrange 1 = .ok (.iload_n 1, 1) := by decide +kernel
theorem dX7_arrange_2 : decode cX7_arrange 2 = .ok (.invokevirtual 20, 3) := by decide +kernel
theorem dX7_arrange_5 : decode cX7_arrange 5 = .ok (.aload_n 0, 1) := by decide +kernel
theorem dX7_arrange_6 : decode cX7_arrange 6 = .ok (.iconst 0, 1) := by decide +kernel
theorem dX7_arrange_7 : decode cX7_arrange 7 = .ok (.putfield 13, 3) := by decide +kernel
theorem dX7_arrange_10 : decode cX7_arrange 10 = .ok (.aload_n 0, 1) := by decide +kernel
theorem dX7_arrange_11 : decode cX7_arrange 11 = .ok (.getfield 17, 3) := by decide +kernel
theorem dX7_arrange_14 : decode cX7_arrange 14 = .ok (.ifCond .ne 4, 3) := by decide +kernel
theorem dX7_arrange_17 : decode cX7_arrange 17 = .ok (.return_, 1) := by decide +kernel
theorem dX7_arrange_18 : decode cX7_arrange 18 = .ok (.aload_n 0, 1) := by decide +kernel
theorem dX7_arrange_19 : decode cX7_arrange 19 = .ok (.aload_n 2, 1) := by decide +kernel
theorem dX7_arrange_20 : decode cX7_arrange 20 = .ok (.getfield 24, 3) := by decide +kernel
theorem dX7_arrange_23 : decode cX7_arrange 23 = .ok (.iconst 1, 1) := by decide +kernel
theorem dX7_arrange_24 : decode cX7_arrange 24 = .ok (.invokevirtual 29, 3) := by decide +kernel
theorem dX7_arrange_27 : decode cX7_arrange 27 = .ok (.aload_n 0, 1) := by decide +kernel
theorem dX7_arrange_28 : decode cX7_arrange 28 = .ok (.aload_n 2, 1) := by decide +kernel
theorem dX7_arrange_29 : decode cX7_arrange 29 = .ok (.getfield 24, 3) := by decide +kernel
theorem dX7_arrange_32 : decode cX7_arrange 32 = .ok (.aload_n 0, 1) := by decide +kernel
theorem dX7_arrange_33 : decode cX7_arrange 33 = .ok (.getfield 9, 3) := by decide +kernel
theorem dX7_arrange_36 : decode cX7_arrange 36 = .ok (.aload_n 0, 1) := by decide +kernel
theorem dX7_arrange_37 : decode cX7_arrange 37 = .ok (.getfield 17, 3) := by decide +kernel
theorem dX7_arrange_40 : decode cX7_arrange 40 = .ok (.iconst 1, 1) := by decide +kernel
theorem dX7_arrange_41 : decode cX7_arrange 41 = .ok (.isub, 1) := by decide +kernel
theorem dX7_arrange_42 : decode cX7_arrange 42 = .ok (.iaload, 1) := by decide +kernel
theorem dX7_arrange_43 : decode cX7_arrange 43 = .ok (.iaload, 1) := by decide +kernel
theorem dX7_arrange_44 : decode cX7_arrange 44 = .ok (.aload_n 2, 1) := by decide +kernel
theorem dX7_arrange_45 : decode cX7_arrange 45 = .ok (.getfield 24, 3) := by decide +kernel
theorem dX7_arrange_48 : decode cX7_arrange 48 = .ok (.aload_n 0, 1) := by decide +kernel
theorem dX7_arrange_49 : decode cX7_arrange 49 = .ok (.getfield 9, 3) := by decide +kernel
theorem dX7_arrange_52 : decode cX7_arrange 52 = .ok (.iconst 0, 1) := by decide +kernel
theorem dX7_arrange_53 : decode cX7_arrange 53 = .ok (.iaload, 1) := by decide +kernel
theorem dX7_arrange_54 : decode cX7_arrange 54 = .ok (.iaload, 1) := by decide +kernel
theorem dX7_arrange_55 : decode cX7_arrange 55 = .ok (.isub, 1) := by decide +kernel
theorem dX7_arrange_56 : decode cX7_arrange 56 = .ok (.putfield 13, 3) := by decide +kernel
theorem dX7_arrange_59 : decode cX7_arrange 59 = .ok (.aload_n 0, 1) := by decide +kernel
theorem dX7_arrange_60 : decode cX7_arrange 60 = .ok (.getfield 9, 3) := by decide +kernel
theorem dX7_arrange_63 : decode cX7_arrange 63 = .ok (.iconst 0, 1) := by decide +kernel
theorem dX7_arrange_64 : decode cX7_arrange 64 = .ok (.iaload, 1) := by decide +kernel
theorem dX7_arrange_65 : decode cX7_arrange 65 = .ok (.istore_n 3, 1) := by decide +kernel
theorem dX7_arrange_66 : decode cX7_arrange 66 = .ok (.aload_n 0, 1) := by decide +kernel
theorem dX7_arrange_67 : decode cX7_arrange 67 = .ok (.aload_n 2, 1) := by decide +kernel
theorem dX7_arrange_68 : decode cX7_arrange 68 = .ok (.invokevirtual 33, 3) := by decide +kernel
theorem dX7_arrange_71 : decode cX7_arrange 71 = .ok (.ifCond .eq 31, 3) := by decide +kernel
theorem dX7_arrange_74 : decode cX7_arrange 74 = .ok (.aload_n 0, 1) := by decide +kernel
theorem dX7_arrange_75 : decode cX7_arrange 75 = .ok (.aload_n 2, 1) := by decide +kernel
theorem dX7_arrange_76 : decode cX7_arrange 76 = .ok (.getfield 24, 3) := by decide +kernel
theorem dX7_arrange_79 : decode cX7_arrange 79 = .ok (.iconst (-1), 1) := by decide +kernel
theorem dX7_arrange_80 : decode cX7_arrange 80 = .ok (.invokevirtual 29, 3) := by decide +kernel
theorem dX7_arrange_83 : decode cX7_arrange 83 = .ok (.iload_n 3, 1) := by decide +kernel
theorem dX7_arrange_84 : decode cX7_arrange 84 = .ok (.aload_n 0, 1) := by decide +kernel
theorem dX7_arrange_85 : decode cX7_arrange 85 = .ok (.getfield 9, 3) := by decide +kernel
theorem dX7_arrange_88 : decode cX7_arrange 88 = .ok (.iconst 0, 1) := by decide +kernel
theorem dX7_arrange_89 : decode cX7_arrange 89 = .ok (.iaload, 1) := by decide +kernel
theorem dX7_arrange_90 : decode cX7_arrange 90 = .ok (.if_icmp .ge 12, 3) := by decide +kernel
theorem dX7_arrange_93 : decode cX7_arrange 93 = .ok (.aload_n 0, 1) := by decide +kernel
theorem dX7_arrange_94 : decode cX7_arrange 94 = .ok (.aload_n 2, 1) := by decide +kernel
theorem dX7_arrange_95 : decode cX7_arrange 95 = .ok (.getfield 24, 3) := by decide +kernel
theorem dX7_arrange_98 : decode cX7_arrange 98 = .ok (.iconst 1, 1) := by decide +kernel
theorem dX7_arrange_99 : decode cX7_arrange 99 = .ok (.invokevirtual 29, 3) := by decide +kernel
theorem dX7_arrange_102 : decode cX7_arrange 102 = .ok (.return_, 1) := by decide +kernel
theorem dX7_collect_0 : decode cX7_collect 0 = .ok (.aload_n 0, 1) := by decide +kernel
theorem dX7_collect_1 : decode cX7_collect 1 = .ok (.iconst 0, 1) := by decide +kernel
theorem dX7_collect_2 : decode cX7_collect 2 = .ok (.putfield 17, 3) := by decide +kernel
theorem dX7_collect_5 : decode cX7_collect 5 = .ok (.iconst 0, 1) := by decide +kernel
theorem dX7_collect_6 : decode cX7_collect 6 = .ok (.istore_n 2, 1) := by decide +kernel
theorem dX7_collect_7 : decode cX7_collect 7 = .ok (.iload_n 2, 1) := by decide +kernel
theorem dX7_collect_8 : decode cX7_collect 8 = .ok (.bipush 12, 2) := by decide +kernel
theorem dX7_collect_10 : decode cX7_collect 10 = .ok (.if_icmp .ge 47, 3) := by decide +kernel
theorem dX7_collect_13 : decode cX7_collect 13 = .ok (.iload_n 1, 1) := by decide +kernel
theorem dX7_collect_14 : decode cX7_collect 14 = .ok (.iload_n 2, 1) := by decide +kernel
theorem dX7_collect_15 : decode cX7_collect 15 = .ok (.ishr, 1) := by decide +kernel
theorem dX7_collect_16 : decode cX7_collect 16 = .ok (.iconst 1, 1) := by decide +kernel
theorem dX7_collect_17 : decode cX7_collect 17 = .ok (.iand, 1) := by decide +kernel
theorem dX7_collect_18 : decode cX7_collect 18 = .ok (.iconst 1, 1) := by decide +kernel
theorem dX7_collect_19 : decode cX7_collect 19 = .ok (.if_icmp .ne 32, 3) := by decide +kernel
theorem dX7_collect_22 : decode cX7_collect 22 = .ok (.aload_n 0, 1) := by decide +kernel
theorem dX7_collect_23 : decode cX7_collect 23 = .ok (.getfield 17, 3) := by decide +kernel
theorem dX7_collect_26 : decode cX7_collect 26 = .ok (.bipush 8, 2) := by decide +kernel
theorem dX7_collect_28 : decode cX7_collect 28 = .ok (.if_icmp .ge 23, 3) := by decide +kernel
theorem dX7_collect_31 : decode cX7_collect 31 = .ok (.aload_n 0, 1) := by decide +kernel
theorem dX7_collect_32 : decode cX7_collect 32 = .ok (.getfield 9, 3) := by decide +kernel
theorem dX7_collect_35 : decode cX7_collect 35 = .ok (.aload_n 0, 1) := by decide +kernel
theorem dX7_collect_36 : decode cX7_collect 36 = .ok (.getfield 17, 3) := by decide +kernel
theorem dX7_collect_39 : decode cX7_collect 39 = .ok (.iload_n 2, 1) := by decide +kernel
theorem dX7_collect_40 : decode cX7_collect 40 = .ok (.iastore, 1) := by decide +kernel
theorem dX7_collect_41 : decode cX7_collect 41 = .ok (.aload_n 0, 1) := by decide +kernel
theorem dX7_collect_42 : decode cX7_collect 42 = .ok (.dup, 1) := by decide +kernel
theorem dX7_collect_43 : decode cX7_collect 43 = .ok (.getfield 17, 3) := by decide +kernel
theorem dX7_collect_46 : decode cX7_collect 46 = .ok (.iconst 1, 1) := by decide +kernel
theorem dX7_collect_47 : decode cX7_collect 47 = .ok (.iadd, 1) := by decide +kernel
theorem dX7_collect_48 : decode cX7_collect 48 = .ok (.putfield 17, 3) := by decide +kernel
theorem dX7_collect_51 : decode cX7_collect 51 = .ok (.iinc 2 1, 3) := by decide +kernel
theorem dX7_collect_54 : decode cX7_collect 54 = .ok (.goto (-47), 3) := by decide +kernel
theorem dX7_collect_57 : decode cX7_collect 57 = .ok (.return_, 1) := by decide +kernel
theorem dX7_isFree_0 : decode cX7_isFree 0 = .ok (.iconst 0, 1) := by decide +kernel
theorem dX7_isFree_1 : decode cX7_isFree 1 = .ok (.istore_n 2, 1) := by decide +kernel
theorem dX7_isFree_2 : decode cX7_isFree 2 = .ok (.iload_n 2, 1) := by decide +kernel
theorem dX7_isFree_3 : decode cX7_isFree 3 = .ok (.aload_n 0, 1) := by decide +kernel
theorem dX7_isFree_4 : decode cX7_isFree 4 = .ok (.getfield 17, 3) := by decide +kernel
theorem dX7_isFree_7 : decode cX7_isFree 7 = .ok (.if_icmp .ge 51, 3) := by decide +kernel
theorem dX7_isFree_10 : decode cX7_isFree 10 = .ok (.iconst 0, 1) := by decide +kernel
theorem dX7_isFree_11 : decode cX7_isFree 11 = .ok (.istore_n 3, 1) := by decide +kernel
theorem dX7_isFree_12 : decode cX7_isFree 12 = .ok (.iload_n 3, 1) := by decide +kernel
theorem dX7_isFree_13 : decode cX7_isFree 13 = .ok (.aload_n 0, 1) := by decide +kernel
theorem dX7_isFree_14 : decode cX7_isFree 14 = .ok (.getfield 17, 3) := by decide +kernel
theorem dX7_isFree_17 : decode cX7_isFree 17 = .ok (.if_icmp .ge 35, 3) := by decide +kernel
theorem dX7_isFree_20 : decode cX7_isFree 20 = .ok (.iload_n 2, 1) := by decide +kernel
theorem dX7_isFree_21 : decode cX7_isFree 21 = .ok (.iload_n 3, 1) := by decide +kernel
theorem dX7_isFree_22 : decode cX7_isFree 22 = .ok (.if_icmp .eq 24, 3) := by decide +kernel
theorem dX7_isFree_25 : decode cX7_isFree 25 = .ok (.aload_n 1, 1) := by decide +kernel
theorem dX7_isFree_26 : decode cX7_isFree 26 = .ok (.aload_n 0, 1) := by decide +kernel
theorem dX7_isFree_27 : decode cX7_isFree 27 = .ok (.getfield 9, 3) := by decide +kernel
theorem dX7_isFree_30 : decode cX7_isFree 30 = .ok (.iload_n 2, 1) := by decide +kernel
theorem dX7_isFree_31 : decode cX7_isFree 31 = .ok (.iaload, 1) := by decide +kernel
theorem dX7_isFree_32 : decode cX7_isFree 32 = .ok (.aload_n 0, 1) := by decide +kernel
theorem dX7_isFree_33 : decode cX7_isFree 33 = .ok (.getfield 9, 3) := by decide +kernel
theorem dX7_isFree_36 : decode cX7_isFree 36 = .ok (.iload_n 3, 1) := by decide +kernel
theorem dX7_isFree_37 : decode cX7_isFree 37 = .ok (.iaload, 1) := by decide +kernel
theorem dX7_isFree_38 : decode cX7_isFree 38 = .ok (.invokevirtual 39, 3) := by decide +kernel
theorem dX7_isFree_41 : decode cX7_isFree 41 = .ok (.ifCond .eq 5, 3) := by decide +kernel
theorem dX7_isFree_44 : decode cX7_isFree 44 = .ok (.iconst 0, 1) := by decide +kernel
theorem dX7_isFree_45 : decode cX7_isFree 45 = .ok (.ireturn, 1) := by decide +kernel
theorem dX7_isFree_46 : decode cX7_isFree 46 = .ok (.iinc 3 1, 3) := by decide +kernel
theorem dX7_isFree_49 : decode cX7_isFree 49 = .ok (.goto (-37), 3) := by decide +kernel
theorem dX7_isFree_52 : decode cX7_isFree 52 = .ok (.iinc 2 1, 3) := by decide +kernel
theorem dX7_isFree_55 : decode cX7_isFree 55 = .ok (.goto (-53), 3) := by decide +kernel
theorem dX7_isFree_58 : decode cX7_isFree 58 = .ok (.iconst 1, 1) := by decide +kernel
theorem dX7_isFree_59 : decode cX7_isFree 59 = .ok (.ireturn, 1) := by decide +kernel
theorem dX7_sort_0 : decode cX7_sort 0 = .ok (.iconst 1, 1) := by decide +kernel
theorem dX7_sort_1 : decode cX7_sort 1 = .ok (.istore_n 3, 1) := by decide +kernel
theorem dX7_sort_2 : decode cX7_sort 2 = .ok (.iload_n 3, 1) := by decide +kernel
theorem dX7_sort_3 : decode cX7_sort 3 = .ok (.aload_n 0, 1) := by decide +kernel
theorem dX7_sort_4 : decode cX7_sort 4 = .ok (.getfield 17, 3) := by decide +kernel
theorem dX7_sort_7 : decode cX7_sort 7 = .ok (.if_icmp .ge 85, 3) := by decide +kernel
theorem dX7_sort_10 : decode cX7_sort 10 = .ok (.iload_n 3, 1) := by decide +kernel
theorem dX7_sort_11 : decode cX7_sort 11 = .ok (.istore 4, 2) := by decide +kernel
theorem dX7_sort_13 : decode cX7_sort 13 = .ok (.iload 4, 2) := by decide +kernel
theorem dX7_sort_15 : decode cX7_sort 15 = .ok (.ifCond .le 71, 3) := by decide +kernel
theorem dX7_sort_18 : decode cX7_sort 18 = .ok (.aload_n 1, 1) := by decide +kernel
theorem dX7_sort_19 : decode cX7_sort 19 = .ok (.aload_n 0, 1) := by decide +kernel
theorem dX7_sort_20 : decode cX7_sort 20 = .ok (.getfield 9, 3) := by decide +kernel
theorem dX7_sort_23 : decode cX7_sort 23 = .ok (.iload 4, 2) := by decide +kernel
theorem dX7_sort_25 : decode cX7_sort 25 = .ok (.iconst 1, 1) := by decide +kernel
theorem dX7_sort_26 : decode cX7_sort 26 = .ok (.isub, 1) := by decide +kernel
theorem dX7_sort_27 : decode cX7_sort 27 = .ok (.iaload, 1) := by decide +kernel
theorem dX7_sort_28 : decode cX7_sort 28 = .ok (.iaload, 1) := by decide +kernel
theorem dX7_sort_29 : decode cX7_sort 29 = .ok (.aload_n 1, 1) := by decide +kernel
theorem dX7_sort_30 : decode cX7_sort 30 = .ok (.aload_n 0, 1) := by decide +kernel
theorem dX7_sort_31 : decode cX7_sort 31 = .ok (.getfield 9, 3) := by decide +kernel
theorem dX7_sort_34 : decode cX7_sort 34 = .ok (.iload 4, 2) := by decide +kernel
theorem dX7_sort_36 : decode cX7_sort 36 = .ok (.iaload, 1) := by decide +kernel
theorem dX7_sort_37 : decode cX7_sort 37 = .ok (.iaload, 1) := by decide +kernel
theorem dX7_sort_38 : decode cX7_sort 38 = .ok (.isub, 1) := by decide +kernel
theorem dX7_sort_39 : decode cX7_sort 39 = .ok (.iload_n 2, 1) := by decide +kernel
theorem dX7_sort_40 : decode cX7_sort 40 = .ok (.imul, 1) := by decide +kernel
theorem dX7_sort_41 : decode cX7_sort 41 = .ok (.ifCond .le 45, 3) := by decide +kernel
theorem dX7_sort_44 : decode cX7_sort 44 = .ok (.aload_n 0, 1) := by decide +kernel
theorem dX7_sort_45 : decode cX7_sort 45 = .ok (.getfield 9, 3) := by decide +kernel
theorem dX7_sort_48 : decode cX7_sort 48 = .ok (.iload 4, 2) := by decide +kernel
theorem dX7_sort_50 : decode cX7_sort 50 = .ok (.iaload, 1) := by decide +kernel
theorem dX7_sort_51 : decode cX7_sort 51 = .ok (.istore 5, 2) := by decide +kernel
theorem dX7_sort_53 : decode cX7_sort 53 = .ok (.aload_n 0, 1) := by decide +kernel
theorem dX7_sort_54 : decode cX7_sort 54 = .ok (.getfield 9, 3) := by decide +kernel
theorem dX7_sort_57 : decode cX7_sort 57 = .ok (.iload 4, 2) := by decide +kernel
theorem dX7_sort_59 : decode cX7_sort 59 = .ok (.aload_n 0, 1) := by decide +kernel
theorem dX7_sort_60 : decode cX7_sort 60 = .ok (.getfield 9, 3) := by decide +kernel
theorem dX7_sort_63 : decode cX7_sort 63 = .ok (.iload 4, 2) := by decide +kernel
theorem dX7_sort_65 : decode cX7_sort 65 = .ok (.iconst 1, 1) := by decide +kernel
theorem dX7_sort_66 : decode cX7_sort 66 = .ok (.isub, 1) := by decide +kernel
theorem dX7_sort_67 : decode cX7_sort 67 = .ok (.iaload, 1) := by decide +kernel
theorem dX7_sort_68 : decode cX7_sort 68 = .ok (.iastore, 1) := by decide +kernel
theorem dX7_sort_69 : decode cX7_sort 69 = .ok (.aload_n 0, 1) := by decide +kernel
theorem dX7_sort_70 : decode cX7_sort 70 = .ok (.getfield 9, 3) := by decide +kernel
theorem dX7_sort_73 : decode cX7_sort 73 = .ok (.iload 4, 2) := by decide +kernel
theorem dX7_sort_75 : decode cX7_sort 75 = .ok (.iconst 1, 1) := by decide +kernel
theorem dX7_sort_76 : decode cX7_sort 76 = .ok (.isub, 1) := by decide +kernel
theorem dX7_sort_77 : decode cX7_sort 77 = .ok (.iload 5, 2) := by decide +kernel
theorem dX7_sort_79 : decode cX7_sort 79 = .ok (.iastore, 1) := by decide +kernel
theorem dX7_sort_80 : decode cX7_sort 80 = .ok (.iinc 4 (-1), 3) := by decide +kernel
theorem dX7_sort_83 : decode cX7_sort 83 = .ok (.goto (-70), 3) := by decide +kernel
theorem dX7_sort_86 : decode cX7_sort 86 = .ok (.iinc 3 1, 3) := by decide +kernel
theorem dX7_sort_89 : decode cX7_sort 89 = .ok (.goto (-87), 3) := by decide +kernel
theorem dX7_sort_92 : decode cX7_sort 92 = .ok (.return_, 1) := by decide +kernel
theorem dX8_init_0 : decode cX8_init 0 = .ok (.aload_n 0, 1) := by decide +kernel
theorem dX8_init_1 : decode cX8_init 1 = .ok (.invokespecial 3, 3) := by decide +kernel
theorem dX8_init_4 : decode cX8_init 4 = .ok (.aload_n 0, 1) := by decide +kernel
theorem dX8_init_5 : decode cX8_init 5 = .ok (.sipush 160, 3) := by decide +kernel
theorem dX8_init_8 : decode cX8_init 8 = .ok (.newarray .byte, 2) := by decide +kernel
theorem dX8_init_10 : decode cX8_init 10 = .ok (.putfield 9, 3) := by decide +kernel
theorem dX8_init_13 : decode cX8_init 13 = .ok (.aload_n 0, 1) := by decide +kernel
theorem dX8_init_14 : decode cX8_init 14 = .ok (.iconst 0, 1) := by decide +kernel
theorem dX8_init_15 : decode cX8_init 15 = .ok (.putfield 15, 3) := by decide +kernel
theorem dX8_init_18 : decode cX8_init 18 = .ok (.return_, 1) := by decide +kernel
theorem dX8_add_0 : decode cX8_add 0 = .ok (.aload_n 0, 1) := by decide +kernel
theorem dX8_add_1 : decode cX8_add 1 = .ok (.getfield 15, 3) := by decide +kernel
theorem dX8_add_4 : decode cX8_add 4 = .ok (.sipush 160, 3) := by decide +kernel
theorem dX8_add_7 : decode cX8_add 7 = .ok (.if_icmp .ge 23, 3) := by decide +kernel
theorem dX8_add_10 : decode cX8_add 10 = .ok (.aload_n 0, 1) := by decide +kernel
theorem dX8_add_11 : decode cX8_add 11 = .ok (.getfield 9, 3) := by decide +kernel
theorem dX8_add_14 : decode cX8_add 14 = .ok (.aload_n 0, 1) := by decide +kernel
theorem dX8_add_15 : decode cX8_add 15 = .ok (.getfield 15, 3) := by decide +kernel
theorem dX8_add_18 : decode cX8_add 18 = .ok (.iload_n 1, 1) := by decide +kernel
theorem dX8_add_19 : decode cX8_add 19 = .ok (.bastore, 1) := by decide +kernel
theorem dX8_add_20 : decode cX8_add 20 = .ok (.aload_n 0, 1) := by decide +kernel
theorem dX8_add_21 : decode cX8_add 21 = .ok (.dup, 1) := by decide +kernel
theorem dX8_add_22 : decode cX8_add 22 = .ok (.getfield 15, 3) := by decide +kernel
theorem dX8_add_25 : decode cX8_add 25 = .ok (.iconst 1, 1) := by decide +kernel
theorem dX8_add_26 : decode cX8_add 26 = .ok (.iadd, 1) := by decide +kernel
theorem dX8_add_27 : decode cX8_add 27 = .ok (.putfield 15, 3) := by decide +kernel
theorem dX8_add_30 : decode cX8_add 30 = .ok (.return_, 1) := by decide +kernel
theorem dX9_init_0 : decode cX9_init 0 = .ok (.aload_n 0, 1) := by decide +kernel
theorem dX9_init_1 : decode cX9_init 1 = .ok (.invokespecial 3, 3) := by decide +kernel
theorem dX9_init_4 : decode cX9_init 4 = .ok (.aload_n 0, 1) := by decide +kernel
theorem dX9_init_5 : decode cX9_init 5 = .ok (.iconst 4, 1) := by decide +kernel
theorem dX9_init_6 : decode cX9_init 6 = .ok (.bipush 60, 2) := by decide +kernel
theorem dX9_init_8 : decode cX9_init 8 = .ok (.multianewarray 11 2, 4) := by decide +kernel
theorem dX9_init_12 : decode cX9_init 12 = .ok (.putfield 13, 3) := by decide +kernel
theorem dX9_init_15 : decode cX9_init 15 = .ok (.aload_n 0, 1) := by decide +kernel
theorem dX9_init_16 : decode cX9_init 16 = .ok (.iconst 4, 1) := by decide +kernel
theorem dX9_init_17 : decode cX9_init 17 = .ok (.newarray .int, 2) := by decide +kernel
theorem dX9_init_19 : decode cX9_init 19 = .ok (.dup, 1) := by decide +kernel
theorem dX9_init_20 : decode cX9_init 20 = .ok (.iconst 0, 1) := by decide +kernel
theorem dX9_init_21 : decode cX9_init 21 = .ok (.iconst (-1), 1) := by decide +kernel
theorem dX9_init_22 : decode cX9_init 22 = .ok (.iastore, 1) := by decide +kernel
theorem dX9_init_23 : decode cX9_init 23 = .ok (.dup, 1) := by decide +kernel
theorem dX9_init_24 : decode cX9_init 24 = .ok (.iconst 1, 1) := by decide +kernel
theorem dX9_init_25 : decode cX9_init 25 = .ok (.iconst (-1), 1) := by decide +kernel
theorem dX9_init_26 : decode cX9_init 26 = .ok (.iastore, 1) := by decide +kernel
theorem dX9_init_27 : decode cX9_init 27 = .ok (.dup, 1) := by decide +kernel
theorem dX9_init_28 : decode cX9_init 28 = .ok (.iconst 2, 1) := by decide +kernel
theorem dX9_init_29 : decode cX9_init 29 = .ok (.iconst (-1), 1) := by decide +kernel
theorem dX9_init_30 : decode cX9_init 30 = .ok (.iastore, 1) := by decide +kernel
theorem dX9_init_31 : decode cX9_init 31 = .ok (.dup, 1) := by decide +kernel
theorem dX9_init_32 : decode cX9_init 32 = .ok (.iconst 3, 1) := by decide +kernel
theorem dX9_init_33 : decode cX9_init 33 = .ok (.iconst (-1), 1) := by decide +kernel
theorem dX9_init_34 : decode cX9_init 34 = .ok (.iastore, 1) := by decide +kernel
theorem dX9_init_35 : decode cX9_init 35 = .ok (.putfield 16, 3) := by decide +kernel
theorem dX9_init_38 : decode cX9_init 38 = .ok (.return_, 1) := by decide +kernel
theorem dX9_has_0 : decode cX9_has 0 = .ok (.iload_n 0, 1) := by decide +kernel
theorem dX9_has_1 : decode cX9_has 1 = .ok (.ifCond .lt 12, 3) := by decide +kernel
theorem dX9_has_4 : decode cX9_has 4 = .ok (.iload_n 0, 1) := by decide +kernel
theorem dX9_has_5 : decode cX9_has 5 = .ok (.iconst 4, 1) := by decide +kernel
theorem dX9_has_6 : decode cX9_has 6 = .ok (.if_icmp .ge 7, 3) := by decide +kernel
theorem dX9_has_9 : decode cX9_has 9 = .ok (.iconst 1, 1) := by decide +kernel
theorem dX9_has_10 : decode cX9_has 10 = .ok (.goto 4, 3) := by decide +kernel
theorem dX9_has_13 : decode cX9_has 13 = .ok (.iconst 0, 1) := by decide +kernel
theorem dX9_has_14 : decode cX9_has 14 = .ok (.ireturn, 1) := by decide +kernel
theorem dX9_hasCell_0 : decode cX9_hasCell 0 = .ok (.iload_n 2, 1) := by decide +kernel
theorem dX9_hasCell_1 : decode cX9_hasCell 1 = .ok (.ifCond .lt 17, 3) := by decide +kernel
theorem dX9_hasCell_4 : decode cX9_hasCell 4 = .ok (.iload_n 2, 1) := by decide +kernel
theorem dX9_hasCell_5 : decode cX9_hasCell 5 = .ok (.aload_n 0, 1) := by decide +kernel
theorem dX9_hasCell_6 : decode cX9_hasCell 6 = .ok (.getfield 16, 3) := by decide +kernel
theorem dX9_hasCell_9 : decode cX9_hasCell 9 = .ok (.iload_n 1, 1) := by decide +kernel
theorem dX9_hasCell_10 : decode cX9_hasCell 10 = .ok (.iaload, 1) := by decide +kernel
theorem dX9_hasCell_11 : decode cX9_hasCell 11 = .ok (.if_icmp .ge 7, 3) := by decide +kernel
theorem dX9_hasCell_14 : decode cX9_hasCell 14 = .ok (.iconst 1, 1) := by decide +kernel
theorem dX9_hasCell_15 : decode cX9_hasCell 15 = .ok (.goto 4, 3) := by decide +kernel
theorem dX9_hasCell_18 : decode cX9_hasCell 18 = .ok (.iconst 0, 1) := by decide +kernel
theorem dX9_hasCell_19 : decode cX9_hasCell 19 = .ok (.ireturn, 1) := by decide +kernel
theorem dX9_empty_0 : decode cX9_empty 0 = .ok (.aload_n 0, 1) := by decide +kernel
theorem dX9_empty_1 : decode cX9_empty 1 = .ok (.getfield 16, 3) := by decide +kernel
theorem dX9_empty_4 : decode cX9_empty 4 = .ok (.iload_n 1, 1) := by decide +kernel
theorem dX9_empty_5 : decode cX9_empty 5 = .ok (.iload_n 2, 1) := by decide +kernel
theorem dX9_empty_6 : decode cX9_empty 6 = .ok (.iastore, 1) := by decide +kernel
theorem dX9_empty_7 : decode cX9_empty 7 = .ok (.iconst 0, 1) := by decide +kernel
theorem dX9_empty_8 : decode cX9_empty 8 = .ok (.istore_n 3, 1) := by decide +kernel
theorem dX9_empty_9 : decode cX9_empty 9 = .ok (.iload_n 3, 1) := by decide +kernel
theorem dX9_empty_10 : decode cX9_empty 10 = .ok (.bipush 60, 2) := by decide +kernel
theorem dX9_empty_12 : decode cX9_empty 12 = .ok (.if_icmp .ge 18, 3) := by decide +kernel
theorem dX9_empty_15 : decode cX9_empty 15 = .ok (.aload_n 0, 1) := by decide +kernel
theorem dX9_empty_16 : decode cX9_empty 16 = .ok (.getfield 13, 3) := by decide +kernel
theorem dX9_empty_19 : decode cX9_empty 19 = .ok (.iload_n 1, 1) := by decide +kernel
theorem dX9_empty_20 : decode cX9_empty 20 = .ok (.aaload, 1) := by decide +kernel
theorem dX9_empty_21 : decode cX9_empty 21 = .ok (.iload_n 3, 1) := by decide +kernel
theorem dX9_empty_22 : decode cX9_empty 22 = .ok (.iconst 0, 1) := by decide +kernel
theorem dX9_empty_23 : decode cX9_empty 23 = .ok (.bastore, 1) := by decide +kernel
theorem dX9_empty_24 : decode cX9_empty 24 = .ok (.iinc 3 1, 3) := by decide +kernel
theorem dX9_empty_27 : decode cX9_empty 27 = .ok (.goto (-18), 3) := by decide +kernel
theorem dX9_empty_30 : decode cX9_empty 30 = .ok (.return_, 1) := by decide +kernel
theorem dX10_init_0 : decode cX10_init 0 = .ok (.aload_n 0, 1) := by decide +kernel
theorem dX10_init_1 : decode cX10_init 1 = .ok (.invokespecial 3, 3) := by decide +kernel
theorem dX10_init_4 : decode cX10_init 4 = .ok (.aload_n 0, 1) := by decide +kernel
theorem dX10_init_5 : decode cX10_init 5 = .ok (.iconst 0, 1) := by decide +kernel
theorem dX10_init_6 : decode cX10_init 6 = .ok (.putfield 9, 3) := by decide +kernel
theorem dX10_init_9 : decode cX10_init 9 = .ok (.aload_n 0, 1) := by decide +kernel
theorem dX10_init_10 : decode cX10_init 10 = .ok (.sipush 160, 3) := by decide +kernel
theorem dX10_init_13 : decode cX10_init 13 = .ok (.newarray .byte, 2) := by decide +kernel
theorem dX10_init_15 : decode cX10_init 15 = .ok (.putfield 15, 3) := by decide +kernel
theorem dX10_init_18 : decode cX10_init 18 = .ok (.aload_n 0, 1) := by decide +kernel
theorem dX10_init_19 : decode cX10_init 19 = .ok (.bipush 80, 2) := by decide +kernel
theorem dX10_init_21 : decode cX10_init 21 = .ok (.newarray .int, 2) := by decide +kernel
theorem dX10_init_23 : decode cX10_init 23 = .ok (.putfield 19, 3) := by decide +kernel
theorem dX10_init_26 : decode cX10_init 26 = .ok (.aload_n 0, 1) := by decide +kernel
theorem dX10_init_27 : decode cX10_init 27 = .ok (.bipush 80, 2) := by decide +kernel
theorem dX10_init_29 : decode cX10_init 29 = .ok (.newarray .int, 2) := by decide +kernel
theorem dX10_init_31 : decode cX10_init 31 = .ok (.putfield 23, 3) := by decide +kernel
theorem dX10_init_34 : decode cX10_init 34 = .ok (.aload_n 0, 1) := by decide +kernel
theorem dX10_init_35 : decode cX10_init 35 = .ok (.bipush 81, 2) := by decide +kernel
theorem dX10_init_37 : decode cX10_init 37 = .ok (.newarray .int, 2) := by decide +kernel
theorem dX10_init_39 : decode cX10_init 39 = .ok (.putfield 26, 3) := by decide +kernel
theorem dX10_init_42 : decode cX10_init 42 = .ok (.return_, 1) := by decide +kernel
theorem dX10_split_0 : decode cX10_split 0 = .ok (.iconst 0, 1) := by decide +kernel
theorem dX10_split_1 : decode cX10_split 1 = .ok (.istore_n 3, 1) := by decide +kernel
theorem dX10_split_2 : decode cX10_split 2 = .ok (.aload_n 0, 1) := by decide +kernel
theorem dX10_split_3 : decode cX10_split 3 = .ok (.iconst 0, 1) := by decide +kernel
theorem dX10_split_4 : decode cX10_split 4 = .ok (.putfield 9, 3) := by decide +kernel
theorem dX10_split_7 : decode cX10_split 7 = .ok (.iconst 0, 1) := by decide +kernel
theorem dX10_split_8 : decode cX10_split 8 = .ok (.istore 4, 2) := by decide +kernel
theorem dX10_split_10 : decode cX10_split 10 = .ok (.iload 4, 2) := by decide +kernel
theorem dX10_split_12 : decode cX10_split 12 = .ok (.iload_n 2, 1) := by decide +kernel
theorem dX10_split_13 : decode cX10_split 13 = .ok (.if_icmp .ge 110, 3) := by decide +kernel
theorem dX10_split_16 : decode cX10_split 16 = .ok (.iload 4, 2) := by decide +kernel
theorem dX10_split_18 : decode cX10_split 18 = .ok (.sipush 160, 3) := by decide +kernel
theorem dX10_split_21 : decode cX10_split 21 = .ok (.if_icmp .ge 102, 3) := by decide +kernel
theorem dX10_split_24 : decode cX10_split 24 = .ok (.aload_n 0, 1) := by decide +kernel
theorem dX10_split_25 : decode cX10_split 25 = .ok (.getfield 15, 3) := by decide +kernel
theorem dX10_split_28 : decode cX10_split 28 = .ok (.iload 4, 2) := by decide +kernel
theorem dX10_split_30 : decode cX10_split 30 = .ok (.aload_n 1, 1) := by decide +kernel
theorem dX10_split_31 : decode cX10_split 31 = .ok (.iload 4, 2) := by decide +kernel
theorem dX10_split_33 : decode cX10_split 33 = .ok (.baload, 1) := by decide +kernel
theorem dX10_split_34 : decode cX10_split 34 = .ok (.bastore, 1) := by decide +kernel
theorem dX10_split_35 : decode cX10_split 35 = .ok (.aload_n 1, 1) := by decide +kernel
theorem dX10_split_36 : decode cX10_split 36 = .ok (.iload 4, 2) := by decide +kernel
theorem dX10_split_38 : decode cX10_split 38 = .ok (.baload, 1) := by decide +kernel
theorem dX10_split_39 : decode cX10_split 39 = .ok (.invokestatic 29, 3) := by decide +kernel
theorem dX10_split_42 : decode cX10_split 42 = .ok (.ifCond .ne 8, 3) := by decide +kernel
theorem dX10_split_45 : decode cX10_split 45 = .ok (.iconst 0, 1) := by decide +kernel
theorem dX10_split_46 : decode cX10_split 46 = .ok (.istore_n 3, 1) := by decide +kernel
theorem dX10_split_47 : decode cX10_split 47 = .ok (.goto 70, 3) := by decide +kernel
theorem dX10_split_50 : decode cX10_split 50 = .ok (.iload_n 3, 1) := by decide +kernel
theorem dX10_split_51 : decode cX10_split 51 = .ok (.ifCond .eq 21, 3) := by decide +kernel
theorem dX10_split_54 : decode cX10_split 54 = .ok (.aload_n 0, 1) := by decide +kernel
theorem dX10_split_55 : decode cX10_split 55 = .ok (.getfield 23, 3) := by decide +kernel
theorem dX10_split_58 : decode cX10_split 58 = .ok (.aload_n 0, 1) := by decide +kernel
theorem dX10_split_59 : decode cX10_split 59 = .ok (.getfield 9, 3) := by decide +kernel
theorem dX10_split_62 : decode cX10_split 62 = .ok (.iconst 1, 1) := by decide +kernel
theorem dX10_split_63 : decode cX10_split 63 = .ok (.isub, 1) := by decide +kernel
theorem dX10_split_64 : decode cX10_split 64 = .ok (.iload 4, 2) := by decide +kernel
theorem dX10_split_66 : decode cX10_split 66 = .ok (.iconst 1, 1) := by decide +kernel
theorem dX10_split_67 : decode cX10_split 67 = .ok (.iadd, 1) := by decide +kernel
theorem dX10_split_68 : decode cX10_split 68 = .ok (.iastore, 1) := by decide +kernel
theorem dX10_split_69 : decode cX10_split 69 = .ok (.goto 48, 3) := by decide +kernel
theorem dX10_split_72 : decode cX10_split 72 = .ok (.aload_n 0, 1) := by decide +kernel
theorem dX10_split_73 : decode cX10_split 73 = .ok (.getfield 9, 3) := by decide +kernel
theorem dX10_split_76 : decode cX10_split 76 = .ok (.bipush 80, 2) := by decide +kernel
theorem dX10_split_78 : decode cX10_split 78 = .ok (.if_icmp .ge 39, 3) := by decide +kernel
theorem dX10_split_81 : decode cX10_split 81 = .ok (.iconst 1, 1) := by decide +kernel
theorem dX10_split_82 : decode cX10_split 82 = .ok (.istore_n 3, 1) := by decide +kernel
theorem dX10_split_83 : decode cX10_split 83 = .ok (.aload_n 0, 1) := by decide +kernel
theorem dX10_split_84 : decode cX10_split 84 = .ok (.getfield 19, 3) := by decide +kernel
theorem dX10_split_87 : decode cX10_split 87 = .ok (.aload_n 0, 1) := by decide +kernel
theorem dX10_split_88 : decode cX10_split 88 = .ok (.getfield 9, 3) := by decide +kernel
theorem dX10_split_91 : decode cX10_split 91 = .ok (.iload 4, 2) := by decide +kernel
theorem dX10_split_93 : decode cX10_split 93 = .ok (.iastore, 1) := by decide +kernel
theorem dX10_split_94 : decode cX10_split 94 = .ok (.aload_n 0, 1) := by decide +kernel
theorem dX10_split_95 : decode cX10_split 95 = .ok (.getfield 23, 3) := by decide +kernel
theorem dX10_split_98 : decode cX10_split 98 = .ok (.aload_n 0, 1) := by decide +kernel
theorem dX10_split_99 : decode cX10_split 99 = .ok (.getfield 9, 3) := by decide +kernel
theorem dX10_split_102 : decode cX10_split 102 = .ok (.iload 4, 2) := by decide +kernel
theorem dX10_split_104 : decode cX10_split 104 = .ok (.iconst 1, 1) := by decide +kernel
theorem dX10_split_105 : decode cX10_split 105 = .ok (.iadd, 1) := by decide +kernel
theorem dX10_split_106 : decode cX10_split 106 = .ok (.iastore, 1) := by decide +kernel
theorem dX10_split_107 : decode cX10_split 107 = .ok (.aload_n 0, 1) := by decide +kernel
theorem dX10_split_108 : decode cX10_split 108 = .ok (.dup, 1) := by decide +kernel
theorem dX10_split_109 : decode cX10_split 109 = .ok (.getfield 9, 3) := by decide +kernel
theorem dX10_split_112 : decode cX10_split 112 = .ok (.iconst 1, 1) := by decide +kernel
theorem dX10_split_113 : decode cX10_split 113 = .ok (.iadd, 1) := by decide +kernel
theorem dX10_split_114 : decode cX10_split 114 = .ok (.putfield 9, 3) := by decide +kernel
theorem dX10_split_117 : decode cX10_split 117 = .ok (.iinc 4 1, 3) := by decide +kernel
theorem dX10_split_120 : decode cX10_split 120 = .ok (.goto (-110), 3) := by decide +kernel
theorem dX10_split_123 : decode cX10_split 123 = .ok (.return_, 1) := by decide +kernel
theorem dX10_stepsTo_0 : decode cX10_stepsTo 0 = .ok (.iconst 0, 1) := by decide +kernel
theorem dX10_stepsTo_1 : decode cX10_stepsTo 1 = .ok (.istore_n 2, 1) := by decide +kernel
theorem dX10_stepsTo_2 : decode cX10_stepsTo 2 = .ok (.iload_n 2, 1) := by decide +kernel
theorem dX10_stepsTo_3 : decode cX10_stepsTo 3 = .ok (.aload_n 1, 1) := by decide +kernel
theorem dX10_stepsTo_4 : decode cX10_stepsTo 4 = .ok (.getfield 9, 3) := by decide +kernel
theorem dX10_stepsTo_7 : decode cX10_stepsTo 7 = .ok (.if_icmp .gt 16, 3) := by decide +kernel
theorem dX10_stepsTo_10 : decode cX10_stepsTo 10 = .ok (.aload_n 0, 1) := by decide +kernel
theorem dX10_stepsTo_11 : decode cX10_stepsTo 11 = .ok (.getfield 26, 3) := by decide +kernel
theorem dX10_stepsTo_14 : decode cX10_stepsTo 14 = .ok (.iload_n 2, 1) := by decide +kernel
theorem dX10_stepsTo_15 : decode cX10_stepsTo 15 = .ok (.iload_n 2, 1) := by decide +kernel
theorem dX10_stepsTo_16 : decode cX10_stepsTo 16 = .ok (.iastore, 1) := by decide +kernel
theorem dX10_stepsTo_17 : decode cX10_stepsTo 17 = .ok (.iinc 2 1, 3) := by decide +kernel
theorem dX10_stepsTo_20 : decode cX10_stepsTo 20 = .ok (.goto (-18), 3) := by decide +kernel
theorem dX10_stepsTo_23 : decode cX10_stepsTo 23 = .ok (.iconst 0, 1) := by decide +kernel
theorem dX10_stepsTo_24 : decode cX10_stepsTo 24 = .ok (.istore_n 2, 1) := by decide +kernel
theorem dX10_stepsTo_25 : decode cX10_stepsTo 25 = .ok (.iload_n 2, 1) := by decide +kernel
theorem dX10_stepsTo_26 : decode cX10_stepsTo 26 = .ok (.aload_n 0, 1) := by decide +kernel
theorem dX10_stepsTo_27 : decode cX10_stepsTo 27 = .ok (.getfield 9, 3) := by decide +kernel
theorem dX10_stepsTo_30 : decode cX10_stepsTo 30 = .ok (.if_icmp .ge 100, 3) := by decide +kernel
theorem dX10_stepsTo_33 : decode cX10_stepsTo 33 = .ok (.aload_n 0, 1) := by decide +kernel
theorem dX10_stepsTo_34 : decode cX10_stepsTo 34 = .ok (.getfield 26, 3) := by decide +kernel
theorem dX10_stepsTo_37 : decode cX10_stepsTo 37 = .ok (.iconst 0, 1) := by decide +kernel
theorem dX10_stepsTo_38 : decode cX10_stepsTo 38 = .ok (.iaload, 1) := by decide +kernel
theorem dX10_stepsTo_39 : decode cX10_stepsTo 39 = .ok (.istore_n 3, 1) := by decide +kernel
theorem dX10_stepsTo_40 : decode cX10_stepsTo 40 = .ok (.aload_n 0, 1) := by decide +kernel
theorem dX10_stepsTo_41 : decode cX10_stepsTo 41 = .ok (.getfield 26, 3) := by decide +kernel
theorem dX10_stepsTo_44 : decode cX10_stepsTo 44 = .ok (.iconst 0, 1) := by decide +kernel
theorem dX10_stepsTo_45 : decode cX10_stepsTo 45 = .ok (.iload_n 2, 1) := by decide +kernel
theorem dX10_stepsTo_46 : decode cX10_stepsTo 46 = .ok (.iconst 1, 1) := by decide +kernel
theorem dX10_stepsTo_47 : decode cX10_stepsTo 47 = .ok (.iadd, 1) := by decide +kernel
theorem dX10_stepsTo_48 : decode cX10_stepsTo 48 = .ok (.iastore, 1) := by decide +kernel
theorem dX10_stepsTo_49 : decode cX10_stepsTo 49 = .ok (.iconst 0, 1) := by decide +kernel
theorem dX10_stepsTo_50 : decode cX10_stepsTo 50 = .ok (.istore 4, 2) := by decide +kernel
theorem dX10_stepsTo_52 : decode cX10_stepsTo 52 = .ok (.iload 4, 2) := by decide +kernel
theorem dX10_stepsTo_54 : decode cX10_stepsTo 54 = .ok (.aload_n 1, 1) := by decide +kernel
theorem dX10_stepsTo_55 : decode cX10_stepsTo 55 = .ok (.getfield 9, 3) := by decide +kernel
theorem dX10_stepsTo_58 : decode cX10_stepsTo 58 = .ok (.if_icmp .ge 66, 3) := by decide +kernel
theorem dX10_stepsTo_61 : decode cX10_stepsTo 61 = .ok (.aload_n 0, 1) := by decide +kernel
theorem dX10_stepsTo_62 : decode cX10_stepsTo 62 = .ok (.iload_n 2, 1) := by decide +kernel
theorem dX10_stepsTo_63 : decode cX10_stepsTo 63 = .ok (.aload_n 1, 1) := by decide +kernel
theorem dX10_stepsTo_64 : decode cX10_stepsTo 64 = .ok (.iload 4, 2) := by decide +kernel
theorem dX10_stepsTo_66 : decode cX10_stepsTo 66 = .ok (.invokevirtual 35, 3) := by decide +kernel
theorem dX10_stepsTo_69 : decode cX10_stepsTo 69 = .ok (.ifCond .eq 7, 3) := by decide +kernel
theorem dX10_stepsTo_72 : decode cX10_stepsTo 72 = .ok (.iload_n 3, 1) := by decide +kernel
theorem dX10_stepsTo_73 : decode cX10_stepsTo 73 = .ok (.goto 6, 3) := by decide +kernel
theorem dX10_stepsTo_76 : decode cX10_stepsTo 76 = .ok (.iload_n 3, 1) := by decide +kernel
theorem dX10_stepsTo_77 : decode cX10_stepsTo 77 = .ok (.iconst 1, 1) := by decide +kernel
theorem dX10_stepsTo_78 : decode cX10_stepsTo 78 = .ok (.iadd, 1) := by decide +kernel
theorem dX10_stepsTo_79 : decode cX10_stepsTo 79 = .ok (.istore 5, 2) := by decide +kernel
theorem dX10_stepsTo_81 : decode cX10_stepsTo 81 = .ok (.aload_n 0, 1) := by decide +kernel
theorem dX10_stepsTo_82 : decode cX10_stepsTo 82 = .ok (.getfield 26, 3) := by decide +kernel
theorem dX10_stepsTo_85 : decode cX10_stepsTo 85 = .ok (.iload 4, 2) := by decide +kernel
theorem dX10_stepsTo_87 : decode cX10_stepsTo 87 = .ok (.iconst 1, 1) := by decide +kernel
theorem dX10_stepsTo_88 : decode cX10_stepsTo 88 = .ok (.iadd, 1) := by decide +kernel
theorem dX10_stepsTo_89 : decode cX10_stepsTo 89 = .ok (.iaload, 1) := by decide +kernel
theorem dX10_stepsTo_90 : decode cX10_stepsTo 90 = .ok (.istore_n 3, 1) := by decide +kernel
theorem dX10_stepsTo_91 : decode cX10_stepsTo 91 = .ok (.aload_n 0, 1) := by decide +kernel
theorem dX10_stepsTo_92 : decode cX10_stepsTo 92 = .ok (.getfield 26, 3) := by decide +kernel
theorem dX10_stepsTo_95 : decode cX10_stepsTo 95 = .ok (.iload 4, 2) := by decide +kernel
theorem dX10_stepsTo_97 : decode cX10_stepsTo 97 = .ok (.iconst 1, 1) := by decide +kernel
theorem dX10_stepsTo_98 : decode cX10_stepsTo 98 = .ok (.iadd, 1) := by decide +kernel
theorem dX10_stepsTo_99 : decode cX10_stepsTo 99 = .ok (.iload 5, 2) := by decide +kernel
theorem dX10_stepsTo_101 : decode cX10_stepsTo 101 = .ok (.iload_n 3, 1) := by decide +kernel
theorem dX10_stepsTo_102 : decode cX10_stepsTo 102 = .ok (.aload_n 0, 1) := by decide +kernel
theorem dX10_stepsTo_103 : decode cX10_stepsTo 103 = .ok (.getfield 26, 3) := by decide +kernel
theorem dX10_stepsTo_106 : decode cX10_stepsTo 106 = .ok (.iload 4, 2) := by decide +kernel
theorem dX10_stepsTo_108 : decode cX10_stepsTo 108 = .ok (.iaload, 1) := by decide +kernel
theorem dX10_stepsTo_109 : decode cX10_stepsTo 109 = .ok (.invokestatic 39, 3) := by decide +kernel
theorem dX10_stepsTo_112 : decode cX10_stepsTo 112 = .ok (.iconst 1, 1) := by decide +kernel
theorem dX10_stepsTo_113 : decode cX10_stepsTo 113 = .ok (.iadd, 1) := by decide +kernel
theorem dX10_stepsTo_114 : decode cX10_stepsTo 114 = .ok (.invokestatic 39, 3) := by decide +kernel
theorem dX10_stepsTo_117 : decode cX10_stepsTo 117 = .ok (.iastore, 1) := by decide +kernel
theorem dX10_stepsTo_118 : decode cX10_stepsTo 118 = .ok (.iinc 4 1, 3) := by decide +kernel
theorem dX10_stepsTo_121 : decode cX10_stepsTo 121 = .ok (.goto (-69), 3) := by decide +kernel
theorem dX10_stepsTo_124 : decode cX10_stepsTo 124 = .ok (.iinc 2 1, 3) := by decide +kernel
theorem dX10_stepsTo_127 : decode cX10_stepsTo 127 = .ok (.goto (-102), 3) := by decide +kernel
theorem dX10_stepsTo_130 : decode cX10_stepsTo 130 = .ok (.aload_n 0, 1) := by decide +kernel
theorem dX10_stepsTo_131 : decode cX10_stepsTo 131 = .ok (.getfield 26, 3) := by decide +kernel
theorem dX10_stepsTo_134 : decode cX10_stepsTo 134 = .ok (.aload_n 1, 1) := by decide +kernel
theorem dX10_stepsTo_135 : decode cX10_stepsTo 135 = .ok (.getfield 9, 3) := by decide +kernel
theorem dX10_stepsTo_138 : decode cX10_stepsTo 138 = .ok (.iaload, 1) := by decide +kernel
theorem dX10_stepsTo_139 : decode cX10_stepsTo 139 = .ok (.ireturn, 1) := by decide +kernel
theorem dX10_isAlike_0 : decode cX10_isAlike 0 = .ok (.aload_n 0, 1) := by decide +kernel
theorem dX10_isAlike_1 : decode cX10_isAlike 1 = .ok (.getfield 23, 3) := by decide +kernel
theorem dX10_isAlike_4 : decode cX10_isAlike 4 = .ok (.iload_n 1, 1) := by decide +kernel
theorem dX10_isAlike_5 : decode cX10_isAlike 5 = .ok (.iaload, 1) := by decide +kernel
theorem dX10_isAlike_6 : decode cX10_isAlike 6 = .ok (.aload_n 0, 1) := by decide +kernel
theorem dX10_isAlike_7 : decode cX10_isAlike 7 = .ok (.getfield 19, 3) := by decide +kernel
theorem dX10_isAlike_10 : decode cX10_isAlike 10 = .ok (.iload_n 1, 1) := by decide +kernel
theorem dX10_isAlike_11 : decode cX10_isAlike 11 = .ok (.iaload, 1) := by decide +kernel
theorem dX10_isAlike_12 : decode cX10_isAlike 12 = .ok (.isub, 1) := by decide +kernel
theorem dX10_isAlike_13 : decode cX10_isAlike 13 = .ok (.istore 4, 2) := by decide +kernel
theorem dX10_isAlike_15 : decode cX10_isAlike 15 = .ok (.iload 4, 2) := by decide +kernel
theorem dX10_isAlike_17 : decode cX10_isAlike 17 = .ok (.aload_n 2, 1) := by decide +kernel
theorem dX10_isAlike_18 : decode cX10_isAlike 18 = .ok (.getfield 23, 3) := by decide +kernel
theorem dX10_isAlike_21 : decode cX10_isAlike 21 = .ok (.iload_n 3, 1) := by decide +kernel
theorem dX10_isAlike_22 : decode cX10_isAlike 22 = .ok (.iaload, 1) := by decide +kernel
theorem dX10_isAlike_23 : decode cX10_isAlike 23 = .ok (.aload_n 2, 1) := by decide +kernel
theorem dX10_isAlike_24 : decode cX10_isAlike 24 = .ok (.getfield 19, 3) := by decide +kernel
theorem dX10_isAlike_27 : decode cX10_isAlike 27 = .ok (.iload_n 3, 1) := by decide +kernel
theorem dX10_isAlike_28 : decode cX10_isAlike 28 = .ok (.iaload, 1) := by decide +kernel
theorem dX10_isAlike_29 : decode cX10_isAlike 29 = .ok (.isub, 1) := by decide +kernel
theorem dX10_isAlike_30 : decode cX10_isAlike 30 = .ok (.if_icmp .eq 5, 3) := by decide +kernel
theorem dX10_isAlike_33 : decode cX10_isAlike 33 = .ok (.iconst 0, 1) := by decide +kernel
theorem dX10_isAlike_34 : decode cX10_isAlike 34 = .ok (.ireturn, 1) := by decide +kernel
theorem dX10_isAlike_35 : decode cX10_isAlike 35 = .ok (.iconst 0, 1) := by decide +kernel
theorem dX10_isAlike_36 : decode cX10_isAlike 36 = .ok (.istore 5, 2) := by decide +kernel
theorem dX10_isAlike_38 : decode cX10_isAlike 38 = .ok (.iload 5, 2) := by decide +kernel
theorem dX10_isAlike_40 : decode cX10_isAlike 40 = .ok (.iload 4, 2) := by decide +kernel
theorem dX10_isAlike_42 : decode cX10_isAlike 42 = .ok (.if_icmp .ge 42, 3) := by decide +kernel
theorem dX10_isAlike_45 : decode cX10_isAlike 45 = .ok (.aload_n 0, 1) := by decide +kernel
theorem dX10_isAlike_46 : decode cX10_isAlike 46 = .ok (.getfield 15, 3) := by decide +kernel
theorem dX10_isAlike_49 : decode cX10_isAlike 49 = .ok (.aload_n 0, 1) := by decide +kernel
theorem dX10_isAlike_50 : decode cX10_isAlike 50 = .ok (.getfield 19, 3) := by decide +kernel
theorem dX10_isAlike_53 : decode cX10_isAlike 53 = .ok (.iload_n 1, 1) := by decide +kernel
theorem dX10_isAlike_54 : decode cX10_isAlike 54 = .ok (.iaload, 1) := by decide +kernel
theorem dX10_isAlike_55 : decode cX10_isAlike 55 = .ok (.iload 5, 2) := by decide +kernel
theorem dX10_isAlike_57 : decode cX10_isAlike 57 = .ok (.iadd, 1) := by decide +kernel
theorem dX10_isAlike_58 : decode cX10_isAlike 58 = .ok (.baload, 1) := by decide +kernel
theorem dX10_isAlike_59 : decode cX10_isAlike 59 = .ok (.aload_n 2, 1) := by decide +kernel
theorem dX10_isAlike_60 : decode cX10_isAlike 60 = .ok (.getfield 15, 3) := by decide +kernel
theorem dX10_isAlike_63 : decode cX10_isAlike 63 = .ok (.aload_n 2, 1) := by decide +kernel
theorem dX10_isAlike_64 : decode cX10_isAlike 64 = .ok (.getfield 19, 3) := by decide +kernel
theorem dX10_isAlike_67 : decode cX10_isAlike 67 = .ok (.iload_n 3, 1) := by decide +kernel
theorem dX10_isAlike_68 : decode cX10_isAlike 68 = .ok (.iaload, 1) := by decide +kernel
theorem dX10_isAlike_69 : decode cX10_isAlike 69 = .ok (.iload 5, 2) := by decide +kernel
theorem dX10_isAlike_71 : decode cX10_isAlike 71 = .ok (.iadd, 1) := by decide +kernel
theorem dX10_isAlike_72 : decode cX10_isAlike 72 = .ok (.baload, 1) := by decide +kernel
theorem dX10_isAlike_73 : decode cX10_isAlike 73 = .ok (.if_icmp .eq 5, 3) := by decide +kernel
theorem dX10_isAlike_76 : decode cX10_isAlike 76 = .ok (.iconst 0, 1) := by decide +kernel
theorem dX10_isAlike_77 : decode cX10_isAlike 77 = .ok (.ireturn, 1) := by decide +kernel
theorem dX10_isAlike_78 : decode cX10_isAlike 78 = .ok (.iinc 5 1, 3) := by decide +kernel
theorem dX10_isAlike_81 : decode cX10_isAlike 81 = .ok (.goto (-43), 3) := by decide +kernel
theorem dX10_isAlike_84 : decode cX10_isAlike 84 = .ok (.iconst 1, 1) := by decide +kernel
theorem dX10_isAlike_85 : decode cX10_isAlike 85 = .ok (.ireturn, 1) := by decide +kernel
theorem dX11_init_0 : decode cX11_init 0 = .ok (.aload_n 0, 1) := by decide +kernel
theorem dX11_init_1 : decode cX11_init 1 = .ok (.invokespecial 1, 3) := by decide +kernel
theorem dX11_init_4 : decode cX11_init 4 = .ok (.aload_n 0, 1) := by decide +kernel
theorem dX11_init_5 : decode cX11_init 5 = .ok (.new 7, 3) := by decide +kernel
theorem dX11_init_8 : decode cX11_init 8 = .ok (.dup, 1) := by decide +kernel
theorem dX11_init_9 : decode cX11_init 9 = .ok (.invokespecial 9, 3) := by decide +kernel
theorem dX11_init_12 : decode cX11_init 12 = .ok (.putfield 10, 3) := by decide +kernel
theorem dX11_init_15 : decode cX11_init 15 = .ok (.aload_n 0, 1) := by decide +kernel
theorem dX11_init_16 : decode cX11_init 16 = .ok (.new 16, 3) := by decide +kernel
theorem dX11_init_19 : decode cX11_init 19 = .ok (.dup, 1) := by decide +kernel
theorem dX11_init_20 : decode cX11_init 20 = .ok (.invokespecial 18, 3) := by decide +kernel
theorem dX11_init_23 : decode cX11_init 23 = .ok (.putfield 19, 3) := by decide +kernel
theorem dX11_init_26 : decode cX11_init 26 = .ok (.aload_n 0, 1) := by decide +kernel
theorem dX11_init_27 : decode cX11_init 27 = .ok (.new 23, 3) := by decide +kernel
theorem dX11_init_30 : decode cX11_init 30 = .ok (.dup, 1) := by decide +kernel
theorem dX11_init_31 : decode cX11_init 31 = .ok (.invokespecial 25, 3) := by decide +kernel
theorem dX11_init_34 : decode cX11_init 34 = .ok (.putfield 26, 3) := by decide +kernel
theorem dX11_init_37 : decode cX11_init 37 = .ok (.aload_n 0, 1) := by decide +kernel
theorem dX11_init_38 : decode cX11_init 38 = .ok (.new 30, 3) := by decide +kernel
theorem dX11_init_41 : decode cX11_init 41 = .ok (.dup, 1) := by decide +kernel
theorem dX11_init_42 : decode cX11_init 42 = .ok (.invokespecial 32, 3) := by decide +kernel
theorem dX11_init_45 : decode cX11_init 45 = .ok (.putfield 33, 3) := by decide +kernel
theorem dX11_init_48 : decode cX11_init 48 = .ok (.aload_n 0, 1) := by decide +kernel
theorem dX11_init_49 : decode cX11_init 49 = .ok (.new 37, 3) := by decide +kernel
theorem dX11_init_52 : decode cX11_init 52 = .ok (.dup, 1) := by decide +kernel
theorem dX11_init_53 : decode cX11_init 53 = .ok (.invokespecial 39, 3) := by decide +kernel
theorem dX11_init_56 : decode cX11_init 56 = .ok (.putfield 40, 3) := by decide +kernel
theorem dX11_init_59 : decode cX11_init 59 = .ok (.aload_n 0, 1) := by decide +kernel
theorem dX11_init_60 : decode cX11_init 60 = .ok (.new 44, 3) := by decide +kernel
theorem dX11_init_63 : decode cX11_init 63 = .ok (.dup, 1) := by decide +kernel
theorem dX11_init_64 : decode cX11_init 64 = .ok (.invokespecial 46, 3) := by decide +kernel
theorem dX11_init_67 : decode cX11_init 67 = .ok (.putfield 47, 3) := by decide +kernel
theorem dX11_init_70 : decode cX11_init 70 = .ok (.aload_n 0, 1) := by decide +kernel
theorem dX11_init_71 : decode cX11_init 71 = .ok (.new 51, 3) := by decide +kernel
theorem dX11_init_74 : decode cX11_init 74 = .ok (.dup, 1) := by decide +kernel
theorem dX11_init_75 : decode cX11_init 75 = .ok (.invokespecial 53, 3) := by decide +kernel
theorem dX11_init_78 : decode cX11_init 78 = .ok (.putfield 54, 3) := by decide +kernel
theorem dX11_init_81 : decode cX11_init 81 = .ok (.aload_n 0, 1) := by decide +kernel
theorem dX11_init_82 : decode cX11_init 82 = .ok (.new 58, 3) := by decide +kernel
theorem dX11_init_85 : decode cX11_init 85 = .ok (.dup, 1) := by decide +kernel
theorem dX11_init_86 : decode cX11_init 86 = .ok (.invokespecial 60, 3) := by decide +kernel
theorem dX11_init_89 : decode cX11_init 89 = .ok (.putfield 61, 3) := by decide +kernel
theorem dX11_init_92 : decode cX11_init 92 = .ok (.aload_n 0, 1) := by decide +kernel
theorem dX11_init_93 : decode cX11_init 93 = .ok (.new 65, 3) := by decide +kernel
theorem dX11_init_96 : decode cX11_init 96 = .ok (.dup, 1) := by decide +kernel
theorem dX11_init_97 : decode cX11_init 97 = .ok (.invokespecial 67, 3) := by decide +kernel
theorem dX11_init_100 : decode cX11_init 100 = .ok (.putfield 68, 3) := by decide +kernel
theorem dX11_init_103 : decode cX11_init 103 = .ok (.aload_n 0, 1) := by decide +kernel
theorem dX11_init_104 : decode cX11_init 104 = .ok (.new 65, 3) := by decide +kernel
theorem dX11_init_107 : decode cX11_init 107 = .ok (.dup, 1) := by decide +kernel
theorem dX11_init_108 : decode cX11_init 108 = .ok (.invokespecial 67, 3) := by decide +kernel
theorem dX11_init_111 : decode cX11_init 111 = .ok (.putfield 72, 3) := by decide +kernel
theorem dX11_init_114 : decode cX11_init 114 = .ok (.aload_n 0, 1) := by decide +kernel
theorem dX11_init_115 : decode cX11_init 115 = .ok (.new 75, 3) := by decide +kernel
theorem dX11_init_118 : decode cX11_init 118 = .ok (.dup, 1) := by decide +kernel
theorem dX11_init_119 : decode cX11_init 119 = .ok (.invokespecial 77, 3) := by decide +kernel
theorem dX11_init_122 : decode cX11_init 122 = .ok (.putfield 78, 3) := by decide +kernel
theorem dX11_init_125 : decode cX11_init 125 = .ok (.aload_n 0, 1) := by decide +kernel
theorem dX11_init_126 : decode cX11_init 126 = .ok (.new 82, 3) := by decide +kernel
theorem dX11_init_129 : decode cX11_init 129 = .ok (.dup, 1) := by decide +kernel
theorem dX11_init_130 : decode cX11_init 130 = .ok (.invokespecial 84, 3) := by decide +kernel
theorem dX11_init_133 : decode cX11_init 133 = .ok (.putfield 85, 3) := by decide +kernel
theorem dX11_init_136 : decode cX11_init 136 = .ok (.aload_n 0, 1) := by decide +kernel
theorem dX11_init_137 : decode cX11_init 137 = .ok (.iconst 0, 1) := by decide +kernel
theorem dX11_init_138 : decode cX11_init 138 = .ok (.putfield 89, 3) := by decide +kernel
theorem dX11_init_141 : decode cX11_init 141 = .ok (.aload_n 0, 1) := by decide +kernel
theorem dX11_init_142 : decode cX11_init 142 = .ok (.iconst (-1), 1) := by decide +kernel
theorem dX11_init_143 : decode cX11_init 143 = .ok (.putfield 93, 3) := by decide +kernel
theorem dX11_init_146 : decode cX11_init 146 = .ok (.return_, 1) := by decide +kernel
theorem dX11_person_0 : decode cX11_person 0 = .ok (.iload_n 1, 1) := by decide +kernel
theorem dX11_person_1 : decode cX11_person 1 = .ok (.invokestatic 96, 3) := by decide +kernel
theorem dX11_person_4 : decode cX11_person 4 = .ok (.ifCond .eq 10, 3) := by decide +kernel
theorem dX11_person_7 : decode cX11_person 7 = .ok (.iload_n 2, 1) := by decide +kernel
theorem dX11_person_8 : decode cX11_person 8 = .ok (.invokestatic 100, 3) := by decide +kernel
theorem dX11_person_11 : decode cX11_person 11 = .ok (.ifCond .ne 6, 3) := by decide +kernel
theorem dX11_person_14 : decode cX11_person 14 = .ok (.bipush (-2), 2) := by decide +kernel
theorem dX11_person_16 : decode cX11_person 16 = .ok (.ireturn, 1) := by decide +kernel
theorem dX11_person_17 : decode cX11_person 17 = .ok (.aload_n 0, 1) := by decide +kernel
theorem dX11_person_18 : decode cX11_person 18 = .ok (.getfield 10, 3) := by decide +kernel
theorem dX11_person_21 : decode cX11_person 21 = .ok (.iload_n 1, 1) := by decide +kernel
theorem dX11_person_22 : decode cX11_person 22 = .ok (.iload_n 2, 1) := by decide +kernel
theorem dX11_person_23 : decode cX11_person 23 = .ok (.invokevirtual 103, 3) := by decide +kernel
theorem dX11_person_26 : decode cX11_person 26 = .ok (.ireturn, 1) := by decide +kernel
theorem dX11_lived_0 : decode cX11_lived 0 = .ok (.aload_n 0, 1) := by decide +kernel
theorem dX11_lived_1 : decode cX11_lived 1 = .ok (.getfield 10, 3) := by decide +kernel
theorem dX11_lived_4 : decode cX11_lived 4 = .ok (.iload_n 1, 1) := by decide +kernel
theorem dX11_lived_5 : decode cX11_lived 5 = .ok (.invokevirtual 107, 3) := by decide +kernel
theorem dX11_lived_8 : decode cX11_lived 8 = .ok (.ifCond .eq 17, 3) := by decide +kernel
theorem dX11_lived_11 : decode cX11_lived 11 = .ok (.iload_n 2, 1) := by decide +kernel
theorem dX11_lived_12 : decode cX11_lived 12 = .ok (.invokestatic 110, 3) := by decide +kernel
theorem dX11_lived_15 : decode cX11_lived 15 = .ok (.ifCond .eq 10, 3) := by decide +kernel
theorem dX11_lived_18 : decode cX11_lived 18 = .ok (.iload_n 3, 1) := by decide +kernel
theorem dX11_lived_19 : decode cX11_lived 19 = .ok (.invokestatic 110, 3) := by decide +kernel
theorem dX11_lived_22 : decode cX11_lived 22 = .ok (.ifCond .ne 6, 3) := by decide +kernel
theorem dX11_lived_25 : decode cX11_lived 25 = .ok (.bipush (-2), 2) := by decide +kernel
theorem dX11_lived_27 : decode cX11_lived 27 = .ok (.ireturn, 1) := by decide +kernel
theorem dX11_lived_28 : decode cX11_lived 28 = .ok (.aload_n 0, 1) := by decide +kernel
theorem dX11_lived_29 : decode cX11_lived 29 = .ok (.getfield 10, 3) := by decide +kernel
theorem dX11_lived_32 : decode cX11_lived 32 = .ok (.getfield 113, 3) := by decide +kernel
theorem dX11_lived_35 : decode cX11_lived 35 = .ok (.iload_n 1, 1) := by decide +kernel
theorem dX11_lived_36 : decode cX11_lived 36 = .ok (.iload_n 2, 1) := by decide +kernel
theorem dX11_lived_37 : decode cX11_lived 37 = .ok (.iastore, 1) := by decide +kernel
theorem dX11_lived_38 : decode cX11_lived 38 = .ok (.aload_n 0, 1) := by decide +kernel
theorem dX11_lived_39 : decode cX11_lived 39 = .ok (.getfield 10, 3) := by decide +kernel
theorem dX11_lived_42 : decode cX11_lived 42 = .ok (.getfield 117, 3) := by decide +kernel
theorem dX11_lived_45 : decode cX11_lived 45 = .ok (.iload_n 1, 1) := by decide +kernel
theorem dX11_lived_46 : decode cX11_lived 46 = .ok (.iload_n 3, 1) := by decide +kernel
theorem dX11_lived_47 : decode cX11_lived 47 = .ok (.iastore, 1) := by decide +kernel
theorem dX11_lived_48 : decode cX11_lived 48 = .ok (.iconst 1, 1) := by decide +kernel
theorem dX11_lived_49 : decode cX11_lived 49 = .ok (.ireturn, 1) := by decide +kernel
theorem dX11_knows_0 : decode cX11_knows 0 = .ok (.aload_n 0, 1) := by decide +kernel
theorem dX11_knows_1 : decode cX11_knows 1 = .ok (.getfield 10, 3) := by decide +kernel
theorem dX11_knows_4 : decode cX11_knows 4 = .ok (.iload_n 1, 1) := by decide +kernel
theorem dX11_knows_5 : decode cX11_knows 5 = .ok (.invokevirtual 107, 3) := by decide +kernel
theorem dX11_knows_8 : decode cX11_knows 8 = .ok (.ifCond .eq 14, 3) := by decide +kernel
theorem dX11_knows_11 : decode cX11_knows 11 = .ok (.aload_n 0, 1) := by decide +kernel
theorem dX11_knows_12 : decode cX11_knows 12 = .ok (.getfield 10, 3) := by decide +kernel
theorem dX11_knows_15 : decode cX11_knows 15 = .ok (.iload_n 2, 1) := by decide +kernel
theorem dX11_knows_16 : decode cX11_knows 16 = .ok (.invokevirtual 107, 3) := by decide +kernel
theorem dX11_knows_19 : decode cX11_knows 19 = .ok (.ifCond .ne 6, 3) := by decide +kernel
theorem dX11_knows_22 : decode cX11_knows 22 = .ok (.bipush (-2), 2) := by decide +kernel
theorem dX11_knows_24 : decode cX11_knows 24 = .ok (.ireturn, 1) := by decide +kernel
theorem dX11_knows_25 : decode cX11_knows 25 = .ok (.aload_n 0, 1) := by decide +kernel
theorem dX11_knows_26 : decode cX11_knows 26 = .ok (.getfield 10, 3) := by decide +kernel
theorem dX11_knows_29 : decode cX11_knows 29 = .ok (.iload_n 1, 1) := by decide +kernel
theorem dX11_knows_30 : decode cX11_knows 30 = .ok (.iload_n 2, 1) := by decide +kernel
theorem dX11_knows_31 : decode cX11_knows 31 = .ok (.iload_n 3, 1) := by decide +kernel
theorem dX11_knows_32 : decode cX11_knows 32 = .ok (.invokevirtual 120, 3) := by decide +kernel
theorem dX11_knows_35 : decode cX11_knows 35 = .ok (.ifCond .eq 7, 3) := by decide +kernel
theorem dX11_knows_38 : decode cX11_knows 38 = .ok (.iconst 1, 1) := by decide +kernel
theorem dX11_knows_39 : decode cX11_knows 39 = .ok (.goto 4, 3) := by decide +kernel
theorem dX11_knows_42 : decode cX11_knows 42 = .ok (.iconst 0, 1) := by decide +kernel
theorem dX11_knows_43 : decode cX11_knows 43 = .ok (.ireturn, 1) := by decide +kernel
theorem dX11_letter_0 : decode cX11_letter 0 = .ok (.iload_n 1, 1) := by decide +kernel
theorem dX11_letter_1 : decode cX11_letter 1 = .ok (.invokestatic 124, 3) := by decide +kernel
theorem dX11_letter_4 : decode cX11_letter 4 = .ok (.ifCond .eq 33, 3) := by decide +kernel
theorem dX11_letter_7 : decode cX11_letter 7 = .ok (.aload_n 0, 1) := by decide +kernel
theorem dX11_letter_8 : decode cX11_letter 8 = .ok (.getfield 10, 3) := by decide +kernel
theorem dX11_letter_11 : decode cX11_letter 11 = .ok (.iload_n 2, 1) := by decide +kernel
theorem dX11_letter_12 : decode cX11_letter 12 = .ok (.invokevirtual 107, 3) := by decide +kernel
theorem dX11_letter_15 : decode cX11_letter 15 = .ok (.ifCond .eq 22, 3) := by decide +kernel
theorem dX11_letter_18 : decode cX11_letter 18 = .ok (.aload_n 0, 1) := by decide +kernel
theorem dX11_letter_19 : decode cX11_letter 19 = .ok (.getfield 10, 3) := by decide +kernel
theorem dX11_letter_22 : decode cX11_letter 22 = .ok (.iload_n 3, 1) := by decide +kernel
theorem dX11_letter_23 : decode cX11_letter 23 = .ok (.invokevirtual 107, 3) := by decide +kernel
theorem dX11_letter_26 : decode cX11_letter 26 = .ok (.ifCond .eq 11, 3) := by decide +kernel
theorem dX11_letter_29 : decode cX11_letter 29 = .ok (.iload 4, 2) := by decide +kernel
theorem dX11_letter_31 : decode cX11_letter 31 = .ok (.invokestatic 100, 3) := by decide +kernel
theorem dX11_letter_34 : decode cX11_letter 34 = .ok (.ifCond .ne 6, 3) := by decide +kernel
theorem dX11_letter_37 : decode cX11_letter 37 = .ok (.bipush (-2), 2) := by decide +kernel
theorem dX11_letter_39 : decode cX11_letter 39 = .ok (.ireturn, 1) := by decide +kernel
theorem dX11_letter_40 : decode cX11_letter 40 = .ok (.aload_n 0, 1) := by decide +kernel
theorem dX11_letter_41 : decode cX11_letter 41 = .ok (.getfield 19, 3) := by decide +kernel
theorem dX11_letter_44 : decode cX11_letter 44 = .ok (.iload_n 1, 1) := by decide +kernel
theorem dX11_letter_45 : decode cX11_letter 45 = .ok (.iload_n 2, 1) := by decide +kernel
theorem dX11_letter_46 : decode cX11_letter 46 = .ok (.iload_n 3, 1) := by decide +kernel
theorem dX11_letter_47 : decode cX11_letter 47 = .ok (.iload 4, 2) := by decide +kernel
theorem dX11_letter_49 : decode cX11_letter 49 = .ok (.invokevirtual 127, 3) := by decide +kernel
theorem dX11_letter_52 : decode cX11_letter 52 = .ok (.ireturn, 1) := by decide +kernel
theorem dX11_told_0 : decode cX11_told 0 = .ok (.aload_n 0, 1) := by decide +kernel
theorem dX11_told_1 : decode cX11_told 1 = .ok (.getfield 19, 3) := by decide +kernel
theorem dX11_told_4 : decode cX11_told 4 = .ok (.iload_n 1, 1) := by decide +kernel
theorem dX11_told_5 : decode cX11_told 5 = .ok (.invokevirtual 130, 3) := by decide +kernel
theorem dX11_told_8 : decode cX11_told 8 = .ok (.ifCond .ne 6, 3) := by decide +kernel
theorem dX11_told_11 : decode cX11_told 11 = .ok (.bipush (-2), 2) := by decide +kernel
theorem dX11_told_13 : decode cX11_told 13 = .ok (.ireturn, 1) := by decide +kernel
theorem dX11_told_14 : decode cX11_told 14 = .ok (.iload_n 2, 1) := by decide +kernel
theorem dX11_told_15 : decode cX11_told 15 = .ok (.tableswitch 139 0 8 #[49, 59, 69, 79, 89, 99, 109, 119, 129], 49) := by decide +kernel
theorem dX11_told_64 : decode cX11_told 64 = .ok (.aload_n 0, 1) := by decide +kernel
theorem dX11_told_65 : decode cX11_told 65 = .ok (.getfield 19, 3) := by decide +kernel
theorem dX11_told_68 : decode cX11_told 68 = .ok (.getfield 131, 3) := by decide +kernel
theorem dX11_told_71 : decode cX11_told 71 = .ok (.iload_n 1, 1) := by decide +kernel
theorem dX11_told_72 : decode cX11_told 72 = .ok (.iaload, 1) := by decide +kernel
theorem dX11_told_73 : decode cX11_told 73 = .ok (.ireturn, 1) := by decide +kernel
theorem dX11_told_74 : decode cX11_told 74 = .ok (.aload_n 0, 1) := by decide +kernel
theorem dX11_told_75 : decode cX11_told 75 = .ok (.getfield 19, 3) := by decide +kernel
theorem dX11_told_78 : decode cX11_told 78 = .ok (.getfield 134, 3) := by decide +kernel
theorem dX11_told_81 : decode cX11_told 81 = .ok (.iload_n 1, 1) := by decide +kernel
theorem dX11_told_82 : decode cX11_told 82 = .ok (.iaload, 1) := by decide +kernel
theorem dX11_told_83 : decode cX11_told 83 = .ok (.ireturn, 1) := by decide +kernel
theorem dX11_told_84 : decode cX11_told 84 = .ok (.aload_n 0, 1) := by decide +kernel
theorem dX11_told_85 : decode cX11_told 85 = .ok (.getfield 19, 3) := by decide +kernel
theorem dX11_told_88 : decode cX11_told 88 = .ok (.getfield 137, 3) := by decide +kernel
theorem dX11_told_91 : decode cX11_told 91 = .ok (.iload_n 1, 1) := by decide +kernel
theorem dX11_told_92 : decode cX11_told 92 = .ok (.iaload, 1) := by decide +kernel
theorem dX11_told_93 : decode cX11_told 93 = .ok (.ireturn, 1) := by decide +kernel
theorem dX11_told_94 : decode cX11_told 94 = .ok (.aload_n 0, 1) := by decide +kernel
theorem dX11_told_95 : decode cX11_told 95 = .ok (.getfield 19, 3) := by decide +kernel
theorem dX11_told_98 : decode cX11_told 98 = .ok (.getfield 140, 3) := by decide +kernel
theorem dX11_told_101 : decode cX11_told 101 = .ok (.iload_n 1, 1) := by decide +kernel
theorem dX11_told_102 : decode cX11_told 102 = .ok (.iaload, 1) := by decide +kernel
theorem dX11_told_103 : decode cX11_told 103 = .ok (.ireturn, 1) := by decide +kernel
theorem dX11_told_104 : decode cX11_told 104 = .ok (.aload_n 0, 1) := by decide +kernel
theorem dX11_told_105 : decode cX11_told 105 = .ok (.getfield 19, 3) := by decide +kernel
theorem dX11_told_108 : decode cX11_told 108 = .ok (.getfield 143, 3) := by decide +kernel
theorem dX11_told_111 : decode cX11_told 111 = .ok (.iload_n 1, 1) := by decide +kernel
theorem dX11_told_112 : decode cX11_told 112 = .ok (.iaload, 1) := by decide +kernel
theorem dX11_told_113 : decode cX11_told 113 = .ok (.ireturn, 1) := by decide +kernel
theorem dX11_told_114 : decode cX11_told 114 = .ok (.aload_n 0, 1) := by decide +kernel
theorem dX11_told_115 : decode cX11_told 115 = .ok (.getfield 19, 3) := by decide +kernel
theorem dX11_told_118 : decode cX11_told 118 = .ok (.getfield 146, 3) := by decide +kernel
theorem dX11_told_121 : decode cX11_told 121 = .ok (.iload_n 1, 1) := by decide +kernel
theorem dX11_told_122 : decode cX11_told 122 = .ok (.iaload, 1) := by decide +kernel
theorem dX11_told_123 : decode cX11_told 123 = .ok (.ireturn, 1) := by decide +kernel
theorem dX11_told_124 : decode cX11_told 124 = .ok (.aload_n 0, 1) := by decide +kernel
theorem dX11_told_125 : decode cX11_told 125 = .ok (.getfield 19, 3) := by decide +kernel
theorem dX11_told_128 : decode cX11_told 128 = .ok (.getfield 149, 3) := by decide +kernel
theorem dX11_told_131 : decode cX11_told 131 = .ok (.iload_n 1, 1) := by decide +kernel
theorem dX11_told_132 : decode cX11_told 132 = .ok (.iaload, 1) := by decide +kernel
theorem dX11_told_133 : decode cX11_told 133 = .ok (.ireturn, 1) := by decide +kernel
theorem dX11_told_134 : decode cX11_told 134 = .ok (.aload_n 0, 1) := by decide +kernel
theorem dX11_told_135 : decode cX11_told 135 = .ok (.getfield 19, 3) := by decide +kernel
theorem dX11_told_138 : decode cX11_told 138 = .ok (.getfield 152, 3) := by decide +kernel
theorem dX11_told_141 : decode cX11_told 141 = .ok (.iload_n 1, 1) := by decide +kernel
theorem dX11_told_142 : decode cX11_told 142 = .ok (.iaload, 1) := by decide +kernel
theorem dX11_told_143 : decode cX11_told 143 = .ok (.ireturn, 1) := by decide +kernel
theorem dX11_told_144 : decode cX11_told 144 = .ok (.aload_n 0, 1) := by decide +kernel
theorem dX11_told_145 : decode cX11_told 145 = .ok (.getfield 19, 3) := by decide +kernel
theorem dX11_told_148 : decode cX11_told 148 = .ok (.getfield 155, 3) := by decide +kernel
theorem dX11_told_151 : decode cX11_told 151 = .ok (.iload_n 1, 1) := by decide +kernel
theorem dX11_told_152 : decode cX11_told 152 = .ok (.iaload, 1) := by decide +kernel
theorem dX11_told_153 : decode cX11_told 153 = .ok (.ireturn, 1) := by decide +kernel
theorem dX11_told_154 : decode cX11_told 154 = .ok (.bipush (-2), 2) := by decide +kernel
theorem dX11_told_156 : decode cX11_told 156 = .ok (.ireturn, 1) := by decide +kernel
theorem dX11_days_0 : decode cX11_days 0 = .ok (.aload_n 0, 1) := by decide +kernel
theorem dX11_days_1 : decode cX11_days 1 = .ok (.getfield 19, 3) := by decide +kernel
theorem dX11_days_4 : decode cX11_days 4 = .ok (.iload_n 1, 1) := by decide +kernel
theorem dX11_days_5 : decode cX11_days 5 = .ok (.invokevirtual 130, 3) := by decide +kernel
theorem dX11_days_8 : decode cX11_days 8 = .ok (.ifCond .eq 22, 3) := by decide +kernel
theorem dX11_days_11 : decode cX11_days 11 = .ok (.iload_n 2, 1) := by decide +kernel
theorem dX11_days_12 : decode cX11_days 12 = .ok (.invokestatic 110, 3) := by decide +kernel
theorem dX11_days_15 : decode cX11_days 15 = .ok (.ifCond .eq 15, 3) := by decide +kernel
theorem dX11_days_18 : decode cX11_days 18 = .ok (.iload_n 3, 1) := by decide +kernel
theorem dX11_days_19 : decode cX11_days 19 = .ok (.invokestatic 110, 3) := by decide +kernel
theorem dX11_days_22 : decode cX11_days 22 = .ok (.ifCond .eq 8, 3) := by decide +kernel
theorem dX11_days_25 : decode cX11_days 25 = .ok (.iload_n 2, 1) := by decide +kernel
theorem dX11_days_26 : decode cX11_days 26 = .ok (.iload_n 3, 1) := by decide +kernel
theorem dX11_days_27 : decode cX11_days 27 = .ok (.if_icmp .le 6, 3) := by decide +kernel
theorem dX11_days_30 : decode cX11_days 30 = .ok (.bipush (-2), 2) := by decide +kernel
theorem dX11_days_32 : decode cX11_days 32 = .ok (.ireturn, 1) := by decide +kernel
theorem dX11_days_33 : decode cX11_days 33 = .ok (.aload_n 0, 1) := by decide +kernel
theorem dX11_days_34 : decode cX11_days 34 = .ok (.getfield 19, 3) := by decide +kernel
theorem dX11_days_37 : decode cX11_days 37 = .ok (.getfield 143, 3) := by decide +kernel
theorem dX11_days_40 : decode cX11_days 40 = .ok (.iload_n 1, 1) := by decide +kernel
theorem dX11_days_41 : decode cX11_days 41 = .ok (.iload_n 2, 1) := by decide +kernel
theorem dX11_days_42 : decode cX11_days 42 = .ok (.iastore, 1) := by decide +kernel
theorem dX11_days_43 : decode cX11_days 43 = .ok (.aload_n 0, 1) := by decide +kernel
theorem dX11_days_44 : decode cX11_days 44 = .ok (.getfield 19, 3) := by decide +kernel
theorem dX11_days_47 : decode cX11_days 47 = .ok (.getfield 146, 3) := by decide +kernel
theorem dX11_days_50 : decode cX11_days 50 = .ok (.iload_n 1, 1) := by decide +kernel
theorem dX11_days_51 : decode cX11_days 51 = .ok (.iload_n 3, 1) := by decide +kernel
theorem dX11_days_52 : decode cX11_days 52 = .ok (.iastore, 1) := by decide +kernel
theorem dX11_days_53 : decode cX11_days 53 = .ok (.iconst 1, 1) := by decide +kernel
theorem dX11_days_54 : decode cX11_days 54 = .ok (.ireturn, 1) := by decide +kernel
theorem dX11_week_0 : decode cX11_week 0 = .ok (.aload_n 0, 1) := by decide +kernel
theorem dX11_week_1 : decode cX11_week 1 = .ok (.getfield 19, 3) := by decide +kernel
theorem dX11_week_4 : decode cX11_week 4 = .ok (.iload_n 1, 1) := by decide +kernel
theorem dX11_week_5 : decode cX11_week 5 = .ok (.invokevirtual 130, 3) := by decide +kernel
theorem dX11_week_8 : decode cX11_week 8 = .ok (.ifCond .eq 14, 3) := by decide +kernel
theorem dX11_week_11 : decode cX11_week 11 = .ok (.iload_n 2, 1) := by decide +kernel
theorem dX11_week_12 : decode cX11_week 12 = .ok (.iconst (-1), 1) := by decide +kernel
theorem dX11_week_13 : decode cX11_week 13 = .ok (.if_icmp .lt 9, 3) := by decide +kernel
theorem dX11_week_16 : decode cX11_week 16 = .ok (.iload_n 2, 1) := by decide +kernel
theorem dX11_week_17 : decode cX11_week 17 = .ok (.bipush 7, 2) := by decide +kernel
theorem dX11_week_19 : decode cX11_week 19 = .ok (.if_icmp .lt 6, 3) := by decide +kernel
theorem dX11_week_22 : decode cX11_week 22 = .ok (.bipush (-2), 2) := by decide +kernel
theorem dX11_week_24 : decode cX11_week 24 = .ok (.ireturn, 1) := by decide +kernel
theorem dX11_week_25 : decode cX11_week 25 = .ok (.aload_n 0, 1) := by decide +kernel
theorem dX11_week_26 : decode cX11_week 26 = .ok (.getfield 19, 3) := by decide +kernel
theorem dX11_week_29 : decode cX11_week 29 = .ok (.getfield 149, 3) := by decide +kernel
theorem dX11_week_32 : decode cX11_week 32 = .ok (.iload_n 1, 1) := by decide +kernel
theorem dX11_week_33 : decode cX11_week 33 = .ok (.iload_n 2, 1) := by decide +kernel
theorem dX11_week_34 : decode cX11_week 34 = .ok (.iastore, 1) := by decide +kernel
theorem dX11_week_35 : decode cX11_week 35 = .ok (.iconst 1, 1) := by decide +kernel
theorem dX11_week_36 : decode cX11_week 36 = .ok (.ireturn, 1) := by decide +kernel
theorem dX11_bound_0 : decode cX11_bound 0 = .ok (.aload_n 0, 1) := by decide +kernel
theorem dX11_bound_1 : decode cX11_bound 1 = .ok (.getfield 19, 3) := by decide +kernel
theorem dX11_bound_4 : decode cX11_bound 4 = .ok (.iload_n 1, 1) := by decide +kernel
theorem dX11_bound_5 : decode cX11_bound 5 = .ok (.invokevirtual 130, 3) := by decide +kernel
theorem dX11_bound_8 : decode cX11_bound 8 = .ok (.ifCond .eq 26, 3) := by decide +kernel
theorem dX11_bound_11 : decode cX11_bound 11 = .ok (.aload_n 0, 1) := by decide +kernel
theorem dX11_bound_12 : decode cX11_bound 12 = .ok (.getfield 19, 3) := by decide +kernel
theorem dX11_bound_15 : decode cX11_bound 15 = .ok (.iload_n 2, 1) := by decide +kernel
theorem dX11_bound_16 : decode cX11_bound 16 = .ok (.invokevirtual 130, 3) := by decide +kernel
theorem dX11_bound_19 : decode cX11_bound 19 = .ok (.ifCond .eq 15, 3) := by decide +kernel
theorem dX11_bound_22 : decode cX11_bound 22 = .ok (.iload_n 1, 1) := by decide +kernel
theorem dX11_bound_23 : decode cX11_bound 23 = .ok (.iload_n 2, 1) := by decide +kernel
theorem dX11_bound_24 : decode cX11_bound 24 = .ok (.if_icmp .eq 10, 3) := by decide +kernel
theorem dX11_bound_27 : decode cX11_bound 27 = .ok (.iload_n 3, 1) := by decide +kernel
theorem dX11_bound_28 : decode cX11_bound 28 = .ok (.invokestatic 158, 3) := by decide +kernel
theorem dX11_bound_31 : decode cX11_bound 31 = .ok (.ifCond .ne 6, 3) := by decide +kernel
theorem dX11_bound_34 : decode cX11_bound 34 = .ok (.bipush (-2), 2) := by decide +kernel
theorem dX11_bound_36 : decode cX11_bound 36 = .ok (.ireturn, 1) := by decide +kernel
theorem dX11_bound_37 : decode cX11_bound 37 = .ok (.aload_n 0, 1) := by decide +kernel
theorem dX11_bound_38 : decode cX11_bound 38 = .ok (.getfield 26, 3) := by decide +kernel
theorem dX11_bound_41 : decode cX11_bound 41 = .ok (.iload_n 1, 1) := by decide +kernel
theorem dX11_bound_42 : decode cX11_bound 42 = .ok (.iload_n 2, 1) := by decide +kernel
theorem dX11_bound_43 : decode cX11_bound 43 = .ok (.iload_n 3, 1) := by decide +kernel
theorem dX11_bound_44 : decode cX11_bound 44 = .ok (.invokevirtual 161, 3) := by decide +kernel
theorem dX11_bound_47 : decode cX11_bound 47 = .ok (.ireturn, 1) := by decide +kernel
theorem dX11_loose_0 : decode cX11_loose 0 = .ok (.aload_n 0, 1) := by decide +kernel
theorem dX11_loose_1 : decode cX11_loose 1 = .ok (.getfield 26, 3) := by decide +kernel
theorem dX11_loose_4 : decode cX11_loose 4 = .ok (.invokevirtual 164, 3) := by decide +kernel
theorem dX11_loose_7 : decode cX11_loose 7 = .ok (.ireturn, 1) := by decide +kernel
theorem dX11_found_0 : decode cX11_found 0 = .ok (.aload_n 0, 1) := by decide +kernel
theorem dX11_found_1 : decode cX11_found 1 = .ok (.getfield 19, 3) := by decide +kernel
theorem dX11_found_4 : decode cX11_found 4 = .ok (.iload_n 1, 1) := by decide +kernel
theorem dX11_found_5 : decode cX11_found 5 = .ok (.invokevirtual 130, 3) := by decide +kernel
theorem dX11_found_8 : decode cX11_found 8 = .ok (.ifCond .eq 36, 3) := by decide +kernel
theorem dX11_found_11 : decode cX11_found 11 = .ok (.aload_n 0, 1) := by decide +kernel
theorem dX11_found_12 : decode cX11_found 12 = .ok (.getfield 19, 3) := by decide +kernel
theorem dX11_found_15 : decode cX11_found 15 = .ok (.iload_n 2, 1) := by decide +kernel
theorem dX11_found_16 : decode cX11_found 16 = .ok (.invokevirtual 130, 3) := by decide +kernel
theorem dX11_found_19 : decode cX11_found 19 = .ok (.ifCond .eq 25, 3) := by decide +kernel
theorem dX11_found_22 : decode cX11_found 22 = .ok (.aload_n 0, 1) := by decide +kernel
theorem dX11_found_23 : decode cX11_found 23 = .ok (.getfield 19, 3) := by decide +kernel
theorem dX11_found_26 : decode cX11_found 26 = .ok (.iload_n 1, 1) := by decide +kernel
theorem dX11_found_27 : decode cX11_found 27 = .ok (.invokevirtual 168, 3) := by decide +kernel
theorem dX11_found_30 : decode cX11_found 30 = .ok (.ifCond .eq 14, 3) := by decide +kernel
theorem dX11_found_33 : decode cX11_found 33 = .ok (.aload_n 0, 1) := by decide +kernel
theorem dX11_found_34 : decode cX11_found 34 = .ok (.getfield 19, 3) := by decide +kernel
theorem dX11_found_37 : decode cX11_found 37 = .ok (.iload_n 2, 1) := by decide +kernel
theorem dX11_found_38 : decode cX11_found 38 = .ok (.invokevirtual 168, 3) := by decide +kernel
theorem dX11_found_41 : decode cX11_found 41 = .ok (.ifCond .eq 6, 3) := by decide +kernel
theorem dX11_found_44 : decode cX11_found 44 = .ok (.bipush (-2), 2) := by decide +kernel
theorem dX11_found_46 : decode cX11_found 46 = .ok (.ireturn, 1) := by decide +kernel
theorem dX11_found_47 : decode cX11_found 47 = .ok (.aload_n 0, 1) := by decide +kernel
theorem dX11_found_48 : decode cX11_found 48 = .ok (.getfield 19, 3) := by decide +kernel
theorem dX11_found_51 : decode cX11_found 51 = .ok (.getfield 152, 3) := by decide +kernel
theorem dX11_found_54 : decode cX11_found 54 = .ok (.iload_n 1, 1) := by decide +kernel
theorem dX11_found_55 : decode cX11_found 55 = .ok (.iaload, 1) := by decide +kernel
theorem dX11_found_56 : decode cX11_found 56 = .ok (.iconst (-1), 1) := by decide +kernel
theorem dX11_found_57 : decode cX11_found 57 = .ok (.if_icmp .eq 6, 3) := by decide +kernel
theorem dX11_found_60 : decode cX11_found 60 = .ok (.bipush (-3), 2) := by decide +kernel
theorem dX11_found_62 : decode cX11_found 62 = .ok (.ireturn, 1) := by decide +kernel
theorem dX11_found_63 : decode cX11_found 63 = .ok (.aload_n 0, 1) := by decide +kernel
theorem dX11_found_64 : decode cX11_found 64 = .ok (.getfield 19, 3) := by decide +kernel
theorem dX11_found_67 : decode cX11_found 67 = .ok (.getfield 152, 3) := by decide +kernel
theorem dX11_found_70 : decode cX11_found 70 = .ok (.iload_n 1, 1) := by decide +kernel
theorem dX11_found_71 : decode cX11_found 71 = .ok (.iload_n 2, 1) := by decide +kernel
theorem dX11_found_72 : decode cX11_found 72 = .ok (.iastore, 1) := by decide +kernel
theorem dX11_found_73 : decode cX11_found 73 = .ok (.iconst 1, 1) := by decide +kernel
theorem dX11_found_74 : decode cX11_found 74 = .ok (.ireturn, 1) := by decide +kernel
theorem dX11_lose_0 : decode cX11_lose 0 = .ok (.aload_n 0, 1) := by decide +kernel
theorem dX11_lose_1 : decode cX11_lose 1 = .ok (.getfield 19, 3) := by decide +kernel
theorem dX11_lose_4 : decode cX11_lose 4 = .ok (.iload_n 1, 1) := by decide +kernel
theorem dX11_lose_5 : decode cX11_lose 5 = .ok (.invokevirtual 130, 3) := by decide +kernel
theorem dX11_lose_8 : decode cX11_lose 8 = .ok (.ifCond .ne 6, 3) := by decide +kernel
theorem dX11_lose_11 : decode cX11_lose 11 = .ok (.bipush (-2), 2) := by decide +kernel
theorem dX11_lose_13 : decode cX11_lose 13 = .ok (.ireturn, 1) := by decide +kernel
theorem dX11_lose_14 : decode cX11_lose 14 = .ok (.aload_n 0, 1) := by decide +kernel
theorem dX11_lose_15 : decode cX11_lose 15 = .ok (.getfield 19, 3) := by decide +kernel
theorem dX11_lose_18 : decode cX11_lose 18 = .ok (.getfield 152, 3) := by decide +kernel
theorem dX11_lose_21 : decode cX11_lose 21 = .ok (.iload_n 1, 1) := by decide +kernel
theorem dX11_lose_22 : decode cX11_lose 22 = .ok (.iaload, 1) := by decide +kernel
theorem dX11_lose_23 : decode cX11_lose 23 = .ok (.iconst (-1), 1) := by decide +kernel
theorem dX11_lose_24 : decode cX11_lose 24 = .ok (.if_icmp .ne 6, 3) := by decide +kernel
theorem dX11_lose_27 : decode cX11_lose 27 = .ok (.bipush (-3), 2) := by decide +kernel
theorem dX11_lose_29 : decode cX11_lose 29 = .ok (.ireturn, 1) := by decide +kernel
theorem dX11_lose_30 : decode cX11_lose 30 = .ok (.aload_n 0, 1) := by decide +kernel
theorem dX11_lose_31 : decode cX11_lose 31 = .ok (.getfield 19, 3) := by decide +kernel
theorem dX11_lose_34 : decode cX11_lose 34 = .ok (.getfield 152, 3) := by decide +kernel
theorem dX11_lose_37 : decode cX11_lose 37 = .ok (.iload_n 1, 1) := by decide +kernel
theorem dX11_lose_38 : decode cX11_lose 38 = .ok (.iconst (-1), 1) := by decide +kernel
theorem dX11_lose_39 : decode cX11_lose 39 = .ok (.iastore, 1) := by decide +kernel
theorem dX11_lose_40 : decode cX11_lose 40 = .ok (.iconst 1, 1) := by decide +kernel
theorem dX11_lose_41 : decode cX11_lose 41 = .ok (.ireturn, 1) := by decide +kernel
theorem dX11_span_0 : decode cX11_span 0 = .ok (.aload_n 0, 1) := by decide +kernel
theorem dX11_span_1 : decode cX11_span 1 = .ok (.getfield 19, 3) := by decide +kernel
theorem dX11_span_4 : decode cX11_span 4 = .ok (.iload_n 1, 1) := by decide +kernel
theorem dX11_span_5 : decode cX11_span 5 = .ok (.invokevirtual 130, 3) := by decide +kernel
theorem dX11_span_8 : decode cX11_span 8 = .ok (.ifCond .eq 12, 3) := by decide +kernel
theorem dX11_span_11 : decode cX11_span 11 = .ok (.iload_n 2, 1) := by decide +kernel
theorem dX11_span_12 : decode cX11_span 12 = .ok (.ifCond .lt 8, 3) := by decide +kernel
theorem dX11_span_15 : decode cX11_span 15 = .ok (.iload_n 2, 1) := by decide +kernel
theorem dX11_span_16 : decode cX11_span 16 = .ok (.iconst 1, 1) := by decide +kernel
theorem dX11_span_17 : decode cX11_span 17 = .ok (.if_icmp .le 6, 3) := by decide +kernel
theorem dX11_span_20 : decode cX11_span 20 = .ok (.bipush (-2), 2) := by decide +kernel
theorem dX11_span_22 : decode cX11_span 22 = .ok (.ireturn, 1) := by decide +kernel
theorem dX11_span_23 : decode cX11_span 23 = .ok (.aload_n 0, 1) := by decide +kernel
theorem dX11_span_24 : decode cX11_span 24 = .ok (.getfield 26, 3) := by decide +kernel
theorem dX11_span_27 : decode cX11_span 27 = .ok (.aload_n 0, 1) := by decide +kernel
theorem dX11_span_28 : decode cX11_span 28 = .ok (.getfield 19, 3) := by decide +kernel
theorem dX11_span_31 : decode cX11_span 31 = .ok (.invokevirtual 171, 3) := by decide +kernel
theorem dX11_span_34 : decode cX11_span 34 = .ok (.ifCond .ne 5, 3) := by decide +kernel
theorem dX11_span_37 : decode cX11_span 37 = .ok (.iconst (-1), 1) := by decide +kernel
theorem dX11_span_38 : decode cX11_span 38 = .ok (.ireturn, 1) := by decide +kernel
theorem dX11_span_39 : decode cX11_span 39 = .ok (.iload_n 2, 1) := by decide +kernel
theorem dX11_span_40 : decode cX11_span 40 = .ok (.ifCond .ne 15, 3) := by decide +kernel
theorem dX11_span_43 : decode cX11_span 43 = .ok (.aload_n 0, 1) := by decide +kernel
theorem dX11_span_44 : decode cX11_span 44 = .ok (.getfield 26, 3) := by decide +kernel
theorem dX11_span_47 : decode cX11_span 47 = .ok (.getfield 175, 3) := by decide +kernel
theorem dX11_span_50 : decode cX11_span 50 = .ok (.iload_n 1, 1) := by decide +kernel
theorem dX11_span_51 : decode cX11_span 51 = .ok (.iaload, 1) := by decide +kernel
theorem dX11_span_52 : decode cX11_span 52 = .ok (.goto 12, 3) := by decide +kernel
theorem dX11_span_55 : decode cX11_span 55 = .ok (.aload_n 0, 1) := by decide +kernel
theorem dX11_span_56 : decode cX11_span 56 = .ok (.getfield 26, 3) := by decide +kernel
theorem dX11_span_59 : decode cX11_span 59 = .ok (.getfield 178, 3) := by decide +kernel
theorem dX11_span_62 : decode cX11_span 62 = .ok (.iload_n 1, 1) := by decide +kernel
theorem dX11_span_63 : decode cX11_span 63 = .ok (.iaload, 1) := by decide +kernel
theorem dX11_span_64 : decode cX11_span 64 = .ok (.ireturn, 1) := by decide +kernel
theorem dX11_clash_0 : decode cX11_clash 0 = .ok (.aload_n 0, 1) := by decide +kernel
theorem dX11_clash_1 : decode cX11_clash 1 = .ok (.getfield 26, 3) := by decide +kernel
theorem dX11_clash_4 : decode cX11_clash 4 = .ok (.aload_n 0, 1) := by decide +kernel
theorem dX11_clash_5 : decode cX11_clash 5 = .ok (.getfield 19, 3) := by decide +kernel
theorem dX11_clash_8 : decode cX11_clash 8 = .ok (.invokevirtual 181, 3) := by decide +kernel
theorem dX11_clash_11 : decode cX11_clash 11 = .ok (.ireturn, 1) := by decide +kernel
theorem dX11_before_0 : decode cX11_before 0 = .ok (.aload_n 0, 1) := by decide +kernel
theorem dX11_before_1 : decode cX11_before 1 = .ok (.getfield 19, 3) := by decide +kernel
theorem dX11_before_4 : decode cX11_before 4 = .ok (.iload_n 1, 1) := by decide +kernel
theorem dX11_before_5 : decode cX11_before 5 = .ok (.invokevirtual 130, 3) := by decide +kernel
theorem dX11_before_8 : decode cX11_before 8 = .ok (.ifCond .eq 19, 3) := by decide +kernel
theorem dX11_before_11 : decode cX11_before 11 = .ok (.aload_n 0, 1) := by decide +kernel
theorem dX11_before_12 : decode cX11_before 12 = .ok (.getfield 19, 3) := by decide +kernel
theorem dX11_before_15 : decode cX11_before 15 = .ok (.iload_n 2, 1) := by decide +kernel
theorem dX11_before_16 : decode cX11_before 16 = .ok (.invokevirtual 130, 3) := by decide +kernel
theorem dX11_before_19 : decode cX11_before 19 = .ok (.ifCond .eq 8, 3) := by decide +kernel
theorem dX11_before_22 : decode cX11_before 22 = .ok (.iload_n 1, 1) := by decide +kernel
theorem dX11_before_23 : decode cX11_before 23 = .ok (.iload_n 2, 1) := by decide +kernel
theorem dX11_before_24 : decode cX11_before 24 = .ok (.if_icmp .ne 6, 3) := by decide +kernel
theorem dX11_before_27 : decode cX11_before 27 = .ok (.bipush (-2), 2) := by decide +kernel
theorem dX11_before_29 : decode cX11_before 29 = .ok (.ireturn, 1) := by decide +kernel
theorem dX11_before_30 : decode cX11_before 30 = .ok (.aload_n 0, 1) := by decide +kernel
theorem dX11_before_31 : decode cX11_before 31 = .ok (.getfield 26, 3) := by decide +kernel
theorem dX11_before_34 : decode cX11_before 34 = .ok (.aload_n 0, 1) := by decide +kernel
theorem dX11_before_35 : decode cX11_before 35 = .ok (.getfield 19, 3) := by decide +kernel
theorem dX11_before_38 : decode cX11_before 38 = .ok (.invokevirtual 171, 3) := by decide +kernel
theorem dX11_before_41 : decode cX11_before 41 = .ok (.ifCond .ne 5, 3) := by decide +kernel
theorem dX11_before_44 : decode cX11_before 44 = .ok (.iconst 0, 1) := by decide +kernel
theorem dX11_before_45 : decode cX11_before 45 = .ok (.ireturn, 1) := by decide +kernel
theorem dX11_before_46 : decode cX11_before 46 = .ok (.aload_n 0, 1) := by decide +kernel
theorem dX11_before_47 : decode cX11_before 47 = .ok (.getfield 26, 3) := by decide +kernel
theorem dX11_before_50 : decode cX11_before 50 = .ok (.aload_n 0, 1) := by decide +kernel
theorem dX11_before_51 : decode cX11_before 51 = .ok (.getfield 19, 3) := by decide +kernel
theorem dX11_before_54 : decode cX11_before 54 = .ok (.getfield 185, 3) := by decide +kernel
theorem dX11_before_57 : decode cX11_before 57 = .ok (.invokevirtual 188, 3) := by decide +kernel
theorem dX11_before_60 : decode cX11_before 60 = .ok (.aload_n 0, 1) := by decide +kernel
theorem dX11_before_61 : decode cX11_before 61 = .ok (.getfield 26, 3) := by decide +kernel
theorem dX11_before_64 : decode cX11_before 64 = .ok (.iload_n 1, 1) := by decide +kernel
theorem dX11_before_65 : decode cX11_before 65 = .ok (.iload_n 2, 1) := by decide +kernel
theorem dX11_before_66 : decode cX11_before 66 = .ok (.invokevirtual 192, 3) := by decide +kernel
theorem dX11_before_69 : decode cX11_before 69 = .ok (.ifCond .eq 7, 3) := by decide +kernel
theorem dX11_before_72 : decode cX11_before 72 = .ok (.iconst 1, 1) := by decide +kernel
theorem dX11_before_73 : decode cX11_before 73 = .ok (.goto 4, 3) := by decide +kernel
theorem dX11_before_76 : decode cX11_before 76 = .ok (.iconst 0, 1) := by decide +kernel
theorem dX11_before_77 : decode cX11_before 77 = .ok (.ireturn, 1) := by decide +kernel
theorem dX11_post_0 : decode cX11_post 0 = .ok (.iload_n 1, 1) := by decide +kernel
theorem dX11_post_1 : decode cX11_post 1 = .ok (.invokestatic 100, 3) := by decide +kernel
theorem dX11_post_4 : decode cX11_post 4 = .ok (.ifCond .eq 31, 3) := by decide +kernel
theorem dX11_post_7 : decode cX11_post 7 = .ok (.iload_n 2, 1) := by decide +kernel
theorem dX11_post_8 : decode cX11_post 8 = .ok (.invokestatic 100, 3) := by decide +kernel
theorem dX11_post_11 : decode cX11_post 11 = .ok (.ifCond .eq 24, 3) := by decide +kernel
theorem dX11_post_14 : decode cX11_post 14 = .ok (.iload_n 3, 1) := by decide +kernel
theorem dX11_post_15 : decode cX11_post 15 = .ok (.invokestatic 196, 3) := by decide +kernel
theorem dX11_post_18 : decode cX11_post 18 = .ok (.ifCond .eq 17, 3) := by decide +kernel
theorem dX11_post_21 : decode cX11_post 21 = .ok (.iload 4, 2) := by decide +kernel
theorem dX11_post_23 : decode cX11_post 23 = .ok (.invokestatic 196, 3) := by decide +kernel
theorem dX11_post_26 : decode cX11_post 26 = .ok (.ifCond .eq 9, 3) := by decide +kernel
theorem dX11_post_29 : decode cX11_post 29 = .ok (.iload_n 3, 1) := by decide +kernel
theorem dX11_post_30 : decode cX11_post 30 = .ok (.iload 4, 2) := by decide +kernel
theorem dX11_post_32 : decode cX11_post 32 = .ok (.if_icmp .le 6, 3) := by decide +kernel
theorem dX11_post_35 : decode cX11_post 35 = .ok (.bipush (-2), 2) := by decide +kernel
theorem dX11_post_37 : decode cX11_post 37 = .ok (.ireturn, 1) := by decide +kernel
theorem dX11_post_38 : decode cX11_post 38 = .ok (.aload_n 0, 1) := by decide +kernel
theorem dX11_post_39 : decode cX11_post 39 = .ok (.getfield 33, 3) := by decide +kernel
theorem dX11_post_42 : decode cX11_post 42 = .ok (.getfield 199, 3) := by decide +kernel
theorem dX11_post_45 : decode cX11_post 45 = .ok (.iload_n 1, 1) := by decide +kernel
theorem dX11_post_46 : decode cX11_post 46 = .ok (.aaload, 1) := by decide +kernel
theorem dX11_post_47 : decode cX11_post 47 = .ok (.iload_n 2, 1) := by decide +kernel
theorem dX11_post_48 : decode cX11_post 48 = .ok (.iload_n 3, 1) := by decide +kernel
theorem dX11_post_49 : decode cX11_post 49 = .ok (.iastore, 1) := by decide +kernel
theorem dX11_post_50 : decode cX11_post 50 = .ok (.aload_n 0, 1) := by decide +kernel
theorem dX11_post_51 : decode cX11_post 51 = .ok (.getfield 33, 3) := by decide +kernel
theorem dX11_post_54 : decode cX11_post 54 = .ok (.getfield 202, 3) := by decide +kernel
theorem dX11_post_57 : decode cX11_post 57 = .ok (.iload_n 1, 1) := by decide +kernel
theorem dX11_post_58 : decode cX11_post 58 = .ok (.aaload, 1) := by decide +kernel
theorem dX11_post_59 : decode cX11_post 59 = .ok (.iload_n 2, 1) := by decide +kernel
theorem dX11_post_60 : decode cX11_post 60 = .ok (.iload 4, 2) := by decide +kernel
theorem dX11_post_62 : decode cX11_post 62 = .ok (.iastore, 1) := by decide +kernel
theorem dX11_post_63 : decode cX11_post 63 = .ok (.iconst 1, 1) := by decide +kernel
theorem dX11_post_64 : decode cX11_post 64 = .ok (.ireturn, 1) := by decide +kernel
theorem dX11_read_0 : decode cX11_read 0 = .ok (.aload_n 0, 1) := by decide +kernel
theorem dX11_read_1 : decode cX11_read 1 = .ok (.getfield 19, 3) := by decide +kernel
theorem dX11_read_4 : decode cX11_read 4 = .ok (.iload_n 1, 1) := by decide +kernel
theorem dX11_read_5 : decode cX11_read 5 = .ok (.invokevirtual 130, 3) := by decide +kernel
theorem dX11_read_8 : decode cX11_read 8 = .ok (.ifCond .eq 14, 3) := by decide +kernel
theorem dX11_read_11 : decode cX11_read 11 = .ok (.aload_n 0, 1) := by decide +kernel
theorem dX11_read_12 : decode cX11_read 12 = .ok (.iload_n 2, 1) := by decide +kernel
theorem dX11_read_13 : decode cX11_read 13 = .ok (.iload_n 3, 1) := by decide +kernel
theorem dX11_read_14 : decode cX11_read 14 = .ok (.iload 4, 2) := by decide +kernel
theorem dX11_read_16 : decode cX11_read 16 = .ok (.invokevirtual 205, 3) := by decide +kernel
theorem dX11_read_19 : decode cX11_read 19 = .ok (.ifCond .ne 6, 3) := by decide +kernel
theorem dX11_read_22 : decode cX11_read 22 = .ok (.bipush (-2), 2) := by decide +kernel
theorem dX11_read_24 : decode cX11_read 24 = .ok (.ireturn, 1) := by decide +kernel
theorem dX11_read_25 : decode cX11_read 25 = .ok (.aload_n 0, 1) := by decide +kernel
theorem dX11_read_26 : decode cX11_read 26 = .ok (.getfield 26, 3) := by decide +kernel
theorem dX11_read_29 : decode cX11_read 29 = .ok (.aload_n 0, 1) := by decide +kernel
theorem dX11_read_30 : decode cX11_read 30 = .ok (.getfield 19, 3) := by decide +kernel
theorem dX11_read_33 : decode cX11_read 33 = .ok (.invokevirtual 171, 3) := by decide +kernel
theorem dX11_read_36 : decode cX11_read 36 = .ok (.ifCond .eq 19, 3) := by decide +kernel
theorem dX11_read_39 : decode cX11_read 39 = .ok (.aload_n 0, 1) := by decide +kernel
theorem dX11_read_40 : decode cX11_read 40 = .ok (.iload_n 1, 1) := by decide +kernel
theorem dX11_read_41 : decode cX11_read 41 = .ok (.iload_n 2, 1) := by decide +kernel
theorem dX11_read_42 : decode cX11_read 42 = .ok (.iload_n 3, 1) := by decide +kernel
theorem dX11_read_43 : decode cX11_read 43 = .ok (.iload 4, 2) := by decide +kernel
theorem dX11_read_45 : decode cX11_read 45 = .ok (.invokevirtual 209, 3) := by decide +kernel
theorem dX11_read_48 : decode cX11_read 48 = .ok (.ifCond .eq 7, 3) := by decide +kernel
theorem dX11_read_51 : decode cX11_read 51 = .ok (.iconst 1, 1) := by decide +kernel
theorem dX11_read_52 : decode cX11_read 52 = .ok (.goto 4, 3) := by decide +kernel
theorem dX11_read_55 : decode cX11_read 55 = .ok (.iconst 0, 1) := by decide +kernel
theorem dX11_read_56 : decode cX11_read 56 = .ok (.ireturn, 1) := by decide +kernel
theorem dX11_reads_0 : decode cX11_reads 0 = .ok (.aload_n 0, 1) := by decide +kernel
theorem dX11_reads_1 : decode cX11_reads 1 = .ok (.iload_n 1, 1) := by decide +kernel
theorem dX11_reads_2 : decode cX11_reads 2 = .ok (.iload_n 2, 1) := by decide +kernel
theorem dX11_reads_3 : decode cX11_reads 3 = .ok (.iload_n 3, 1) := by decide +kernel
theorem dX11_reads_4 : decode cX11_reads 4 = .ok (.invokevirtual 205, 3) := by decide +kernel
theorem dX11_reads_7 : decode cX11_reads 7 = .ok (.ifCond .ne 6, 3) := by decide +kernel
theorem dX11_reads_10 : decode cX11_reads 10 = .ok (.bipush (-2), 2) := by decide +kernel
theorem dX11_reads_12 : decode cX11_reads 12 = .ok (.ireturn, 1) := by decide +kernel
theorem dX11_reads_13 : decode cX11_reads 13 = .ok (.aload_n 0, 1) := by decide +kernel
theorem dX11_reads_14 : decode cX11_reads 14 = .ok (.getfield 26, 3) := by decide +kernel
theorem dX11_reads_17 : decode cX11_reads 17 = .ok (.aload_n 0, 1) := by decide +kernel
theorem dX11_reads_18 : decode cX11_reads 18 = .ok (.getfield 19, 3) := by decide +kernel
theorem dX11_reads_21 : decode cX11_reads 21 = .ok (.invokevirtual 171, 3) := by decide +kernel
theorem dX11_reads_24 : decode cX11_reads 24 = .ok (.ifCond .ne 5, 3) := by decide +kernel
theorem dX11_reads_27 : decode cX11_reads 27 = .ok (.iconst 0, 1) := by decide +kernel
theorem dX11_reads_28 : decode cX11_reads 28 = .ok (.ireturn, 1) := by decide +kernel
theorem dX11_reads_29 : decode cX11_reads 29 = .ok (.iconst 0, 1) := by decide +kernel
theorem dX11_reads_30 : decode cX11_reads 30 = .ok (.istore 4, 2) := by decide +kernel
theorem dX11_reads_32 : decode cX11_reads 32 = .ok (.iconst 0, 1) := by decide +kernel
theorem dX11_reads_33 : decode cX11_reads 33 = .ok (.istore 5, 2) := by decide +kernel
theorem dX11_reads_35 : decode cX11_reads 35 = .ok (.iload 5, 2) := by decide +kernel
theorem dX11_reads_37 : decode cX11_reads 37 = .ok (.aload_n 0, 1) := by decide +kernel
theorem dX11_reads_38 : decode cX11_reads 38 = .ok (.getfield 19, 3) := by decide +kernel
theorem dX11_reads_41 : decode cX11_reads 41 = .ok (.getfield 185, 3) := by decide +kernel
theorem dX11_reads_44 : decode cX11_reads 44 = .ok (.if_icmp .ge 24, 3) := by decide +kernel
theorem dX11_reads_47 : decode cX11_reads 47 = .ok (.aload_n 0, 1) := by decide +kernel
theorem dX11_reads_48 : decode cX11_reads 48 = .ok (.iload 5, 2) := by decide +kernel
theorem dX11_reads_50 : decode cX11_reads 50 = .ok (.iload_n 1, 1) := by decide +kernel
theorem dX11_reads_51 : decode cX11_reads 51 = .ok (.iload_n 2, 1) := by decide +kernel
theorem dX11_reads_52 : decode cX11_reads 52 = .ok (.iload_n 3, 1) := by decide +kernel
theorem dX11_reads_53 : decode cX11_reads 53 = .ok (.invokevirtual 209, 3) := by decide +kernel
theorem dX11_reads_56 : decode cX11_reads 56 = .ok (.ifCond .eq 6, 3) := by decide +kernel
theorem dX11_reads_59 : decode cX11_reads 59 = .ok (.iinc 4 1, 3) := by decide +kernel
theorem dX11_reads_62 : decode cX11_reads 62 = .ok (.iinc 5 1, 3) := by decide +kernel
theorem dX11_reads_65 : decode cX11_reads 65 = .ok (.goto (-30), 3) := by decide +kernel
theorem dX11_reads_68 : decode cX11_reads 68 = .ok (.iload 4, 2) := by decide +kernel
theorem dX11_reads_70 : decode cX11_reads 70 = .ok (.ireturn, 1) := by decide +kernel
theorem dX11_means_0 : decode cX11_means 0 = .ok (.aload_n 0, 1) := by decide +kernel
theorem dX11_means_1 : decode cX11_means 1 = .ok (.getfield 19, 3) := by decide +kernel
theorem dX11_means_4 : decode cX11_means 4 = .ok (.iload_n 1, 1) := by decide +kernel
theorem dX11_means_5 : decode cX11_means 5 = .ok (.invokevirtual 130, 3) := by decide +kernel
theorem dX11_means_8 : decode cX11_means 8 = .ok (.ifCond .eq 10, 3) := by decide +kernel
theorem dX11_means_11 : decode cX11_means 11 = .ok (.iload_n 2, 1) := by decide +kernel
theorem dX11_means_12 : decode cX11_means 12 = .ok (.invokestatic 96, 3) := by decide +kernel
theorem dX11_means_15 : decode cX11_means 15 = .ok (.ifCond .ne 6, 3) := by decide +kernel
theorem dX11_means_18 : decode cX11_means 18 = .ok (.bipush (-2), 2) := by decide +kernel
theorem dX11_means_20 : decode cX11_means 20 = .ok (.ireturn, 1) := by decide +kernel
theorem dX11_means_21 : decode cX11_means 21 = .ok (.aload_n 0, 1) := by decide +kernel
theorem dX11_means_22 : decode cX11_means 22 = .ok (.getfield 40, 3) := by decide +kernel
theorem dX11_means_25 : decode cX11_means 25 = .ok (.iload_n 1, 1) := by decide +kernel
theorem dX11_means_26 : decode cX11_means 26 = .ok (.iload_n 2, 1) := by decide +kernel
theorem dX11_means_27 : decode cX11_means 27 = .ok (.invokevirtual 213, 3) := by decide +kernel
theorem dX11_means_30 : decode cX11_means 30 = .ok (.iconst (-1), 1) := by decide +kernel
theorem dX11_means_31 : decode cX11_means 31 = .ok (.if_icmp .ne 15, 3) := by decide +kernel
theorem dX11_means_34 : decode cX11_means 34 = .ok (.aload_n 0, 1) := by decide +kernel
theorem dX11_means_35 : decode cX11_means 35 = .ok (.iload_n 1, 1) := by decide +kernel
theorem dX11_means_36 : decode cX11_means 36 = .ok (.iload_n 2, 1) := by decide +kernel
theorem dX11_means_37 : decode cX11_means 37 = .ok (.invokevirtual 216, 3) := by decide +kernel
theorem dX11_means_40 : decode cX11_means 40 = .ok (.invokestatic 219, 3) := by decide +kernel
theorem dX11_means_43 : decode cX11_means 43 = .ok (.goto 4, 3) := by decide +kernel
theorem dX11_means_46 : decode cX11_means 46 = .ok (.iconst 1, 1) := by decide +kernel
theorem dX11_means_47 : decode cX11_means 47 = .ok (.ireturn, 1) := by decide +kernel
theorem dX11_who_0 : decode cX11_who 0 = .ok (.aload_n 0, 1) := by decide +kernel
theorem dX11_who_1 : decode cX11_who 1 = .ok (.getfield 19, 3) := by decide +kernel
theorem dX11_who_4 : decode cX11_who 4 = .ok (.iload_n 1, 1) := by decide +kernel
theorem dX11_who_5 : decode cX11_who 5 = .ok (.invokevirtual 130, 3) := by decide +kernel
theorem dX11_who_8 : decode cX11_who 8 = .ok (.ifCond .eq 10, 3) := by decide +kernel
theorem dX11_who_11 : decode cX11_who 11 = .ok (.iload_n 2, 1) := by decide +kernel
theorem dX11_who_12 : decode cX11_who 12 = .ok (.invokestatic 96, 3) := by decide +kernel
theorem dX11_who_15 : decode cX11_who 15 = .ok (.ifCond .ne 6, 3) := by decide +kernel
theorem dX11_who_18 : decode cX11_who 18 = .ok (.bipush (-2), 2) := by decide +kernel
theorem dX11_who_20 : decode cX11_who 20 = .ok (.ireturn, 1) := by decide +kernel
theorem dX11_who_21 : decode cX11_who 21 = .ok (.aload_n 0, 1) := by decide +kernel
theorem dX11_who_22 : decode cX11_who 22 = .ok (.getfield 40, 3) := by decide +kernel
theorem dX11_who_25 : decode cX11_who 25 = .ok (.iload_n 1, 1) := by decide +kernel
theorem dX11_who_26 : decode cX11_who 26 = .ok (.iload_n 2, 1) := by decide +kernel
theorem dX11_who_27 : decode cX11_who 27 = .ok (.invokevirtual 213, 3) := by decide +kernel
theorem dX11_who_30 : decode cX11_who 30 = .ok (.istore_n 3, 1) := by decide +kernel
theorem dX11_who_31 : decode cX11_who 31 = .ok (.iload_n 3, 1) := by decide +kernel
theorem dX11_who_32 : decode cX11_who 32 = .ok (.iconst (-1), 1) := by decide +kernel
theorem dX11_who_33 : decode cX11_who 33 = .ok (.if_icmp .eq 13, 3) := by decide +kernel
theorem dX11_who_36 : decode cX11_who 36 = .ok (.aload_n 0, 1) := by decide +kernel
theorem dX11_who_37 : decode cX11_who 37 = .ok (.getfield 40, 3) := by decide +kernel
theorem dX11_who_40 : decode cX11_who 40 = .ok (.getfield 225, 3) := by decide +kernel
theorem dX11_who_43 : decode cX11_who 43 = .ok (.iload_n 3, 1) := by decide +kernel
theorem dX11_who_44 : decode cX11_who 44 = .ok (.iaload, 1) := by decide +kernel
theorem dX11_who_45 : decode cX11_who 45 = .ok (.ireturn, 1) := by decide +kernel
theorem dX11_who_46 : decode cX11_who 46 = .ok (.aload_n 0, 1) := by decide +kernel
theorem dX11_who_47 : decode cX11_who 47 = .ok (.getfield 10, 3) := by decide +kernel
theorem dX11_who_50 : decode cX11_who 50 = .ok (.aload_n 0, 1) := by decide +kernel
theorem dX11_who_51 : decode cX11_who 51 = .ok (.iload_n 1, 1) := by decide +kernel
theorem dX11_who_52 : decode cX11_who 52 = .ok (.iload_n 2, 1) := by decide +kernel
theorem dX11_who_53 : decode cX11_who 53 = .ok (.invokevirtual 216, 3) := by decide +kernel
theorem dX11_who_56 : decode cX11_who 56 = .ok (.invokevirtual 228, 3) := by decide +kernel
theorem dX11_who_59 : decode cX11_who 59 = .ok (.ireturn, 1) := by decide +kernel
theorem dX11_hand_0 : decode cX11_hand 0 = .ok (.aload_n 0, 1) := by decide +kernel
theorem dX11_hand_1 : decode cX11_hand 1 = .ok (.getfield 19, 3) := by decide +kernel
theorem dX11_hand_4 : decode cX11_hand 4 = .ok (.iload_n 1, 1) := by decide +kernel
theorem dX11_hand_5 : decode cX11_hand 5 = .ok (.invokevirtual 130, 3) := by decide +kernel
theorem dX11_hand_8 : decode cX11_hand 8 = .ok (.ifCond .eq 21, 3) := by decide +kernel
theorem dX11_hand_11 : decode cX11_hand 11 = .ok (.iload_n 2, 1) := by decide +kernel
theorem dX11_hand_12 : decode cX11_hand 12 = .ok (.invokestatic 96, 3) := by decide +kernel
theorem dX11_hand_15 : decode cX11_hand 15 = .ok (.ifCond .eq 14, 3) := by decide +kernel
theorem dX11_hand_18 : decode cX11_hand 18 = .ok (.aload_n 0, 1) := by decide +kernel
theorem dX11_hand_19 : decode cX11_hand 19 = .ok (.getfield 10, 3) := by decide +kernel
theorem dX11_hand_22 : decode cX11_hand 22 = .ok (.iload_n 3, 1) := by decide +kernel
theorem dX11_hand_23 : decode cX11_hand 23 = .ok (.invokevirtual 107, 3) := by decide +kernel
theorem dX11_hand_26 : decode cX11_hand 26 = .ok (.ifCond .ne 6, 3) := by decide +kernel
theorem dX11_hand_29 : decode cX11_hand 29 = .ok (.bipush (-2), 2) := by decide +kernel
theorem dX11_hand_31 : decode cX11_hand 31 = .ok (.ireturn, 1) := by decide +kernel
theorem dX11_hand_32 : decode cX11_hand 32 = .ok (.aload_n 0, 1) := by decide +kernel
theorem dX11_hand_33 : decode cX11_hand 33 = .ok (.getfield 40, 3) := by decide +kernel
theorem dX11_hand_36 : decode cX11_hand 36 = .ok (.iload_n 1, 1) := by decide +kernel
theorem dX11_hand_37 : decode cX11_hand 37 = .ok (.iload_n 2, 1) := by decide +kernel
theorem dX11_hand_38 : decode cX11_hand 38 = .ok (.iload_n 3, 1) := by decide +kernel
theorem dX11_hand_39 : decode cX11_hand 39 = .ok (.invokevirtual 231, 3) := by decide +kernel
theorem dX11_hand_42 : decode cX11_hand 42 = .ok (.ireturn, 1) := by decide +kernel
theorem dX11_feed_0 : decode cX11_feed 0 = .ok (.iload_n 1, 1) := by decide +kernel
theorem dX11_feed_1 : decode cX11_feed 1 = .ok (.iconst 1, 1) := by decide +kernel
theorem dX11_feed_2 : decode cX11_feed 2 = .ok (.if_icmp .lt 9, 3) := by decide +kernel
theorem dX11_feed_5 : decode cX11_feed 5 = .ok (.iload_n 1, 1) := by decide +kernel
theorem dX11_feed_6 : decode cX11_feed 6 = .ok (.bipush 8, 2) := by decide +kernel
theorem dX11_feed_8 : decode cX11_feed 8 = .ok (.if_icmp .le 6, 3) := by decide +kernel
theorem dX11_feed_11 : decode cX11_feed 11 = .ok (.bipush (-2), 2) := by decide +kernel
theorem dX11_feed_13 : decode cX11_feed 13 = .ok (.ireturn, 1) := by decide +kernel
theorem dX11_feed_14 : decode cX11_feed 14 = .ok (.iload_n 1, 1) := by decide +kernel
theorem dX11_feed_15 : decode cX11_feed 15 = .ok (.sipush 160, 3) := by decide +kernel
theorem dX11_feed_18 : decode cX11_feed 18 = .ok (.aload_n 0, 1) := by decide +kernel
theorem dX11_feed_19 : decode cX11_feed 19 = .ok (.getfield 47, 3) := by decide +kernel
theorem dX11_feed_22 : decode cX11_feed 22 = .ok (.getfield 234, 3) := by decide +kernel
theorem dX11_feed_25 : decode cX11_feed 25 = .ok (.isub, 1) := by decide +kernel
theorem dX11_feed_26 : decode cX11_feed 26 = .ok (.if_icmp .le 6, 3) := by decide +kernel
theorem dX11_feed_29 : decode cX11_feed 29 = .ok (.bipush (-4), 2) := by decide +kernel
theorem dX11_feed_31 : decode cX11_feed 31 = .ok (.ireturn, 1) := by decide +kernel
theorem dX11_feed_32 : decode cX11_feed 32 = .ok (.iconst 0, 1) := by decide +kernel
theorem dX11_feed_33 : decode cX11_feed 33 = .ok (.istore 4, 2) := by decide +kernel
theorem dX11_feed_35 : decode cX11_feed 35 = .ok (.iload 4, 2) := by decide +kernel
theorem dX11_feed_37 : decode cX11_feed 37 = .ok (.iload_n 1, 1) := by decide +kernel
theorem dX11_feed_38 : decode cX11_feed 38 = .ok (.if_icmp .ge 25, 3) := by decide +kernel
theorem dX11_feed_41 : decode cX11_feed 41 = .ok (.aload_n 0, 1) := by decide +kernel
theorem dX11_feed_42 : decode cX11_feed 42 = .ok (.getfield 47, 3) := by decide +kernel
theorem dX11_feed_45 : decode cX11_feed 45 = .ok (.lload_n 2, 1) := by decide +kernel
theorem dX11_feed_46 : decode cX11_feed 46 = .ok (.bipush 8, 2) := by decide +kernel
theorem dX11_feed_48 : decode cX11_feed 48 = .ok (.iload 4, 2) := by decide +kernel
theorem dX11_feed_50 : decode cX11_feed 50 = .ok (.imul, 1) := by decide +kernel
theorem dX11_feed_51 : decode cX11_feed 51 = .ok (.lushr, 1) := by decide +kernel
theorem dX11_feed_52 : decode cX11_feed 52 = .ok (.l2i, 1) := by decide +kernel
theorem dX11_feed_53 : decode cX11_feed 53 = .ok (.i2b, 1) := by decide +kernel
theorem dX11_feed_54 : decode cX11_feed 54 = .ok (.invokevirtual 235, 3) := by decide +kernel
theorem dX11_feed_57 : decode cX11_feed 57 = .ok (.iinc 4 1, 3) := by decide +kernel
theorem dX11_feed_60 : decode cX11_feed 60 = .ok (.goto (-25), 3) := by decide +kernel
theorem dX11_feed_63 : decode cX11_feed 63 = .ok (.aload_n 0, 1) := by decide +kernel
theorem dX11_feed_64 : decode cX11_feed 64 = .ok (.getfield 47, 3) := by decide +kernel
theorem dX11_feed_67 : decode cX11_feed 67 = .ok (.getfield 234, 3) := by decide +kernel
theorem dX11_feed_70 : decode cX11_feed 70 = .ok (.ireturn, 1) := by decide +kernel
theorem dX11_text_0 : decode cX11_text 0 = .ok (.aload_n 0, 1) := by decide +kernel
theorem dX11_text_1 : decode cX11_text 1 = .ok (.getfield 19, 3) := by decide +kernel
theorem dX11_text_4 : decode cX11_text 4 = .ok (.iload_n 1, 1) := by decide +kernel
theorem dX11_text_5 : decode cX11_text 5 = .ok (.invokevirtual 130, 3) := by decide +kernel
theorem dX11_text_8 : decode cX11_text 8 = .ok (.ifCond .ne 6, 3) := by decide +kernel
theorem dX11_text_11 : decode cX11_text 11 = .ok (.bipush (-2), 2) := by decide +kernel
theorem dX11_text_13 : decode cX11_text 13 = .ok (.ireturn, 1) := by decide +kernel
theorem dX11_text_14 : decode cX11_text 14 = .ok (.aload_n 0, 1) := by decide +kernel
theorem dX11_text_15 : decode cX11_text 15 = .ok (.getfield 47, 3) := by decide +kernel
theorem dX11_text_18 : decode cX11_text 18 = .ok (.getfield 234, 3) := by decide +kernel
theorem dX11_text_21 : decode cX11_text 21 = .ok (.istore_n 2, 1) := by decide +kernel
theorem dX11_text_22 : decode cX11_text 22 = .ok (.aload_n 0, 1) := by decide +kernel
theorem dX11_text_23 : decode cX11_text 23 = .ok (.invokevirtual 238, 3) := by decide +kernel
theorem dX11_text_26 : decode cX11_text 26 = .ok (.aload_n 0, 1) := by decide +kernel
theorem dX11_text_27 : decode cX11_text 27 = .ok (.getfield 89, 3) := by decide +kernel
theorem dX11_text_30 : decode cX11_text 30 = .ok (.ifCond .ne 19, 3) := by decide +kernel
theorem dX11_text_33 : decode cX11_text 33 = .ok (.aload_n 0, 1) := by decide +kernel
theorem dX11_text_34 : decode cX11_text 34 = .ok (.getfield 19, 3) := by decide +kernel
theorem dX11_text_37 : decode cX11_text 37 = .ok (.iload_n 1, 1) := by decide +kernel
theorem dX11_text_38 : decode cX11_text 38 = .ok (.aload_n 0, 1) := by decide +kernel
theorem dX11_text_39 : decode cX11_text 39 = .ok (.getfield 47, 3) := by decide +kernel
theorem dX11_text_42 : decode cX11_text 42 = .ok (.getfield 241, 3) := by decide +kernel
theorem dX11_text_45 : decode cX11_text 45 = .ok (.iload_n 2, 1) := by decide +kernel
theorem dX11_text_46 : decode cX11_text 46 = .ok (.invokevirtual 245, 3) := by decide +kernel
theorem dX11_text_49 : decode cX11_text 49 = .ok (.aload_n 0, 1) := by decide +kernel
theorem dX11_text_50 : decode cX11_text 50 = .ok (.getfield 47, 3) := by decide +kernel
theorem dX11_text_53 : decode cX11_text 53 = .ok (.iconst 0, 1) := by decide +kernel
theorem dX11_text_54 : decode cX11_text 54 = .ok (.putfield 234, 3) := by decide +kernel
theorem dX11_text_57 : decode cX11_text 57 = .ok (.aload_n 0, 1) := by decide +kernel
theorem dX11_text_58 : decode cX11_text 58 = .ok (.getfield 89, 3) := by decide +kernel
theorem dX11_text_61 : decode cX11_text 61 = .ok (.ifCond .ne 7, 3) := by decide +kernel
theorem dX11_text_64 : decode cX11_text 64 = .ok (.iload_n 2, 1) := by decide +kernel
theorem dX11_text_65 : decode cX11_text 65 = .ok (.goto 10, 3) := by decide +kernel
theorem dX11_text_68 : decode cX11_text 68 = .ok (.bipush (-20), 2) := by decide +kernel
theorem dX11_text_70 : decode cX11_text 70 = .ok (.aload_n 0, 1) := by decide +kernel
theorem dX11_text_71 : decode cX11_text 71 = .ok (.getfield 89, 3) := by decide +kernel
theorem dX11_text_74 : decode cX11_text 74 = .ok (.isub, 1) := by decide +kernel
theorem dX11_text_75 : decode cX11_text 75 = .ok (.ireturn, 1) := by decide +kernel
theorem dX11_fault_0 : decode cX11_fault 0 = .ok (.iload_n 1, 1) := by decide +kernel
theorem dX11_fault_1 : decode cX11_fault 1 = .ok (.ifCond .ne 8, 3) := by decide +kernel
theorem dX11_fault_4 : decode cX11_fault 4 = .ok (.aload_n 0, 1) := by decide +kernel
theorem dX11_fault_5 : decode cX11_fault 5 = .ok (.getfield 89, 3) := by decide +kernel
theorem dX11_fault_8 : decode cX11_fault 8 = .ok (.ireturn, 1) := by decide +kernel
theorem dX11_fault_9 : decode cX11_fault 9 = .ok (.iload_n 1, 1) := by decide +kernel
theorem dX11_fault_10 : decode cX11_fault 10 = .ok (.iconst 1, 1) := by decide +kernel
theorem dX11_fault_11 : decode cX11_fault 11 = .ok (.if_icmp .ne 10, 3) := by decide +kernel
theorem dX11_fault_14 : decode cX11_fault 14 = .ok (.aload_n 0, 1) := by decide +kernel
theorem dX11_fault_15 : decode cX11_fault 15 = .ok (.getfield 93, 3) := by decide +kernel
theorem dX11_fault_18 : decode cX11_fault 18 = .ok (.goto 5, 3) := by decide +kernel
theorem dX11_fault_21 : decode cX11_fault 21 = .ok (.bipush (-2), 2) := by decide +kernel
theorem dX11_fault_23 : decode cX11_fault 23 = .ok (.ireturn, 1) := by decide +kernel
theorem dX11_print_0 : decode cX11_print 0 = .ok (.aload_n 0, 1) := by decide +kernel
theorem dX11_print_1 : decode cX11_print 1 = .ok (.iload_n 1, 1) := by decide +kernel
theorem dX11_print_2 : decode cX11_print 2 = .ok (.iload_n 2, 1) := by decide +kernel
theorem dX11_print_3 : decode cX11_print 3 = .ok (.iload_n 3, 1) := by decide +kernel
theorem dX11_print_4 : decode cX11_print 4 = .ok (.invokevirtual 249, 3) := by decide +kernel
theorem dX11_print_7 : decode cX11_print 7 = .ok (.ifCond .ne 6, 3) := by decide +kernel
theorem dX11_print_10 : decode cX11_print 10 = .ok (.bipush (-2), 2) := by decide +kernel
theorem dX11_print_12 : decode cX11_print 12 = .ok (.ireturn, 1) := by decide +kernel
theorem dX11_print_13 : decode cX11_print 13 = .ok (.aload_n 0, 1) := by decide +kernel
theorem dX11_print_14 : decode cX11_print 14 = .ok (.iload_n 1, 1) := by decide +kernel
theorem dX11_print_15 : decode cX11_print 15 = .ok (.iload_n 2, 1) := by decide +kernel
theorem dX11_print_16 : decode cX11_print 16 = .ok (.iload_n 3, 1) := by decide +kernel
theorem dX11_print_17 : decode cX11_print 17 = .ok (.invokevirtual 252, 3) := by decide +kernel
theorem dX11_print_20 : decode cX11_print 20 = .ok (.aload_n 0, 1) := by decide +kernel
theorem dX11_print_21 : decode cX11_print 21 = .ok (.getfield 61, 3) := by decide +kernel
theorem dX11_print_24 : decode cX11_print 24 = .ok (.getfield 256, 3) := by decide +kernel
theorem dX11_print_27 : decode cX11_print 27 = .ok (.ireturn, 1) := by decide +kernel
theorem dX11_printed_0 : decode cX11_printed 0 = .ok (.aload_n 0, 1) := by decide +kernel
theorem dX11_printed_1 : decode cX11_printed 1 = .ok (.iload_n 1, 1) := by decide +kernel
theorem dX11_printed_2 : decode cX11_printed 2 = .ok (.iload_n 2, 1) := by decide +kernel
theorem dX11_printed_3 : decode cX11_printed 3 = .ok (.iload_n 3, 1) := by decide +kernel
theorem dX11_printed_4 : decode cX11_printed 4 = .ok (.invokevirtual 249, 3) := by decide +kernel
theorem dX11_printed_7 : decode cX11_printed 7 = .ok (.ifCond .ne 6, 3) := by decide +kernel
theorem dX11_printed_10 : decode cX11_printed 10 = .ok (.bipush (-2), 2) := by decide +kernel
theorem dX11_printed_12 : decode cX11_printed 12 = .ok (.ireturn, 1) := by decide +kernel
theorem dX11_printed_13 : decode cX11_printed 13 = .ok (.aload_n 0, 1) := by decide +kernel
theorem dX11_printed_14 : decode cX11_printed 14 = .ok (.iload_n 1, 1) := by decide +kernel
theorem dX11_printed_15 : decode cX11_printed 15 = .ok (.iload_n 2, 1) := by decide +kernel
theorem dX11_printed_16 : decode cX11_printed 16 = .ok (.iload_n 3, 1) := by decide +kernel
theorem dX11_printed_17 : decode cX11_printed 17 = .ok (.invokevirtual 252, 3) := by decide +kernel
theorem dX11_printed_20 : decode cX11_printed 20 = .ok (.iload 4, 2) := by decide +kernel
theorem dX11_printed_22 : decode cX11_printed 22 = .ok (.ifCond .lt 32, 3) := by decide +kernel
theorem dX11_printed_25 : decode cX11_printed 25 = .ok (.iload 4, 2) := by decide +kernel
theorem dX11_printed_27 : decode cX11_printed 27 = .ok (.aload_n 0, 1) := by decide +kernel
theorem dX11_printed_28 : decode cX11_printed 28 = .ok (.getfield 61, 3) := by decide +kernel
theorem dX11_printed_31 : decode cX11_printed 31 = .ok (.getfield 256, 3) := by decide +kernel
theorem dX11_printed_34 : decode cX11_printed 34 = .ok (.if_icmp .ge 20, 3) := by decide +kernel
theorem dX11_printed_37 : decode cX11_printed 37 = .ok (.aload_n 0, 1) := by decide +kernel
theorem dX11_printed_38 : decode cX11_printed 38 = .ok (.getfield 61, 3) := by decide +kernel
theorem dX11_printed_41 : decode cX11_printed 41 = .ok (.getfield 257, 3) := by decide +kernel
theorem dX11_printed_44 : decode cX11_printed 44 = .ok (.iload 4, 2) := by decide +kernel
theorem dX11_printed_46 : decode cX11_printed 46 = .ok (.baload, 1) := by decide +kernel
theorem dX11_printed_47 : decode cX11_printed 47 = .ok (.sipush 255, 3) := by decide +kernel
theorem dX11_printed_50 : decode cX11_printed 50 = .ok (.iand, 1) := by decide +kernel
theorem dX11_printed_51 : decode cX11_printed 51 = .ok (.goto 4, 3) := by decide +kernel
theorem dX11_printed_54 : decode cX11_printed 54 = .ok (.iconst (-1), 1) := by decide +kernel
theorem dX11_printed_55 : decode cX11_printed 55 = .ok (.ireturn, 1) := by decide +kernel
theorem dX11_words_0 : decode cX11_words 0 = .ok (.aload_n 0, 1) := by decide +kernel
theorem dX11_words_1 : decode cX11_words 1 = .ok (.getfield 19, 3) := by decide +kernel
theorem dX11_words_4 : decode cX11_words 4 = .ok (.iload_n 1, 1) := by decide +kernel
theorem dX11_words_5 : decode cX11_words 5 = .ok (.invokevirtual 130, 3) := by decide +kernel
theorem dX11_words_8 : decode cX11_words 8 = .ok (.ifCond .ne 6, 3) := by decide +kernel
theorem dX11_words_11 : decode cX11_words 11 = .ok (.bipush (-2), 2) := by decide +kernel
theorem dX11_words_13 : decode cX11_words 13 = .ok (.ireturn, 1) := by decide +kernel
theorem dX11_words_14 : decode cX11_words 14 = .ok (.aload_n 0, 1) := by decide +kernel
theorem dX11_words_15 : decode cX11_words 15 = .ok (.iload_n 1, 1) := by decide +kernel
theorem dX11_words_16 : decode cX11_words 16 = .ok (.aload_n 0, 1) := by decide +kernel
theorem dX11_words_17 : decode cX11_words 17 = .ok (.getfield 68, 3) := by decide +kernel
theorem dX11_words_20 : decode cX11_words 20 = .ok (.invokevirtual 258, 3) := by decide +kernel
theorem dX11_words_23 : decode cX11_words 23 = .ok (.aload_n 0, 1) := by decide +kernel
theorem dX11_words_24 : decode cX11_words 24 = .ok (.getfield 68, 3) := by decide +kernel
theorem dX11_words_27 : decode cX11_words 27 = .ok (.getfield 262, 3) := by decide +kernel
theorem dX11_words_30 : decode cX11_words 30 = .ok (.ireturn, 1) := by decide +kernel
theorem dX11_differ_0 : decode cX11_differ 0 = .ok (.aload_n 0, 1) := by decide +kernel
theorem dX11_differ_1 : decode cX11_differ 1 = .ok (.getfield 19, 3) := by decide +kernel
theorem dX11_differ_4 : decode cX11_differ 4 = .ok (.iload_n 1, 1) := by decide +kernel
theorem dX11_differ_5 : decode cX11_differ 5 = .ok (.invokevirtual 130, 3) := by decide +kernel
theorem dX11_differ_8 : decode cX11_differ 8 = .ok (.ifCond .eq 14, 3) := by decide +kernel
theorem dX11_differ_11 : decode cX11_differ 11 = .ok (.aload_n 0, 1) := by decide +kernel
theorem dX11_differ_12 : decode cX11_differ 12 = .ok (.getfield 19, 3) := by decide +kernel
theorem dX11_differ_15 : decode cX11_differ 15 = .ok (.iload_n 2, 1) := by decide +kernel
theorem dX11_differ_16 : decode cX11_differ 16 = .ok (.invokevirtual 130, 3) := by decide +kernel
theorem dX11_differ_19 : decode cX11_differ 19 = .ok (.ifCond .ne 6, 3) := by decide +kernel
theorem dX11_differ_22 : decode cX11_differ 22 = .ok (.bipush (-2), 2) := by decide +kernel
theorem dX11_differ_24 : decode cX11_differ 24 = .ok (.ireturn, 1) := by decide +kernel
theorem dX11_differ_25 : decode cX11_differ 25 = .ok (.aload_n 0, 1) := by decide +kernel
theorem dX11_differ_26 : decode cX11_differ 26 = .ok (.iload_n 1, 1) := by decide +kernel
theorem dX11_differ_27 : decode cX11_differ 27 = .ok (.aload_n 0, 1) := by decide +kernel
theorem dX11_differ_28 : decode cX11_differ 28 = .ok (.getfield 68, 3) := by decide +kernel
theorem dX11_differ_31 : decode cX11_differ 31 = .ok (.invokevirtual 258, 3) := by decide +kernel
theorem dX11_differ_34 : decode cX11_differ 34 = .ok (.aload_n 0, 1) := by decide +kernel
theorem dX11_differ_35 : decode cX11_differ 35 = .ok (.iload_n 2, 1) := by decide +kernel
theorem dX11_differ_36 : decode cX11_differ 36 = .ok (.aload_n 0, 1) := by decide +kernel
theorem dX11_differ_37 : decode cX11_differ 37 = .ok (.getfield 72, 3) := by decide +kernel
theorem dX11_differ_40 : decode cX11_differ 40 = .ok (.invokevirtual 258, 3) := by decide +kernel
theorem dX11_differ_43 : decode cX11_differ 43 = .ok (.aload_n 0, 1) := by decide +kernel
theorem dX11_differ_44 : decode cX11_differ 44 = .ok (.getfield 68, 3) := by decide +kernel
theorem dX11_differ_47 : decode cX11_differ 47 = .ok (.aload_n 0, 1) := by decide +kernel
theorem dX11_differ_48 : decode cX11_differ 48 = .ok (.getfield 72, 3) := by decide +kernel
theorem dX11_differ_51 : decode cX11_differ 51 = .ok (.invokevirtual 263, 3) := by decide +kernel
theorem dX11_differ_54 : decode cX11_differ 54 = .ok (.ireturn, 1) := by decide +kernel
theorem dX11_note_0 : decode cX11_note 0 = .ok (.aload_n 0, 1) := by decide +kernel
theorem dX11_note_1 : decode cX11_note 1 = .ok (.getfield 19, 3) := by decide +kernel
theorem dX11_note_4 : decode cX11_note 4 = .ok (.iload_n 1, 1) := by decide +kernel
theorem dX11_note_5 : decode cX11_note 5 = .ok (.invokevirtual 130, 3) := by decide +kernel
theorem dX11_note_8 : decode cX11_note 8 = .ok (.ifCond .ne 6, 3) := by decide +kernel
theorem dX11_note_11 : decode cX11_note 11 = .ok (.bipush (-2), 2) := by decide +kernel
theorem dX11_note_13 : decode cX11_note 13 = .ok (.ireturn, 1) := by decide +kernel
theorem dX11_note_14 : decode cX11_note 14 = .ok (.aload_n 0, 1) := by decide +kernel
theorem dX11_note_15 : decode cX11_note 15 = .ok (.getfield 19, 3) := by decide +kernel
theorem dX11_note_18 : decode cX11_note 18 = .ok (.getfield 267, 3) := by decide +kernel
theorem dX11_note_21 : decode cX11_note 21 = .ok (.iload_n 1, 1) := by decide +kernel
theorem dX11_note_22 : decode cX11_note 22 = .ok (.aaload, 1) := by decide +kernel
theorem dX11_note_23 : decode cX11_note 23 = .ok (.astore_n 3, 1) := by decide +kernel
theorem dX11_note_24 : decode cX11_note 24 = .ok (.iconst 0, 1) := by decide +kernel
theorem dX11_note_25 : decode cX11_note 25 = .ok (.istore 4, 2) := by decide +kernel
theorem dX11_note_27 : decode cX11_note 27 = .ok (.aload_n 0, 1) := by decide +kernel
theorem dX11_note_28 : decode cX11_note 28 = .ok (.getfield 54, 3) := by decide +kernel
theorem dX11_note_31 : decode cX11_note 31 = .ok (.invokevirtual 271, 3) := by decide +kernel
theorem dX11_note_34 : decode cX11_note 34 = .ok (.iconst 0, 1) := by decide +kernel
theorem dX11_note_35 : decode cX11_note 35 = .ok (.istore 5, 2) := by decide +kernel
theorem dX11_note_37 : decode cX11_note 37 = .ok (.iload 5, 2) := by decide +kernel
theorem dX11_note_39 : decode cX11_note 39 = .ok (.aload_n 0, 1) := by decide +kernel
theorem dX11_note_40 : decode cX11_note 40 = .ok (.getfield 19, 3) := by decide +kernel
theorem dX11_note_43 : decode cX11_note 43 = .ok (.getfield 155, 3) := by decide +kernel
theorem dX11_note_46 : decode cX11_note 46 = .ok (.iload_n 1, 1) := by decide +kernel
theorem dX11_note_47 : decode cX11_note 47 = .ok (.iaload, 1) := by decide +kernel
theorem dX11_note_48 : decode cX11_note 48 = .ok (.if_icmp .ge 47, 3) := by decide +kernel
theorem dX11_note_51 : decode cX11_note 51 = .ok (.aload_n 0, 1) := by decide +kernel
theorem dX11_note_52 : decode cX11_note 52 = .ok (.getfield 54, 3) := by decide +kernel
theorem dX11_note_55 : decode cX11_note 55 = .ok (.aload_n 3, 1) := by decide +kernel
theorem dX11_note_56 : decode cX11_note 56 = .ok (.iload 5, 2) := by decide +kernel
theorem dX11_note_58 : decode cX11_note 58 = .ok (.baload, 1) := by decide +kernel
theorem dX11_note_59 : decode cX11_note 59 = .ok (.sipush 255, 3) := by decide +kernel
theorem dX11_note_62 : decode cX11_note 62 = .ok (.iand, 1) := by decide +kernel
theorem dX11_note_63 : decode cX11_note 63 = .ok (.iload 5, 2) := by decide +kernel
theorem dX11_note_65 : decode cX11_note 65 = .ok (.invokevirtual 274, 3) := by decide +kernel
theorem dX11_note_68 : decode cX11_note 68 = .ok (.iconst 4, 1) := by decide +kernel
theorem dX11_note_69 : decode cX11_note 69 = .ok (.if_icmp .ne 20, 3) := by decide +kernel
theorem dX11_note_72 : decode cX11_note 72 = .ok (.iload 4, 2) := by decide +kernel
theorem dX11_note_74 : decode cX11_note 74 = .ok (.iload_n 2, 1) := by decide +kernel
theorem dX11_note_75 : decode cX11_note 75 = .ok (.if_icmp .ne 11, 3) := by decide +kernel
theorem dX11_note_78 : decode cX11_note 78 = .ok (.aload_n 0, 1) := by decide +kernel
theorem dX11_note_79 : decode cX11_note 79 = .ok (.getfield 54, 3) := by decide +kernel
theorem dX11_note_82 : decode cX11_note 82 = .ok (.getfield 277, 3) := by decide +kernel
theorem dX11_note_85 : decode cX11_note 85 = .ok (.ireturn, 1) := by decide +kernel
theorem dX11_note_86 : decode cX11_note 86 = .ok (.iinc 4 1, 3) := by decide +kernel
theorem dX11_note_89 : decode cX11_note 89 = .ok (.iinc 5 1, 3) := by decide +kernel
theorem dX11_note_92 : decode cX11_note 92 = .ok (.goto (-55), 3) := by decide +kernel
theorem dX11_note_95 : decode cX11_note 95 = .ok (.iconst (-1), 1) := by decide +kernel
theorem dX11_note_96 : decode cX11_note 96 = .ok (.ireturn, 1) := by decide +kernel
theorem dX11_jumps_0 : decode cX11_jumps 0 = .ok (.aload_n 0, 1) := by decide +kernel
theorem dX11_jumps_1 : decode cX11_jumps 1 = .ok (.iload_n 1, 1) := by decide +kernel
theorem dX11_jumps_2 : decode cX11_jumps 2 = .ok (.invokevirtual 280, 3) := by decide +kernel
theorem dX11_jumps_5 : decode cX11_jumps 5 = .ok (.ifCond .ne 6, 3) := by decide +kernel
theorem dX11_jumps_8 : decode cX11_jumps 8 = .ok (.bipush (-2), 2) := by decide +kernel
theorem dX11_jumps_10 : decode cX11_jumps 10 = .ok (.ireturn, 1) := by decide +kernel
theorem dX11_jumps_11 : decode cX11_jumps 11 = .ok (.aload_n 0, 1) := by decide +kernel
theorem dX11_jumps_12 : decode cX11_jumps 12 = .ok (.iload_n 1, 1) := by decide +kernel
theorem dX11_jumps_13 : decode cX11_jumps 13 = .ok (.invokevirtual 283, 3) := by decide +kernel
theorem dX11_jumps_16 : decode cX11_jumps 16 = .ok (.ifCond .eq 13, 3) := by decide +kernel
theorem dX11_jumps_19 : decode cX11_jumps 19 = .ok (.aload_n 0, 1) := by decide +kernel
theorem dX11_jumps_20 : decode cX11_jumps 20 = .ok (.getfield 78, 3) := by decide +kernel
theorem dX11_jumps_23 : decode cX11_jumps 23 = .ok (.getfield 286, 3) := by decide +kernel
theorem dX11_jumps_26 : decode cX11_jumps 26 = .ok (.goto 4, 3) := by decide +kernel
theorem dX11_jumps_29 : decode cX11_jumps 29 = .ok (.iconst (-1), 1) := by decide +kernel
theorem dX11_jumps_30 : decode cX11_jumps 30 = .ok (.ireturn, 1) := by decide +kernel
theorem dX11_order_0 : decode cX11_order 0 = .ok (.aload_n 0, 1) := by decide +kernel
theorem dX11_order_1 : decode cX11_order 1 = .ok (.iload_n 1, 1) := by decide +kernel
theorem dX11_order_2 : decode cX11_order 2 = .ok (.invokevirtual 280, 3) := by decide +kernel
theorem dX11_order_5 : decode cX11_order 5 = .ok (.ifCond .ne 6, 3) := by decide +kernel
theorem dX11_order_8 : decode cX11_order 8 = .ok (.bipush (-2), 2) := by decide +kernel
theorem dX11_order_10 : decode cX11_order 10 = .ok (.ireturn, 1) := by decide +kernel
theorem dX11_order_11 : decode cX11_order 11 = .ok (.iload_n 2, 1) := by decide +kernel
theorem dX11_order_12 : decode cX11_order 12 = .ok (.ifCond .lt 31, 3) := by decide +kernel
theorem dX11_order_15 : decode cX11_order 15 = .ok (.iload_n 2, 1) := by decide +kernel
theorem dX11_order_16 : decode cX11_order 16 = .ok (.iload_n 1, 1) := by decide +kernel
theorem dX11_order_17 : decode cX11_order 17 = .ok (.invokestatic 219, 3) := by decide +kernel
theorem dX11_order_20 : decode cX11_order 20 = .ok (.if_icmp .ge 23, 3) := by decide +kernel
theorem dX11_order_23 : decode cX11_order 23 = .ok (.aload_n 0, 1) := by decide +kernel
theorem dX11_order_24 : decode cX11_order 24 = .ok (.iload_n 1, 1) := by decide +kernel
theorem dX11_order_25 : decode cX11_order 25 = .ok (.invokevirtual 283, 3) := by decide +kernel
theorem dX11_order_28 : decode cX11_order 28 = .ok (.ifCond .eq 15, 3) := by decide +kernel
theorem dX11_order_31 : decode cX11_order 31 = .ok (.aload_n 0, 1) := by decide +kernel
theorem dX11_order_32 : decode cX11_order 32 = .ok (.getfield 78, 3) := by decide +kernel
theorem dX11_order_35 : decode cX11_order 35 = .ok (.getfield 289, 3) := by decide +kernel
theorem dX11_order_38 : decode cX11_order 38 = .ok (.iload_n 2, 1) := by decide +kernel
theorem dX11_order_39 : decode cX11_order 39 = .ok (.iaload, 1) := by decide +kernel
theorem dX11_order_40 : decode cX11_order 40 = .ok (.goto 4, 3) := by decide +kernel
theorem dX11_order_43 : decode cX11_order 43 = .ok (.iconst (-1), 1) := by decide +kernel
theorem dX11_order_44 : decode cX11_order 44 = .ok (.ireturn, 1) := by decide +kernel
theorem dX11_count_0 : decode cX11_count 0 = .ok (.iload_n 1, 1) := by decide +kernel
theorem dX11_count_1 : decode cX11_count 1 = .ok (.tableswitch 87 0 5 #[39, 47, 55, 63, 71, 79], 39) := by decide +kernel
theorem dX11_count_40 : decode cX11_count 40 = .ok (.aload_n 0, 1) := by decide +kernel
theorem dX11_count_41 : decode cX11_count 41 = .ok (.getfield 10, 3) := by decide +kernel
theorem dX11_count_44 : decode cX11_count 44 = .ok (.getfield 292, 3) := by decide +kernel
theorem dX11_count_47 : decode cX11_count 47 = .ok (.ireturn, 1) := by decide +kernel
theorem dX11_count_48 : decode cX11_count 48 = .ok (.aload_n 0, 1) := by decide +kernel
theorem dX11_count_49 : decode cX11_count 49 = .ok (.getfield 19, 3) := by decide +kernel
theorem dX11_count_52 : decode cX11_count 52 = .ok (.getfield 185, 3) := by decide +kernel
theorem dX11_count_55 : decode cX11_count 55 = .ok (.ireturn, 1) := by decide +kernel
theorem dX11_count_56 : decode cX11_count 56 = .ok (.aload_n 0, 1) := by decide +kernel
theorem dX11_count_57 : decode cX11_count 57 = .ok (.getfield 26, 3) := by decide +kernel
theorem dX11_count_60 : decode cX11_count 60 = .ok (.getfield 293, 3) := by decide +kernel
theorem dX11_count_63 : decode cX11_count 63 = .ok (.ireturn, 1) := by decide +kernel
theorem dX11_count_64 : decode cX11_count 64 = .ok (.aload_n 0, 1) := by decide +kernel
theorem dX11_count_65 : decode cX11_count 65 = .ok (.getfield 19, 3) := by decide +kernel
theorem dX11_count_68 : decode cX11_count 68 = .ok (.invokevirtual 294, 3) := by decide +kernel
theorem dX11_count_71 : decode cX11_count 71 = .ok (.ireturn, 1) := by decide +kernel
theorem dX11_count_72 : decode cX11_count 72 = .ok (.aload_n 0, 1) := by decide +kernel
theorem dX11_count_73 : decode cX11_count 73 = .ok (.getfield 47, 3) := by decide +kernel
theorem dX11_count_76 : decode cX11_count 76 = .ok (.getfield 234, 3) := by decide +kernel
theorem dX11_count_79 : decode cX11_count 79 = .ok (.ireturn, 1) := by decide +kernel
theorem dX11_count_80 : decode cX11_count 80 = .ok (.aload_n 0, 1) := by decide +kernel
theorem dX11_count_81 : decode cX11_count 81 = .ok (.getfield 40, 3) := by decide +kernel
theorem dX11_count_84 : decode cX11_count 84 = .ok (.getfield 297, 3) := by decide +kernel
theorem dX11_count_87 : decode cX11_count 87 = .ok (.ireturn, 1) := by decide +kernel
theorem dX11_count_88 : decode cX11_count 88 = .ok (.bipush (-2), 2) := by decide +kernel
theorem dX11_count_90 : decode cX11_count 90 = .ok (.ireturn, 1) := by decide +kernel
theorem dX11_tray_0 : decode cX11_tray 0 = .ok (.iload_n 1, 1) := by decide +kernel
theorem dX11_tray_1 : decode cX11_tray 1 = .ok (.invokestatic 298, 3) := by decide +kernel
theorem dX11_tray_4 : decode cX11_tray 4 = .ok (.ifCond .eq 9, 3) := by decide +kernel
theorem dX11_tray_7 : decode cX11_tray 7 = .ok (.iload_n 2, 1) := by decide +kernel
theorem dX11_tray_8 : decode cX11_tray 8 = .ok (.bipush 60, 2) := by decide +kernel
theorem dX11_tray_10 : decode cX11_tray 10 = .ok (.if_icmp .le 6, 3) := by decide +kernel
theorem dX11_tray_13 : decode cX11_tray 13 = .ok (.bipush (-2), 2) := by decide +kernel
theorem dX11_tray_15 : decode cX11_tray 15 = .ok (.ireturn, 1) := by decide +kernel
theorem dX11_tray_16 : decode cX11_tray 16 = .ok (.iload_n 2, 1) := by decide +kernel
theorem dX11_tray_17 : decode cX11_tray 17 = .ok (.iconst (-1), 1) := by decide +kernel
theorem dX11_tray_18 : decode cX11_tray 18 = .ok (.if_icmp .ge 6, 3) := by decide +kernel
theorem dX11_tray_21 : decode cX11_tray 21 = .ok (.bipush (-14), 2) := by decide +kernel
theorem dX11_tray_23 : decode cX11_tray 23 = .ok (.ireturn, 1) := by decide +kernel
theorem dX11_tray_24 : decode cX11_tray 24 = .ok (.aload_n 0, 1) := by decide +kernel
theorem dX11_tray_25 : decode cX11_tray 25 = .ok (.getfield 85, 3) := by decide +kernel
theorem dX11_tray_28 : decode cX11_tray 28 = .ok (.iload_n 1, 1) := by decide +kernel
theorem dX11_tray_29 : decode cX11_tray 29 = .ok (.iload_n 2, 1) := by decide +kernel
theorem dX11_tray_30 : decode cX11_tray 30 = .ok (.invokevirtual 299, 3) := by decide +kernel
theorem dX11_tray_33 : decode cX11_tray 33 = .ok (.iconst 1, 1) := by decide +kernel
theorem dX11_tray_34 : decode cX11_tray 34 = .ok (.ireturn, 1) := by decide +kernel
theorem dX11_cell_0 : decode cX11_cell 0 = .ok (.iload_n 1, 1) := by decide +kernel
theorem dX11_cell_1 : decode cX11_cell 1 = .ok (.invokestatic 298, 3) := by decide +kernel
theorem dX11_cell_4 : decode cX11_cell 4 = .ok (.ifCond .ne 6, 3) := by decide +kernel
theorem dX11_cell_7 : decode cX11_cell 7 = .ok (.bipush (-2), 2) := by decide +kernel
theorem dX11_cell_9 : decode cX11_cell 9 = .ok (.ireturn, 1) := by decide +kernel
theorem dX11_cell_10 : decode cX11_cell 10 = .ok (.aload_n 0, 1) := by decide +kernel
theorem dX11_cell_11 : decode cX11_cell 11 = .ok (.getfield 85, 3) := by decide +kernel
theorem dX11_cell_14 : decode cX11_cell 14 = .ok (.getfield 303, 3) := by decide +kernel
theorem dX11_cell_17 : decode cX11_cell 17 = .ok (.iload_n 1, 1) := by decide +kernel
theorem dX11_cell_18 : decode cX11_cell 18 = .ok (.iaload, 1) := by decide +kernel
theorem dX11_cell_19 : decode cX11_cell 19 = .ok (.iconst (-1), 1) := by decide +kernel
theorem dX11_cell_20 : decode cX11_cell 20 = .ok (.if_icmp .ne 6, 3) := by decide +kernel
theorem dX11_cell_23 : decode cX11_cell 23 = .ok (.bipush (-11), 2) := by decide +kernel
theorem dX11_cell_25 : decode cX11_cell 25 = .ok (.ireturn, 1) := by decide +kernel
theorem dX11_cell_26 : decode cX11_cell 26 = .ok (.aload_n 0, 1) := by decide +kernel
theorem dX11_cell_27 : decode cX11_cell 27 = .ok (.getfield 85, 3) := by decide +kernel
theorem dX11_cell_30 : decode cX11_cell 30 = .ok (.iload_n 1, 1) := by decide +kernel
theorem dX11_cell_31 : decode cX11_cell 31 = .ok (.iload_n 2, 1) := by decide +kernel
theorem dX11_cell_32 : decode cX11_cell 32 = .ok (.invokevirtual 304, 3) := by decide +kernel
theorem dX11_cell_35 : decode cX11_cell 35 = .ok (.ifCond .ne 6, 3) := by decide +kernel
theorem dX11_cell_38 : decode cX11_cell 38 = .ok (.bipush (-12), 2) := by decide +kernel
theorem dX11_cell_40 : decode cX11_cell 40 = .ok (.ireturn, 1) := by decide +kernel
theorem dX11_cell_41 : decode cX11_cell 41 = .ok (.aload_n 0, 1) := by decide +kernel
theorem dX11_cell_42 : decode cX11_cell 42 = .ok (.getfield 85, 3) := by decide +kernel
theorem dX11_cell_45 : decode cX11_cell 45 = .ok (.getfield 307, 3) := by decide +kernel
theorem dX11_cell_48 : decode cX11_cell 48 = .ok (.iload_n 1, 1) := by decide +kernel
theorem dX11_cell_49 : decode cX11_cell 49 = .ok (.aaload, 1) := by decide +kernel
theorem dX11_cell_50 : decode cX11_cell 50 = .ok (.iload_n 2, 1) := by decide +kernel
theorem dX11_cell_51 : decode cX11_cell 51 = .ok (.iload_n 3, 1) := by decide +kernel
theorem dX11_cell_52 : decode cX11_cell 52 = .ok (.i2b, 1) := by decide +kernel
theorem dX11_cell_53 : decode cX11_cell 53 = .ok (.bastore, 1) := by decide +kernel
theorem dX11_cell_54 : decode cX11_cell 54 = .ok (.iconst 1, 1) := by decide +kernel
theorem dX11_cell_55 : decode cX11_cell 55 = .ok (.ireturn, 1) := by decide +kernel
theorem dX11_lay_0 : decode cX11_lay 0 = .ok (.iload_n 1, 1) := by decide +kernel
theorem dX11_lay_1 : decode cX11_lay 1 = .ok (.invokestatic 298, 3) := by decide +kernel
theorem dX11_lay_4 : decode cX11_lay 4 = .ok (.ifCond .eq 7, 3) := by decide +kernel
theorem dX11_lay_7 : decode cX11_lay 7 = .ok (.iload_n 3, 1) := by decide +kernel
theorem dX11_lay_8 : decode cX11_lay 8 = .ok (.ifCond .ge 6, 3) := by decide +kernel
theorem dX11_lay_11 : decode cX11_lay 11 = .ok (.bipush (-2), 2) := by decide +kernel
theorem dX11_lay_13 : decode cX11_lay 13 = .ok (.ireturn, 1) := by decide +kernel
theorem dX11_lay_14 : decode cX11_lay 14 = .ok (.aload_n 0, 1) := by decide +kernel
theorem dX11_lay_15 : decode cX11_lay 15 = .ok (.getfield 85, 3) := by decide +kernel
theorem dX11_lay_18 : decode cX11_lay 18 = .ok (.getfield 303, 3) := by decide +kernel
theorem dX11_lay_21 : decode cX11_lay 21 = .ok (.iload_n 1, 1) := by decide +kernel
theorem dX11_lay_22 : decode cX11_lay 22 = .ok (.iaload, 1) := by decide +kernel
theorem dX11_lay_23 : decode cX11_lay 23 = .ok (.iconst (-1), 1) := by decide +kernel
theorem dX11_lay_24 : decode cX11_lay 24 = .ok (.if_icmp .ne 6, 3) := by decide +kernel
theorem dX11_lay_27 : decode cX11_lay 27 = .ok (.bipush (-11), 2) := by decide +kernel
theorem dX11_lay_29 : decode cX11_lay 29 = .ok (.ireturn, 1) := by decide +kernel
theorem dX11_lay_30 : decode cX11_lay 30 = .ok (.iconst 0, 1) := by decide +kernel
theorem dX11_lay_31 : decode cX11_lay 31 = .ok (.istore 4, 2) := by decide +kernel
theorem dX11_lay_33 : decode cX11_lay 33 = .ok (.iload 4, 2) := by decide +kernel
theorem dX11_lay_35 : decode cX11_lay 35 = .ok (.iload_n 3, 1) := by decide +kernel
theorem dX11_lay_36 : decode cX11_lay 36 = .ok (.if_icmp .ge 64, 3) := by decide +kernel
theorem dX11_lay_39 : decode cX11_lay 39 = .ok (.aload_n 0, 1) := by decide +kernel
theorem dX11_lay_40 : decode cX11_lay 40 = .ok (.getfield 85, 3) := by decide +kernel
theorem dX11_lay_43 : decode cX11_lay 43 = .ok (.iload_n 1, 1) := by decide +kernel
theorem dX11_lay_44 : decode cX11_lay 44 = .ok (.iload_n 2, 1) := by decide +kernel
theorem dX11_lay_45 : decode cX11_lay 45 = .ok (.iload 4, 2) := by decide +kernel
theorem dX11_lay_47 : decode cX11_lay 47 = .ok (.iadd, 1) := by decide +kernel
theorem dX11_lay_48 : decode cX11_lay 48 = .ok (.invokevirtual 304, 3) := by decide +kernel
theorem dX11_lay_51 : decode cX11_lay 51 = .ok (.ifCond .ne 6, 3) := by decide +kernel
theorem dX11_lay_54 : decode cX11_lay 54 = .ok (.bipush (-12), 2) := by decide +kernel
theorem dX11_lay_56 : decode cX11_lay 56 = .ok (.ireturn, 1) := by decide +kernel
theorem dX11_lay_57 : decode cX11_lay 57 = .ok (.aload_n 0, 1) := by decide +kernel
theorem dX11_lay_58 : decode cX11_lay 58 = .ok (.getfield 47, 3) := by decide +kernel
theorem dX11_lay_61 : decode cX11_lay 61 = .ok (.getfield 234, 3) := by decide +kernel
theorem dX11_lay_64 : decode cX11_lay 64 = .ok (.sipush 160, 3) := by decide +kernel
theorem dX11_lay_67 : decode cX11_lay 67 = .ok (.if_icmp .lt 6, 3) := by decide +kernel
theorem dX11_lay_70 : decode cX11_lay 70 = .ok (.bipush (-4), 2) := by decide +kernel
theorem dX11_lay_72 : decode cX11_lay 72 = .ok (.ireturn, 1) := by decide +kernel
theorem dX11_lay_73 : decode cX11_lay 73 = .ok (.aload_n 0, 1) := by decide +kernel
theorem dX11_lay_74 : decode cX11_lay 74 = .ok (.getfield 47, 3) := by decide +kernel
theorem dX11_lay_77 : decode cX11_lay 77 = .ok (.aload_n 0, 1) := by decide +kernel
theorem dX11_lay_78 : decode cX11_lay 78 = .ok (.getfield 85, 3) := by decide +kernel
theorem dX11_lay_81 : decode cX11_lay 81 = .ok (.getfield 307, 3) := by decide +kernel
theorem dX11_lay_84 : decode cX11_lay 84 = .ok (.iload_n 1, 1) := by decide +kernel
theorem dX11_lay_85 : decode cX11_lay 85 = .ok (.aaload, 1) := by decide +kernel
theorem dX11_lay_86 : decode cX11_lay 86 = .ok (.iload_n 2, 1) := by decide +kernel
theorem dX11_lay_87 : decode cX11_lay 87 = .ok (.iload 4, 2) := by decide +kernel
theorem dX11_lay_89 : decode cX11_lay 89 = .ok (.iadd, 1) := by decide +kernel
theorem dX11_lay_90 : decode cX11_lay 90 = .ok (.baload, 1) := by decide +kernel
theorem dX11_lay_91 : decode cX11_lay 91 = .ok (.invokevirtual 235, 3) := by decide +kernel
theorem dX11_lay_94 : decode cX11_lay 94 = .ok (.iinc 4 1, 3) := by decide +kernel
theorem dX11_lay_97 : decode cX11_lay 97 = .ok (.goto (-64), 3) := by decide +kernel
theorem dX11_lay_100 : decode cX11_lay 100 = .ok (.aload_n 0, 1) := by decide +kernel
theorem dX11_lay_101 : decode cX11_lay 101 = .ok (.getfield 47, 3) := by decide +kernel
theorem dX11_lay_104 : decode cX11_lay 104 = .ok (.getfield 234, 3) := by decide +kernel
theorem dX11_lay_107 : decode cX11_lay 107 = .ok (.ireturn, 1) := by decide +kernel
theorem dX11_taken_0 : decode cX11_taken 0 = .ok (.iload_n 2, 1) := by decide +kernel
theorem dX11_taken_1 : decode cX11_taken 1 = .ok (.invokestatic 124, 3) := by decide +kernel
theorem dX11_taken_4 : decode cX11_taken 4 = .ok (.ifCond .ne 6, 3) := by decide +kernel
theorem dX11_taken_7 : decode cX11_taken 7 = .ok (.bipush (-2), 2) := by decide +kernel
theorem dX11_taken_9 : decode cX11_taken 9 = .ok (.ireturn, 1) := by decide +kernel
theorem dX11_taken_10 : decode cX11_taken 10 = .ok (.aload_n 0, 1) := by decide +kernel
theorem dX11_taken_11 : decode cX11_taken 11 = .ok (.getfield 19, 3) := by decide +kernel
theorem dX11_taken_14 : decode cX11_taken 14 = .ok (.iload_n 1, 1) := by decide +kernel
theorem dX11_taken_15 : decode cX11_taken 15 = .ok (.invokevirtual 130, 3) := by decide +kernel
theorem dX11_taken_18 : decode cX11_taken 18 = .ok (.ifCond .ne 6, 3) := by decide +kernel
theorem dX11_taken_21 : decode cX11_taken 21 = .ok (.bipush (-11), 2) := by decide +kernel
theorem dX11_taken_23 : decode cX11_taken 23 = .ok (.ireturn, 1) := by decide +kernel
theorem dX11_taken_24 : decode cX11_taken 24 = .ok (.aload_n 0, 1) := by decide +kernel
theorem dX11_taken_25 : decode cX11_taken 25 = .ok (.getfield 19, 3) := by decide +kernel
theorem dX11_taken_28 : decode cX11_taken 28 = .ok (.getfield 131, 3) := by decide +kernel
theorem dX11_taken_31 : decode cX11_taken 31 = .ok (.iload_n 1, 1) := by decide +kernel
theorem dX11_taken_32 : decode cX11_taken 32 = .ok (.iaload, 1) := by decide +kernel
theorem dX11_taken_33 : decode cX11_taken 33 = .ok (.iload_n 2, 1) := by decide +kernel
theorem dX11_taken_34 : decode cX11_taken 34 = .ok (.invokestatic 310, 3) := by decide +kernel
theorem dX11_taken_37 : decode cX11_taken 37 = .ok (.ifCond .eq 15, 3) := by decide +kernel
theorem dX11_taken_40 : decode cX11_taken 40 = .ok (.aload_n 0, 1) := by decide +kernel
theorem dX11_taken_41 : decode cX11_taken 41 = .ok (.getfield 19, 3) := by decide +kernel
theorem dX11_taken_44 : decode cX11_taken 44 = .ok (.getfield 134, 3) := by decide +kernel
theorem dX11_taken_47 : decode cX11_taken 47 = .ok (.iload_n 1, 1) := by decide +kernel
theorem dX11_taken_48 : decode cX11_taken 48 = .ok (.iaload, 1) := by decide +kernel
theorem dX11_taken_49 : decode cX11_taken 49 = .ok (.goto 5, 3) := by decide +kernel
theorem dX11_taken_52 : decode cX11_taken 52 = .ok (.bipush (-13), 2) := by decide +kernel
theorem dX11_taken_54 : decode cX11_taken 54 = .ok (.ireturn, 1) := by decide +kernel
theorem dX11_isDay_0 : decode cX11_isDay 0 = .ok (.iload_n 0, 1) := by decide +kernel
theorem dX11_isDay_1 : decode cX11_isDay 1 = .ok (.ifCond .lt 14, 3) := by decide +kernel
theorem dX11_isDay_4 : decode cX11_isDay 4 = .ok (.iload_n 0, 1) := by decide +kernel
theorem dX11_isDay_5 : decode cX11_isDay 5 = .ok (.sipush 9999, 3) := by decide +kernel
theorem dX11_isDay_8 : decode cX11_isDay 8 = .ok (.if_icmp .gt 7, 3) := by decide +kernel
theorem dX11_isDay_11 : decode cX11_isDay 11 = .ok (.iconst 1, 1) := by decide +kernel
theorem dX11_isDay_12 : decode cX11_isDay 12 = .ok (.goto 4, 3) := by decide +kernel
theorem dX11_isDay_15 : decode cX11_isDay 15 = .ok (.iconst 0, 1) := by decide +kernel
theorem dX11_isDay_16 : decode cX11_isDay 16 = .ok (.ireturn, 1) := by decide +kernel
theorem dX11_isName_0 : decode cX11_isName 0 = .ok (.iload_n 0, 1) := by decide +kernel
theorem dX11_isName_1 : decode cX11_isName 1 = .ok (.iconst 1, 1) := by decide +kernel
theorem dX11_isName_2 : decode cX11_isName 2 = .ok (.if_icmp .lt 13, 3) := by decide +kernel
theorem dX11_isName_5 : decode cX11_isName 5 = .ok (.iload_n 0, 1) := by decide +kernel
theorem dX11_isName_6 : decode cX11_isName 6 = .ok (.bipush 99, 2) := by decide +kernel
theorem dX11_isName_8 : decode cX11_isName 8 = .ok (.if_icmp .gt 7, 3) := by decide +kernel
theorem dX11_isName_11 : decode cX11_isName 11 = .ok (.iconst 1, 1) := by decide +kernel
theorem dX11_isName_12 : decode cX11_isName 12 = .ok (.goto 4, 3) := by decide +kernel
theorem dX11_isName_15 : decode cX11_isName 15 = .ok (.iconst 0, 1) := by decide +kernel
theorem dX11_isName_16 : decode cX11_isName 16 = .ok (.ireturn, 1) := by decide +kernel
theorem dX11_isPlace_0 : decode cX11_isPlace 0 = .ok (.iload_n 0, 1) := by decide +kernel
theorem dX11_isPlace_1 : decode cX11_isPlace 1 = .ok (.ifCond .lt 13, 3) := by decide +kernel
theorem dX11_isPlace_4 : decode cX11_isPlace 4 = .ok (.iload_n 0, 1) := by decide +kernel
theorem dX11_isPlace_5 : decode cX11_isPlace 5 = .ok (.bipush 6, 2) := by decide +kernel
theorem dX11_isPlace_7 : decode cX11_isPlace 7 = .ok (.if_icmp .ge 7, 3) := by decide +kernel
theorem dX11_isPlace_10 : decode cX11_isPlace 10 = .ok (.iconst 1, 1) := by decide +kernel
theorem dX11_isPlace_11 : decode cX11_isPlace 11 = .ok (.goto 4, 3) := by decide +kernel
theorem dX11_isPlace_14 : decode cX11_isPlace 14 = .ok (.iconst 0, 1) := by decide +kernel
theorem dX11_isPlace_15 : decode cX11_isPlace 15 = .ok (.ireturn, 1) := by decide +kernel
theorem dX11_isReading_0 : decode cX11_isReading 0 = .ok (.aload_n 0, 1) := by decide +kernel
theorem dX11_isReading_1 : decode cX11_isReading 1 = .ok (.getfield 10, 3) := by decide +kernel
theorem dX11_isReading_4 : decode cX11_isReading 4 = .ok (.iload_n 1, 1) := by decide +kernel
theorem dX11_isReading_5 : decode cX11_isReading 5 = .ok (.invokevirtual 107, 3) := by decide +kernel
theorem dX11_isReading_8 : decode cX11_isReading 8 = .ok (.ifCond .eq 23, 3) := by decide +kernel
theorem dX11_isReading_11 : decode cX11_isReading 11 = .ok (.iload_n 2, 1) := by decide +kernel
theorem dX11_isReading_12 : decode cX11_isReading 12 = .ok (.invokestatic 110, 3) := by decide +kernel
theorem dX11_isReading_15 : decode cX11_isReading 15 = .ok (.ifCond .eq 16, 3) := by decide +kernel
theorem dX11_isReading_18 : decode cX11_isReading 18 = .ok (.iload_n 3, 1) := by decide +kernel
theorem dX11_isReading_19 : decode cX11_isReading 19 = .ok (.ifCond .eq 8, 3) := by decide +kernel
theorem dX11_isReading_22 : decode cX11_isReading 22 = .ok (.iload_n 3, 1) := by decide +kernel
theorem dX11_isReading_23 : decode cX11_isReading 23 = .ok (.iconst 1, 1) := by decide +kernel
theorem dX11_isReading_24 : decode cX11_isReading 24 = .ok (.if_icmp .ne 7, 3) := by decide +kernel
theorem dX11_isReading_27 : decode cX11_isReading 27 = .ok (.iconst 1, 1) := by decide +kernel
theorem dX11_isReading_28 : decode cX11_isReading 28 = .ok (.goto 4, 3) := by decide +kernel
theorem dX11_isReading_31 : decode cX11_isReading 31 = .ok (.iconst 0, 1) := by decide +kernel
theorem dX11_isReading_32 : decode cX11_isReading 32 = .ok (.ireturn, 1) := by decide +kernel
theorem dX11_isPrinting_0 : decode cX11_isPrinting 0 = .ok (.aload_n 0, 1) := by decide +kernel
theorem dX11_isPrinting_1 : decode cX11_isPrinting 1 = .ok (.getfield 19, 3) := by decide +kernel
theorem dX11_isPrinting_4 : decode cX11_isPrinting 4 = .ok (.iload_n 1, 1) := by decide +kernel
theorem dX11_isPrinting_5 : decode cX11_isPrinting 5 = .ok (.invokevirtual 130, 3) := by decide +kernel
theorem dX11_isPrinting_8 : decode cX11_isPrinting 8 = .ok (.ifCond .eq 23, 3) := by decide +kernel
theorem dX11_isPrinting_11 : decode cX11_isPrinting 11 = .ok (.iload_n 2, 1) := by decide +kernel
theorem dX11_isPrinting_12 : decode cX11_isPrinting 12 = .ok (.invokestatic 110, 3) := by decide +kernel
theorem dX11_isPrinting_15 : decode cX11_isPrinting 15 = .ok (.ifCond .eq 16, 3) := by decide +kernel
theorem dX11_isPrinting_18 : decode cX11_isPrinting 18 = .ok (.iload_n 3, 1) := by decide +kernel
theorem dX11_isPrinting_19 : decode cX11_isPrinting 19 = .ok (.ifCond .eq 8, 3) := by decide +kernel
theorem dX11_isPrinting_22 : decode cX11_isPrinting 22 = .ok (.iload_n 3, 1) := by decide +kernel
theorem dX11_isPrinting_23 : decode cX11_isPrinting 23 = .ok (.iconst 1, 1) := by decide +kernel
theorem dX11_isPrinting_24 : decode cX11_isPrinting 24 = .ok (.if_icmp .ne 7, 3) := by decide +kernel
theorem dX11_isPrinting_27 : decode cX11_isPrinting 27 = .ok (.iconst 1, 1) := by decide +kernel
theorem dX11_isPrinting_28 : decode cX11_isPrinting 28 = .ok (.goto 4, 3) := by decide +kernel
theorem dX11_isPrinting_31 : decode cX11_isPrinting 31 = .ok (.iconst 0, 1) := by decide +kernel
theorem dX11_isPrinting_32 : decode cX11_isPrinting 32 = .ok (.ireturn, 1) := by decide +kernel
theorem dX11_isOrderable_0 : decode cX11_isOrderable 0 = .ok (.iload_n 1, 1) := by decide +kernel
theorem dX11_isOrderable_1 : decode cX11_isOrderable 1 = .ok (.aload_n 0, 1) := by decide +kernel
theorem dX11_isOrderable_2 : decode cX11_isOrderable 2 = .ok (.getfield 19, 3) := by decide +kernel
theorem dX11_isOrderable_5 : decode cX11_isOrderable 5 = .ok (.getfield 185, 3) := by decide +kernel
theorem dX11_isOrderable_8 : decode cX11_isOrderable 8 = .ok (.iushr, 1) := by decide +kernel
theorem dX11_isOrderable_9 : decode cX11_isOrderable 9 = .ok (.ifCond .ne 16, 3) := by decide +kernel
theorem dX11_isOrderable_12 : decode cX11_isOrderable 12 = .ok (.iload_n 1, 1) := by decide +kernel
theorem dX11_isOrderable_13 : decode cX11_isOrderable 13 = .ok (.invokestatic 219, 3) := by decide +kernel
theorem dX11_isOrderable_16 : decode cX11_isOrderable 16 = .ok (.bipush 8, 2) := by decide +kernel
theorem dX11_isOrderable_18 : decode cX11_isOrderable 18 = .ok (.if_icmp .gt 7, 3) := by decide +kernel
theorem dX11_isOrderable_21 : decode cX11_isOrderable 21 = .ok (.iconst 1, 1) := by decide +kernel
theorem dX11_isOrderable_22 : decode cX11_isOrderable 22 = .ok (.goto 4, 3) := by decide +kernel
theorem dX11_isOrderable_25 : decode cX11_isOrderable 25 = .ok (.iconst 0, 1) := by decide +kernel
theorem dX11_isOrderable_26 : decode cX11_isOrderable 26 = .ok (.ireturn, 1) := by decide +kernel
theorem dX11_hasRead_0 : decode cX11_hasRead 0 = .ok (.aload_n 0, 1) := by decide +kernel
theorem dX11_hasRead_1 : decode cX11_hasRead 1 = .ok (.getfield 19, 3) := by decide +kernel
theorem dX11_hasRead_4 : decode cX11_hasRead 4 = .ok (.iload_n 1, 1) := by decide +kernel
theorem dX11_hasRead_5 : decode cX11_hasRead 5 = .ok (.iload_n 2, 1) := by decide +kernel
theorem dX11_hasRead_6 : decode cX11_hasRead 6 = .ok (.invokevirtual 313, 3) := by decide +kernel
theorem dX11_hasRead_9 : decode cX11_hasRead 9 = .ok (.ifCond .ne 5, 3) := by decide +kernel
theorem dX11_hasRead_12 : decode cX11_hasRead 12 = .ok (.iconst 0, 1) := by decide +kernel
theorem dX11_hasRead_13 : decode cX11_hasRead 13 = .ok (.ireturn, 1) := by decide +kernel
theorem dX11_hasRead_14 : decode cX11_hasRead 14 = .ok (.aload_n 0, 1) := by decide +kernel
theorem dX11_hasRead_15 : decode cX11_hasRead 15 = .ok (.getfield 19, 3) := by decide +kernel
theorem dX11_hasRead_18 : decode cX11_hasRead 18 = .ok (.getfield 140, 3) := by decide +kernel
theorem dX11_hasRead_21 : decode cX11_hasRead 21 = .ok (.iload_n 1, 1) := by decide +kernel
theorem dX11_hasRead_22 : decode cX11_hasRead 22 = .ok (.iaload, 1) := by decide +kernel
theorem dX11_hasRead_23 : decode cX11_hasRead 23 = .ok (.istore 5, 2) := by decide +kernel
theorem dX11_hasRead_25 : decode cX11_hasRead 25 = .ok (.aload_n 0, 1) := by decide +kernel
theorem dX11_hasRead_26 : decode cX11_hasRead 26 = .ok (.getfield 10, 3) := by decide +kernel
theorem dX11_hasRead_29 : decode cX11_hasRead 29 = .ok (.getfield 316, 3) := by decide +kernel
theorem dX11_hasRead_32 : decode cX11_hasRead 32 = .ok (.iload_n 2, 1) := by decide +kernel
theorem dX11_hasRead_33 : decode cX11_hasRead 33 = .ok (.iaload, 1) := by decide +kernel
theorem dX11_hasRead_34 : decode cX11_hasRead 34 = .ok (.istore 6, 2) := by decide +kernel
theorem dX11_hasRead_36 : decode cX11_hasRead 36 = .ok (.iload 4, 2) := by decide +kernel
theorem dX11_hasRead_38 : decode cX11_hasRead 38 = .ok (.ifCond .ne 36, 3) := by decide +kernel
theorem dX11_hasRead_41 : decode cX11_hasRead 41 = .ok (.aload_n 0, 1) := by decide +kernel
theorem dX11_hasRead_42 : decode cX11_hasRead 42 = .ok (.getfield 26, 3) := by decide +kernel
theorem dX11_hasRead_45 : decode cX11_hasRead 45 = .ok (.getfield 175, 3) := by decide +kernel
theorem dX11_hasRead_48 : decode cX11_hasRead 48 = .ok (.iload_n 1, 1) := by decide +kernel
theorem dX11_hasRead_49 : decode cX11_hasRead 49 = .ok (.iaload, 1) := by decide +kernel
theorem dX11_hasRead_50 : decode cX11_hasRead 50 = .ok (.aload_n 0, 1) := by decide +kernel
theorem dX11_hasRead_51 : decode cX11_hasRead 51 = .ok (.getfield 33, 3) := by decide +kernel
theorem dX11_hasRead_54 : decode cX11_hasRead 54 = .ok (.getfield 199, 3) := by decide +kernel
theorem dX11_hasRead_57 : decode cX11_hasRead 57 = .ok (.iload 5, 2) := by decide +kernel
theorem dX11_hasRead_59 : decode cX11_hasRead 59 = .ok (.aaload, 1) := by decide +kernel
theorem dX11_hasRead_60 : decode cX11_hasRead 60 = .ok (.iload 6, 2) := by decide +kernel
theorem dX11_hasRead_62 : decode cX11_hasRead 62 = .ok (.iaload, 1) := by decide +kernel
theorem dX11_hasRead_63 : decode cX11_hasRead 63 = .ok (.iadd, 1) := by decide +kernel
theorem dX11_hasRead_64 : decode cX11_hasRead 64 = .ok (.iload_n 3, 1) := by decide +kernel
theorem dX11_hasRead_65 : decode cX11_hasRead 65 = .ok (.if_icmp .gt 7, 3) := by decide +kernel
theorem dX11_hasRead_68 : decode cX11_hasRead 68 = .ok (.iconst 1, 1) := by decide +kernel
theorem dX11_hasRead_69 : decode cX11_hasRead 69 = .ok (.goto 4, 3) := by decide +kernel
theorem dX11_hasRead_72 : decode cX11_hasRead 72 = .ok (.iconst 0, 1) := by decide +kernel
theorem dX11_hasRead_73 : decode cX11_hasRead 73 = .ok (.ireturn, 1) := by decide +kernel
theorem dX11_hasRead_74 : decode cX11_hasRead 74 = .ok (.aload_n 0, 1) := by decide +kernel
theorem dX11_hasRead_75 : decode cX11_hasRead 75 = .ok (.getfield 26, 3) := by decide +kernel
theorem dX11_hasRead_78 : decode cX11_hasRead 78 = .ok (.getfield 178, 3) := by decide +kernel
theorem dX11_hasRead_81 : decode cX11_hasRead 81 = .ok (.iload_n 1, 1) := by decide +kernel
theorem dX11_hasRead_82 : decode cX11_hasRead 82 = .ok (.iaload, 1) := by decide +kernel
theorem dX11_hasRead_83 : decode cX11_hasRead 83 = .ok (.aload_n 0, 1) := by decide +kernel
theorem dX11_hasRead_84 : decode cX11_hasRead 84 = .ok (.getfield 33, 3) := by decide +kernel
theorem dX11_hasRead_87 : decode cX11_hasRead 87 = .ok (.getfield 202, 3) := by decide +kernel
theorem dX11_hasRead_90 : decode cX11_hasRead 90 = .ok (.iload 5, 2) := by decide +kernel
theorem dX11_hasRead_92 : decode cX11_hasRead 92 = .ok (.aaload, 1) := by decide +kernel
theorem dX11_hasRead_93 : decode cX11_hasRead 93 = .ok (.iload 6, 2) := by decide +kernel
theorem dX11_hasRead_95 : decode cX11_hasRead 95 = .ok (.iaload, 1) := by decide +kernel
theorem dX11_hasRead_96 : decode cX11_hasRead 96 = .ok (.iadd, 1) := by decide +kernel
theorem dX11_hasRead_97 : decode cX11_hasRead 97 = .ok (.iload_n 3, 1) := by decide +kernel
theorem dX11_hasRead_98 : decode cX11_hasRead 98 = .ok (.if_icmp .gt 7, 3) := by decide +kernel
theorem dX11_hasRead_101 : decode cX11_hasRead 101 = .ok (.iconst 1, 1) := by decide +kernel
theorem dX11_hasRead_102 : decode cX11_hasRead 102 = .ok (.goto 4, 3) := by decide +kernel
theorem dX11_hasRead_105 : decode cX11_hasRead 105 = .ok (.iconst 0, 1) := by decide +kernel
theorem dX11_hasRead_106 : decode cX11_hasRead 106 = .ok (.ireturn, 1) := by decide +kernel
theorem dX11_meant_0 : decode cX11_meant 0 = .ok (.aload_n 0, 1) := by decide +kernel
theorem dX11_meant_1 : decode cX11_meant 1 = .ok (.getfield 26, 3) := by decide +kernel
theorem dX11_meant_4 : decode cX11_meant 4 = .ok (.aload_n 0, 1) := by decide +kernel
theorem dX11_meant_5 : decode cX11_meant 5 = .ok (.getfield 19, 3) := by decide +kernel
theorem dX11_meant_8 : decode cX11_meant 8 = .ok (.invokevirtual 171, 3) := by decide +kernel
theorem dX11_meant_11 : decode cX11_meant 11 = .ok (.istore_n 3, 1) := by decide +kernel
theorem dX11_meant_12 : decode cX11_meant 12 = .ok (.iload_n 3, 1) := by decide +kernel
theorem dX11_meant_13 : decode cX11_meant 13 = .ok (.ifCond .eq 15, 3) := by decide +kernel
theorem dX11_meant_16 : decode cX11_meant 16 = .ok (.aload_n 0, 1) := by decide +kernel
theorem dX11_meant_17 : decode cX11_meant 17 = .ok (.getfield 26, 3) := by decide +kernel
theorem dX11_meant_20 : decode cX11_meant 20 = .ok (.getfield 175, 3) := by decide +kernel
theorem dX11_meant_23 : decode cX11_meant 23 = .ok (.iload_n 1, 1) := by decide +kernel
theorem dX11_meant_24 : decode cX11_meant 24 = .ok (.iaload, 1) := by decide +kernel
theorem dX11_meant_25 : decode cX11_meant 25 = .ok (.goto 4, 3) := by decide +kernel
theorem dX11_meant_28 : decode cX11_meant 28 = .ok (.iconst 0, 1) := by decide +kernel
theorem dX11_meant_29 : decode cX11_meant 29 = .ok (.istore 4, 2) := by decide +kernel
theorem dX11_meant_31 : decode cX11_meant 31 = .ok (.iload_n 3, 1) := by decide +kernel
theorem dX11_meant_32 : decode cX11_meant 32 = .ok (.ifCond .eq 15, 3) := by decide +kernel
theorem dX11_meant_35 : decode cX11_meant 35 = .ok (.aload_n 0, 1) := by decide +kernel
theorem dX11_meant_36 : decode cX11_meant 36 = .ok (.getfield 26, 3) := by decide +kernel
theorem dX11_meant_39 : decode cX11_meant 39 = .ok (.getfield 178, 3) := by decide +kernel
theorem dX11_meant_42 : decode cX11_meant 42 = .ok (.iload_n 1, 1) := by decide +kernel
theorem dX11_meant_43 : decode cX11_meant 43 = .ok (.iaload, 1) := by decide +kernel
theorem dX11_meant_44 : decode cX11_meant 44 = .ok (.goto 6, 3) := by decide +kernel
theorem dX11_meant_47 : decode cX11_meant 47 = .ok (.sipush 9999, 3) := by decide +kernel
theorem dX11_meant_50 : decode cX11_meant 50 = .ok (.istore 5, 2) := by decide +kernel
theorem dX11_meant_52 : decode cX11_meant 52 = .ok (.aload_n 0, 1) := by decide +kernel
theorem dX11_meant_53 : decode cX11_meant 53 = .ok (.getfield 10, 3) := by decide +kernel
theorem dX11_meant_56 : decode cX11_meant 56 = .ok (.aload_n 0, 1) := by decide +kernel
theorem dX11_meant_57 : decode cX11_meant 57 = .ok (.getfield 19, 3) := by decide +kernel
theorem dX11_meant_60 : decode cX11_meant 60 = .ok (.getfield 134, 3) := by decide +kernel
theorem dX11_meant_63 : decode cX11_meant 63 = .ok (.iload_n 1, 1) := by decide +kernel
theorem dX11_meant_64 : decode cX11_meant 64 = .ok (.iaload, 1) := by decide +kernel
theorem dX11_meant_65 : decode cX11_meant 65 = .ok (.iload_n 2, 1) := by decide +kernel
theorem dX11_meant_66 : decode cX11_meant 66 = .ok (.iload 4, 2) := by decide +kernel
theorem dX11_meant_68 : decode cX11_meant 68 = .ok (.iload 5, 2) := by decide +kernel
theorem dX11_meant_70 : decode cX11_meant 70 = .ok (.invokevirtual 317, 3) := by decide +kernel
theorem dX11_meant_73 : decode cX11_meant 73 = .ok (.ireturn, 1) := by decide +kernel
theorem dX11_examineTape_0 : decode cX11_examineTape 0 = .ok (.aload_n 0, 1) := by decide +kernel
theorem dX11_examineTape_1 : decode cX11_examineTape 1 = .ok (.iconst 0, 1) := by decide +kernel
theorem dX11_examineTape_2 : decode cX11_examineTape 2 = .ok (.putfield 89, 3) := by decide +kernel
theorem dX11_examineTape_5 : decode cX11_examineTape 5 = .ok (.aload_n 0, 1) := by decide +kernel
theorem dX11_examineTape_6 : decode cX11_examineTape 6 = .ok (.iconst (-1), 1) := by decide +kernel
theorem dX11_examineTape_7 : decode cX11_examineTape 7 = .ok (.putfield 93, 3) := by decide +kernel
theorem dX11_examineTape_10 : decode cX11_examineTape 10 = .ok (.aload_n 0, 1) := by decide +kernel
theorem dX11_examineTape_11 : decode cX11_examineTape 11 = .ok (.getfield 54, 3) := by decide +kernel
theorem dX11_examineTape_14 : decode cX11_examineTape 14 = .ok (.invokevirtual 271, 3) := by decide +kernel
theorem dX11_examineTape_17 : decode cX11_examineTape 17 = .ok (.iconst 0, 1) := by decide +kernel
theorem dX11_examineTape_18 : decode cX11_examineTape 18 = .ok (.istore_n 1, 1) := by decide +kernel
theorem dX11_examineTape_19 : decode cX11_examineTape 19 = .ok (.iload_n 1, 1) := by decide +kernel
theorem dX11_examineTape_20 : decode cX11_examineTape 20 = .ok (.aload_n 0, 1) := by decide +kernel
theorem dX11_examineTape_21 : decode cX11_examineTape 21 = .ok (.getfield 47, 3) := by decide +kernel
theorem dX11_examineTape_24 : decode cX11_examineTape 24 = .ok (.getfield 234, 3) := by decide +kernel
theorem dX11_examineTape_27 : decode cX11_examineTape 27 = .ok (.if_icmp .ge 98, 3) := by decide +kernel
theorem dX11_examineTape_30 : decode cX11_examineTape 30 = .ok (.aload_n 0, 1) := by decide +kernel
theorem dX11_examineTape_31 : decode cX11_examineTape 31 = .ok (.getfield 54, 3) := by decide +kernel
theorem dX11_examineTape_34 : decode cX11_examineTape 34 = .ok (.aload_n 0, 1) := by decide +kernel
theorem dX11_examineTape_35 : decode cX11_examineTape 35 = .ok (.getfield 47, 3) := by decide +kernel
theorem dX11_examineTape_38 : decode cX11_examineTape 38 = .ok (.getfield 241, 3) := by decide +kernel
theorem dX11_examineTape_41 : decode cX11_examineTape 41 = .ok (.iload_n 1, 1) := by decide +kernel
theorem dX11_examineTape_42 : decode cX11_examineTape 42 = .ok (.baload, 1) := by decide +kernel
theorem dX11_examineTape_43 : decode cX11_examineTape 43 = .ok (.sipush 255, 3) := by decide +kernel
theorem dX11_examineTape_46 : decode cX11_examineTape 46 = .ok (.iand, 1) := by decide +kernel
theorem dX11_examineTape_47 : decode cX11_examineTape 47 = .ok (.iload_n 1, 1) := by decide +kernel
theorem dX11_examineTape_48 : decode cX11_examineTape 48 = .ok (.invokevirtual 274, 3) := by decide +kernel
theorem dX11_examineTape_51 : decode cX11_examineTape 51 = .ok (.istore_n 2, 1) := by decide +kernel
theorem dX11_examineTape_52 : decode cX11_examineTape 52 = .ok (.iload_n 2, 1) := by decide +kernel
theorem dX11_examineTape_53 : decode cX11_examineTape 53 = .ok (.iconst 5, 1) := by decide +kernel
theorem dX11_examineTape_54 : decode cX11_examineTape 54 = .ok (.if_icmp .ne 20, 3) := by decide +kernel
theorem dX11_examineTape_57 : decode cX11_examineTape 57 = .ok (.aload_n 0, 1) := by decide +kernel
theorem dX11_examineTape_58 : decode cX11_examineTape 58 = .ok (.iconst 1, 1) := by decide +kernel
theorem dX11_examineTape_59 : decode cX11_examineTape 59 = .ok (.putfield 89, 3) := by decide +kernel
theorem dX11_examineTape_62 : decode cX11_examineTape 62 = .ok (.aload_n 0, 1) := by decide +kernel
theorem dX11_examineTape_63 : decode cX11_examineTape 63 = .ok (.aload_n 0, 1) := by decide +kernel
theorem dX11_examineTape_64 : decode cX11_examineTape 64 = .ok (.getfield 54, 3) := by decide +kernel
theorem dX11_examineTape_67 : decode cX11_examineTape 67 = .ok (.getfield 320, 3) := by decide +kernel
theorem dX11_examineTape_70 : decode cX11_examineTape 70 = .ok (.putfield 93, 3) := by decide +kernel
theorem dX11_examineTape_73 : decode cX11_examineTape 73 = .ok (.return_, 1) := by decide +kernel
theorem dX11_examineTape_74 : decode cX11_examineTape 74 = .ok (.iload_n 2, 1) := by decide +kernel
theorem dX11_examineTape_75 : decode cX11_examineTape 75 = .ok (.iconst 4, 1) := by decide +kernel
theorem dX11_examineTape_76 : decode cX11_examineTape 76 = .ok (.if_icmp .ne 43, 3) := by decide +kernel
theorem dX11_examineTape_79 : decode cX11_examineTape 79 = .ok (.aload_n 0, 1) := by decide +kernel
theorem dX11_examineTape_80 : decode cX11_examineTape 80 = .ok (.getfield 89, 3) := by decide +kernel
theorem dX11_examineTape_83 : decode cX11_examineTape 83 = .ok (.ifCond .ne 36, 3) := by decide +kernel
theorem dX11_examineTape_86 : decode cX11_examineTape 86 = .ok (.aload_n 0, 1) := by decide +kernel
theorem dX11_examineTape_87 : decode cX11_examineTape 87 = .ok (.getfield 19, 3) := by decide +kernel
theorem dX11_examineTape_90 : decode cX11_examineTape 90 = .ok (.aload_n 0, 1) := by decide +kernel
theorem dX11_examineTape_91 : decode cX11_examineTape 91 = .ok (.getfield 54, 3) := by decide +kernel
theorem dX11_examineTape_94 : decode cX11_examineTape 94 = .ok (.getfield 277, 3) := by decide +kernel
theorem dX11_examineTape_97 : decode cX11_examineTape 97 = .ok (.invokevirtual 130, 3) := by decide +kernel
theorem dX11_examineTape_100 : decode cX11_examineTape 100 = .ok (.ifCond .ne 19, 3) := by decide +kernel
theorem dX11_examineTape_103 : decode cX11_examineTape 103 = .ok (.aload_n 0, 1) := by decide +kernel
theorem dX11_examineTape_104 : decode cX11_examineTape 104 = .ok (.iconst 2, 1) := by decide +kernel
theorem dX11_examineTape_105 : decode cX11_examineTape 105 = .ok (.putfield 89, 3) := by decide +kernel
theorem dX11_examineTape_108 : decode cX11_examineTape 108 = .ok (.aload_n 0, 1) := by decide +kernel
theorem dX11_examineTape_109 : decode cX11_examineTape 109 = .ok (.aload_n 0, 1) := by decide +kernel
theorem dX11_examineTape_110 : decode cX11_examineTape 110 = .ok (.getfield 54, 3) := by decide +kernel
theorem dX11_examineTape_113 : decode cX11_examineTape 113 = .ok (.getfield 323, 3) := by decide +kernel
theorem dX11_examineTape_116 : decode cX11_examineTape 116 = .ok (.putfield 93, 3) := by decide +kernel
theorem dX11_examineTape_119 : decode cX11_examineTape 119 = .ok (.iinc 1 1, 3) := by decide +kernel
theorem dX11_examineTape_122 : decode cX11_examineTape 122 = .ok (.goto (-103), 3) := by decide +kernel
theorem dX11_examineTape_125 : decode cX11_examineTape 125 = .ok (.aload_n 0, 1) := by decide +kernel
theorem dX11_examineTape_126 : decode cX11_examineTape 126 = .ok (.getfield 54, 3) := by decide +kernel
theorem dX11_examineTape_129 : decode cX11_examineTape 129 = .ok (.invokevirtual 326, 3) := by decide +kernel
theorem dX11_examineTape_132 : decode cX11_examineTape 132 = .ok (.ifCond .ne 19, 3) := by decide +kernel
theorem dX11_examineTape_135 : decode cX11_examineTape 135 = .ok (.aload_n 0, 1) := by decide +kernel
theorem dX11_examineTape_136 : decode cX11_examineTape 136 = .ok (.iconst 1, 1) := by decide +kernel
theorem dX11_examineTape_137 : decode cX11_examineTape 137 = .ok (.putfield 89, 3) := by decide +kernel
theorem dX11_examineTape_140 : decode cX11_examineTape 140 = .ok (.aload_n 0, 1) := by decide +kernel
theorem dX11_examineTape_141 : decode cX11_examineTape 141 = .ok (.aload_n 0, 1) := by decide +kernel
theorem dX11_examineTape_142 : decode cX11_examineTape 142 = .ok (.getfield 47, 3) := by decide +kernel
theorem dX11_examineTape_145 : decode cX11_examineTape 145 = .ok (.getfield 234, 3) := by decide +kernel
theorem dX11_examineTape_148 : decode cX11_examineTape 148 = .ok (.putfield 93, 3) := by decide +kernel
theorem dX11_examineTape_151 : decode cX11_examineTape 151 = .ok (.return_, 1) := by decide +kernel
theorem dX11_printText_0 : decode cX11_printText 0 = .ok (.aload_n 0, 1) := by decide +kernel
theorem dX11_printText_1 : decode cX11_printText 1 = .ok (.getfield 61, 3) := by decide +kernel
theorem dX11_printText_4 : decode cX11_printText 4 = .ok (.aload_n 0, 1) := by decide +kernel
theorem dX11_printText_5 : decode cX11_printText 5 = .ok (.getfield 54, 3) := by decide +kernel
theorem dX11_printText_8 : decode cX11_printText 8 = .ok (.aload_n 0, 1) := by decide +kernel
theorem dX11_printText_9 : decode cX11_printText 9 = .ok (.getfield 19, 3) := by decide +kernel
theorem dX11_printText_12 : decode cX11_printText 12 = .ok (.getfield 267, 3) := by decide +kernel
theorem dX11_printText_15 : decode cX11_printText 15 = .ok (.iload_n 1, 1) := by decide +kernel
theorem dX11_printText_16 : decode cX11_printText 16 = .ok (.aaload, 1) := by decide +kernel
theorem dX11_printText_17 : decode cX11_printText 17 = .ok (.aload_n 0, 1) := by decide +kernel
theorem dX11_printText_18 : decode cX11_printText 18 = .ok (.getfield 19, 3) := by decide +kernel
theorem dX11_printText_21 : decode cX11_printText 21 = .ok (.getfield 155, 3) := by decide +kernel
theorem dX11_printText_24 : decode cX11_printText 24 = .ok (.iload_n 1, 1) := by decide +kernel
theorem dX11_printText_25 : decode cX11_printText 25 = .ok (.iaload, 1) := by decide +kernel
theorem dX11_printText_26 : decode cX11_printText 26 = .ok (.iload_n 2, 1) := by decide +kernel
theorem dX11_printText_27 : decode cX11_printText 27 = .ok (.iload_n 3, 1) := by decide +kernel
theorem dX11_printText_28 : decode cX11_printText 28 = .ok (.invokevirtual 330, 3) := by decide +kernel
theorem dX11_printText_31 : decode cX11_printText 31 = .ok (.return_, 1) := by decide +kernel
theorem dX11_readWords_0 : decode cX11_readWords 0 = .ok (.aload_n 0, 1) := by decide +kernel
theorem dX11_readWords_1 : decode cX11_readWords 1 = .ok (.iload_n 1, 1) := by decide +kernel
theorem dX11_readWords_2 : decode cX11_readWords 2 = .ok (.sipush 9999, 3) := by decide +kernel
theorem dX11_readWords_5 : decode cX11_readWords 5 = .ok (.iconst 0, 1) := by decide +kernel
theorem dX11_readWords_6 : decode cX11_readWords 6 = .ok (.invokevirtual 252, 3) := by decide +kernel
theorem dX11_readWords_9 : decode cX11_readWords 9 = .ok (.aload_n 2, 1) := by decide +kernel
theorem dX11_readWords_10 : decode cX11_readWords 10 = .ok (.aload_n 0, 1) := by decide +kernel
theorem dX11_readWords_11 : decode cX11_readWords 11 = .ok (.getfield 61, 3) := by decide +kernel
theorem dX11_readWords_14 : decode cX11_readWords 14 = .ok (.getfield 257, 3) := by decide +kernel
theorem dX11_readWords_17 : decode cX11_readWords 17 = .ok (.aload_n 0, 1) := by decide +kernel
theorem dX11_readWords_18 : decode cX11_readWords 18 = .ok (.getfield 61, 3) := by decide +kernel
theorem dX11_readWords_21 : decode cX11_readWords 21 = .ok (.getfield 256, 3) := by decide +kernel
theorem dX11_readWords_24 : decode cX11_readWords 24 = .ok (.invokevirtual 334, 3) := by decide +kernel
theorem dX11_readWords_27 : decode cX11_readWords 27 = .ok (.return_, 1) := by decide +kernel
theorem dX11_arrange_0 : decode cX11_arrange 0 = .ok (.aload_n 0, 1) := by decide +kernel
theorem dX11_arrange_1 : decode cX11_arrange 1 = .ok (.getfield 26, 3) := by decide +kernel
theorem dX11_arrange_4 : decode cX11_arrange 4 = .ok (.aload_n 0, 1) := by decide +kernel
theorem dX11_arrange_5 : decode cX11_arrange 5 = .ok (.getfield 19, 3) := by decide +kernel
theorem dX11_arrange_8 : decode cX11_arrange 8 = .ok (.invokevirtual 171, 3) := by decide +kernel
theorem dX11_arrange_11 : decode cX11_arrange 11 = .ok (.ifCond .ne 5, 3) := by decide +kernel
theorem dX11_arrange_14 : decode cX11_arrange 14 = .ok (.iconst 0, 1) := by decide +kernel
theorem dX11_arrange_15 : decode cX11_arrange 15 = .ok (.ireturn, 1) := by decide +kernel
theorem dX11_arrange_16 : decode cX11_arrange 16 = .ok (.aload_n 0, 1) := by decide +kernel
theorem dX11_arrange_17 : decode cX11_arrange 17 = .ok (.getfield 26, 3) := by decide +kernel
theorem dX11_arrange_20 : decode cX11_arrange 20 = .ok (.aload_n 0, 1) := by decide +kernel
theorem dX11_arrange_21 : decode cX11_arrange 21 = .ok (.getfield 19, 3) := by decide +kernel
theorem dX11_arrange_24 : decode cX11_arrange 24 = .ok (.getfield 185, 3) := by decide +kernel
theorem dX11_arrange_27 : decode cX11_arrange 27 = .ok (.invokevirtual 188, 3) := by decide +kernel
theorem dX11_arrange_30 : decode cX11_arrange 30 = .ok (.aload_n 0, 1) := by decide +kernel
theorem dX11_arrange_31 : decode cX11_arrange 31 = .ok (.getfield 78, 3) := by decide +kernel
theorem dX11_arrange_34 : decode cX11_arrange 34 = .ok (.iload_n 1, 1) := by decide +kernel
theorem dX11_arrange_35 : decode cX11_arrange 35 = .ok (.aload_n 0, 1) := by decide +kernel
theorem dX11_arrange_36 : decode cX11_arrange 36 = .ok (.getfield 26, 3) := by decide +kernel
theorem dX11_arrange_39 : decode cX11_arrange 39 = .ok (.invokevirtual 338, 3) := by decide +kernel
theorem dX11_arrange_42 : decode cX11_arrange 42 = .ok (.iconst 1, 1) := by decide +kernel
theorem dX11_arrange_43 : decode cX11_arrange 43 = .ok (.ireturn, 1) := by decide +kernel
theorem dJ6_bitCount_0f7a4_0 : decode cJ6_bitCount_0f7a4 0 = .ok (.iload_n 0, 1) := by decide +kernel
theorem dJ6_bitCount_0f7a4_1 : decode cJ6_bitCount_0f7a4 1 = .ok (.iload_n 0, 1) := by decide +kernel
theorem dJ6_bitCount_0f7a4_2 : decode cJ6_bitCount_0f7a4 2 = .ok (.iconst 1, 1) := by decide +kernel
theorem dJ6_bitCount_0f7a4_3 : decode cJ6_bitCount_0f7a4 3 = .ok (.iushr, 1) := by decide +kernel
theorem dJ6_bitCount_0f7a4_4 : decode cJ6_bitCount_0f7a4 4 = .ok (.ldc_w 265, 3) := by decide +kernel
theorem dJ6_bitCount_0f7a4_7 : decode cJ6_bitCount_0f7a4 7 = .ok (.iand, 1) := by decide +kernel
theorem dJ6_bitCount_0f7a4_8 : decode cJ6_bitCount_0f7a4 8 = .ok (.isub, 1) := by decide +kernel
theorem dJ6_bitCount_0f7a4_9 : decode cJ6_bitCount_0f7a4 9 = .ok (.istore_n 0, 1) := by decide +kernel
theorem dJ6_bitCount_0f7a4_10 : decode cJ6_bitCount_0f7a4 10 = .ok (.iload_n 0, 1) := by decide +kernel
theorem dJ6_bitCount_0f7a4_11 : decode cJ6_bitCount_0f7a4 11 = .ok (.ldc_w 266, 3) := by decide +kernel
theorem dJ6_bitCount_0f7a4_14 : decode cJ6_bitCount_0f7a4 14 = .ok (.iand, 1) := by decide +kernel
theorem dJ6_bitCount_0f7a4_15 : decode cJ6_bitCount_0f7a4 15 = .ok (.iload_n 0, 1) := by decide +kernel
theorem dJ6_bitCount_0f7a4_16 : decode cJ6_bitCount_0f7a4 16 = .ok (.iconst 2, 1) := by decide +kernel
theorem dJ6_bitCount_0f7a4_17 : decode cJ6_bitCount_0f7a4 17 = .ok (.iushr, 1) := by decide +kernel
theorem dJ6_bitCount_0f7a4_18 : decode cJ6_bitCount_0f7a4 18 = .ok (.ldc_w 266, 3) := by decide +kernel
theorem dJ6_bitCount_0f7a4_21 : decode cJ6_bitCount_0f7a4 21 = .ok (.iand, 1) := by decide +kernel
theorem dJ6_bitCount_0f7a4_22 : decode cJ6_bitCount_0f7a4 22 = .ok (.iadd, 1) := by decide +kernel
theorem dJ6_bitCount_0f7a4_23 : decode cJ6_bitCount_0f7a4 23 = .ok (.istore_n 0, 1) := by decide +kernel
theorem dJ6_bitCount_0f7a4_24 : decode cJ6_bitCount_0f7a4 24 = .ok (.iload_n 0, 1) := by decide +kernel
theorem dJ6_bitCount_0f7a4_25 : decode cJ6_bitCount_0f7a4 25 = .ok (.iload_n 0, 1) := by decide +kernel
theorem dJ6_bitCount_0f7a4_26 : decode cJ6_bitCount_0f7a4 26 = .ok (.iconst 4, 1) := by decide +kernel
theorem dJ6_bitCount_0f7a4_27 : decode cJ6_bitCount_0f7a4 27 = .ok (.iushr, 1) := by decide +kernel
theorem dJ6_bitCount_0f7a4_28 : decode cJ6_bitCount_0f7a4 28 = .ok (.iadd, 1) := by decide +kernel
theorem dJ6_bitCount_0f7a4_29 : decode cJ6_bitCount_0f7a4 29 = .ok (.ldc_w 267, 3) := by decide +kernel
theorem dJ6_bitCount_0f7a4_32 : decode cJ6_bitCount_0f7a4 32 = .ok (.iand, 1) := by decide +kernel
theorem dJ6_bitCount_0f7a4_33 : decode cJ6_bitCount_0f7a4 33 = .ok (.istore_n 0, 1) := by decide +kernel
theorem dJ6_bitCount_0f7a4_34 : decode cJ6_bitCount_0f7a4 34 = .ok (.iload_n 0, 1) := by decide +kernel
theorem dJ6_bitCount_0f7a4_35 : decode cJ6_bitCount_0f7a4 35 = .ok (.iload_n 0, 1) := by decide +kernel
theorem dJ6_bitCount_0f7a4_36 : decode cJ6_bitCount_0f7a4 36 = .ok (.bipush 8, 2) := by decide +kernel
theorem dJ6_bitCount_0f7a4_38 : decode cJ6_bitCount_0f7a4 38 = .ok (.iushr, 1) := by decide +kernel
theorem dJ6_bitCount_0f7a4_39 : decode cJ6_bitCount_0f7a4 39 = .ok (.iadd, 1) := by decide +kernel
theorem dJ6_bitCount_0f7a4_40 : decode cJ6_bitCount_0f7a4 40 = .ok (.istore_n 0, 1) := by decide +kernel
theorem dJ6_bitCount_0f7a4_41 : decode cJ6_bitCount_0f7a4 41 = .ok (.iload_n 0, 1) := by decide +kernel
theorem dJ6_bitCount_0f7a4_42 : decode cJ6_bitCount_0f7a4 42 = .ok (.iload_n 0, 1) := by decide +kernel
theorem dJ6_bitCount_0f7a4_43 : decode cJ6_bitCount_0f7a4 43 = .ok (.bipush 16, 2) := by decide +kernel
theorem dJ6_bitCount_0f7a4_45 : decode cJ6_bitCount_0f7a4 45 = .ok (.iushr, 1) := by decide +kernel
theorem dJ6_bitCount_0f7a4_46 : decode cJ6_bitCount_0f7a4 46 = .ok (.iadd, 1) := by decide +kernel
theorem dJ6_bitCount_0f7a4_47 : decode cJ6_bitCount_0f7a4 47 = .ok (.istore_n 0, 1) := by decide +kernel
theorem dJ6_bitCount_0f7a4_48 : decode cJ6_bitCount_0f7a4 48 = .ok (.iload_n 0, 1) := by decide +kernel
theorem dJ6_bitCount_0f7a4_49 : decode cJ6_bitCount_0f7a4 49 = .ok (.bipush 63, 2) := by decide +kernel
theorem dJ6_bitCount_0f7a4_51 : decode cJ6_bitCount_0f7a4 51 = .ok (.iand, 1) := by decide +kernel
theorem dJ6_bitCount_0f7a4_52 : decode cJ6_bitCount_0f7a4 52 = .ok (.ireturn, 1) := by decide +kernel
theorem dJ9_floorMod_7cf53_0 : decode cJ9_floorMod_7cf53 0 = .ok (.iload_n 0, 1) := by decide +kernel
theorem dJ9_floorMod_7cf53_1 : decode cJ9_floorMod_7cf53 1 = .ok (.iload_n 1, 1) := by decide +kernel
theorem dJ9_floorMod_7cf53_2 : decode cJ9_floorMod_7cf53 2 = .ok (.irem, 1) := by decide +kernel
theorem dJ9_floorMod_7cf53_3 : decode cJ9_floorMod_7cf53 3 = .ok (.istore_n 2, 1) := by decide +kernel
theorem dJ9_floorMod_7cf53_4 : decode cJ9_floorMod_7cf53 4 = .ok (.iload_n 0, 1) := by decide +kernel
theorem dJ9_floorMod_7cf53_5 : decode cJ9_floorMod_7cf53 5 = .ok (.iload_n 1, 1) := by decide +kernel
theorem dJ9_floorMod_7cf53_6 : decode cJ9_floorMod_7cf53 6 = .ok (.ixor, 1) := by decide +kernel
theorem dJ9_floorMod_7cf53_7 : decode cJ9_floorMod_7cf53 7 = .ok (.ifCond .ge 11, 3) := by decide +kernel
theorem dJ9_floorMod_7cf53_10 : decode cJ9_floorMod_7cf53 10 = .ok (.iload_n 2, 1) := by decide +kernel
theorem dJ9_floorMod_7cf53_11 : decode cJ9_floorMod_7cf53 11 = .ok (.ifCond .eq 7, 3) := by decide +kernel
theorem dJ9_floorMod_7cf53_14 : decode cJ9_floorMod_7cf53 14 = .ok (.iload_n 2, 1) := by decide +kernel
theorem dJ9_floorMod_7cf53_15 : decode cJ9_floorMod_7cf53 15 = .ok (.iload_n 1, 1) := by decide +kernel
theorem dJ9_floorMod_7cf53_16 : decode cJ9_floorMod_7cf53 16 = .ok (.iadd, 1) := by decide +kernel
theorem dJ9_floorMod_7cf53_17 : decode cJ9_floorMod_7cf53 17 = .ok (.ireturn, 1) := by decide +kernel
theorem dJ9_floorMod_7cf53_18 : decode cJ9_floorMod_7cf53 18 = .ok (.iload_n 2, 1) := by decide +kernel
theorem dJ9_floorMod_7cf53_19 : decode cJ9_floorMod_7cf53 19 = .ok (.ireturn, 1) := by decide +kernel
theorem dJ9_abs_0f7a4_0 : decode cJ9_abs_0f7a4 0 = .ok (.iload_n 0, 1) := by decide +kernel
theorem dJ9_abs_0f7a4_1 : decode cJ9_abs_0f7a4 1 = .ok (.ifCond .ge 8, 3) := by decide +kernel
theorem dJ9_abs_0f7a4_4 : decode cJ9_abs_0f7a4 4 = .ok (.iload_n 0, 1) := by decide +kernel
theorem dJ9_abs_0f7a4_5 : decode cJ9_abs_0f7a4 5 = .ok (.ineg, 1) := by decide +kernel
theorem dJ9_abs_0f7a4_6 : decode cJ9_abs_0f7a4 6 = .ok (.goto 4, 3) := by decide +kernel
theorem dJ9_abs_0f7a4_9 : decode cJ9_abs_0f7a4 9 = .ok (.iload_n 0, 1) := by decide +kernel
theorem dJ9_abs_0f7a4_10 : decode cJ9_abs_0f7a4 10 = .ok (.ireturn, 1) := by decide +kernel
theorem dJ9_max_7cf53_0 : decode cJ9_max_7cf53 0 = .ok (.iload_n 0, 1) := by decide +kernel
theorem dJ9_max_7cf53_1 : decode cJ9_max_7cf53 1 = .ok (.iload_n 1, 1) := by decide +kernel
theorem dJ9_max_7cf53_2 : decode cJ9_max_7cf53 2 = .ok (.if_icmp .lt 7, 3) := by decide +kernel
theorem dJ9_max_7cf53_5 : decode cJ9_max_7cf53 5 = .ok (.iload_n 0, 1) := by decide +kernel
theorem dJ9_max_7cf53_6 : decode cJ9_max_7cf53 6 = .ok (.goto 4, 3) := by decide +kernel
theorem dJ9_max_7cf53_9 : decode cJ9_max_7cf53 9 = .ok (.iload_n 1, 1) := by decide +kernel
theorem dJ9_max_7cf53_10 : decode cJ9_max_7cf53 10 = .ok (.ireturn, 1) := by decide +kernel
theorem dJ9_min_7cf53_0 : decode cJ9_min_7cf53 0 = .ok (.iload_n 0, 1) := by decide +kernel
theorem dJ9_min_7cf53_1 : decode cJ9_min_7cf53 1 = .ok (.iload_n 1, 1) := by decide +kernel
theorem dJ9_min_7cf53_2 : decode cJ9_min_7cf53 2 = .ok (.if_icmp .gt 7, 3) := by decide +kernel
theorem dJ9_min_7cf53_5 : decode cJ9_min_7cf53 5 = .ok (.iload_n 0, 1) := by decide +kernel
theorem dJ9_min_7cf53_6 : decode cJ9_min_7cf53 6 = .ok (.goto 4, 3) := by decide +kernel
theorem dJ9_min_7cf53_9 : decode cJ9_min_7cf53 9 = .ok (.iload_n 1, 1) := by decide +kernel
theorem dJ9_min_7cf53_10 : decode cJ9_min_7cf53 10 = .ok (.ireturn, 1) := by decide +kernel
