theorem dX6_startAnew_10 : decode cX6_startAnew 10 = .ok (.aload_n 0, 1) := by decide +kernel
theorem dX6_startAnew_11 : decode cX6_startAnew 11 = .ok (.iconst 0, 1) := by decide +kernel
theorem dX6_startAnew_12 : decode cX6_startAnew 12 = .ok (.putfield 44, 3) := by decide +kernel
theorem dX6_startAnew_15 : decode cX6_startAnew 15 = .ok (.return_, 1) := by decide +kernel
theorem dX6_add_0 : decode cX6_add 0 = .ok (.aload_n 0, 1) := by decide +kernel
theorem dX6_add_1 : decode cX6_add 1 = .ok (.getfield 15, 3) := by decide +kernel
theorem dX6_add_4 : decode cX6_add 4 = .ok (.bipush 12, 2) := by decide +kernel
theorem dX6_add_6 : decode cX6_add 6 = .ok (.if_icmp .lt 6, 3) := by decide +kernel
theorem dX6_add_9 : decode cX6_add 9 = .ok (.bipush (-4), 2) := by decide +kernel
theorem dX6_add_11 : decode cX6_add 11 = .ok (.ireturn, 1) := by decide +kernel
theorem dX6_add_12 : decode cX6_add 12 = .ok (.aload_n 0, 1) := by decide +kernel
theorem dX6_add_13 : decode cX6_add 13 = .ok (.getfield 18, 3) := by decide +kernel
theorem dX6_add_16 : decode cX6_add 16 = .ok (.aload_n 0, 1) := by decide +kernel
theorem dX6_add_17 : decode cX6_add 17 = .ok (.getfield 15, 3) := by decide +kernel
theorem dX6_add_20 : decode cX6_add 20 = .ok (.iload_n 1, 1) := by decide +kernel
theorem dX6_add_21 : decode cX6_add 21 = .ok (.iastore, 1) := by decide +kernel
theorem dX6_add_22 : decode cX6_add 22 = .ok (.aload_n 0, 1) := by decide +kernel
theorem dX6_add_23 : decode cX6_add 23 = .ok (.getfield 22, 3) := by decide +kernel
theorem dX6_add_26 : decode cX6_add 26 = .ok (.aload_n 0, 1) := by decide +kernel
theorem dX6_add_27 : decode cX6_add 27 = .ok (.getfield 15, 3) := by decide +kernel
theorem dX6_add_30 : decode cX6_add 30 = .ok (.iload_n 2, 1) := by decide +kernel
theorem dX6_add_31 : decode cX6_add 31 = .ok (.iastore, 1) := by decide +kernel
theorem dX6_add_32 : decode cX6_add 32 = .ok (.aload_n 0, 1) := by decide +kernel
theorem dX6_add_33 : decode cX6_add 33 = .ok (.getfield 25, 3) := by decide +kernel
theorem dX6_add_36 : decode cX6_add 36 = .ok (.aload_n 0, 1) := by decide +kernel
theorem dX6_add_37 : decode cX6_add 37 = .ok (.getfield 15, 3) := by decide +kernel
theorem dX6_add_40 : decode cX6_add 40 = .ok (.iload_n 3, 1) := by decide +kernel
theorem dX6_add_41 : decode cX6_add 41 = .ok (.iastore, 1) := by decide +kernel
theorem dX6_add_42 : decode cX6_add 42 = .ok (.aload_n 0, 1) := by decide +kernel
theorem dX6_add_43 : decode cX6_add 43 = .ok (.getfield 28, 3) := by decide +kernel
theorem dX6_add_46 : decode cX6_add 46 = .ok (.aload_n 0, 1) := by decide +kernel
theorem dX6_add_47 : decode cX6_add 47 = .ok (.getfield 15, 3) := by decide +kernel
theorem dX6_add_50 : decode cX6_add 50 = .ok (.iload 4, 2) := by decide +kernel
theorem dX6_add_52 : decode cX6_add 52 = .ok (.iastore, 1) := by decide +kernel
theorem dX6_add_53 : decode cX6_add 53 = .ok (.aload_n 0, 1) := by decide +kernel
theorem dX6_add_54 : decode cX6_add 54 = .ok (.iconst 0, 1) := by decide +kernel
theorem dX6_add_55 : decode cX6_add 55 = .ok (.putfield 44, 3) := by decide +kernel
theorem dX6_add_58 : decode cX6_add 58 = .ok (.aload_n 0, 1) := by decide +kernel
theorem dX6_add_59 : decode cX6_add 59 = .ok (.dup, 1) := by decide +kernel
theorem dX6_add_60 : decode cX6_add 60 = .ok (.getfield 15, 3) := by decide +kernel
theorem dX6_add_63 : decode cX6_add 63 = .ok (.dup_x1, 1) := by decide +kernel
theorem dX6_add_64 : decode cX6_add 64 = .ok (.iconst 1, 1) := by decide +kernel
theorem dX6_add_65 : decode cX6_add 65 = .ok (.iadd, 1) := by decide +kernel
theorem dX6_add_66 : decode cX6_add 66 = .ok (.putfield 15, 3) := by decide +kernel
theorem dX6_add_69 : decode cX6_add 69 = .ok (.ireturn, 1) := by decide +kernel
theorem dX6_removeLatest_0 : decode cX6_removeLatest 0 = .ok (.aload_n 0, 1) := by decide +kernel
theorem dX6_removeLatest_1 : decode cX6_removeLatest 1 = .ok (.getfield 15, 3) := by decide +kernel
theorem dX6_removeLatest_4 : decode cX6_removeLatest 4 = .ok (.ifCond .ne 5, 3) := by decide +kernel
theorem dX6_removeLatest_7 : decode cX6_removeLatest 7 = .ok (.iconst (-1), 1) := by decide +kernel
theorem dX6_removeLatest_8 : decode cX6_removeLatest 8 = .ok (.ireturn, 1) := by decide +kernel
theorem dX6_removeLatest_9 : decode cX6_removeLatest 9 = .ok (.aload_n 0, 1) := by decide +kernel
theorem dX6_removeLatest_10 : decode cX6_removeLatest 10 = .ok (.iconst 0, 1) := by decide +kernel
theorem dX6_removeLatest_11 : decode cX6_removeLatest 11 = .ok (.putfield 44, 3) := by decide +kernel
theorem dX6_removeLatest_14 : decode cX6_removeLatest 14 = .ok (.aload_n 0, 1) := by decide +kernel
theorem dX6_removeLatest_15 : decode cX6_removeLatest 15 = .ok (.dup, 1) := by decide +kernel
theorem dX6_removeLatest_16 : decode cX6_removeLatest 16 = .ok (.getfield 15, 3) := by decide +kernel
theorem dX6_removeLatest_19 : decode cX6_removeLatest 19 = .ok (.iconst 1, 1) := by decide +kernel
theorem dX6_removeLatest_20 : decode cX6_removeLatest 20 = .ok (.isub, 1) := by decide +kernel
theorem dX6_removeLatest_21 : decode cX6_removeLatest 21 = .ok (.dup_x1, 1) := by decide +kernel
theorem dX6_removeLatest_22 : decode cX6_removeLatest 22 = .ok (.putfield 15, 3) := by decide +kernel
theorem dX6_removeLatest_25 : decode cX6_removeLatest 25 = .ok (.ireturn, 1) := by decide +kernel
theorem dX6_joins_0 : decode cX6_joins 0 = .ok (.aload_n 0, 1) := by decide +kernel
theorem dX6_joins_1 : decode cX6_joins 1 = .ok (.iload_n 1, 1) := by decide +kernel
theorem dX6_joins_2 : decode cX6_joins 2 = .ok (.iload_n 2, 1) := by decide +kernel
theorem dX6_joins_3 : decode cX6_joins 3 = .ok (.invokevirtual 52, 3) := by decide +kernel
theorem dX6_joins_6 : decode cX6_joins 6 = .ok (.bipush (-6), 2) := by decide +kernel
theorem dX6_joins_8 : decode cX6_joins 8 = .ok (.if_icmp .eq 7, 3) := by decide +kernel
theorem dX6_joins_11 : decode cX6_joins 11 = .ok (.iconst 1, 1) := by decide +kernel
theorem dX6_joins_12 : decode cX6_joins 12 = .ok (.goto 4, 3) := by decide +kernel
theorem dX6_joins_15 : decode cX6_joins 15 = .ok (.iconst 0, 1) := by decide +kernel
theorem dX6_joins_16 : decode cX6_joins 16 = .ok (.ireturn, 1) := by decide +kernel
theorem dX6_firstUp_0 : decode cX6_firstUp 0 = .ok (.aload_n 0, 1) := by decide +kernel
theorem dX6_firstUp_1 : decode cX6_firstUp 1 = .ok (.iload_n 1, 1) := by decide +kernel
theorem dX6_firstUp_2 : decode cX6_firstUp 2 = .ok (.iload_n 2, 1) := by decide +kernel
theorem dX6_firstUp_3 : decode cX6_firstUp 3 = .ok (.invokevirtual 52, 3) := by decide +kernel
theorem dX6_firstUp_6 : decode cX6_firstUp 6 = .ok (.istore_n 3, 1) := by decide +kernel
theorem dX6_firstUp_7 : decode cX6_firstUp 7 = .ok (.iload_n 3, 1) := by decide +kernel
theorem dX6_firstUp_8 : decode cX6_firstUp 8 = .ok (.bipush (-6), 2) := by decide +kernel
theorem dX6_firstUp_10 : decode cX6_firstUp 10 = .ok (.if_icmp .ne 5, 3) := by decide +kernel
theorem dX6_firstUp_13 : decode cX6_firstUp 13 = .ok (.lconst 0, 1) := by decide +kernel
theorem dX6_firstUp_14 : decode cX6_firstUp 14 = .ok (.lreturn, 1) := by decide +kernel
theorem dX6_firstUp_15 : decode cX6_firstUp 15 = .ok (.aload_n 0, 1) := by decide +kernel
theorem dX6_firstUp_16 : decode cX6_firstUp 16 = .ok (.getfield 18, 3) := by decide +kernel
theorem dX6_firstUp_19 : decode cX6_firstUp 19 = .ok (.iload_n 3, 1) := by decide +kernel
theorem dX6_firstUp_20 : decode cX6_firstUp 20 = .ok (.iaload, 1) := by decide +kernel
theorem dX6_firstUp_21 : decode cX6_firstUp 21 = .ok (.iload_n 1, 1) := by decide +kernel
theorem dX6_firstUp_22 : decode cX6_firstUp 22 = .ok (.if_icmp .ne 13, 3) := by decide +kernel
theorem dX6_firstUp_25 : decode cX6_firstUp 25 = .ok (.aload_n 0, 1) := by decide +kernel
theorem dX6_firstUp_26 : decode cX6_firstUp 26 = .ok (.getfield 25, 3) := by decide +kernel
theorem dX6_firstUp_29 : decode cX6_firstUp 29 = .ok (.iload_n 3, 1) := by decide +kernel
theorem dX6_firstUp_30 : decode cX6_firstUp 30 = .ok (.iaload, 1) := by decide +kernel
theorem dX6_firstUp_31 : decode cX6_firstUp 31 = .ok (.i2l, 1) := by decide +kernel
theorem dX6_firstUp_32 : decode cX6_firstUp 32 = .ok (.goto 11, 3) := by decide +kernel
theorem dX6_firstUp_35 : decode cX6_firstUp 35 = .ok (.aload_n 0, 1) := by decide +kernel
theorem dX6_firstUp_36 : decode cX6_firstUp 36 = .ok (.getfield 25, 3) := by decide +kernel
theorem dX6_firstUp_39 : decode cX6_firstUp 39 = .ok (.iload_n 3, 1) := by decide +kernel
theorem dX6_firstUp_40 : decode cX6_firstUp 40 = .ok (.iaload, 1) := by decide +kernel
theorem dX6_firstUp_41 : decode cX6_firstUp 41 = .ok (.ineg, 1) := by decide +kernel
theorem dX6_firstUp_42 : decode cX6_firstUp 42 = .ok (.i2l, 1) := by decide +kernel
theorem dX6_firstUp_43 : decode cX6_firstUp 43 = .ok (.lreturn, 1) := by decide +kernel
theorem dX6_firstBetween_0 : decode cX6_firstBetween 0 = .ok (.iconst 0, 1) := by decide +kernel
theorem dX6_firstBetween_1 : decode cX6_firstBetween 1 = .ok (.istore_n 3, 1) := by decide +kernel
theorem dX6_firstBetween_2 : decode cX6_firstBetween 2 = .ok (.iload_n 3, 1) := by decide +kernel
theorem dX6_firstBetween_3 : decode cX6_firstBetween 3 = .ok (.aload_n 0, 1) := by decide +kernel
theorem dX6_firstBetween_4 : decode cX6_firstBetween 4 = .ok (.getfield 15, 3) := by decide +kernel
theorem dX6_firstBetween_7 : decode cX6_firstBetween 7 = .ok (.if_icmp .ge 51, 3) := by decide +kernel
theorem dX6_firstBetween_10 : decode cX6_firstBetween 10 = .ok (.aload_n 0, 1) := by decide +kernel
theorem dX6_firstBetween_11 : decode cX6_firstBetween 11 = .ok (.getfield 18, 3) := by decide +kernel
theorem dX6_firstBetween_14 : decode cX6_firstBetween 14 = .ok (.iload_n 3, 1) := by decide +kernel
theorem dX6_firstBetween_15 : decode cX6_firstBetween 15 = .ok (.iaload, 1) := by decide +kernel
theorem dX6_firstBetween_16 : decode cX6_firstBetween 16 = .ok (.iload_n 1, 1) := by decide +kernel
theorem dX6_firstBetween_17 : decode cX6_firstBetween 17 = .ok (.if_icmp .ne 13, 3) := by decide +kernel
theorem dX6_firstBetween_20 : decode cX6_firstBetween 20 = .ok (.aload_n 0, 1) := by decide +kernel
theorem dX6_firstBetween_21 : decode cX6_firstBetween 21 = .ok (.getfield 22, 3) := by decide +kernel
theorem dX6_firstBetween_24 : decode cX6_firstBetween 24 = .ok (.iload_n 3, 1) := by decide +kernel
theorem dX6_firstBetween_25 : decode cX6_firstBetween 25 = .ok (.iaload, 1) := by decide +kernel
theorem dX6_firstBetween_26 : decode cX6_firstBetween 26 = .ok (.iload_n 2, 1) := by decide +kernel
theorem dX6_firstBetween_27 : decode cX6_firstBetween 27 = .ok (.if_icmp .eq 23, 3) := by decide +kernel
theorem dX6_firstBetween_30 : decode cX6_firstBetween 30 = .ok (.aload_n 0, 1) := by decide +kernel
theorem dX6_firstBetween_31 : decode cX6_firstBetween 31 = .ok (.getfield 18, 3) := by decide +kernel
theorem dX6_firstBetween_34 : decode cX6_firstBetween 34 = .ok (.iload_n 3, 1) := by decide +kernel
theorem dX6_firstBetween_35 : decode cX6_firstBetween 35 = .ok (.iaload, 1) := by decide +kernel
theorem dX6_firstBetween_36 : decode cX6_firstBetween 36 = .ok (.iload_n 2, 1) := by decide +kernel
theorem dX6_firstBetween_37 : decode cX6_firstBetween 37 = .ok (.if_icmp .ne 15, 3) := by decide +kernel
theorem dX6_firstBetween_40 : decode cX6_firstBetween 40 = .ok (.aload_n 0, 1) := by decide +kernel
theorem dX6_firstBetween_41 : decode cX6_firstBetween 41 = .ok (.getfield 22, 3) := by decide +kernel
theorem dX6_firstBetween_44 : decode cX6_firstBetween 44 = .ok (.iload_n 3, 1) := by decide +kernel
theorem dX6_firstBetween_45 : decode cX6_firstBetween 45 = .ok (.iaload, 1) := by decide +kernel
theorem dX6_firstBetween_46 : decode cX6_firstBetween 46 = .ok (.iload_n 1, 1) := by decide +kernel
theorem dX6_firstBetween_47 : decode cX6_firstBetween 47 = .ok (.if_icmp .ne 5, 3) := by decide +kernel
theorem dX6_firstBetween_50 : decode cX6_firstBetween 50 = .ok (.iload_n 3, 1) := by decide +kernel
theorem dX6_firstBetween_51 : decode cX6_firstBetween 51 = .ok (.ireturn, 1) := by decide +kernel
theorem dX6_firstBetween_52 : decode cX6_firstBetween 52 = .ok (.iinc 3 1, 3) := by decide +kernel
theorem dX6_firstBetween_55 : decode cX6_firstBetween 55 = .ok (.goto (-53), 3) := by decide +kernel
theorem dX6_firstBetween_58 : decode cX6_firstBetween 58 = .ok (.bipush (-6), 2) := by decide +kernel
theorem dX6_firstBetween_60 : decode cX6_firstBetween 60 = .ok (.ireturn, 1) := by decide +kernel
theorem dX6_heightTop_0 : decode cX6_heightTop 0 = .ok (.aload_n 0, 1) := by decide +kernel
theorem dX6_heightTop_1 : decode cX6_heightTop 1 = .ok (.getfield 36, 3) := by decide +kernel
theorem dX6_heightTop_4 : decode cX6_heightTop 4 = .ok (.iload_n 1, 1) := by decide +kernel
theorem dX6_heightTop_5 : decode cX6_heightTop 5 = .ok (.laload, 1) := by decide +kernel
theorem dX6_heightTop_6 : decode cX6_heightTop 6 = .ok (.lreturn, 1) := by decide +kernel
theorem dX6_misfitTop_0 : decode cX6_misfitTop 0 = .ok (.aload_n 0, 1) := by decide +kernel
theorem dX6_misfitTop_1 : decode cX6_misfitTop 1 = .ok (.getfield 36, 3) := by decide +kernel
theorem dX6_misfitTop_4 : decode cX6_misfitTop 4 = .ok (.aload_n 0, 1) := by decide +kernel
theorem dX6_misfitTop_5 : decode cX6_misfitTop 5 = .ok (.getfield 22, 3) := by decide +kernel
theorem dX6_misfitTop_8 : decode cX6_misfitTop 8 = .ok (.iload_n 1, 1) := by decide +kernel
theorem dX6_misfitTop_9 : decode cX6_misfitTop 9 = .ok (.iaload, 1) := by decide +kernel
theorem dX6_misfitTop_10 : decode cX6_misfitTop 10 = .ok (.laload, 1) := by decide +kernel
theorem dX6_misfitTop_11 : decode cX6_misfitTop 11 = .ok (.aload_n 0, 1) := by decide +kernel
theorem dX6_misfitTop_12 : decode cX6_misfitTop 12 = .ok (.getfield 36, 3) := by decide +kernel
theorem dX6_misfitTop_15 : decode cX6_misfitTop 15 = .ok (.aload_n 0, 1) := by decide +kernel
theorem dX6_misfitTop_16 : decode cX6_misfitTop 16 = .ok (.getfield 18, 3) := by decide +kernel
theorem dX6_misfitTop_19 : decode cX6_misfitTop 19 = .ok (.iload_n 1, 1) := by decide +kernel
theorem dX6_misfitTop_20 : decode cX6_misfitTop 20 = .ok (.iaload, 1) := by decide +kernel
theorem dX6_misfitTop_21 : decode cX6_misfitTop 21 = .ok (.laload, 1) := by decide +kernel
theorem dX6_misfitTop_22 : decode cX6_misfitTop 22 = .ok (.lsub, 1) := by decide +kernel
theorem dX6_misfitTop_23 : decode cX6_misfitTop 23 = .ok (.aload_n 0, 1) := by decide +kernel
theorem dX6_misfitTop_24 : decode cX6_misfitTop 24 = .ok (.getfield 25, 3) := by decide +kernel
theorem dX6_misfitTop_27 : decode cX6_misfitTop 27 = .ok (.iload_n 1, 1) := by decide +kernel
theorem dX6_misfitTop_28 : decode cX6_misfitTop 28 = .ok (.iaload, 1) := by decide +kernel
theorem dX6_misfitTop_29 : decode cX6_misfitTop 29 = .ok (.i2l, 1) := by decide +kernel
theorem dX6_misfitTop_30 : decode cX6_misfitTop 30 = .ok (.aload_n 0, 1) := by decide +kernel
theorem dX6_misfitTop_31 : decode cX6_misfitTop 31 = .ok (.getfield 40, 3) := by decide +kernel
theorem dX6_misfitTop_34 : decode cX6_misfitTop 34 = .ok (.lmul, 1) := by decide +kernel
theorem dX6_misfitTop_35 : decode cX6_misfitTop 35 = .ok (.lsub, 1) := by decide +kernel
theorem dX6_misfitTop_36 : decode cX6_misfitTop 36 = .ok (.lreturn, 1) := by decide +kernel
theorem dX6_bottom_0 : decode cX6_bottom 0 = .ok (.aload_n 0, 1) := by decide +kernel
theorem dX6_bottom_1 : decode cX6_bottom 1 = .ok (.getfield 40, 3) := by decide +kernel
theorem dX6_bottom_4 : decode cX6_bottom 4 = .ok (.lreturn, 1) := by decide +kernel
theorem dX6_greatestMisfit_0 : decode cX6_greatestMisfit 0 = .ok (.iconst 0, 1) := by decide +kernel
theorem dX6_greatestMisfit_1 : decode cX6_greatestMisfit 1 = .ok (.istore_n 1, 1) := by decide +kernel
theorem dX6_greatestMisfit_2 : decode cX6_greatestMisfit 2 = .ok (.iconst 1, 1) := by decide +kernel
theorem dX6_greatestMisfit_3 : decode cX6_greatestMisfit 3 = .ok (.istore_n 2, 1) := by decide +kernel
theorem dX6_greatestMisfit_4 : decode cX6_greatestMisfit 4 = .ok (.iload_n 2, 1) := by decide +kernel
theorem dX6_greatestMisfit_5 : decode cX6_greatestMisfit 5 = .ok (.aload_n 0, 1) := by decide +kernel
theorem dX6_greatestMisfit_6 : decode cX6_greatestMisfit 6 = .ok (.getfield 15, 3) := by decide +kernel
theorem dX6_greatestMisfit_9 : decode cX6_greatestMisfit 9 = .ok (.if_icmp .ge 31, 3) := by decide +kernel
theorem dX6_greatestMisfit_12 : decode cX6_greatestMisfit 12 = .ok (.aload_n 0, 1) := by decide +kernel
theorem dX6_greatestMisfit_13 : decode cX6_greatestMisfit 13 = .ok (.iload_n 2, 1) := by decide +kernel
theorem dX6_greatestMisfit_14 : decode cX6_greatestMisfit 14 = .ok (.invokevirtual 56, 3) := by decide +kernel
theorem dX6_greatestMisfit_17 : decode cX6_greatestMisfit 17 = .ok (.invokestatic 60, 3) := by decide +kernel
theorem dX6_greatestMisfit_20 : decode cX6_greatestMisfit 20 = .ok (.aload_n 0, 1) := by decide +kernel
theorem dX6_greatestMisfit_21 : decode cX6_greatestMisfit 21 = .ok (.iload_n 1, 1) := by decide +kernel
theorem dX6_greatestMisfit_22 : decode cX6_greatestMisfit 22 = .ok (.invokevirtual 56, 3) := by decide +kernel
theorem dX6_greatestMisfit_25 : decode cX6_greatestMisfit 25 = .ok (.invokestatic 60, 3) := by decide +kernel
theorem dX6_greatestMisfit_28 : decode cX6_greatestMisfit 28 = .ok (.lcmp, 1) := by decide +kernel
theorem dX6_greatestMisfit_29 : decode cX6_greatestMisfit 29 = .ok (.ifCond .le 5, 3) := by decide +kernel
theorem dX6_greatestMisfit_32 : decode cX6_greatestMisfit 32 = .ok (.iload_n 2, 1) := by decide +kernel
theorem dX6_greatestMisfit_33 : decode cX6_greatestMisfit 33 = .ok (.istore_n 1, 1) := by decide +kernel
theorem dX6_greatestMisfit_34 : decode cX6_greatestMisfit 34 = .ok (.iinc 2 1, 3) := by decide +kernel
theorem dX6_greatestMisfit_37 : decode cX6_greatestMisfit 37 = .ok (.goto (-33), 3) := by decide +kernel
theorem dX6_greatestMisfit_40 : decode cX6_greatestMisfit 40 = .ok (.iload_n 1, 1) := by decide +kernel
theorem dX6_greatestMisfit_41 : decode cX6_greatestMisfit 41 = .ok (.ireturn, 1) := by decide +kernel
theorem dX6_solve_0 : decode cX6_solve 0 = .ok (.aload_n 0, 1) := by decide +kernel
theorem dX6_solve_1 : decode cX6_solve 1 = .ok (.getfield 44, 3) := by decide +kernel
theorem dX6_solve_4 : decode cX6_solve 4 = .ok (.ifCond .ne 75, 3) := by decide +kernel
theorem dX6_solve_7 : decode cX6_solve 7 = .ok (.aload_n 0, 1) := by decide +kernel
theorem dX6_solve_8 : decode cX6_solve 8 = .ok (.getfield 9, 3) := by decide +kernel
theorem dX6_solve_11 : decode cX6_solve 11 = .ok (.iconst 1, 1) := by decide +kernel
theorem dX6_solve_12 : decode cX6_solve 12 = .ok (.isub, 1) := by decide +kernel
theorem dX6_solve_13 : decode cX6_solve 13 = .ok (.istore_n 1, 1) := by decide +kernel
theorem dX6_solve_14 : decode cX6_solve 14 = .ok (.aload_n 0, 1) := by decide +kernel
theorem dX6_solve_15 : decode cX6_solve 15 = .ok (.iload_n 1, 1) := by decide +kernel
theorem dX6_solve_16 : decode cX6_solve 16 = .ok (.invokevirtual 66, 3) := by decide +kernel
theorem dX6_solve_19 : decode cX6_solve 19 = .ok (.aload_n 0, 1) := by decide +kernel
theorem dX6_solve_20 : decode cX6_solve 20 = .ok (.aload_n 0, 1) := by decide +kernel
theorem dX6_solve_21 : decode cX6_solve 21 = .ok (.getfield 33, 3) := by decide +kernel
theorem dX6_solve_24 : decode cX6_solve 24 = .ok (.iload_n 1, 1) := by decide +kernel
theorem dX6_solve_25 : decode cX6_solve 25 = .ok (.bipush (-6), 2) := by decide +kernel
theorem dX6_solve_27 : decode cX6_solve 27 = .ok (.iconst 0, 1) := by decide +kernel
theorem dX6_solve_28 : decode cX6_solve 28 = .ok (.iconst 0, 1) := by decide +kernel
theorem dX6_solve_29 : decode cX6_solve 29 = .ok (.invokestatic 70, 3) := by decide +kernel
theorem dX6_solve_32 : decode cX6_solve 32 = .ok (.putfield 40, 3) := by decide +kernel
theorem dX6_solve_35 : decode cX6_solve 35 = .ok (.aload_n 0, 1) := by decide +kernel
theorem dX6_solve_36 : decode cX6_solve 36 = .ok (.getfield 36, 3) := by decide +kernel
theorem dX6_solve_39 : decode cX6_solve 39 = .ok (.iconst 0, 1) := by decide +kernel
theorem dX6_solve_40 : decode cX6_solve 40 = .ok (.lconst 0, 1) := by decide +kernel
theorem dX6_solve_41 : decode cX6_solve 41 = .ok (.lastore, 1) := by decide +kernel
theorem dX6_solve_42 : decode cX6_solve 42 = .ok (.iconst 0, 1) := by decide +kernel
theorem dX6_solve_43 : decode cX6_solve 43 = .ok (.istore_n 2, 1) := by decide +kernel
theorem dX6_solve_44 : decode cX6_solve 44 = .ok (.iload_n 2, 1) := by decide +kernel
theorem dX6_solve_45 : decode cX6_solve 45 = .ok (.iload_n 1, 1) := by decide +kernel
theorem dX6_solve_46 : decode cX6_solve 46 = .ok (.if_icmp .ge 28, 3) := by decide +kernel
theorem dX6_solve_49 : decode cX6_solve 49 = .ok (.aload_n 0, 1) := by decide +kernel
theorem dX6_solve_50 : decode cX6_solve 50 = .ok (.getfield 36, 3) := by decide +kernel
theorem dX6_solve_53 : decode cX6_solve 53 = .ok (.iload_n 2, 1) := by decide +kernel
theorem dX6_solve_54 : decode cX6_solve 54 = .ok (.iconst 1, 1) := by decide +kernel
theorem dX6_solve_55 : decode cX6_solve 55 = .ok (.iadd, 1) := by decide +kernel
theorem dX6_solve_56 : decode cX6_solve 56 = .ok (.aload_n 0, 1) := by decide +kernel
theorem dX6_solve_57 : decode cX6_solve 57 = .ok (.getfield 33, 3) := by decide +kernel
theorem dX6_solve_60 : decode cX6_solve 60 = .ok (.iload_n 1, 1) := by decide +kernel
theorem dX6_solve_61 : decode cX6_solve 61 = .ok (.iload_n 2, 1) := by decide +kernel
theorem dX6_solve_62 : decode cX6_solve 62 = .ok (.iconst 0, 1) := by decide +kernel
theorem dX6_solve_63 : decode cX6_solve 63 = .ok (.iconst 0, 1) := by decide +kernel
theorem dX6_solve_64 : decode cX6_solve 64 = .ok (.invokestatic 70, 3) := by decide +kernel
theorem dX6_solve_67 : decode cX6_solve 67 = .ok (.lastore, 1) := by decide +kernel
theorem dX6_solve_68 : decode cX6_solve 68 = .ok (.iinc 2 1, 3) := by decide +kernel
theorem dX6_solve_71 : decode cX6_solve 71 = .ok (.goto (-27), 3) := by decide +kernel
theorem dX6_solve_74 : decode cX6_solve 74 = .ok (.aload_n 0, 1) := by decide +kernel
theorem dX6_solve_75 : decode cX6_solve 75 = .ok (.iconst 1, 1) := by decide +kernel
theorem dX6_solve_76 : decode cX6_solve 76 = .ok (.putfield 44, 3) := by decide +kernel
theorem dX6_solve_79 : decode cX6_solve 79 = .ok (.aload_n 0, 1) := by decide +kernel
theorem dX6_solve_80 : decode cX6_solve 80 = .ok (.getfield 40, 3) := by decide +kernel
theorem dX6_solve_83 : decode cX6_solve 83 = .ok (.lconst 0, 1) := by decide +kernel
theorem dX6_solve_84 : decode cX6_solve 84 = .ok (.lcmp, 1) := by decide +kernel
theorem dX6_solve_85 : decode cX6_solve 85 = .ok (.ifCond .le 7, 3) := by decide +kernel
theorem dX6_solve_88 : decode cX6_solve 88 = .ok (.iconst 1, 1) := by decide +kernel
theorem dX6_solve_89 : decode cX6_solve 89 = .ok (.goto 4, 3) := by decide +kernel
theorem dX6_solve_92 : decode cX6_solve 92 = .ok (.iconst 0, 1) := by decide +kernel
theorem dX6_solve_93 : decode cX6_solve 93 = .ok (.ireturn, 1) := by decide +kernel
theorem dX6_fillRows_0 : decode cX6_fillRows 0 = .ok (.iconst 0, 1) := by decide +kernel
theorem dX6_fillRows_1 : decode cX6_fillRows 1 = .ok (.istore_n 2, 1) := by decide +kernel
theorem dX6_fillRows_2 : decode cX6_fillRows 2 = .ok (.iload_n 2, 1) := by decide +kernel
theorem dX6_fillRows_3 : decode cX6_fillRows 3 = .ok (.iload_n 1, 1) := by decide +kernel
theorem dX6_fillRows_4 : decode cX6_fillRows 4 = .ok (.if_icmp .ge 31, 3) := by decide +kernel
theorem dX6_fillRows_7 : decode cX6_fillRows 7 = .ok (.iconst 0, 1) := by decide +kernel
theorem dX6_fillRows_8 : decode cX6_fillRows 8 = .ok (.istore_n 3, 1) := by decide +kernel
theorem dX6_fillRows_9 : decode cX6_fillRows 9 = .ok (.iload_n 3, 1) := by decide +kernel
theorem dX6_fillRows_10 : decode cX6_fillRows 10 = .ok (.iload_n 1, 1) := by decide +kernel
theorem dX6_fillRows_11 : decode cX6_fillRows 11 = .ok (.if_icmp .gt 18, 3) := by decide +kernel
theorem dX6_fillRows_14 : decode cX6_fillRows 14 = .ok (.aload_n 0, 1) := by decide +kernel
theorem dX6_fillRows_15 : decode cX6_fillRows 15 = .ok (.getfield 33, 3) := by decide +kernel
theorem dX6_fillRows_18 : decode cX6_fillRows 18 = .ok (.iload_n 2, 1) := by decide +kernel
theorem dX6_fillRows_19 : decode cX6_fillRows 19 = .ok (.aaload, 1) := by decide +kernel
theorem dX6_fillRows_20 : decode cX6_fillRows 20 = .ok (.iload_n 3, 1) := by decide +kernel
theorem dX6_fillRows_21 : decode cX6_fillRows 21 = .ok (.lconst 0, 1) := by decide +kernel
theorem dX6_fillRows_22 : decode cX6_fillRows 22 = .ok (.lastore, 1) := by decide +kernel
theorem dX6_fillRows_23 : decode cX6_fillRows 23 = .ok (.iinc 3 1, 3) := by decide +kernel
theorem dX6_fillRows_26 : decode cX6_fillRows 26 = .ok (.goto (-17), 3) := by decide +kernel
theorem dX6_fillRows_29 : decode cX6_fillRows 29 = .ok (.iinc 2 1, 3) := by decide +kernel
theorem dX6_fillRows_32 : decode cX6_fillRows 32 = .ok (.goto (-30), 3) := by decide +kernel
theorem dX6_fillRows_35 : decode cX6_fillRows 35 = .ok (.iconst 0, 1) := by decide +kernel
theorem dX6_fillRows_36 : decode cX6_fillRows 36 = .ok (.istore_n 2, 1) := by decide +kernel
theorem dX6_fillRows_37 : decode cX6_fillRows 37 = .ok (.iload_n 2, 1) := by decide +kernel
theorem dX6_fillRows_38 : decode cX6_fillRows 38 = .ok (.aload_n 0, 1) := by decide +kernel
theorem dX6_fillRows_39 : decode cX6_fillRows 39 = .ok (.getfield 15, 3) := by decide +kernel
theorem dX6_fillRows_42 : decode cX6_fillRows 42 = .ok (.if_icmp .ge 92, 3) := by decide +kernel
theorem dX6_fillRows_45 : decode cX6_fillRows 45 = .ok (.aload_n 0, 1) := by decide +kernel
theorem dX6_fillRows_46 : decode cX6_fillRows 46 = .ok (.aload_n 0, 1) := by decide +kernel
theorem dX6_fillRows_47 : decode cX6_fillRows 47 = .ok (.getfield 22, 3) := by decide +kernel
theorem dX6_fillRows_50 : decode cX6_fillRows 50 = .ok (.iload_n 2, 1) := by decide +kernel
theorem dX6_fillRows_51 : decode cX6_fillRows 51 = .ok (.iaload, 1) := by decide +kernel
theorem dX6_fillRows_52 : decode cX6_fillRows 52 = .ok (.iconst 1, 1) := by decide +kernel
theorem dX6_fillRows_53 : decode cX6_fillRows 53 = .ok (.isub, 1) := by decide +kernel
theorem dX6_fillRows_54 : decode cX6_fillRows 54 = .ok (.aload_n 0, 1) := by decide +kernel
theorem dX6_fillRows_55 : decode cX6_fillRows 55 = .ok (.getfield 18, 3) := by decide +kernel
theorem dX6_fillRows_58 : decode cX6_fillRows 58 = .ok (.iload_n 2, 1) := by decide +kernel
theorem dX6_fillRows_59 : decode cX6_fillRows 59 = .ok (.iaload, 1) := by decide +kernel
theorem dX6_fillRows_60 : decode cX6_fillRows 60 = .ok (.iconst 1, 1) := by decide +kernel
theorem dX6_fillRows_61 : decode cX6_fillRows 61 = .ok (.isub, 1) := by decide +kernel
theorem dX6_fillRows_62 : decode cX6_fillRows 62 = .ok (.aload_n 0, 1) := by decide +kernel
theorem dX6_fillRows_63 : decode cX6_fillRows 63 = .ok (.getfield 28, 3) := by decide +kernel
theorem dX6_fillRows_66 : decode cX6_fillRows 66 = .ok (.iload_n 2, 1) := by decide +kernel
theorem dX6_fillRows_67 : decode cX6_fillRows 67 = .ok (.iaload, 1) := by decide +kernel
theorem dX6_fillRows_68 : decode cX6_fillRows 68 = .ok (.aload_n 0, 1) := by decide +kernel
theorem dX6_fillRows_69 : decode cX6_fillRows 69 = .ok (.getfield 28, 3) := by decide +kernel
theorem dX6_fillRows_72 : decode cX6_fillRows 72 = .ok (.iload_n 2, 1) := by decide +kernel
theorem dX6_fillRows_73 : decode cX6_fillRows 73 = .ok (.iaload, 1) := by decide +kernel
theorem dX6_fillRows_74 : decode cX6_fillRows 74 = .ok (.i2l, 1) := by decide +kernel
theorem dX6_fillRows_75 : decode cX6_fillRows 75 = .ok (.aload_n 0, 1) := by decide +kernel
theorem dX6_fillRows_76 : decode cX6_fillRows 76 = .ok (.getfield 25, 3) := by decide +kernel
theorem dX6_fillRows_79 : decode cX6_fillRows 79 = .ok (.iload_n 2, 1) := by decide +kernel
theorem dX6_fillRows_80 : decode cX6_fillRows 80 = .ok (.iaload, 1) := by decide +kernel
theorem dX6_fillRows_81 : decode cX6_fillRows 81 = .ok (.i2l, 1) := by decide +kernel
theorem dX6_fillRows_82 : decode cX6_fillRows 82 = .ok (.lmul, 1) := by decide +kernel
theorem dX6_fillRows_83 : decode cX6_fillRows 83 = .ok (.invokevirtual 74, 3) := by decide +kernel
theorem dX6_fillRows_86 : decode cX6_fillRows 86 = .ok (.aload_n 0, 1) := by decide +kernel
theorem dX6_fillRows_87 : decode cX6_fillRows 87 = .ok (.aload_n 0, 1) := by decide +kernel
theorem dX6_fillRows_88 : decode cX6_fillRows 88 = .ok (.getfield 18, 3) := by decide +kernel
theorem dX6_fillRows_91 : decode cX6_fillRows 91 = .ok (.iload_n 2, 1) := by decide +kernel
theorem dX6_fillRows_92 : decode cX6_fillRows 92 = .ok (.iaload, 1) := by decide +kernel
theorem dX6_fillRows_93 : decode cX6_fillRows 93 = .ok (.iconst 1, 1) := by decide +kernel
theorem dX6_fillRows_94 : decode cX6_fillRows 94 = .ok (.isub, 1) := by decide +kernel
theorem dX6_fillRows_95 : decode cX6_fillRows 95 = .ok (.aload_n 0, 1) := by decide +kernel
theorem dX6_fillRows_96 : decode cX6_fillRows 96 = .ok (.getfield 22, 3) := by decide +kernel
theorem dX6_fillRows_99 : decode cX6_fillRows 99 = .ok (.iload_n 2, 1) := by decide +kernel
theorem dX6_fillRows_100 : decode cX6_fillRows 100 = .ok (.iaload, 1) := by decide +kernel
theorem dX6_fillRows_101 : decode cX6_fillRows 101 = .ok (.iconst 1, 1) := by decide +kernel
theorem dX6_fillRows_102 : decode cX6_fillRows 102 = .ok (.isub, 1) := by decide +kernel
theorem dX6_fillRows_103 : decode cX6_fillRows 103 = .ok (.aload_n 0, 1) := by decide +kernel
theorem dX6_fillRows_104 : decode cX6_fillRows 104 = .ok (.getfield 28, 3) := by decide +kernel
theorem dX6_fillRows_107 : decode cX6_fillRows 107 = .ok (.iload_n 2, 1) := by decide +kernel
theorem dX6_fillRows_108 : decode cX6_fillRows 108 = .ok (.iaload, 1) := by decide +kernel
theorem dX6_fillRows_109 : decode cX6_fillRows 109 = .ok (.aload_n 0, 1) := by decide +kernel
theorem dX6_fillRows_110 : decode cX6_fillRows 110 = .ok (.getfield 28, 3) := by decide +kernel
theorem dX6_fillRows_113 : decode cX6_fillRows 113 = .ok (.iload_n 2, 1) := by decide +kernel
theorem dX6_fillRows_114 : decode cX6_fillRows 114 = .ok (.iaload, 1) := by decide +kernel
theorem dX6_fillRows_115 : decode cX6_fillRows 115 = .ok (.i2l, 1) := by decide +kernel
theorem dX6_fillRows_116 : decode cX6_fillRows 116 = .ok (.lneg, 1) := by decide +kernel
theorem dX6_fillRows_117 : decode cX6_fillRows 117 = .ok (.aload_n 0, 1) := by decide +kernel
theorem dX6_fillRows_118 : decode cX6_fillRows 118 = .ok (.getfield 25, 3) := by decide +kernel
theorem dX6_fillRows_121 : decode cX6_fillRows 121 = .ok (.iload_n 2, 1) := by decide +kernel
theorem dX6_fillRows_122 : decode cX6_fillRows 122 = .ok (.iaload, 1) := by decide +kernel
theorem dX6_fillRows_123 : decode cX6_fillRows 123 = .ok (.i2l, 1) := by decide +kernel
theorem dX6_fillRows_124 : decode cX6_fillRows 124 = .ok (.lmul, 1) := by decide +kernel
theorem dX6_fillRows_125 : decode cX6_fillRows 125 = .ok (.invokevirtual 74, 3) := by decide +kernel
theorem dX6_fillRows_128 : decode cX6_fillRows 128 = .ok (.iinc 2 1, 3) := by decide +kernel
theorem dX6_fillRows_131 : decode cX6_fillRows 131 = .ok (.goto (-94), 3) := by decide +kernel
theorem dX6_fillRows_134 : decode cX6_fillRows 134 = .ok (.return_, 1) := by decide +kernel
theorem dX6_addToRow_0 : decode cX6_addToRow 0 = .ok (.iload_n 1, 1) := by decide +kernel
theorem dX6_addToRow_1 : decode cX6_addToRow 1 = .ok (.ifCond .ge 4, 3) := by decide +kernel
theorem dX6_addToRow_4 : decode cX6_addToRow 4 = .ok (.return_, 1) := by decide +kernel
theorem dX6_addToRow_5 : decode cX6_addToRow 5 = .ok (.aload_n 0, 1) := by decide +kernel
theorem dX6_addToRow_6 : decode cX6_addToRow 6 = .ok (.getfield 33, 3) := by decide +kernel
theorem dX6_addToRow_9 : decode cX6_addToRow 9 = .ok (.iload_n 1, 1) := by decide +kernel
theorem dX6_addToRow_10 : decode cX6_addToRow 10 = .ok (.aaload, 1) := by decide +kernel
theorem dX6_addToRow_11 : decode cX6_addToRow 11 = .ok (.iload_n 1, 1) := by decide +kernel
theorem dX6_addToRow_12 : decode cX6_addToRow 12 = .ok (.dup2, 1) := by decide +kernel
theorem dX6_addToRow_13 : decode cX6_addToRow 13 = .ok (.laload, 1) := by decide +kernel
theorem dX6_addToRow_14 : decode cX6_addToRow 14 = .ok (.iload_n 3, 1) := by decide +kernel
theorem dX6_addToRow_15 : decode cX6_addToRow 15 = .ok (.i2l, 1) := by decide +kernel
theorem dX6_addToRow_16 : decode cX6_addToRow 16 = .ok (.ladd, 1) := by decide +kernel
theorem dX6_addToRow_17 : decode cX6_addToRow 17 = .ok (.lastore, 1) := by decide +kernel
theorem dX6_addToRow_18 : decode cX6_addToRow 18 = .ok (.aload_n 0, 1) := by decide +kernel
theorem dX6_addToRow_19 : decode cX6_addToRow 19 = .ok (.getfield 33, 3) := by decide +kernel
theorem dX6_addToRow_22 : decode cX6_addToRow 22 = .ok (.iload_n 1, 1) := by decide +kernel
theorem dX6_addToRow_23 : decode cX6_addToRow 23 = .ok (.aaload, 1) := by decide +kernel
theorem dX6_addToRow_24 : decode cX6_addToRow 24 = .ok (.aload_n 0, 1) := by decide +kernel
theorem dX6_addToRow_25 : decode cX6_addToRow 25 = .ok (.getfield 9, 3) := by decide +kernel
theorem dX6_addToRow_28 : decode cX6_addToRow 28 = .ok (.iconst 1, 1) := by decide +kernel
theorem dX6_addToRow_29 : decode cX6_addToRow 29 = .ok (.isub, 1) := by decide +kernel
theorem dX6_addToRow_30 : decode cX6_addToRow 30 = .ok (.dup2, 1) := by decide +kernel
theorem dX6_addToRow_31 : decode cX6_addToRow 31 = .ok (.laload, 1) := by decide +kernel
theorem dX6_addToRow_32 : decode cX6_addToRow 32 = .ok (.lload 4, 2) := by decide +kernel
theorem dX6_addToRow_34 : decode cX6_addToRow 34 = .ok (.ladd, 1) := by decide +kernel
theorem dX6_addToRow_35 : decode cX6_addToRow 35 = .ok (.lastore, 1) := by decide +kernel
theorem dX6_addToRow_36 : decode cX6_addToRow 36 = .ok (.iload_n 2, 1) := by decide +kernel
theorem dX6_addToRow_37 : decode cX6_addToRow 37 = .ok (.ifCond .lt 16, 3) := by decide +kernel
theorem dX6_addToRow_40 : decode cX6_addToRow 40 = .ok (.aload_n 0, 1) := by decide +kernel
theorem dX6_addToRow_41 : decode cX6_addToRow 41 = .ok (.getfield 33, 3) := by decide +kernel
theorem dX6_addToRow_44 : decode cX6_addToRow 44 = .ok (.iload_n 1, 1) := by decide +kernel
theorem dX6_addToRow_45 : decode cX6_addToRow 45 = .ok (.aaload, 1) := by decide +kernel
theorem dX6_addToRow_46 : decode cX6_addToRow 46 = .ok (.iload_n 2, 1) := by decide +kernel
theorem dX6_addToRow_47 : decode cX6_addToRow 47 = .ok (.dup2, 1) := by decide +kernel
theorem dX6_addToRow_48 : decode cX6_addToRow 48 = .ok (.laload, 1) := by decide +kernel
theorem dX6_addToRow_49 : decode cX6_addToRow 49 = .ok (.iload_n 3, 1) := by decide +kernel
theorem dX6_addToRow_50 : decode cX6_addToRow 50 = .ok (.i2l, 1) := by decide +kernel
theorem dX6_addToRow_51 : decode cX6_addToRow 51 = .ok (.lsub, 1) := by decide +kernel
theorem dX6_addToRow_52 : decode cX6_addToRow 52 = .ok (.lastore, 1) := by decide +kernel
theorem dX6_addToRow_53 : decode cX6_addToRow 53 = .ok (.return_, 1) := by decide +kernel
theorem dX6_determinant_0 : decode cX6_determinant 0 = .ok (.iload_n 3, 1) := by decide +kernel
theorem dX6_determinant_1 : decode cX6_determinant 1 = .ok (.iload_n 1, 1) := by decide +kernel
theorem dX6_determinant_2 : decode cX6_determinant 2 = .ok (.if_icmp .lt 5, 3) := by decide +kernel
theorem dX6_determinant_5 : decode cX6_determinant 5 = .ok (.lconst 1, 1) := by decide +kernel
theorem dX6_determinant_6 : decode cX6_determinant 6 = .ok (.lreturn, 1) := by decide +kernel
theorem dX6_determinant_7 : decode cX6_determinant 7 = .ok (.lconst 0, 1) := by decide +kernel
theorem dX6_determinant_8 : decode cX6_determinant 8 = .ok (.lstore 5, 2) := by decide +kernel
theorem dX6_determinant_10 : decode cX6_determinant 10 = .ok (.iconst 1, 1) := by decide +kernel
theorem dX6_determinant_11 : decode cX6_determinant 11 = .ok (.istore 7, 2) := by decide +kernel
theorem dX6_determinant_13 : decode cX6_determinant 13 = .ok (.iconst 0, 1) := by decide +kernel
theorem dX6_determinant_14 : decode cX6_determinant 14 = .ok (.istore 8, 2) := by decide +kernel
theorem dX6_determinant_16 : decode cX6_determinant 16 = .ok (.iload 8, 2) := by decide +kernel
theorem dX6_determinant_18 : decode cX6_determinant 18 = .ok (.iload_n 1, 1) := by decide +kernel
theorem dX6_determinant_19 : decode cX6_determinant 19 = .ok (.if_icmp .ge 76, 3) := by decide +kernel
theorem dX6_determinant_22 : decode cX6_determinant 22 = .ok (.iload 4, 2) := by decide +kernel
theorem dX6_determinant_24 : decode cX6_determinant 24 = .ok (.iload 8, 2) := by decide +kernel
theorem dX6_determinant_26 : decode cX6_determinant 26 = .ok (.ishr, 1) := by decide +kernel
theorem dX6_determinant_27 : decode cX6_determinant 27 = .ok (.iconst 1, 1) := by decide +kernel
theorem dX6_determinant_28 : decode cX6_determinant 28 = .ok (.iand, 1) := by decide +kernel
theorem dX6_determinant_29 : decode cX6_determinant 29 = .ok (.ifCond .ne 60, 3) := by decide +kernel
theorem dX6_determinant_32 : decode cX6_determinant 32 = .ok (.aload_n 0, 1) := by decide +kernel
theorem dX6_determinant_33 : decode cX6_determinant 33 = .ok (.iload 8, 2) := by decide +kernel
theorem dX6_determinant_35 : decode cX6_determinant 35 = .ok (.aaload, 1) := by decide +kernel
theorem dX6_determinant_36 : decode cX6_determinant 36 = .ok (.iload_n 3, 1) := by decide +kernel
theorem dX6_determinant_37 : decode cX6_determinant 37 = .ok (.iload_n 2, 1) := by decide +kernel
theorem dX6_determinant_38 : decode cX6_determinant 38 = .ok (.if_icmp .ne 7, 3) := by decide +kernel
theorem dX6_determinant_41 : decode cX6_determinant 41 = .ok (.iload_n 1, 1) := by decide +kernel
theorem dX6_determinant_42 : decode cX6_determinant 42 = .ok (.goto 4, 3) := by decide +kernel
theorem dX6_determinant_45 : decode cX6_determinant 45 = .ok (.iload_n 3, 1) := by decide +kernel
theorem dX6_determinant_46 : decode cX6_determinant 46 = .ok (.laload, 1) := by decide +kernel
theorem dX6_determinant_47 : decode cX6_determinant 47 = .ok (.lstore 9, 2) := by decide +kernel
theorem dX6_determinant_49 : decode cX6_determinant 49 = .ok (.lload 9, 2) := by decide +kernel
theorem dX6_determinant_51 : decode cX6_determinant 51 = .ok (.lconst 0, 1) := by decide +kernel
theorem dX6_determinant_52 : decode cX6_determinant 52 = .ok (.lcmp, 1) := by decide +kernel
theorem dX6_determinant_53 : decode cX6_determinant 53 = .ok (.ifCond .eq 31, 3) := by decide +kernel
theorem dX6_determinant_56 : decode cX6_determinant 56 = .ok (.lload 5, 2) := by decide +kernel
theorem dX6_determinant_58 : decode cX6_determinant 58 = .ok (.iload 7, 2) := by decide +kernel
theorem dX6_determinant_60 : decode cX6_determinant 60 = .ok (.i2l, 1) := by decide +kernel
theorem dX6_determinant_61 : decode cX6_determinant 61 = .ok (.lload 9, 2) := by decide +kernel
theorem dX6_determinant_63 : decode cX6_determinant 63 = .ok (.lmul, 1) := by decide +kernel
theorem dX6_determinant_64 : decode cX6_determinant 64 = .ok (.aload_n 0, 1) := by decide +kernel
theorem dX6_determinant_65 : decode cX6_determinant 65 = .ok (.iload_n 1, 1) := by decide +kernel
theorem dX6_determinant_66 : decode cX6_determinant 66 = .ok (.iload_n 2, 1) := by decide +kernel
theorem dX6_determinant_67 : decode cX6_determinant 67 = .ok (.iload_n 3, 1) := by decide +kernel
theorem dX6_determinant_68 : decode cX6_determinant 68 = .ok (.iconst 1, 1) := by decide +kernel
theorem dX6_determinant_69 : decode cX6_determinant 69 = .ok (.iadd, 1) := by decide +kernel
theorem dX6_determinant_70 : decode cX6_determinant 70 = .ok (.iload 4, 2) := by decide +kernel
theorem dX6_determinant_72 : decode cX6_determinant 72 = .ok (.iconst 1, 1) := by decide +kernel
theorem dX6_determinant_73 : decode cX6_determinant 73 = .ok (.iload 8, 2) := by decide +kernel
theorem dX6_determinant_75 : decode cX6_determinant 75 = .ok (.ishl, 1) := by decide +kernel
theorem dX6_determinant_76 : decode cX6_determinant 76 = .ok (.ior, 1) := by decide +kernel
theorem dX6_determinant_77 : decode cX6_determinant 77 = .ok (.invokestatic 70, 3) := by decide +kernel
theorem dX6_determinant_80 : decode cX6_determinant 80 = .ok (.lmul, 1) := by decide +kernel
theorem dX6_determinant_81 : decode cX6_determinant 81 = .ok (.ladd, 1) := by decide +kernel
theorem dX6_determinant_82 : decode cX6_determinant 82 = .ok (.lstore 5, 2) := by decide +kernel
theorem dX6_determinant_84 : decode cX6_determinant 84 = .ok (.iload 7, 2) := by decide +kernel
theorem dX6_determinant_86 : decode cX6_determinant 86 = .ok (.ineg, 1) := by decide +kernel
theorem dX6_determinant_87 : decode cX6_determinant 87 = .ok (.istore 7, 2) := by decide +kernel
theorem dX6_determinant_89 : decode cX6_determinant 89 = .ok (.iinc 8 1, 3) := by decide +kernel
theorem dX6_determinant_92 : decode cX6_determinant 92 = .ok (.goto (-76), 3) := by decide +kernel
theorem dX6_determinant_95 : decode cX6_determinant 95 = .ok (.lload 5, 2) := by decide +kernel
theorem dX6_determinant_97 : decode cX6_determinant 97 = .ok (.lreturn, 1) := by decide +kernel
theorem dX7_init_0 : decode cX7_init 0 = .ok (.aload_n 0, 1) := by decide +kernel
theorem dX7_init_1 : decode cX7_init 1 = .ok (.invokespecial 1, 3) := by decide +kernel
theorem dX7_init_4 : decode cX7_init 4 = .ok (.aload_n 0, 1) := by decide +kernel
theorem dX7_init_5 : decode cX7_init 5 = .ok (.bipush 6, 2) := by decide +kernel
theorem dX7_init_7 : decode cX7_init 7 = .ok (.anewarray 9, 3) := by decide +kernel
theorem dX7_init_10 : decode cX7_init 10 = .ok (.putfield 11, 3) := by decide +kernel
theorem dX7_init_13 : decode cX7_init 13 = .ok (.aload_n 0, 1) := by decide +kernel
theorem dX7_init_14 : decode cX7_init 14 = .ok (.new 15, 3) := by decide +kernel
theorem dX7_init_17 : decode cX7_init 17 = .ok (.dup, 1) := by decide +kernel
theorem dX7_init_18 : decode cX7_init 18 = .ok (.invokespecial 17, 3) := by decide +kernel
theorem dX7_init_21 : decode cX7_init 21 = .ok (.putfield 18, 3) := by decide +kernel
theorem dX7_init_24 : decode cX7_init 24 = .ok (.aload_n 0, 1) := by decide +kernel
theorem dX7_init_25 : decode cX7_init 25 = .ok (.new 22, 3) := by decide +kernel
theorem dX7_init_28 : decode cX7_init 28 = .ok (.dup, 1) := by decide +kernel
theorem dX7_init_29 : decode cX7_init 29 = .ok (.invokespecial 24, 3) := by decide +kernel
theorem dX7_init_32 : decode cX7_init 32 = .ok (.putfield 25, 3) := by decide +kernel
theorem dX7_init_35 : decode cX7_init 35 = .ok (.aload_n 0, 1) := by decide +kernel
theorem dX7_init_36 : decode cX7_init 36 = .ok (.new 29, 3) := by decide +kernel
theorem dX7_init_39 : decode cX7_init 39 = .ok (.dup, 1) := by decide +kernel
theorem dX7_init_40 : decode cX7_init 40 = .ok (.invokespecial 31, 3) := by decide +kernel
theorem dX7_init_43 : decode cX7_init 43 = .ok (.putfield 32, 3) := by decide +kernel
theorem dX7_init_46 : decode cX7_init 46 = .ok (.aload_n 0, 1) := by decide +kernel
theorem dX7_init_47 : decode cX7_init 47 = .ok (.new 36, 3) := by decide +kernel
theorem dX7_init_50 : decode cX7_init 50 = .ok (.dup, 1) := by decide +kernel
theorem dX7_init_51 : decode cX7_init 51 = .ok (.invokespecial 38, 3) := by decide +kernel
theorem dX7_init_54 : decode cX7_init 54 = .ok (.putfield 39, 3) := by decide +kernel
theorem dX7_init_57 : decode cX7_init 57 = .ok (.iconst 0, 1) := by decide +kernel
theorem dX7_init_58 : decode cX7_init 58 = .ok (.istore_n 1, 1) := by decide +kernel
theorem dX7_init_59 : decode cX7_init 59 = .ok (.iload_n 1, 1) := by decide +kernel
theorem dX7_init_60 : decode cX7_init 60 = .ok (.bipush 6, 2) := by decide +kernel
theorem dX7_init_62 : decode cX7_init 62 = .ok (.if_icmp .ge 22, 3) := by decide +kernel
theorem dX7_init_65 : decode cX7_init 65 = .ok (.aload_n 0, 1) := by decide +kernel
theorem dX7_init_66 : decode cX7_init 66 = .ok (.getfield 11, 3) := by decide +kernel
theorem dX7_init_69 : decode cX7_init 69 = .ok (.iload_n 1, 1) := by decide +kernel
theorem dX7_init_70 : decode cX7_init 70 = .ok (.new 9, 3) := by decide +kernel
theorem dX7_init_73 : decode cX7_init 73 = .ok (.dup, 1) := by decide +kernel
theorem dX7_init_74 : decode cX7_init 74 = .ok (.invokespecial 43, 3) := by decide +kernel
theorem dX7_init_77 : decode cX7_init 77 = .ok (.aastore, 1) := by decide +kernel
theorem dX7_init_78 : decode cX7_init 78 = .ok (.iinc 1 1, 3) := by decide +kernel
theorem dX7_init_81 : decode cX7_init 81 = .ok (.goto (-22), 3) := by decide +kernel
theorem dX7_init_84 : decode cX7_init 84 = .ok (.return_, 1) := by decide +kernel
theorem dX7_set_0 : decode cX7_set 0 = .ok (.aload_n 0, 1) := by decide +kernel
theorem dX7_set_1 : decode cX7_set 1 = .ok (.iload_n 1, 1) := by decide +kernel
theorem dX7_set_2 : decode cX7_set 2 = .ok (.invokevirtual 44, 3) := by decide +kernel
theorem dX7_set_5 : decode cX7_set 5 = .ok (.astore 4, 2) := by decide +kernel
theorem dX7_set_7 : decode cX7_set 7 = .ok (.aload 4, 2) := by decide +kernel
theorem dX7_set_9 : decode cX7_set 9 = .ok (.ifnonnull 6, 3) := by decide +kernel
theorem dX7_set_12 : decode cX7_set 12 = .ok (.bipush (-101), 2) := by decide +kernel
theorem dX7_set_14 : decode cX7_set 14 = .ok (.ireturn, 1) := by decide +kernel
theorem dX7_set_15 : decode cX7_set 15 = .ok (.iload_n 2, 1) := by decide +kernel
theorem dX7_set_16 : decode cX7_set 16 = .ok (.invokestatic 48, 3) := by decide +kernel
theorem dX7_set_19 : decode cX7_set 19 = .ok (.ifCond .eq 11, 3) := by decide +kernel
theorem dX7_set_22 : decode cX7_set 22 = .ok (.iload_n 2, 1) := by decide +kernel
theorem dX7_set_23 : decode cX7_set 23 = .ok (.iload_n 3, 1) := by decide +kernel
theorem dX7_set_24 : decode cX7_set 24 = .ok (.invokestatic 52, 3) := by decide +kernel
theorem dX7_set_27 : decode cX7_set 27 = .ok (.ifCond .ne 6, 3) := by decide +kernel
theorem dX7_set_30 : decode cX7_set 30 = .ok (.bipush (-102), 2) := by decide +kernel
theorem dX7_set_32 : decode cX7_set 32 = .ok (.ireturn, 1) := by decide +kernel
theorem dX7_set_33 : decode cX7_set 33 = .ok (.aload 4, 2) := by decide +kernel
theorem dX7_set_35 : decode cX7_set 35 = .ok (.iload_n 2, 1) := by decide +kernel
theorem dX7_set_36 : decode cX7_set 36 = .ok (.invokevirtual 56, 3) := by decide +kernel
theorem dX7_set_39 : decode cX7_set 39 = .ok (.istore 5, 2) := by decide +kernel
theorem dX7_set_41 : decode cX7_set 41 = .ok (.aload 4, 2) := by decide +kernel
theorem dX7_set_43 : decode cX7_set 43 = .ok (.iload_n 2, 1) := by decide +kernel
theorem dX7_set_44 : decode cX7_set 44 = .ok (.iload_n 3, 1) := by decide +kernel
theorem dX7_set_45 : decode cX7_set 45 = .ok (.invokevirtual 60, 3) := by decide +kernel
theorem dX7_set_48 : decode cX7_set 48 = .ok (.iload 5, 2) := by decide +kernel
theorem dX7_set_50 : decode cX7_set 50 = .ok (.ireturn, 1) := by decide +kernel
theorem dX7_glass_0 : decode cX7_glass 0 = .ok (.aload_n 0, 1) := by decide +kernel
theorem dX7_glass_1 : decode cX7_glass 1 = .ok (.iload_n 1, 1) := by decide +kernel
theorem dX7_glass_2 : decode cX7_glass 2 = .ok (.invokevirtual 44, 3) := by decide +kernel
theorem dX7_glass_5 : decode cX7_glass 5 = .ok (.astore_n 3, 1) := by decide +kernel
theorem dX7_glass_6 : decode cX7_glass 6 = .ok (.aload_n 3, 1) := by decide +kernel
theorem dX7_glass_7 : decode cX7_glass 7 = .ok (.ifnonnull 6, 3) := by decide +kernel
theorem dX7_glass_10 : decode cX7_glass 10 = .ok (.bipush (-101), 2) := by decide +kernel
theorem dX7_glass_12 : decode cX7_glass 12 = .ok (.ireturn, 1) := by decide +kernel
theorem dX7_glass_13 : decode cX7_glass 13 = .ok (.iload_n 2, 1) := by decide +kernel
theorem dX7_glass_14 : decode cX7_glass 14 = .ok (.invokestatic 48, 3) := by decide +kernel
theorem dX7_glass_17 : decode cX7_glass 17 = .ok (.ifCond .eq 11, 3) := by decide +kernel
theorem dX7_glass_20 : decode cX7_glass 20 = .ok (.aload_n 3, 1) := by decide +kernel
theorem dX7_glass_21 : decode cX7_glass 21 = .ok (.iload_n 2, 1) := by decide +kernel
theorem dX7_glass_22 : decode cX7_glass 22 = .ok (.invokevirtual 56, 3) := by decide +kernel
theorem dX7_glass_25 : decode cX7_glass 25 = .ok (.goto 5, 3) := by decide +kernel
theorem dX7_glass_28 : decode cX7_glass 28 = .ok (.bipush (-102), 2) := by decide +kernel
theorem dX7_glass_30 : decode cX7_glass 30 = .ok (.ireturn, 1) := by decide +kernel
theorem dX7_seal_0 : decode cX7_seal 0 = .ok (.aload_n 0, 1) := by decide +kernel
theorem dX7_seal_1 : decode cX7_seal 1 = .ok (.iload_n 1, 1) := by decide +kernel
theorem dX7_seal_2 : decode cX7_seal 2 = .ok (.invokevirtual 44, 3) := by decide +kernel
theorem dX7_seal_5 : decode cX7_seal 5 = .ok (.astore 6, 2) := by decide +kernel
theorem dX7_seal_7 : decode cX7_seal 7 = .ok (.aload 6, 2) := by decide +kernel
theorem dX7_seal_9 : decode cX7_seal 9 = .ok (.ifnonnull 5, 3) := by decide +kernel
theorem dX7_seal_12 : decode cX7_seal 12 = .ok (.iconst (-1), 1) := by decide +kernel
theorem dX7_seal_13 : decode cX7_seal 13 = .ok (.ireturn, 1) := by decide +kernel
theorem dX7_seal_14 : decode cX7_seal 14 = .ok (.iload_n 2, 1) := by decide +kernel
theorem dX7_seal_15 : decode cX7_seal 15 = .ok (.invokestatic 64, 3) := by decide +kernel
theorem dX7_seal_18 : decode cX7_seal 18 = .ok (.ifCond .eq 32, 3) := by decide +kernel
theorem dX7_seal_21 : decode cX7_seal 21 = .ok (.iload 4, 2) := by decide +kernel
theorem dX7_seal_23 : decode cX7_seal 23 = .ok (.invokestatic 64, 3) := by decide +kernel
theorem dX7_seal_26 : decode cX7_seal 26 = .ok (.ifCond .eq 24, 3) := by decide +kernel
theorem dX7_seal_29 : decode cX7_seal 29 = .ok (.iload_n 3, 1) := by decide +kernel
theorem dX7_seal_30 : decode cX7_seal 30 = .ok (.invokestatic 67, 3) := by decide +kernel
theorem dX7_seal_33 : decode cX7_seal 33 = .ok (.ifCond .eq 17, 3) := by decide +kernel
theorem dX7_seal_36 : decode cX7_seal 36 = .ok (.iload 5, 2) := by decide +kernel
theorem dX7_seal_38 : decode cX7_seal 38 = .ok (.invokestatic 67, 3) := by decide +kernel
theorem dX7_seal_41 : decode cX7_seal 41 = .ok (.ifCond .eq 9, 3) := by decide +kernel
theorem dX7_seal_44 : decode cX7_seal 44 = .ok (.iload_n 3, 1) := by decide +kernel
theorem dX7_seal_45 : decode cX7_seal 45 = .ok (.iload 5, 2) := by decide +kernel
theorem dX7_seal_47 : decode cX7_seal 47 = .ok (.if_icmp .ne 6, 3) := by decide +kernel
theorem dX7_seal_50 : decode cX7_seal 50 = .ok (.bipush (-2), 2) := by decide +kernel
theorem dX7_seal_52 : decode cX7_seal 52 = .ok (.ireturn, 1) := by decide +kernel
theorem dX7_seal_53 : decode cX7_seal 53 = .ok (.aload 6, 2) := by decide +kernel
theorem dX7_seal_55 : decode cX7_seal 55 = .ok (.iload_n 2, 1) := by decide +kernel
theorem dX7_seal_56 : decode cX7_seal 56 = .ok (.iload_n 3, 1) := by decide +kernel
theorem dX7_seal_57 : decode cX7_seal 57 = .ok (.iload 4, 2) := by decide +kernel
theorem dX7_seal_59 : decode cX7_seal 59 = .ok (.iload 5, 2) := by decide +kernel
theorem dX7_seal_61 : decode cX7_seal 61 = .ok (.invokevirtual 70, 3) := by decide +kernel
theorem dX7_seal_64 : decode cX7_seal 64 = .ok (.ireturn, 1) := by decide +kernel
theorem dX7_air_0 : decode cX7_air 0 = .ok (.aload_n 0, 1) := by decide +kernel
theorem dX7_air_1 : decode cX7_air 1 = .ok (.iload_n 1, 1) := by decide +kernel
theorem dX7_air_2 : decode cX7_air 2 = .ok (.invokevirtual 44, 3) := by decide +kernel
theorem dX7_air_5 : decode cX7_air 5 = .ok (.astore_n 3, 1) := by decide +kernel
theorem dX7_air_6 : decode cX7_air 6 = .ok (.aload_n 3, 1) := by decide +kernel
theorem dX7_air_7 : decode cX7_air 7 = .ok (.ifnonnull 7, 3) := by decide +kernel
theorem dX7_air_10 : decode cX7_air 10 = .ok (.ldc2_w 74, 3) := by decide +kernel
theorem dX7_air_13 : decode cX7_air 13 = .ok (.lreturn, 1) := by decide +kernel
theorem dX7_air_14 : decode cX7_air 14 = .ok (.iload_n 2, 1) := by decide +kernel
theorem dX7_air_15 : decode cX7_air 15 = .ok (.invokestatic 76, 3) := by decide +kernel
theorem dX7_air_18 : decode cX7_air 18 = .ok (.ifCond .eq 11, 3) := by decide +kernel
theorem dX7_air_21 : decode cX7_air 21 = .ok (.aload_n 3, 1) := by decide +kernel
theorem dX7_air_22 : decode cX7_air 22 = .ok (.iload_n 2, 1) := by decide +kernel
theorem dX7_air_23 : decode cX7_air 23 = .ok (.invokevirtual 79, 3) := by decide +kernel
theorem dX7_air_26 : decode cX7_air 26 = .ok (.goto 6, 3) := by decide +kernel
theorem dX7_air_29 : decode cX7_air 29 = .ok (.ldc2_w 83, 3) := by decide +kernel
theorem dX7_air_32 : decode cX7_air 32 = .ok (.lreturn, 1) := by decide +kernel
theorem dX7_right_0 : decode cX7_right 0 = .ok (.aload_n 0, 1) := by decide +kernel
theorem dX7_right_1 : decode cX7_right 1 = .ok (.iload_n 1, 1) := by decide +kernel
theorem dX7_right_2 : decode cX7_right 2 = .ok (.invokevirtual 44, 3) := by decide +kernel
theorem dX7_right_5 : decode cX7_right 5 = .ok (.astore 4, 2) := by decide +kernel
theorem dX7_right_7 : decode cX7_right 7 = .ok (.aload 4, 2) := by decide +kernel
theorem dX7_right_9 : decode cX7_right 9 = .ok (.ifnonnull 7, 3) := by decide +kernel
theorem dX7_right_12 : decode cX7_right 12 = .ok (.ldc2_w 74, 3) := by decide +kernel
theorem dX7_right_15 : decode cX7_right 15 = .ok (.lreturn, 1) := by decide +kernel
theorem dX7_right_16 : decode cX7_right 16 = .ok (.iload_n 2, 1) := by decide +kernel
theorem dX7_right_17 : decode cX7_right 17 = .ok (.invokestatic 64, 3) := by decide +kernel
theorem dX7_right_20 : decode cX7_right 20 = .ok (.ifCond .eq 20, 3) := by decide +kernel
theorem dX7_right_23 : decode cX7_right 23 = .ok (.iload_n 3, 1) := by decide +kernel
theorem dX7_right_24 : decode cX7_right 24 = .ok (.invokestatic 85, 3) := by decide +kernel
theorem dX7_right_27 : decode cX7_right 27 = .ok (.ifCond .eq 13, 3) := by decide +kernel
theorem dX7_right_30 : decode cX7_right 30 = .ok (.aload 4, 2) := by decide +kernel
theorem dX7_right_32 : decode cX7_right 32 = .ok (.iload_n 2, 1) := by decide +kernel
theorem dX7_right_33 : decode cX7_right 33 = .ok (.iload_n 3, 1) := by decide +kernel
theorem dX7_right_34 : decode cX7_right 34 = .ok (.invokevirtual 88, 3) := by decide +kernel
theorem dX7_right_37 : decode cX7_right 37 = .ok (.goto 6, 3) := by decide +kernel
theorem dX7_right_40 : decode cX7_right 40 = .ok (.ldc2_w 83, 3) := by decide +kernel
theorem dX7_right_43 : decode cX7_right 43 = .ok (.lreturn, 1) := by decide +kernel
theorem dX7_station_0 : decode cX7_station 0 = .ok (.aload_n 0, 1) := by decide +kernel
theorem dX7_station_1 : decode cX7_station 1 = .ok (.iload 4, 2) := by decide +kernel
theorem dX7_station_3 : decode cX7_station 3 = .ok (.invokevirtual 44, 3) := by decide +kernel
theorem dX7_station_6 : decode cX7_station 6 = .ok (.astore 5, 2) := by decide +kernel
theorem dX7_station_8 : decode cX7_station 8 = .ok (.aload 5, 2) := by decide +kernel
theorem dX7_station_10 : decode cX7_station 10 = .ok (.ifnonnull 5, 3) := by decide +kernel
theorem dX7_station_13 : decode cX7_station 13 = .ok (.iconst (-1), 1) := by decide +kernel
theorem dX7_station_14 : decode cX7_station 14 = .ok (.ireturn, 1) := by decide +kernel
theorem dX7_station_15 : decode cX7_station 15 = .ok (.iload_n 1, 1) := by decide +kernel
theorem dX7_station_16 : decode cX7_station 16 = .ok (.invokestatic 92, 3) := by decide +kernel
theorem dX7_station_19 : decode cX7_station 19 = .ok (.ifCond .eq 23, 3) := by decide +kernel
theorem dX7_station_22 : decode cX7_station 22 = .ok (.iload_n 2, 1) := by decide +kernel
theorem dX7_station_23 : decode cX7_station 23 = .ok (.invokestatic 92, 3) := by decide +kernel
theorem dX7_station_26 : decode cX7_station 26 = .ok (.ifCond .eq 16, 3) := by decide +kernel
theorem dX7_station_29 : decode cX7_station 29 = .ok (.iload_n 3, 1) := by decide +kernel
theorem dX7_station_30 : decode cX7_station 30 = .ok (.sipush (-400), 3) := by decide +kernel
theorem dX7_station_33 : decode cX7_station 33 = .ok (.sipush 4000, 3) := by decide +kernel
theorem dX7_station_36 : decode cX7_station 36 = .ok (.invokestatic 95, 3) := by decide +kernel
theorem dX7_station_39 : decode cX7_station 39 = .ok (.ifCond .ne 6, 3) := by decide +kernel
theorem dX7_station_42 : decode cX7_station 42 = .ok (.bipush (-2), 2) := by decide +kernel
theorem dX7_station_44 : decode cX7_station 44 = .ok (.ireturn, 1) := by decide +kernel
theorem dX7_station_45 : decode cX7_station 45 = .ok (.aload_n 0, 1) := by decide +kernel
theorem dX7_station_46 : decode cX7_station 46 = .ok (.getfield 18, 3) := by decide +kernel
theorem dX7_station_49 : decode cX7_station 49 = .ok (.invokevirtual 99, 3) := by decide +kernel
theorem dX7_station_52 : decode cX7_station 52 = .ok (.ifCond .eq 6, 3) := by decide +kernel
theorem dX7_station_55 : decode cX7_station 55 = .ok (.bipush (-4), 2) := by decide +kernel
theorem dX7_station_57 : decode cX7_station 57 = .ok (.ireturn, 1) := by decide +kernel
theorem dX7_station_58 : decode cX7_station 58 = .ok (.aload_n 0, 1) := by decide +kernel
theorem dX7_station_59 : decode cX7_station 59 = .ok (.getfield 18, 3) := by decide +kernel
theorem dX7_station_62 : decode cX7_station 62 = .ok (.iload_n 1, 1) := by decide +kernel
theorem dX7_station_63 : decode cX7_station 63 = .ok (.iload_n 2, 1) := by decide +kernel
theorem dX7_station_64 : decode cX7_station 64 = .ok (.invokevirtual 103, 3) := by decide +kernel
theorem dX7_station_67 : decode cX7_station 67 = .ok (.ifCond .eq 8, 3) := by decide +kernel
theorem dX7_station_70 : decode cX7_station 70 = .ok (.bipush (-5), 2) := by decide +kernel
theorem dX7_station_72 : decode cX7_station 72 = .ok (.goto 15, 3) := by decide +kernel
theorem dX7_station_75 : decode cX7_station 75 = .ok (.aload_n 0, 1) := by decide +kernel
theorem dX7_station_76 : decode cX7_station 76 = .ok (.getfield 18, 3) := by decide +kernel
theorem dX7_station_79 : decode cX7_station 79 = .ok (.iload_n 1, 1) := by decide +kernel
theorem dX7_station_80 : decode cX7_station 80 = .ok (.iload_n 2, 1) := by decide +kernel
theorem dX7_station_81 : decode cX7_station 81 = .ok (.iload_n 3, 1) := by decide +kernel
theorem dX7_station_82 : decode cX7_station 82 = .ok (.aload 5, 2) := by decide +kernel
theorem dX7_station_84 : decode cX7_station 84 = .ok (.invokevirtual 106, 3) := by decide +kernel
theorem dX7_station_87 : decode cX7_station 87 = .ok (.ireturn, 1) := by decide +kernel
theorem dX7_tell_0 : decode cX7_tell 0 = .ok (.aload_n 0, 1) := by decide +kernel
theorem dX7_tell_1 : decode cX7_tell 1 = .ok (.getfield 18, 3) := by decide +kernel
theorem dX7_tell_4 : decode cX7_tell 4 = .ok (.iload_n 1, 1) := by decide +kernel
theorem dX7_tell_5 : decode cX7_tell 5 = .ok (.invokevirtual 110, 3) := by decide +kernel
theorem dX7_tell_8 : decode cX7_tell 8 = .ok (.astore 5, 2) := by decide +kernel
theorem dX7_tell_10 : decode cX7_tell 10 = .ok (.aload 5, 2) := by decide +kernel
theorem dX7_tell_12 : decode cX7_tell 12 = .ok (.ifnonnull 5, 3) := by decide +kernel
theorem dX7_tell_15 : decode cX7_tell 15 = .ok (.iconst (-1), 1) := by decide +kernel
theorem dX7_tell_16 : decode cX7_tell 16 = .ok (.ireturn, 1) := by decide +kernel
theorem dX7_tell_17 : decode cX7_tell 17 = .ok (.iload_n 2, 1) := by decide +kernel
theorem dX7_tell_18 : decode cX7_tell 18 = .ok (.invokestatic 114, 3) := by decide +kernel
theorem dX7_tell_21 : decode cX7_tell 21 = .ok (.ifCond .eq 18, 3) := by decide +kernel
theorem dX7_tell_24 : decode cX7_tell 24 = .ok (.iload_n 3, 1) := by decide +kernel
theorem dX7_tell_25 : decode cX7_tell 25 = .ok (.invokestatic 64, 3) := by decide +kernel
theorem dX7_tell_28 : decode cX7_tell 28 = .ok (.ifCond .eq 11, 3) := by decide +kernel
theorem dX7_tell_31 : decode cX7_tell 31 = .ok (.iload 4, 2) := by decide +kernel
theorem dX7_tell_33 : decode cX7_tell 33 = .ok (.invokestatic 85, 3) := by decide +kernel
theorem dX7_tell_36 : decode cX7_tell 36 = .ok (.ifCond .ne 6, 3) := by decide +kernel
theorem dX7_tell_39 : decode cX7_tell 39 = .ok (.bipush (-2), 2) := by decide +kernel
theorem dX7_tell_41 : decode cX7_tell 41 = .ok (.ireturn, 1) := by decide +kernel
theorem dX7_tell_42 : decode cX7_tell 42 = .ok (.aload 5, 2) := by decide +kernel
theorem dX7_tell_44 : decode cX7_tell 44 = .ok (.iload_n 2, 1) := by decide +kernel
theorem dX7_tell_45 : decode cX7_tell 45 = .ok (.invokevirtual 117, 3) := by decide +kernel
theorem dX7_tell_48 : decode cX7_tell 48 = .ok (.ifCond .eq 7, 3) := by decide +kernel
theorem dX7_tell_51 : decode cX7_tell 51 = .ok (.iconst 2, 1) := by decide +kernel
theorem dX7_tell_52 : decode cX7_tell 52 = .ok (.goto 4, 3) := by decide +kernel
theorem dX7_tell_55 : decode cX7_tell 55 = .ok (.iconst 1, 1) := by decide +kernel
theorem dX7_tell_56 : decode cX7_tell 56 = .ok (.istore 6, 2) := by decide +kernel
theorem dX7_tell_58 : decode cX7_tell 58 = .ok (.aload 5, 2) := by decide +kernel
theorem dX7_tell_60 : decode cX7_tell 60 = .ok (.iload_n 2, 1) := by decide +kernel
theorem dX7_tell_61 : decode cX7_tell 61 = .ok (.iload_n 3, 1) := by decide +kernel
theorem dX7_tell_62 : decode cX7_tell 62 = .ok (.iload 4, 2) := by decide +kernel
theorem dX7_tell_64 : decode cX7_tell 64 = .ok (.invokevirtual 122, 3) := by decide +kernel
theorem dX7_tell_67 : decode cX7_tell 67 = .ok (.iload 6, 2) := by decide +kernel
theorem dX7_tell_69 : decode cX7_tell 69 = .ok (.ireturn, 1) := by decide +kernel
theorem dX7_gap_0 : decode cX7_gap 0 = .ok (.aload_n 0, 1) := by decide +kernel
theorem dX7_gap_1 : decode cX7_gap 1 = .ok (.getfield 18, 3) := by decide +kernel
theorem dX7_gap_4 : decode cX7_gap 4 = .ok (.iload_n 1, 1) := by decide +kernel
theorem dX7_gap_5 : decode cX7_gap 5 = .ok (.invokevirtual 110, 3) := by decide +kernel
theorem dX7_gap_8 : decode cX7_gap 8 = .ok (.astore_n 3, 1) := by decide +kernel
theorem dX7_gap_9 : decode cX7_gap 9 = .ok (.aload_n 3, 1) := by decide +kernel
theorem dX7_gap_10 : decode cX7_gap 10 = .ok (.ifnonnull 5, 3) := by decide +kernel
theorem dX7_gap_13 : decode cX7_gap 13 = .ok (.iconst (-1), 1) := by decide +kernel
theorem dX7_gap_14 : decode cX7_gap 14 = .ok (.ireturn, 1) := by decide +kernel
theorem dX7_gap_15 : decode cX7_gap 15 = .ok (.iload_n 2, 1) := by decide +kernel
theorem dX7_gap_16 : decode cX7_gap 16 = .ok (.invokestatic 114, 3) := by decide +kernel
theorem dX7_gap_19 : decode cX7_gap 19 = .ok (.ifCond .ne 6, 3) := by decide +kernel
theorem dX7_gap_22 : decode cX7_gap 22 = .ok (.bipush (-2), 2) := by decide +kernel
theorem dX7_gap_24 : decode cX7_gap 24 = .ok (.ireturn, 1) := by decide +kernel
theorem dX7_gap_25 : decode cX7_gap 25 = .ok (.aload_n 3, 1) := by decide +kernel
theorem dX7_gap_26 : decode cX7_gap 26 = .ok (.iload_n 2, 1) := by decide +kernel
theorem dX7_gap_27 : decode cX7_gap 27 = .ok (.invokevirtual 117, 3) := by decide +kernel
theorem dX7_gap_30 : decode cX7_gap 30 = .ok (.ifCond .eq 7, 3) := by decide +kernel
theorem dX7_gap_33 : decode cX7_gap 33 = .ok (.iconst 1, 1) := by decide +kernel
theorem dX7_gap_34 : decode cX7_gap 34 = .ok (.goto 4, 3) := by decide +kernel
theorem dX7_gap_37 : decode cX7_gap 37 = .ok (.iconst 0, 1) := by decide +kernel
theorem dX7_gap_38 : decode cX7_gap 38 = .ok (.istore 4, 2) := by decide +kernel
theorem dX7_gap_40 : decode cX7_gap 40 = .ok (.aload_n 3, 1) := by decide +kernel
theorem dX7_gap_41 : decode cX7_gap 41 = .ok (.iload_n 2, 1) := by decide +kernel
theorem dX7_gap_42 : decode cX7_gap 42 = .ok (.invokevirtual 126, 3) := by decide +kernel
theorem dX7_gap_45 : decode cX7_gap 45 = .ok (.iload 4, 2) := by decide +kernel
theorem dX7_gap_47 : decode cX7_gap 47 = .ok (.ireturn, 1) := by decide +kernel
theorem dX7_reading_0 : decode cX7_reading 0 = .ok (.aload_n 0, 1) := by decide +kernel
theorem dX7_reading_1 : decode cX7_reading 1 = .ok (.getfield 18, 3) := by decide +kernel
theorem dX7_reading_4 : decode cX7_reading 4 = .ok (.iload_n 1, 1) := by decide +kernel
theorem dX7_reading_5 : decode cX7_reading 5 = .ok (.invokevirtual 110, 3) := by decide +kernel
theorem dX7_reading_8 : decode cX7_reading 8 = .ok (.astore 4, 2) := by decide +kernel
theorem dX7_reading_10 : decode cX7_reading 10 = .ok (.aload 4, 2) := by decide +kernel
theorem dX7_reading_12 : decode cX7_reading 12 = .ok (.ifnonnull 7, 3) := by decide +kernel
theorem dX7_reading_15 : decode cX7_reading 15 = .ok (.ldc2_w 74, 3) := by decide +kernel
theorem dX7_reading_18 : decode cX7_reading 18 = .ok (.lreturn, 1) := by decide +kernel
theorem dX7_reading_19 : decode cX7_reading 19 = .ok (.iload_n 2, 1) := by decide +kernel
theorem dX7_reading_20 : decode cX7_reading 20 = .ok (.invokestatic 114, 3) := by decide +kernel
theorem dX7_reading_23 : decode cX7_reading 23 = .ok (.ifCond .eq 12, 3) := by decide +kernel
theorem dX7_reading_26 : decode cX7_reading 26 = .ok (.iload_n 3, 1) := by decide +kernel
theorem dX7_reading_27 : decode cX7_reading 27 = .ok (.iconst 0, 1) := by decide +kernel
theorem dX7_reading_28 : decode cX7_reading 28 = .ok (.iconst 4, 1) := by decide +kernel
theorem dX7_reading_29 : decode cX7_reading 29 = .ok (.invokestatic 95, 3) := by decide +kernel
theorem dX7_reading_32 : decode cX7_reading 32 = .ok (.ifCond .ne 7, 3) := by decide +kernel
theorem dX7_reading_35 : decode cX7_reading 35 = .ok (.ldc2_w 83, 3) := by decide +kernel
theorem dX7_reading_38 : decode cX7_reading 38 = .ok (.lreturn, 1) := by decide +kernel
theorem dX7_reading_39 : decode cX7_reading 39 = .ok (.aload 4, 2) := by decide +kernel
theorem dX7_reading_41 : decode cX7_reading 41 = .ok (.iload_n 2, 1) := by decide +kernel
theorem dX7_reading_42 : decode cX7_reading 42 = .ok (.invokevirtual 117, 3) := by decide +kernel
theorem dX7_reading_45 : decode cX7_reading 45 = .ok (.ifCond .eq 13, 3) := by decide +kernel
theorem dX7_reading_48 : decode cX7_reading 48 = .ok (.aload 4, 2) := by decide +kernel
theorem dX7_reading_50 : decode cX7_reading 50 = .ok (.iload_n 2, 1) := by decide +kernel
theorem dX7_reading_51 : decode cX7_reading 51 = .ok (.iload_n 3, 1) := by decide +kernel
theorem dX7_reading_52 : decode cX7_reading 52 = .ok (.invokevirtual 130, 3) := by decide +kernel
theorem dX7_reading_55 : decode cX7_reading 55 = .ok (.goto 6, 3) := by decide +kernel
theorem dX7_reading_58 : decode cX7_reading 58 = .ok (.ldc2_w 133, 3) := by decide +kernel
theorem dX7_reading_61 : decode cX7_reading 61 = .ok (.lreturn, 1) := by decide +kernel
theorem dX7_rise_0 : decode cX7_rise 0 = .ok (.iload_n 1, 1) := by decide +kernel
theorem dX7_rise_1 : decode cX7_rise 1 = .ok (.invokestatic 135, 3) := by decide +kernel
theorem dX7_rise_4 : decode cX7_rise 4 = .ok (.ifCond .eq 22, 3) := by decide +kernel
theorem dX7_rise_7 : decode cX7_rise 7 = .ok (.iload_n 2, 1) := by decide +kernel
theorem dX7_rise_8 : decode cX7_rise 8 = .ok (.invokestatic 135, 3) := by decide +kernel
theorem dX7_rise_11 : decode cX7_rise 11 = .ok (.ifCond .eq 15, 3) := by decide +kernel
theorem dX7_rise_14 : decode cX7_rise 14 = .ok (.iload_n 3, 1) := by decide +kernel
theorem dX7_rise_15 : decode cX7_rise 15 = .ok (.invokestatic 85, 3) := by decide +kernel
theorem dX7_rise_18 : decode cX7_rise 18 = .ok (.ifCond .eq 8, 3) := by decide +kernel
theorem dX7_rise_21 : decode cX7_rise 21 = .ok (.iload_n 2, 1) := by decide +kernel
theorem dX7_rise_22 : decode cX7_rise 22 = .ok (.iload_n 1, 1) := by decide +kernel
theorem dX7_rise_23 : decode cX7_rise 23 = .ok (.if_icmp .lt 7, 3) := by decide +kernel
theorem dX7_rise_26 : decode cX7_rise 26 = .ok (.ldc2_w 83, 3) := by decide +kernel
theorem dX7_rise_29 : decode cX7_rise 29 = .ok (.lreturn, 1) := by decide +kernel
theorem dX7_rise_30 : decode cX7_rise 30 = .ok (.iload_n 1, 1) := by decide +kernel
theorem dX7_rise_31 : decode cX7_rise 31 = .ok (.iload_n 2, 1) := by decide +kernel
theorem dX7_rise_32 : decode cX7_rise 32 = .ok (.iload_n 3, 1) := by decide +kernel
theorem dX7_rise_33 : decode cX7_rise 33 = .ok (.invokestatic 140, 3) := by decide +kernel
theorem dX7_rise_36 : decode cX7_rise 36 = .ok (.lreturn, 1) := by decide +kernel
theorem dX7_between_0 : decode cX7_between 0 = .ok (.aload_n 0, 1) := by decide +kernel
theorem dX7_between_1 : decode cX7_between 1 = .ok (.getfield 18, 3) := by decide +kernel
theorem dX7_between_4 : decode cX7_between 4 = .ok (.iload_n 1, 1) := by decide +kernel
theorem dX7_between_5 : decode cX7_between 5 = .ok (.invokevirtual 110, 3) := by decide +kernel
theorem dX7_between_8 : decode cX7_between 8 = .ok (.astore 4, 2) := by decide +kernel
theorem dX7_between_10 : decode cX7_between 10 = .ok (.aload_n 0, 1) := by decide +kernel
theorem dX7_between_11 : decode cX7_between 11 = .ok (.getfield 18, 3) := by decide +kernel
theorem dX7_between_14 : decode cX7_between 14 = .ok (.iload_n 2, 1) := by decide +kernel
theorem dX7_between_15 : decode cX7_between 15 = .ok (.invokevirtual 110, 3) := by decide +kernel
theorem dX7_between_18 : decode cX7_between 18 = .ok (.astore 5, 2) := by decide +kernel
theorem dX7_between_20 : decode cX7_between 20 = .ok (.aload 4, 2) := by decide +kernel
theorem dX7_between_22 : decode cX7_between 22 = .ok (.ifnull 8, 3) := by decide +kernel
theorem dX7_between_25 : decode cX7_between 25 = .ok (.aload 5, 2) := by decide +kernel
theorem dX7_between_27 : decode cX7_between 27 = .ok (.ifnonnull 7, 3) := by decide +kernel
theorem dX7_between_30 : decode cX7_between 30 = .ok (.ldc2_w 74, 3) := by decide +kernel
theorem dX7_between_33 : decode cX7_between 33 = .ok (.lreturn, 1) := by decide +kernel
theorem dX7_between_34 : decode cX7_between 34 = .ok (.iload_n 3, 1) := by decide +kernel
theorem dX7_between_35 : decode cX7_between 35 = .ok (.invokestatic 114, 3) := by decide +kernel
theorem dX7_between_38 : decode cX7_between 38 = .ok (.ifCond .ne 7, 3) := by decide +kernel
theorem dX7_between_41 : decode cX7_between 41 = .ok (.ldc2_w 83, 3) := by decide +kernel
theorem dX7_between_44 : decode cX7_between 44 = .ok (.lreturn, 1) := by decide +kernel
theorem dX7_between_45 : decode cX7_between 45 = .ok (.aload 4, 2) := by decide +kernel
theorem dX7_between_47 : decode cX7_between 47 = .ok (.iload_n 3, 1) := by decide +kernel
theorem dX7_between_48 : decode cX7_between 48 = .ok (.invokevirtual 117, 3) := by decide +kernel
theorem dX7_between_51 : decode cX7_between 51 = .ok (.ifCond .eq 12, 3) := by decide +kernel
theorem dX7_between_54 : decode cX7_between 54 = .ok (.aload 5, 2) := by decide +kernel
theorem dX7_between_56 : decode cX7_between 56 = .ok (.iload_n 3, 1) := by decide +kernel
theorem dX7_between_57 : decode cX7_between 57 = .ok (.invokevirtual 117, 3) := by decide +kernel
theorem dX7_between_60 : decode cX7_between 60 = .ok (.ifCond .ne 7, 3) := by decide +kernel
theorem dX7_between_63 : decode cX7_between 63 = .ok (.ldc2_w 133, 3) := by decide +kernel
theorem dX7_between_66 : decode cX7_between 66 = .ok (.lreturn, 1) := by decide +kernel
theorem dX7_between_67 : decode cX7_between 67 = .ok (.aload 4, 2) := by decide +kernel
theorem dX7_between_69 : decode cX7_between 69 = .ok (.iload_n 3, 1) := by decide +kernel
theorem dX7_between_70 : decode cX7_between 70 = .ok (.invokevirtual 144, 3) := by decide +kernel
theorem dX7_between_73 : decode cX7_between 73 = .ok (.invokestatic 147, 3) := by decide +kernel
theorem dX7_between_76 : decode cX7_between 76 = .ok (.istore 6, 2) := by decide +kernel
theorem dX7_between_78 : decode cX7_between 78 = .ok (.aload 5, 2) := by decide +kernel
theorem dX7_between_80 : decode cX7_between 80 = .ok (.iload_n 3, 1) := by decide +kernel
theorem dX7_between_81 : decode cX7_between 81 = .ok (.invokevirtual 144, 3) := by decide +kernel
theorem dX7_between_84 : decode cX7_between 84 = .ok (.invokestatic 147, 3) := by decide +kernel
theorem dX7_between_87 : decode cX7_between 87 = .ok (.istore 7, 2) := by decide +kernel
theorem dX7_between_89 : decode cX7_between 89 = .ok (.aload 4, 2) := by decide +kernel
theorem dX7_between_91 : decode cX7_between 91 = .ok (.iload_n 3, 1) := by decide +kernel
theorem dX7_between_92 : decode cX7_between 92 = .ok (.invokevirtual 151, 3) := by decide +kernel
theorem dX7_between_95 : decode cX7_between 95 = .ok (.aload 5, 2) := by decide +kernel
theorem dX7_between_97 : decode cX7_between 97 = .ok (.iload_n 3, 1) := by decide +kernel
theorem dX7_between_98 : decode cX7_between 98 = .ok (.invokevirtual 151, 3) := by decide +kernel
theorem dX7_between_101 : decode cX7_between 101 = .ok (.iadd, 1) := by decide +kernel
theorem dX7_between_102 : decode cX7_between 102 = .ok (.iconst 2, 1) := by decide +kernel
theorem dX7_between_103 : decode cX7_between 103 = .ok (.idiv, 1) := by decide +kernel
theorem dX7_between_104 : decode cX7_between 104 = .ok (.istore 8, 2) := by decide +kernel
theorem dX7_between_106 : decode cX7_between 106 = .ok (.iload 6, 2) := by decide +kernel
theorem dX7_between_108 : decode cX7_between 108 = .ok (.iload 7, 2) := by decide +kernel
theorem dX7_between_110 : decode cX7_between 110 = .ok (.if_icmp .lt 15, 3) := by decide +kernel
theorem dX7_between_113 : decode cX7_between 113 = .ok (.iload 6, 2) := by decide +kernel
theorem dX7_between_115 : decode cX7_between 115 = .ok (.iload 7, 2) := by decide +kernel
theorem dX7_between_117 : decode cX7_between 117 = .ok (.iload 8, 2) := by decide +kernel
theorem dX7_between_119 : decode cX7_between 119 = .ok (.invokestatic 140, 3) := by decide +kernel
theorem dX7_between_122 : decode cX7_between 122 = .ok (.goto 13, 3) := by decide +kernel
theorem dX7_between_125 : decode cX7_between 125 = .ok (.iload 7, 2) := by decide +kernel
theorem dX7_between_127 : decode cX7_between 127 = .ok (.iload 6, 2) := by decide +kernel
theorem dX7_between_129 : decode cX7_between 129 = .ok (.iload 8, 2) := by decide +kernel
theorem dX7_between_131 : decode cX7_between 131 = .ok (.invokestatic 140, 3) := by decide +kernel
theorem dX7_between_134 : decode cX7_between 134 = .ok (.lneg, 1) := by decide +kernel
theorem dX7_between_135 : decode cX7_between 135 = .ok (.lreturn, 1) := by decide +kernel
theorem dX7_benches_0 : decode cX7_benches 0 = .ok (.iload_n 1, 1) := by decide +kernel
theorem dX7_benches_1 : decode cX7_benches 1 = .ok (.iconst 2, 1) := by decide +kernel
theorem dX7_benches_2 : decode cX7_benches 2 = .ok (.bipush 6, 2) := by decide +kernel
theorem dX7_benches_4 : decode cX7_benches 4 = .ok (.invokestatic 95, 3) := by decide +kernel
theorem dX7_benches_7 : decode cX7_benches 7 = .ok (.ifCond .ne 6, 3) := by decide +kernel
theorem dX7_benches_10 : decode cX7_benches 10 = .ok (.bipush (-2), 2) := by decide +kernel
theorem dX7_benches_12 : decode cX7_benches 12 = .ok (.ireturn, 1) := by decide +kernel
theorem dX7_benches_13 : decode cX7_benches 13 = .ok (.aload_n 0, 1) := by decide +kernel
theorem dX7_benches_14 : decode cX7_benches 14 = .ok (.getfield 32, 3) := by decide +kernel
theorem dX7_benches_17 : decode cX7_benches 17 = .ok (.invokevirtual 154, 3) := by decide +kernel
theorem dX7_benches_20 : decode cX7_benches 20 = .ok (.istore_n 2, 1) := by decide +kernel
theorem dX7_benches_21 : decode cX7_benches 21 = .ok (.aload_n 0, 1) := by decide +kernel
theorem dX7_benches_22 : decode cX7_benches 22 = .ok (.getfield 32, 3) := by decide +kernel
theorem dX7_benches_25 : decode cX7_benches 25 = .ok (.iload_n 1, 1) := by decide +kernel
theorem dX7_benches_26 : decode cX7_benches 26 = .ok (.invokevirtual 158, 3) := by decide +kernel
theorem dX7_benches_29 : decode cX7_benches 29 = .ok (.iload_n 2, 1) := by decide +kernel
theorem dX7_benches_30 : decode cX7_benches 30 = .ok (.ireturn, 1) := by decide +kernel
theorem dX7_difference_0 : decode cX7_difference 0 = .ok (.aload_n 0, 1) := by decide +kernel
theorem dX7_difference_1 : decode cX7_difference 1 = .ok (.getfield 32, 3) := by decide +kernel
theorem dX7_difference_4 : decode cX7_difference 4 = .ok (.iload_n 1, 1) := by decide +kernel
theorem dX7_difference_5 : decode cX7_difference 5 = .ok (.invokevirtual 161, 3) := by decide +kernel
theorem dX7_difference_8 : decode cX7_difference 8 = .ok (.ifCond .eq 19, 3) := by decide +kernel
theorem dX7_difference_11 : decode cX7_difference 11 = .ok (.aload_n 0, 1) := by decide +kernel
theorem dX7_difference_12 : decode cX7_difference 12 = .ok (.getfield 32, 3) := by decide +kernel
theorem dX7_difference_15 : decode cX7_difference 15 = .ok (.iload_n 2, 1) := by decide +kernel
theorem dX7_difference_16 : decode cX7_difference 16 = .ok (.invokevirtual 161, 3) := by decide +kernel
theorem dX7_difference_19 : decode cX7_difference 19 = .ok (.ifCond .eq 8, 3) := by decide +kernel
theorem dX7_difference_22 : decode cX7_difference 22 = .ok (.iload_n 1, 1) := by decide +kernel
theorem dX7_difference_23 : decode cX7_difference 23 = .ok (.iload_n 2, 1) := by decide +kernel
theorem dX7_difference_24 : decode cX7_difference 24 = .ok (.if_icmp .ne 5, 3) := by decide +kernel
theorem dX7_difference_27 : decode cX7_difference 27 = .ok (.iconst (-1), 1) := by decide +kernel
theorem dX7_difference_28 : decode cX7_difference 28 = .ok (.ireturn, 1) := by decide +kernel
theorem dX7_difference_29 : decode cX7_difference 29 = .ok (.iload_n 3, 1) := by decide +kernel
theorem dX7_difference_30 : decode cX7_difference 30 = .ok (.ldc 164, 2) := by decide +kernel
theorem dX7_difference_32 : decode cX7_difference 32 = .ok (.ldc 165, 2) := by decide +kernel
theorem dX7_difference_34 : decode cX7_difference 34 = .ok (.invokestatic 95, 3) := by decide +kernel
theorem dX7_difference_37 : decode cX7_difference 37 = .ok (.ifCond .eq 14, 3) := by decide +kernel
theorem dX7_difference_40 : decode cX7_difference 40 = .ok (.iload 4, 2) := by decide +kernel
theorem dX7_difference_42 : decode cX7_difference 42 = .ok (.iconst 1, 1) := by decide +kernel
theorem dX7_difference_43 : decode cX7_difference 43 = .ok (.bipush 9, 2) := by decide +kernel
theorem dX7_difference_45 : decode cX7_difference 45 = .ok (.invokestatic 95, 3) := by decide +kernel
theorem dX7_difference_48 : decode cX7_difference 48 = .ok (.ifCond .ne 6, 3) := by decide +kernel
theorem dX7_difference_51 : decode cX7_difference 51 = .ok (.bipush (-2), 2) := by decide +kernel
theorem dX7_difference_53 : decode cX7_difference 53 = .ok (.ireturn, 1) := by decide +kernel
theorem dX7_difference_54 : decode cX7_difference 54 = .ok (.aload_n 0, 1) := by decide +kernel
theorem dX7_difference_55 : decode cX7_difference 55 = .ok (.getfield 32, 3) := by decide +kernel
theorem dX7_difference_58 : decode cX7_difference 58 = .ok (.iload_n 1, 1) := by decide +kernel
theorem dX7_difference_59 : decode cX7_difference 59 = .ok (.iload_n 2, 1) := by decide +kernel
theorem dX7_difference_60 : decode cX7_difference 60 = .ok (.iload_n 3, 1) := by decide +kernel
theorem dX7_difference_61 : decode cX7_difference 61 = .ok (.iload 4, 2) := by decide +kernel
theorem dX7_difference_63 : decode cX7_difference 63 = .ok (.invokevirtual 166, 3) := by decide +kernel
theorem dX7_difference_66 : decode cX7_difference 66 = .ok (.ireturn, 1) := by decide +kernel
theorem dX7_drop_0 : decode cX7_drop 0 = .ok (.aload_n 0, 1) := by decide +kernel
theorem dX7_drop_1 : decode cX7_drop 1 = .ok (.getfield 32, 3) := by decide +kernel
theorem dX7_drop_4 : decode cX7_drop 4 = .ok (.invokevirtual 168, 3) := by decide +kernel
theorem dX7_drop_7 : decode cX7_drop 7 = .ok (.ireturn, 1) := by decide +kernel
theorem dX7_height_0 : decode cX7_height 0 = .ok (.aload_n 0, 1) := by decide +kernel
theorem dX7_height_1 : decode cX7_height 1 = .ok (.getfield 32, 3) := by decide +kernel
theorem dX7_height_4 : decode cX7_height 4 = .ok (.iload_n 1, 1) := by decide +kernel
theorem dX7_height_5 : decode cX7_height 5 = .ok (.invokevirtual 161, 3) := by decide +kernel
theorem dX7_height_8 : decode cX7_height 8 = .ok (.ifCond .ne 7, 3) := by decide +kernel
theorem dX7_height_11 : decode cX7_height 11 = .ok (.ldc2_w 74, 3) := by decide +kernel
theorem dX7_height_14 : decode cX7_height 14 = .ok (.lreturn, 1) := by decide +kernel
theorem dX7_height_15 : decode cX7_height 15 = .ok (.iload_n 2, 1) := by decide +kernel
theorem dX7_height_16 : decode cX7_height 16 = .ok (.invokestatic 76, 3) := by decide +kernel
theorem dX7_height_19 : decode cX7_height 19 = .ok (.ifCond .ne 7, 3) := by decide +kernel
theorem dX7_height_22 : decode cX7_height 22 = .ok (.ldc2_w 83, 3) := by decide +kernel
theorem dX7_height_25 : decode cX7_height 25 = .ok (.lreturn, 1) := by decide +kernel
theorem dX7_height_26 : decode cX7_height 26 = .ok (.aload_n 0, 1) := by decide +kernel
theorem dX7_height_27 : decode cX7_height 27 = .ok (.getfield 32, 3) := by decide +kernel
theorem dX7_height_30 : decode cX7_height 30 = .ok (.invokevirtual 171, 3) := by decide +kernel
theorem dX7_height_33 : decode cX7_height 33 = .ok (.ifCond .eq 25, 3) := by decide +kernel
theorem dX7_height_36 : decode cX7_height 36 = .ok (.aload_n 0, 1) := by decide +kernel
theorem dX7_height_37 : decode cX7_height 37 = .ok (.getfield 32, 3) := by decide +kernel
theorem dX7_height_40 : decode cX7_height 40 = .ok (.iload_n 1, 1) := by decide +kernel
theorem dX7_height_41 : decode cX7_height 41 = .ok (.invokevirtual 174, 3) := by decide +kernel
theorem dX7_height_44 : decode cX7_height 44 = .ok (.aload_n 0, 1) := by decide +kernel
theorem dX7_height_45 : decode cX7_height 45 = .ok (.getfield 32, 3) := by decide +kernel
theorem dX7_height_48 : decode cX7_height 48 = .ok (.invokevirtual 177, 3) := by decide +kernel
theorem dX7_height_51 : decode cX7_height 51 = .ok (.iload_n 2, 1) := by decide +kernel
theorem dX7_height_52 : decode cX7_height 52 = .ok (.invokestatic 181, 3) := by decide +kernel
theorem dX7_height_55 : decode cX7_height 55 = .ok (.goto 6, 3) := by decide +kernel
theorem dX7_height_58 : decode cX7_height 58 = .ok (.ldc2_w 185, 3) := by decide +kernel
theorem dX7_height_61 : decode cX7_height 61 = .ok (.lreturn, 1) := by decide +kernel
