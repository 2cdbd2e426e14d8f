theorem dX0_init_0 : decode cX0_init 0 = .ok (.aload_n 0, 1) := by decide +kernel
theorem dX0_init_1 : decode cX0_init 1 = .ok (.invokespecial 3, 3) := by decide +kernel
theorem dX0_init_4 : decode cX0_init 4 = .ok (.aload_n 0, 1) := by decide +kernel
theorem dX0_init_5 : decode cX0_init 5 = .ok (.bipush 8, 2) := by decide +kernel
theorem dX0_init_7 : decode cX0_init 7 = .ok (.anewarray 11, 3) := by decide +kernel
theorem dX0_init_10 : decode cX0_init 10 = .ok (.putfield 13, 3) := by decide +kernel
theorem dX0_init_13 : decode cX0_init 13 = .ok (.aload_n 0, 1) := by decide +kernel
theorem dX0_init_14 : decode cX0_init 14 = .ok (.iconst 0, 1) := by decide +kernel
theorem dX0_init_15 : decode cX0_init 15 = .ok (.putfield 17, 3) := by decide +kernel
theorem dX0_init_18 : decode cX0_init 18 = .ok (.aload_n 0, 1) := by decide +kernel
theorem dX0_init_19 : decode cX0_init 19 = .ok (.bipush 8, 2) := by decide +kernel
theorem dX0_init_21 : decode cX0_init 21 = .ok (.newarray .int, 2) := by decide +kernel
theorem dX0_init_23 : decode cX0_init 23 = .ok (.putfield 21, 3) := by decide +kernel
theorem dX0_init_26 : decode cX0_init 26 = .ok (.aload_n 0, 1) := by decide +kernel
theorem dX0_init_27 : decode cX0_init 27 = .ok (.bipush 64, 2) := by decide +kernel
theorem dX0_init_29 : decode cX0_init 29 = .ok (.newarray .int, 2) := by decide +kernel
theorem dX0_init_31 : decode cX0_init 31 = .ok (.putfield 25, 3) := by decide +kernel
theorem dX0_init_34 : decode cX0_init 34 = .ok (.aload_n 0, 1) := by decide +kernel
theorem dX0_init_35 : decode cX0_init 35 = .ok (.bipush 64, 2) := by decide +kernel
theorem dX0_init_37 : decode cX0_init 37 = .ok (.newarray .int, 2) := by decide +kernel
theorem dX0_init_39 : decode cX0_init 39 = .ok (.putfield 28, 3) := by decide +kernel
theorem dX0_init_42 : decode cX0_init 42 = .ok (.aload_n 0, 1) := by decide +kernel
theorem dX0_init_43 : decode cX0_init 43 = .ok (.iconst 0, 1) := by decide +kernel
theorem dX0_init_44 : decode cX0_init 44 = .ok (.putfield 31, 3) := by decide +kernel
theorem dX0_init_47 : decode cX0_init 47 = .ok (.return_, 1) := by decide +kernel
theorem dX0_isFull_0 : decode cX0_isFull 0 = .ok (.aload_n 0, 1) := by decide +kernel
theorem dX0_isFull_1 : decode cX0_isFull 1 = .ok (.getfield 17, 3) := by decide +kernel
theorem dX0_isFull_4 : decode cX0_isFull 4 = .ok (.bipush 8, 2) := by decide +kernel
theorem dX0_isFull_6 : decode cX0_isFull 6 = .ok (.if_icmp .lt 7, 3) := by decide +kernel
theorem dX0_isFull_9 : decode cX0_isFull 9 = .ok (.iconst 1, 1) := by decide +kernel
theorem dX0_isFull_10 : decode cX0_isFull 10 = .ok (.goto 4, 3) := by decide +kernel
theorem dX0_isFull_13 : decode cX0_isFull 13 = .ok (.iconst 0, 1) := by decide +kernel
theorem dX0_isFull_14 : decode cX0_isFull 14 = .ok (.ireturn, 1) := by decide +kernel
theorem dX0_stationCount_0 : decode cX0_stationCount 0 = .ok (.aload_n 0, 1) := by decide +kernel
theorem dX0_stationCount_1 : decode cX0_stationCount 1 = .ok (.getfield 17, 3) := by decide +kernel
theorem dX0_stationCount_4 : decode cX0_stationCount 4 = .ok (.ireturn, 1) := by decide +kernel
theorem dX0_find_0 : decode cX0_find 0 = .ok (.iload_n 1, 1) := by decide +kernel
theorem dX0_find_1 : decode cX0_find 1 = .ok (.iconst 0, 1) := by decide +kernel
theorem dX0_find_2 : decode cX0_find 2 = .ok (.aload_n 0, 1) := by decide +kernel
theorem dX0_find_3 : decode cX0_find 3 = .ok (.getfield 17, 3) := by decide +kernel
theorem dX0_find_6 : decode cX0_find 6 = .ok (.iconst 1, 1) := by decide +kernel
theorem dX0_find_7 : decode cX0_find 7 = .ok (.isub, 1) := by decide +kernel
theorem dX0_find_8 : decode cX0_find 8 = .ok (.invokestatic 34, 3) := by decide +kernel
theorem dX0_find_11 : decode cX0_find 11 = .ok (.ifCond .eq 12, 3) := by decide +kernel
theorem dX0_find_14 : decode cX0_find 14 = .ok (.aload_n 0, 1) := by decide +kernel
theorem dX0_find_15 : decode cX0_find 15 = .ok (.getfield 13, 3) := by decide +kernel
theorem dX0_find_18 : decode cX0_find 18 = .ok (.iload_n 1, 1) := by decide +kernel
theorem dX0_find_19 : decode cX0_find 19 = .ok (.aaload, 1) := by decide +kernel
theorem dX0_find_20 : decode cX0_find 20 = .ok (.goto 4, 3) := by decide +kernel
theorem dX0_find_23 : decode cX0_find 23 = .ok (.aconst_null, 1) := by decide +kernel
theorem dX0_find_24 : decode cX0_find 24 = .ok (.areturn, 1) := by decide +kernel
theorem dX0_isTaken_0 : decode cX0_isTaken 0 = .ok (.iconst 0, 1) := by decide +kernel
theorem dX0_isTaken_1 : decode cX0_isTaken 1 = .ok (.istore_n 3, 1) := by decide +kernel
theorem dX0_isTaken_2 : decode cX0_isTaken 2 = .ok (.iload_n 3, 1) := by decide +kernel
theorem dX0_isTaken_3 : decode cX0_isTaken 3 = .ok (.aload_n 0, 1) := by decide +kernel
theorem dX0_isTaken_4 : decode cX0_isTaken 4 = .ok (.getfield 17, 3) := by decide +kernel
theorem dX0_isTaken_7 : decode cX0_isTaken 7 = .ok (.if_icmp .ge 33, 3) := by decide +kernel
theorem dX0_isTaken_10 : decode cX0_isTaken 10 = .ok (.aload_n 0, 1) := by decide +kernel
theorem dX0_isTaken_11 : decode cX0_isTaken 11 = .ok (.iload_n 3, 1) := by decide +kernel
theorem dX0_isTaken_12 : decode cX0_isTaken 12 = .ok (.invokevirtual 38, 3) := by decide +kernel
theorem dX0_isTaken_15 : decode cX0_isTaken 15 = .ok (.astore 4, 2) := by decide +kernel
theorem dX0_isTaken_17 : decode cX0_isTaken 17 = .ok (.aload 4, 2) := by decide +kernel
theorem dX0_isTaken_19 : decode cX0_isTaken 19 = .ok (.ifnull 15, 3) := by decide +kernel
theorem dX0_isTaken_22 : decode cX0_isTaken 22 = .ok (.aload 4, 2) := by decide +kernel
theorem dX0_isTaken_24 : decode cX0_isTaken 24 = .ok (.iload_n 1, 1) := by decide +kernel
theorem dX0_isTaken_25 : decode cX0_isTaken 25 = .ok (.iload_n 2, 1) := by decide +kernel
theorem dX0_isTaken_26 : decode cX0_isTaken 26 = .ok (.invokevirtual 42, 3) := by decide +kernel
theorem dX0_isTaken_29 : decode cX0_isTaken 29 = .ok (.ifCond .eq 5, 3) := by decide +kernel
theorem dX0_isTaken_32 : decode cX0_isTaken 32 = .ok (.iconst 1, 1) := by decide +kernel
theorem dX0_isTaken_33 : decode cX0_isTaken 33 = .ok (.ireturn, 1) := by decide +kernel
theorem dX0_isTaken_34 : decode cX0_isTaken 34 = .ok (.iinc 3 1, 3) := by decide +kernel
theorem dX0_isTaken_37 : decode cX0_isTaken 37 = .ok (.goto (-35), 3) := by decide +kernel
theorem dX0_isTaken_40 : decode cX0_isTaken 40 = .ok (.iconst 0, 1) := by decide +kernel
theorem dX0_isTaken_41 : decode cX0_isTaken 41 = .ok (.ireturn, 1) := by decide +kernel
theorem dX0_add_0 : decode cX0_add 0 = .ok (.aload_n 0, 1) := by decide +kernel
theorem dX0_add_1 : decode cX0_add 1 = .ok (.invokevirtual 46, 3) := by decide +kernel
theorem dX0_add_4 : decode cX0_add 4 = .ok (.ifCond .eq 6, 3) := by decide +kernel
theorem dX0_add_7 : decode cX0_add 7 = .ok (.bipush (-4), 2) := by decide +kernel
theorem dX0_add_9 : decode cX0_add 9 = .ok (.ireturn, 1) := by decide +kernel
theorem dX0_add_10 : decode cX0_add 10 = .ok (.aload_n 0, 1) := by decide +kernel
theorem dX0_add_11 : decode cX0_add 11 = .ok (.getfield 13, 3) := by decide +kernel
theorem dX0_add_14 : decode cX0_add 14 = .ok (.aload_n 0, 1) := by decide +kernel
theorem dX0_add_15 : decode cX0_add 15 = .ok (.getfield 17, 3) := by decide +kernel
theorem dX0_add_18 : decode cX0_add 18 = .ok (.new 11, 3) := by decide +kernel
theorem dX0_add_21 : decode cX0_add 21 = .ok (.dup, 1) := by decide +kernel
theorem dX0_add_22 : decode cX0_add 22 = .ok (.iload_n 1, 1) := by decide +kernel
theorem dX0_add_23 : decode cX0_add 23 = .ok (.iload_n 2, 1) := by decide +kernel
theorem dX0_add_24 : decode cX0_add 24 = .ok (.iload_n 3, 1) := by decide +kernel
theorem dX0_add_25 : decode cX0_add 25 = .ok (.aload 4, 2) := by decide +kernel
theorem dX0_add_27 : decode cX0_add 27 = .ok (.invokespecial 50, 3) := by decide +kernel
theorem dX0_add_30 : decode cX0_add 30 = .ok (.aastore, 1) := by decide +kernel
theorem dX0_add_31 : decode cX0_add 31 = .ok (.aload_n 0, 1) := by decide +kernel
theorem dX0_add_32 : decode cX0_add 32 = .ok (.dup, 1) := by decide +kernel
theorem dX0_add_33 : decode cX0_add 33 = .ok (.getfield 17, 3) := by decide +kernel
theorem dX0_add_36 : decode cX0_add 36 = .ok (.dup_x1, 1) := by decide +kernel
theorem dX0_add_37 : decode cX0_add 37 = .ok (.iconst 1, 1) := by decide +kernel
theorem dX0_add_38 : decode cX0_add 38 = .ok (.iadd, 1) := by decide +kernel
theorem dX0_add_39 : decode cX0_add 39 = .ok (.putfield 17, 3) := by decide +kernel
theorem dX0_add_42 : decode cX0_add 42 = .ok (.ireturn, 1) := by decide +kernel
theorem dX0_countReadings_0 : decode cX0_countReadings 0 = .ok (.iconst 0, 1) := by decide +kernel
theorem dX0_countReadings_1 : decode cX0_countReadings 1 = .ok (.istore_n 1, 1) := by decide +kernel
theorem dX0_countReadings_2 : decode cX0_countReadings 2 = .ok (.iconst 0, 1) := by decide +kernel
theorem dX0_countReadings_3 : decode cX0_countReadings 3 = .ok (.istore_n 2, 1) := by decide +kernel
theorem dX0_countReadings_4 : decode cX0_countReadings 4 = .ok (.iload_n 2, 1) := by decide +kernel
theorem dX0_countReadings_5 : decode cX0_countReadings 5 = .ok (.aload_n 0, 1) := by decide +kernel
theorem dX0_countReadings_6 : decode cX0_countReadings 6 = .ok (.getfield 17, 3) := by decide +kernel
theorem dX0_countReadings_9 : decode cX0_countReadings 9 = .ok (.if_icmp .ge 30, 3) := by decide +kernel
theorem dX0_countReadings_12 : decode cX0_countReadings 12 = .ok (.aload_n 0, 1) := by decide +kernel
theorem dX0_countReadings_13 : decode cX0_countReadings 13 = .ok (.iload_n 2, 1) := by decide +kernel
theorem dX0_countReadings_14 : decode cX0_countReadings 14 = .ok (.invokevirtual 38, 3) := by decide +kernel
theorem dX0_countReadings_17 : decode cX0_countReadings 17 = .ok (.astore_n 3, 1) := by decide +kernel
theorem dX0_countReadings_18 : decode cX0_countReadings 18 = .ok (.iload_n 1, 1) := by decide +kernel
theorem dX0_countReadings_19 : decode cX0_countReadings 19 = .ok (.aload_n 3, 1) := by decide +kernel
theorem dX0_countReadings_20 : decode cX0_countReadings 20 = .ok (.ifnonnull 7, 3) := by decide +kernel
theorem dX0_countReadings_23 : decode cX0_countReadings 23 = .ok (.iconst 0, 1) := by decide +kernel
theorem dX0_countReadings_24 : decode cX0_countReadings 24 = .ok (.goto 7, 3) := by decide +kernel
theorem dX0_countReadings_27 : decode cX0_countReadings 27 = .ok (.aload_n 3, 1) := by decide +kernel
theorem dX0_countReadings_28 : decode cX0_countReadings 28 = .ok (.invokevirtual 53, 3) := by decide +kernel
theorem dX0_countReadings_31 : decode cX0_countReadings 31 = .ok (.iadd, 1) := by decide +kernel
theorem dX0_countReadings_32 : decode cX0_countReadings 32 = .ok (.istore_n 1, 1) := by decide +kernel
theorem dX0_countReadings_33 : decode cX0_countReadings 33 = .ok (.iinc 2 1, 3) := by decide +kernel
theorem dX0_countReadings_36 : decode cX0_countReadings 36 = .ok (.goto (-32), 3) := by decide +kernel
theorem dX0_countReadings_39 : decode cX0_countReadings 39 = .ok (.iload_n 1, 1) := by decide +kernel
theorem dX0_countReadings_40 : decode cX0_countReadings 40 = .ok (.ireturn, 1) := by decide +kernel
theorem dX0_countMendings_0 : decode cX0_countMendings 0 = .ok (.iconst 0, 1) := by decide +kernel
theorem dX0_countMendings_1 : decode cX0_countMendings 1 = .ok (.istore_n 1, 1) := by decide +kernel
theorem dX0_countMendings_2 : decode cX0_countMendings 2 = .ok (.iconst 0, 1) := by decide +kernel
theorem dX0_countMendings_3 : decode cX0_countMendings 3 = .ok (.istore_n 2, 1) := by decide +kernel
theorem dX0_countMendings_4 : decode cX0_countMendings 4 = .ok (.iload_n 2, 1) := by decide +kernel
theorem dX0_countMendings_5 : decode cX0_countMendings 5 = .ok (.aload_n 0, 1) := by decide +kernel
theorem dX0_countMendings_6 : decode cX0_countMendings 6 = .ok (.getfield 17, 3) := by decide +kernel
theorem dX0_countMendings_9 : decode cX0_countMendings 9 = .ok (.if_icmp .ge 30, 3) := by decide +kernel
theorem dX0_countMendings_12 : decode cX0_countMendings 12 = .ok (.aload_n 0, 1) := by decide +kernel
theorem dX0_countMendings_13 : decode cX0_countMendings 13 = .ok (.iload_n 2, 1) := by decide +kernel
theorem dX0_countMendings_14 : decode cX0_countMendings 14 = .ok (.invokevirtual 38, 3) := by decide +kernel
theorem dX0_countMendings_17 : decode cX0_countMendings 17 = .ok (.astore_n 3, 1) := by decide +kernel
theorem dX0_countMendings_18 : decode cX0_countMendings 18 = .ok (.iload_n 1, 1) := by decide +kernel
theorem dX0_countMendings_19 : decode cX0_countMendings 19 = .ok (.aload_n 3, 1) := by decide +kernel
theorem dX0_countMendings_20 : decode cX0_countMendings 20 = .ok (.ifnonnull 7, 3) := by decide +kernel
theorem dX0_countMendings_23 : decode cX0_countMendings 23 = .ok (.iconst 0, 1) := by decide +kernel
theorem dX0_countMendings_24 : decode cX0_countMendings 24 = .ok (.goto 7, 3) := by decide +kernel
theorem dX0_countMendings_27 : decode cX0_countMendings 27 = .ok (.aload_n 3, 1) := by decide +kernel
theorem dX0_countMendings_28 : decode cX0_countMendings 28 = .ok (.invokevirtual 57, 3) := by decide +kernel
theorem dX0_countMendings_31 : decode cX0_countMendings 31 = .ok (.iadd, 1) := by decide +kernel
theorem dX0_countMendings_32 : decode cX0_countMendings 32 = .ok (.istore_n 1, 1) := by decide +kernel
theorem dX0_countMendings_33 : decode cX0_countMendings 33 = .ok (.iinc 2 1, 3) := by decide +kernel
theorem dX0_countMendings_36 : decode cX0_countMendings 36 = .ok (.goto (-32), 3) := by decide +kernel
theorem dX0_countMendings_39 : decode cX0_countMendings 39 = .ok (.iload_n 1, 1) := by decide +kernel
theorem dX0_countMendings_40 : decode cX0_countMendings 40 = .ok (.ireturn, 1) := by decide +kernel
theorem dX0_readLevels_0 : decode cX0_readLevels 0 = .ok (.iconst 0, 1) := by decide +kernel
theorem dX0_readLevels_1 : decode cX0_readLevels 1 = .ok (.istore_n 2, 1) := by decide +kernel
theorem dX0_readLevels_2 : decode cX0_readLevels 2 = .ok (.iconst 0, 1) := by decide +kernel
theorem dX0_readLevels_3 : decode cX0_readLevels 3 = .ok (.istore_n 3, 1) := by decide +kernel
theorem dX0_readLevels_4 : decode cX0_readLevels 4 = .ok (.iload_n 3, 1) := by decide +kernel
theorem dX0_readLevels_5 : decode cX0_readLevels 5 = .ok (.aload_n 0, 1) := by decide +kernel
theorem dX0_readLevels_6 : decode cX0_readLevels 6 = .ok (.getfield 17, 3) := by decide +kernel
theorem dX0_readLevels_9 : decode cX0_readLevels 9 = .ok (.if_icmp .ge 65, 3) := by decide +kernel
theorem dX0_readLevels_12 : decode cX0_readLevels 12 = .ok (.aload_n 0, 1) := by decide +kernel
theorem dX0_readLevels_13 : decode cX0_readLevels 13 = .ok (.iload_n 3, 1) := by decide +kernel
theorem dX0_readLevels_14 : decode cX0_readLevels 14 = .ok (.invokevirtual 38, 3) := by decide +kernel
theorem dX0_readLevels_17 : decode cX0_readLevels 17 = .ok (.astore 4, 2) := by decide +kernel
theorem dX0_readLevels_19 : decode cX0_readLevels 19 = .ok (.aload_n 0, 1) := by decide +kernel
theorem dX0_readLevels_20 : decode cX0_readLevels 20 = .ok (.getfield 21, 3) := by decide +kernel
theorem dX0_readLevels_23 : decode cX0_readLevels 23 = .ok (.iload_n 3, 1) := by decide +kernel
theorem dX0_readLevels_24 : decode cX0_readLevels 24 = .ok (.aload 4, 2) := by decide +kernel
theorem dX0_readLevels_26 : decode cX0_readLevels 26 = .ok (.ifnull 21, 3) := by decide +kernel
theorem dX0_readLevels_29 : decode cX0_readLevels 29 = .ok (.aload 4, 2) := by decide +kernel
theorem dX0_readLevels_31 : decode cX0_readLevels 31 = .ok (.iload_n 1, 1) := by decide +kernel
theorem dX0_readLevels_32 : decode cX0_readLevels 32 = .ok (.invokevirtual 60, 3) := by decide +kernel
theorem dX0_readLevels_35 : decode cX0_readLevels 35 = .ok (.ifCond .eq 12, 3) := by decide +kernel
theorem dX0_readLevels_38 : decode cX0_readLevels 38 = .ok (.aload 4, 2) := by decide +kernel
theorem dX0_readLevels_40 : decode cX0_readLevels 40 = .ok (.iload_n 1, 1) := by decide +kernel
theorem dX0_readLevels_41 : decode cX0_readLevels 41 = .ok (.invokevirtual 64, 3) := by decide +kernel
theorem dX0_readLevels_44 : decode cX0_readLevels 44 = .ok (.goto 4, 3) := by decide +kernel
theorem dX0_readLevels_47 : decode cX0_readLevels 47 = .ok (.iconst 0, 1) := by decide +kernel
theorem dX0_readLevels_48 : decode cX0_readLevels 48 = .ok (.iastore, 1) := by decide +kernel
theorem dX0_readLevels_49 : decode cX0_readLevels 49 = .ok (.iload_n 2, 1) := by decide +kernel
theorem dX0_readLevels_50 : decode cX0_readLevels 50 = .ok (.ifCond .ne 12, 3) := by decide +kernel
theorem dX0_readLevels_53 : decode cX0_readLevels 53 = .ok (.aload_n 0, 1) := by decide +kernel
theorem dX0_readLevels_54 : decode cX0_readLevels 54 = .ok (.getfield 21, 3) := by decide +kernel
theorem dX0_readLevels_57 : decode cX0_readLevels 57 = .ok (.iload_n 3, 1) := by decide +kernel
theorem dX0_readLevels_58 : decode cX0_readLevels 58 = .ok (.iaload, 1) := by decide +kernel
theorem dX0_readLevels_59 : decode cX0_readLevels 59 = .ok (.ifCond .eq 7, 3) := by decide +kernel
theorem dX0_readLevels_62 : decode cX0_readLevels 62 = .ok (.iconst 1, 1) := by decide +kernel
theorem dX0_readLevels_63 : decode cX0_readLevels 63 = .ok (.goto 4, 3) := by decide +kernel
theorem dX0_readLevels_66 : decode cX0_readLevels 66 = .ok (.iconst 0, 1) := by decide +kernel
theorem dX0_readLevels_67 : decode cX0_readLevels 67 = .ok (.istore_n 2, 1) := by decide +kernel
theorem dX0_readLevels_68 : decode cX0_readLevels 68 = .ok (.iinc 3 1, 3) := by decide +kernel
theorem dX0_readLevels_71 : decode cX0_readLevels 71 = .ok (.goto (-67), 3) := by decide +kernel
theorem dX0_readLevels_74 : decode cX0_readLevels 74 = .ok (.iload_n 2, 1) := by decide +kernel
theorem dX0_readLevels_75 : decode cX0_readLevels 75 = .ok (.ireturn, 1) := by decide +kernel
theorem dX0_readHour_0 : decode cX0_readHour 0 = .ok (.aload_n 0, 1) := by decide +kernel
theorem dX0_readHour_1 : decode cX0_readHour 1 = .ok (.iconst 0, 1) := by decide +kernel
theorem dX0_readHour_2 : decode cX0_readHour 2 = .ok (.putfield 31, 3) := by decide +kernel
theorem dX0_readHour_5 : decode cX0_readHour 5 = .ok (.aload_n 0, 1) := by decide +kernel
theorem dX0_readHour_6 : decode cX0_readHour 6 = .ok (.iload_n 1, 1) := by decide +kernel
theorem dX0_readHour_7 : decode cX0_readHour 7 = .ok (.invokevirtual 68, 3) := by decide +kernel
theorem dX0_readHour_10 : decode cX0_readHour 10 = .ok (.ifCond .ne 5, 3) := by decide +kernel
theorem dX0_readHour_13 : decode cX0_readHour 13 = .ok (.iconst 0, 1) := by decide +kernel
theorem dX0_readHour_14 : decode cX0_readHour 14 = .ok (.ireturn, 1) := by decide +kernel
theorem dX0_readHour_15 : decode cX0_readHour 15 = .ok (.iconst 0, 1) := by decide +kernel
theorem dX0_readHour_16 : decode cX0_readHour 16 = .ok (.istore_n 2, 1) := by decide +kernel
theorem dX0_readHour_17 : decode cX0_readHour 17 = .ok (.iload_n 2, 1) := by decide +kernel
theorem dX0_readHour_18 : decode cX0_readHour 18 = .ok (.aload_n 0, 1) := by decide +kernel
theorem dX0_readHour_19 : decode cX0_readHour 19 = .ok (.getfield 25, 3) := by decide +kernel
theorem dX0_readHour_22 : decode cX0_readHour 22 = .ok (.arraylength, 1) := by decide +kernel
theorem dX0_readHour_23 : decode cX0_readHour 23 = .ok (.if_icmp .ge 29, 3) := by decide +kernel
theorem dX0_readHour_26 : decode cX0_readHour 26 = .ok (.aload_n 0, 1) := by decide +kernel
theorem dX0_readHour_27 : decode cX0_readHour 27 = .ok (.getfield 25, 3) := by decide +kernel
theorem dX0_readHour_30 : decode cX0_readHour 30 = .ok (.iload_n 2, 1) := by decide +kernel
theorem dX0_readHour_31 : decode cX0_readHour 31 = .ok (.aload_n 0, 1) := by decide +kernel
theorem dX0_readHour_32 : decode cX0_readHour 32 = .ok (.iload_n 2, 1) := by decide +kernel
theorem dX0_readHour_33 : decode cX0_readHour 33 = .ok (.bipush 8, 2) := by decide +kernel
theorem dX0_readHour_35 : decode cX0_readHour 35 = .ok (.irem, 1) := by decide +kernel
theorem dX0_readHour_36 : decode cX0_readHour 36 = .ok (.iload_n 2, 1) := by decide +kernel
theorem dX0_readHour_37 : decode cX0_readHour 37 = .ok (.bipush 8, 2) := by decide +kernel
theorem dX0_readHour_39 : decode cX0_readHour 39 = .ok (.idiv, 1) := by decide +kernel
theorem dX0_readHour_40 : decode cX0_readHour 40 = .ok (.bipush (-6), 2) := by decide +kernel
theorem dX0_readHour_42 : decode cX0_readHour 42 = .ok (.invokevirtual 71, 3) := by decide +kernel
theorem dX0_readHour_45 : decode cX0_readHour 45 = .ok (.iastore, 1) := by decide +kernel
theorem dX0_readHour_46 : decode cX0_readHour 46 = .ok (.iinc 2 1, 3) := by decide +kernel
theorem dX0_readHour_49 : decode cX0_readHour 49 = .ok (.goto (-32), 3) := by decide +kernel
theorem dX0_readHour_52 : decode cX0_readHour 52 = .ok (.iconst 0, 1) := by decide +kernel
theorem dX0_readHour_53 : decode cX0_readHour 53 = .ok (.istore_n 2, 1) := by decide +kernel
theorem dX0_readHour_54 : decode cX0_readHour 54 = .ok (.iload_n 2, 1) := by decide +kernel
theorem dX0_readHour_55 : decode cX0_readHour 55 = .ok (.aload_n 0, 1) := by decide +kernel
theorem dX0_readHour_56 : decode cX0_readHour 56 = .ok (.getfield 25, 3) := by decide +kernel
theorem dX0_readHour_59 : decode cX0_readHour 59 = .ok (.arraylength, 1) := by decide +kernel
theorem dX0_readHour_60 : decode cX0_readHour 60 = .ok (.if_icmp .ge 34, 3) := by decide +kernel
theorem dX0_readHour_63 : decode cX0_readHour 63 = .ok (.aload_n 0, 1) := by decide +kernel
theorem dX0_readHour_64 : decode cX0_readHour 64 = .ok (.iload_n 2, 1) := by decide +kernel
theorem dX0_readHour_65 : decode cX0_readHour 65 = .ok (.invokevirtual 75, 3) := by decide +kernel
theorem dX0_readHour_68 : decode cX0_readHour 68 = .ok (.ifCond .eq 20, 3) := by decide +kernel
theorem dX0_readHour_71 : decode cX0_readHour 71 = .ok (.aload_n 0, 1) := by decide +kernel
theorem dX0_readHour_72 : decode cX0_readHour 72 = .ok (.getfield 28, 3) := by decide +kernel
theorem dX0_readHour_75 : decode cX0_readHour 75 = .ok (.aload_n 0, 1) := by decide +kernel
theorem dX0_readHour_76 : decode cX0_readHour 76 = .ok (.dup, 1) := by decide +kernel
theorem dX0_readHour_77 : decode cX0_readHour 77 = .ok (.getfield 31, 3) := by decide +kernel
theorem dX0_readHour_80 : decode cX0_readHour 80 = .ok (.dup_x1, 1) := by decide +kernel
theorem dX0_readHour_81 : decode cX0_readHour 81 = .ok (.iconst 1, 1) := by decide +kernel
theorem dX0_readHour_82 : decode cX0_readHour 82 = .ok (.iadd, 1) := by decide +kernel
theorem dX0_readHour_83 : decode cX0_readHour 83 = .ok (.putfield 31, 3) := by decide +kernel
theorem dX0_readHour_86 : decode cX0_readHour 86 = .ok (.iload_n 2, 1) := by decide +kernel
theorem dX0_readHour_87 : decode cX0_readHour 87 = .ok (.iastore, 1) := by decide +kernel
theorem dX0_readHour_88 : decode cX0_readHour 88 = .ok (.iinc 2 1, 3) := by decide +kernel
theorem dX0_readHour_91 : decode cX0_readHour 91 = .ok (.goto (-37), 3) := by decide +kernel
theorem dX0_readHour_94 : decode cX0_readHour 94 = .ok (.iconst 1, 1) := by decide +kernel
theorem dX0_readHour_95 : decode cX0_readHour 95 = .ok (.ireturn, 1) := by decide +kernel
theorem dX0_fieldAt_0 : decode cX0_fieldAt 0 = .ok (.lconst 0, 1) := by decide +kernel
theorem dX0_fieldAt_1 : decode cX0_fieldAt 1 = .ok (.lstore 4, 2) := by decide +kernel
theorem dX0_fieldAt_3 : decode cX0_fieldAt 3 = .ok (.lconst 0, 1) := by decide +kernel
theorem dX0_fieldAt_4 : decode cX0_fieldAt 4 = .ok (.lstore 6, 2) := by decide +kernel
theorem dX0_fieldAt_6 : decode cX0_fieldAt 6 = .ok (.iconst 0, 1) := by decide +kernel
theorem dX0_fieldAt_7 : decode cX0_fieldAt 7 = .ok (.istore 8, 2) := by decide +kernel
theorem dX0_fieldAt_9 : decode cX0_fieldAt 9 = .ok (.iload 8, 2) := by decide +kernel
theorem dX0_fieldAt_11 : decode cX0_fieldAt 11 = .ok (.aload_n 0, 1) := by decide +kernel
theorem dX0_fieldAt_12 : decode cX0_fieldAt 12 = .ok (.getfield 17, 3) := by decide +kernel
theorem dX0_fieldAt_15 : decode cX0_fieldAt 15 = .ok (.if_icmp .ge 86, 3) := by decide +kernel
theorem dX0_fieldAt_18 : decode cX0_fieldAt 18 = .ok (.aload_n 0, 1) := by decide +kernel
theorem dX0_fieldAt_19 : decode cX0_fieldAt 19 = .ok (.iload 8, 2) := by decide +kernel
theorem dX0_fieldAt_21 : decode cX0_fieldAt 21 = .ok (.invokevirtual 38, 3) := by decide +kernel
theorem dX0_fieldAt_24 : decode cX0_fieldAt 24 = .ok (.astore 9, 2) := by decide +kernel
theorem dX0_fieldAt_26 : decode cX0_fieldAt 26 = .ok (.aload 9, 2) := by decide +kernel
theorem dX0_fieldAt_28 : decode cX0_fieldAt 28 = .ok (.ifnull 67, 3) := by decide +kernel
theorem dX0_fieldAt_31 : decode cX0_fieldAt 31 = .ok (.aload_n 0, 1) := by decide +kernel
theorem dX0_fieldAt_32 : decode cX0_fieldAt 32 = .ok (.getfield 21, 3) := by decide +kernel
theorem dX0_fieldAt_35 : decode cX0_fieldAt 35 = .ok (.iload 8, 2) := by decide +kernel
theorem dX0_fieldAt_37 : decode cX0_fieldAt 37 = .ok (.iaload, 1) := by decide +kernel
theorem dX0_fieldAt_38 : decode cX0_fieldAt 38 = .ok (.ifCond .eq 57, 3) := by decide +kernel
theorem dX0_fieldAt_41 : decode cX0_fieldAt 41 = .ok (.iload 8, 2) := by decide +kernel
theorem dX0_fieldAt_43 : decode cX0_fieldAt 43 = .ok (.iload_n 3, 1) := by decide +kernel
theorem dX0_fieldAt_44 : decode cX0_fieldAt 44 = .ok (.if_icmp .eq 51, 3) := by decide +kernel
theorem dX0_fieldAt_47 : decode cX0_fieldAt 47 = .ok (.sipush 1000, 3) := by decide +kernel
theorem dX0_fieldAt_50 : decode cX0_fieldAt 50 = .ok (.iconst 1, 1) := by decide +kernel
theorem dX0_fieldAt_51 : decode cX0_fieldAt 51 = .ok (.iload_n 1, 1) := by decide +kernel
theorem dX0_fieldAt_52 : decode cX0_fieldAt 52 = .ok (.iload_n 2, 1) := by decide +kernel
theorem dX0_fieldAt_53 : decode cX0_fieldAt 53 = .ok (.aload 9, 2) := by decide +kernel
theorem dX0_fieldAt_55 : decode cX0_fieldAt 55 = .ok (.getfield 78, 3) := by decide +kernel
theorem dX0_fieldAt_58 : decode cX0_fieldAt 58 = .ok (.aload 9, 2) := by decide +kernel
theorem dX0_fieldAt_60 : decode cX0_fieldAt 60 = .ok (.getfield 81, 3) := by decide +kernel
theorem dX0_fieldAt_63 : decode cX0_fieldAt 63 = .ok (.invokestatic 84, 3) := by decide +kernel
theorem dX0_fieldAt_66 : decode cX0_fieldAt 66 = .ok (.iadd, 1) := by decide +kernel
theorem dX0_fieldAt_67 : decode cX0_fieldAt 67 = .ok (.idiv, 1) := by decide +kernel
theorem dX0_fieldAt_68 : decode cX0_fieldAt 68 = .ok (.istore 10, 2) := by decide +kernel
theorem dX0_fieldAt_70 : decode cX0_fieldAt 70 = .ok (.lload 4, 2) := by decide +kernel
theorem dX0_fieldAt_72 : decode cX0_fieldAt 72 = .ok (.aload_n 0, 1) := by decide +kernel
theorem dX0_fieldAt_73 : decode cX0_fieldAt 73 = .ok (.getfield 21, 3) := by decide +kernel
theorem dX0_fieldAt_76 : decode cX0_fieldAt 76 = .ok (.iload 8, 2) := by decide +kernel
theorem dX0_fieldAt_78 : decode cX0_fieldAt 78 = .ok (.iaload, 1) := by decide +kernel
theorem dX0_fieldAt_79 : decode cX0_fieldAt 79 = .ok (.i2l, 1) := by decide +kernel
theorem dX0_fieldAt_80 : decode cX0_fieldAt 80 = .ok (.iload 10, 2) := by decide +kernel
theorem dX0_fieldAt_82 : decode cX0_fieldAt 82 = .ok (.i2l, 1) := by decide +kernel
theorem dX0_fieldAt_83 : decode cX0_fieldAt 83 = .ok (.lmul, 1) := by decide +kernel
theorem dX0_fieldAt_84 : decode cX0_fieldAt 84 = .ok (.ladd, 1) := by decide +kernel
theorem dX0_fieldAt_85 : decode cX0_fieldAt 85 = .ok (.lstore 4, 2) := by decide +kernel
theorem dX0_fieldAt_87 : decode cX0_fieldAt 87 = .ok (.lload 6, 2) := by decide +kernel
theorem dX0_fieldAt_89 : decode cX0_fieldAt 89 = .ok (.iload 10, 2) := by decide +kernel
theorem dX0_fieldAt_91 : decode cX0_fieldAt 91 = .ok (.i2l, 1) := by decide +kernel
theorem dX0_fieldAt_92 : decode cX0_fieldAt 92 = .ok (.ladd, 1) := by decide +kernel
theorem dX0_fieldAt_93 : decode cX0_fieldAt 93 = .ok (.lstore 6, 2) := by decide +kernel
theorem dX0_fieldAt_95 : decode cX0_fieldAt 95 = .ok (.iinc 8 1, 3) := by decide +kernel
theorem dX0_fieldAt_98 : decode cX0_fieldAt 98 = .ok (.goto (-89), 3) := by decide +kernel
theorem dX0_fieldAt_101 : decode cX0_fieldAt 101 = .ok (.lload 4, 2) := by decide +kernel
theorem dX0_fieldAt_103 : decode cX0_fieldAt 103 = .ok (.lload 6, 2) := by decide +kernel
theorem dX0_fieldAt_105 : decode cX0_fieldAt 105 = .ok (.invokestatic 88, 3) := by decide +kernel
theorem dX0_fieldAt_108 : decode cX0_fieldAt 108 = .ok (.l2i, 1) := by decide +kernel
theorem dX0_fieldAt_109 : decode cX0_fieldAt 109 = .ok (.ireturn, 1) := by decide +kernel
theorem dX0_excess_0 : decode cX0_excess 0 = .ok (.aload_n 0, 1) := by decide +kernel
theorem dX0_excess_1 : decode cX0_excess 1 = .ok (.iload_n 1, 1) := by decide +kernel
theorem dX0_excess_2 : decode cX0_excess 2 = .ok (.invokevirtual 38, 3) := by decide +kernel
theorem dX0_excess_5 : decode cX0_excess 5 = .ok (.astore_n 2, 1) := by decide +kernel
theorem dX0_excess_6 : decode cX0_excess 6 = .ok (.aload_n 2, 1) := by decide +kernel
theorem dX0_excess_7 : decode cX0_excess 7 = .ok (.ifnull 12, 3) := by decide +kernel
theorem dX0_excess_10 : decode cX0_excess 10 = .ok (.aload_n 0, 1) := by decide +kernel
theorem dX0_excess_11 : decode cX0_excess 11 = .ok (.getfield 21, 3) := by decide +kernel
theorem dX0_excess_14 : decode cX0_excess 14 = .ok (.iload_n 1, 1) := by decide +kernel
theorem dX0_excess_15 : decode cX0_excess 15 = .ok (.iaload, 1) := by decide +kernel
theorem dX0_excess_16 : decode cX0_excess 16 = .ok (.ifCond .ne 6, 3) := by decide +kernel
theorem dX0_excess_19 : decode cX0_excess 19 = .ok (.ldc 92, 2) := by decide +kernel
theorem dX0_excess_21 : decode cX0_excess 21 = .ok (.ireturn, 1) := by decide +kernel
theorem dX0_excess_22 : decode cX0_excess 22 = .ok (.aload_n 0, 1) := by decide +kernel
theorem dX0_excess_23 : decode cX0_excess 23 = .ok (.aload_n 2, 1) := by decide +kernel
theorem dX0_excess_24 : decode cX0_excess 24 = .ok (.getfield 78, 3) := by decide +kernel
theorem dX0_excess_27 : decode cX0_excess 27 = .ok (.aload_n 2, 1) := by decide +kernel
theorem dX0_excess_28 : decode cX0_excess 28 = .ok (.getfield 81, 3) := by decide +kernel
theorem dX0_excess_31 : decode cX0_excess 31 = .ok (.iload_n 1, 1) := by decide +kernel
theorem dX0_excess_32 : decode cX0_excess 32 = .ok (.invokevirtual 71, 3) := by decide +kernel
theorem dX0_excess_35 : decode cX0_excess 35 = .ok (.istore_n 3, 1) := by decide +kernel
theorem dX0_excess_36 : decode cX0_excess 36 = .ok (.iload_n 3, 1) := by decide +kernel
theorem dX0_excess_37 : decode cX0_excess 37 = .ok (.ifCond .ne 8, 3) := by decide +kernel
theorem dX0_excess_40 : decode cX0_excess 40 = .ok (.ldc 92, 2) := by decide +kernel
theorem dX0_excess_42 : decode cX0_excess 42 = .ok (.goto 11, 3) := by decide +kernel
theorem dX0_excess_45 : decode cX0_excess 45 = .ok (.aload_n 0, 1) := by decide +kernel
theorem dX0_excess_46 : decode cX0_excess 46 = .ok (.getfield 21, 3) := by decide +kernel
theorem dX0_excess_49 : decode cX0_excess 49 = .ok (.iload_n 1, 1) := by decide +kernel
theorem dX0_excess_50 : decode cX0_excess 50 = .ok (.iaload, 1) := by decide +kernel
theorem dX0_excess_51 : decode cX0_excess 51 = .ok (.iload_n 3, 1) := by decide +kernel
theorem dX0_excess_52 : decode cX0_excess 52 = .ok (.isub, 1) := by decide +kernel
theorem dX0_excess_53 : decode cX0_excess 53 = .ok (.ireturn, 1) := by decide +kernel
theorem dX0_fieldOf_0 : decode cX0_fieldOf 0 = .ok (.aload_n 0, 1) := by decide +kernel
theorem dX0_fieldOf_1 : decode cX0_fieldOf 1 = .ok (.getfield 25, 3) := by decide +kernel
theorem dX0_fieldOf_4 : decode cX0_fieldOf 4 = .ok (.iload_n 1, 1) := by decide +kernel
theorem dX0_fieldOf_5 : decode cX0_fieldOf 5 = .ok (.iaload, 1) := by decide +kernel
theorem dX0_fieldOf_6 : decode cX0_fieldOf 6 = .ok (.ireturn, 1) := by decide +kernel
theorem dX0_isLow_0 : decode cX0_isLow 0 = .ok (.iload_n 1, 1) := by decide +kernel
theorem dX0_isLow_1 : decode cX0_isLow 1 = .ok (.bipush 8, 2) := by decide +kernel
theorem dX0_isLow_3 : decode cX0_isLow 3 = .ok (.irem, 1) := by decide +kernel
theorem dX0_isLow_4 : decode cX0_isLow 4 = .ok (.istore_n 2, 1) := by decide +kernel
theorem dX0_isLow_5 : decode cX0_isLow 5 = .ok (.iload_n 1, 1) := by decide +kernel
theorem dX0_isLow_6 : decode cX0_isLow 6 = .ok (.bipush 8, 2) := by decide +kernel
theorem dX0_isLow_8 : decode cX0_isLow 8 = .ok (.idiv, 1) := by decide +kernel
theorem dX0_isLow_9 : decode cX0_isLow 9 = .ok (.istore_n 3, 1) := by decide +kernel
theorem dX0_isLow_10 : decode cX0_isLow 10 = .ok (.iconst 0, 1) := by decide +kernel
theorem dX0_isLow_11 : decode cX0_isLow 11 = .ok (.iload_n 3, 1) := by decide +kernel
theorem dX0_isLow_12 : decode cX0_isLow 12 = .ok (.iconst 1, 1) := by decide +kernel
theorem dX0_isLow_13 : decode cX0_isLow 13 = .ok (.isub, 1) := by decide +kernel
theorem dX0_isLow_14 : decode cX0_isLow 14 = .ok (.invokestatic 93, 3) := by decide +kernel
theorem dX0_isLow_17 : decode cX0_isLow 17 = .ok (.istore 4, 2) := by decide +kernel
theorem dX0_isLow_19 : decode cX0_isLow 19 = .ok (.iload 4, 2) := by decide +kernel
theorem dX0_isLow_21 : decode cX0_isLow 21 = .ok (.bipush 7, 2) := by decide +kernel
theorem dX0_isLow_23 : decode cX0_isLow 23 = .ok (.iload_n 3, 1) := by decide +kernel
theorem dX0_isLow_24 : decode cX0_isLow 24 = .ok (.iconst 1, 1) := by decide +kernel
theorem dX0_isLow_25 : decode cX0_isLow 25 = .ok (.iadd, 1) := by decide +kernel
theorem dX0_isLow_26 : decode cX0_isLow 26 = .ok (.invokestatic 99, 3) := by decide +kernel
theorem dX0_isLow_29 : decode cX0_isLow 29 = .ok (.if_icmp .gt 87, 3) := by decide +kernel
theorem dX0_isLow_32 : decode cX0_isLow 32 = .ok (.iconst 0, 1) := by decide +kernel
theorem dX0_isLow_33 : decode cX0_isLow 33 = .ok (.iload_n 2, 1) := by decide +kernel
theorem dX0_isLow_34 : decode cX0_isLow 34 = .ok (.iconst 1, 1) := by decide +kernel
theorem dX0_isLow_35 : decode cX0_isLow 35 = .ok (.isub, 1) := by decide +kernel
theorem dX0_isLow_36 : decode cX0_isLow 36 = .ok (.invokestatic 93, 3) := by decide +kernel
theorem dX0_isLow_39 : decode cX0_isLow 39 = .ok (.istore 5, 2) := by decide +kernel
theorem dX0_isLow_41 : decode cX0_isLow 41 = .ok (.iload 5, 2) := by decide +kernel
theorem dX0_isLow_43 : decode cX0_isLow 43 = .ok (.bipush 7, 2) := by decide +kernel
theorem dX0_isLow_45 : decode cX0_isLow 45 = .ok (.iload_n 2, 1) := by decide +kernel
theorem dX0_isLow_46 : decode cX0_isLow 46 = .ok (.iconst 1, 1) := by decide +kernel
theorem dX0_isLow_47 : decode cX0_isLow 47 = .ok (.iadd, 1) := by decide +kernel
theorem dX0_isLow_48 : decode cX0_isLow 48 = .ok (.invokestatic 99, 3) := by decide +kernel
theorem dX0_isLow_51 : decode cX0_isLow 51 = .ok (.if_icmp .gt 59, 3) := by decide +kernel
theorem dX0_isLow_54 : decode cX0_isLow 54 = .ok (.bipush 8, 2) := by decide +kernel
theorem dX0_isLow_56 : decode cX0_isLow 56 = .ok (.iload 4, 2) := by decide +kernel
theorem dX0_isLow_58 : decode cX0_isLow 58 = .ok (.imul, 1) := by decide +kernel
theorem dX0_isLow_59 : decode cX0_isLow 59 = .ok (.iload 5, 2) := by decide +kernel
theorem dX0_isLow_61 : decode cX0_isLow 61 = .ok (.iadd, 1) := by decide +kernel
theorem dX0_isLow_62 : decode cX0_isLow 62 = .ok (.istore 6, 2) := by decide +kernel
theorem dX0_isLow_64 : decode cX0_isLow 64 = .ok (.aload_n 0, 1) := by decide +kernel
theorem dX0_isLow_65 : decode cX0_isLow 65 = .ok (.getfield 25, 3) := by decide +kernel
theorem dX0_isLow_68 : decode cX0_isLow 68 = .ok (.iload 6, 2) := by decide +kernel
theorem dX0_isLow_70 : decode cX0_isLow 70 = .ok (.iaload, 1) := by decide +kernel
theorem dX0_isLow_71 : decode cX0_isLow 71 = .ok (.aload_n 0, 1) := by decide +kernel
theorem dX0_isLow_72 : decode cX0_isLow 72 = .ok (.getfield 25, 3) := by decide +kernel
theorem dX0_isLow_75 : decode cX0_isLow 75 = .ok (.iload_n 1, 1) := by decide +kernel
theorem dX0_isLow_76 : decode cX0_isLow 76 = .ok (.iaload, 1) := by decide +kernel
theorem dX0_isLow_77 : decode cX0_isLow 77 = .ok (.if_icmp .lt 25, 3) := by decide +kernel
theorem dX0_isLow_80 : decode cX0_isLow 80 = .ok (.iload 6, 2) := by decide +kernel
theorem dX0_isLow_82 : decode cX0_isLow 82 = .ok (.iload_n 1, 1) := by decide +kernel
theorem dX0_isLow_83 : decode cX0_isLow 83 = .ok (.if_icmp .ge 21, 3) := by decide +kernel
theorem dX0_isLow_86 : decode cX0_isLow 86 = .ok (.aload_n 0, 1) := by decide +kernel
theorem dX0_isLow_87 : decode cX0_isLow 87 = .ok (.getfield 25, 3) := by decide +kernel
theorem dX0_isLow_90 : decode cX0_isLow 90 = .ok (.iload 6, 2) := by decide +kernel
theorem dX0_isLow_92 : decode cX0_isLow 92 = .ok (.iaload, 1) := by decide +kernel
theorem dX0_isLow_93 : decode cX0_isLow 93 = .ok (.aload_n 0, 1) := by decide +kernel
theorem dX0_isLow_94 : decode cX0_isLow 94 = .ok (.getfield 25, 3) := by decide +kernel
theorem dX0_isLow_97 : decode cX0_isLow 97 = .ok (.iload_n 1, 1) := by decide +kernel
theorem dX0_isLow_98 : decode cX0_isLow 98 = .ok (.iaload, 1) := by decide +kernel
theorem dX0_isLow_99 : decode cX0_isLow 99 = .ok (.if_icmp .ne 5, 3) := by decide +kernel
theorem dX0_isLow_102 : decode cX0_isLow 102 = .ok (.iconst 0, 1) := by decide +kernel
theorem dX0_isLow_103 : decode cX0_isLow 103 = .ok (.ireturn, 1) := by decide +kernel
theorem dX0_isLow_104 : decode cX0_isLow 104 = .ok (.iinc 5 1, 3) := by decide +kernel
theorem dX0_isLow_107 : decode cX0_isLow 107 = .ok (.goto (-66), 3) := by decide +kernel
theorem dX0_isLow_110 : decode cX0_isLow 110 = .ok (.iinc 4 1, 3) := by decide +kernel
theorem dX0_isLow_113 : decode cX0_isLow 113 = .ok (.goto (-94), 3) := by decide +kernel
theorem dX0_isLow_116 : decode cX0_isLow 116 = .ok (.iconst 1, 1) := by decide +kernel
theorem dX0_isLow_117 : decode cX0_isLow 117 = .ok (.ireturn, 1) := by decide +kernel
theorem dX0_lowCount_0 : decode cX0_lowCount 0 = .ok (.aload_n 0, 1) := by decide +kernel
theorem dX0_lowCount_1 : decode cX0_lowCount 1 = .ok (.getfield 31, 3) := by decide +kernel
theorem dX0_lowCount_4 : decode cX0_lowCount 4 = .ok (.ireturn, 1) := by decide +kernel
theorem dX0_lowPoint_0 : decode cX0_lowPoint 0 = .ok (.iload_n 1, 1) := by decide +kernel
theorem dX0_lowPoint_1 : decode cX0_lowPoint 1 = .ok (.iconst 0, 1) := by decide +kernel
theorem dX0_lowPoint_2 : decode cX0_lowPoint 2 = .ok (.aload_n 0, 1) := by decide +kernel
theorem dX0_lowPoint_3 : decode cX0_lowPoint 3 = .ok (.getfield 31, 3) := by decide +kernel
theorem dX0_lowPoint_6 : decode cX0_lowPoint 6 = .ok (.iconst 1, 1) := by decide +kernel
theorem dX0_lowPoint_7 : decode cX0_lowPoint 7 = .ok (.isub, 1) := by decide +kernel
theorem dX0_lowPoint_8 : decode cX0_lowPoint 8 = .ok (.invokestatic 34, 3) := by decide +kernel
theorem dX0_lowPoint_11 : decode cX0_lowPoint 11 = .ok (.ifCond .eq 12, 3) := by decide +kernel
theorem dX0_lowPoint_14 : decode cX0_lowPoint 14 = .ok (.aload_n 0, 1) := by decide +kernel
theorem dX0_lowPoint_15 : decode cX0_lowPoint 15 = .ok (.getfield 28, 3) := by decide +kernel
theorem dX0_lowPoint_18 : decode cX0_lowPoint 18 = .ok (.iload_n 1, 1) := by decide +kernel
theorem dX0_lowPoint_19 : decode cX0_lowPoint 19 = .ok (.iaload, 1) := by decide +kernel
theorem dX0_lowPoint_20 : decode cX0_lowPoint 20 = .ok (.goto 5, 3) := by decide +kernel
theorem dX0_lowPoint_23 : decode cX0_lowPoint 23 = .ok (.bipush (-6), 2) := by decide +kernel
theorem dX0_lowPoint_25 : decode cX0_lowPoint 25 = .ok (.ireturn, 1) := by decide +kernel
theorem dX0_lowNear_0 : decode cX0_lowNear 0 = .ok (.bipush (-6), 2) := by decide +kernel
theorem dX0_lowNear_2 : decode cX0_lowNear 2 = .ok (.istore_n 2, 1) := by decide +kernel
theorem dX0_lowNear_3 : decode cX0_lowNear 3 = .ok (.bipush 9, 2) := by decide +kernel
theorem dX0_lowNear_5 : decode cX0_lowNear 5 = .ok (.istore_n 3, 1) := by decide +kernel
theorem dX0_lowNear_6 : decode cX0_lowNear 6 = .ok (.iconst 0, 1) := by decide +kernel
theorem dX0_lowNear_7 : decode cX0_lowNear 7 = .ok (.istore 4, 2) := by decide +kernel
theorem dX0_lowNear_9 : decode cX0_lowNear 9 = .ok (.iload 4, 2) := by decide +kernel
theorem dX0_lowNear_11 : decode cX0_lowNear 11 = .ok (.aload_n 0, 1) := by decide +kernel
theorem dX0_lowNear_12 : decode cX0_lowNear 12 = .ok (.getfield 31, 3) := by decide +kernel
theorem dX0_lowNear_15 : decode cX0_lowNear 15 = .ok (.if_icmp .ge 59, 3) := by decide +kernel
theorem dX0_lowNear_18 : decode cX0_lowNear 18 = .ok (.iload_n 1, 1) := by decide +kernel
theorem dX0_lowNear_19 : decode cX0_lowNear 19 = .ok (.bipush 8, 2) := by decide +kernel
theorem dX0_lowNear_21 : decode cX0_lowNear 21 = .ok (.irem, 1) := by decide +kernel
theorem dX0_lowNear_22 : decode cX0_lowNear 22 = .ok (.iload_n 1, 1) := by decide +kernel
theorem dX0_lowNear_23 : decode cX0_lowNear 23 = .ok (.bipush 8, 2) := by decide +kernel
theorem dX0_lowNear_25 : decode cX0_lowNear 25 = .ok (.idiv, 1) := by decide +kernel
theorem dX0_lowNear_26 : decode cX0_lowNear 26 = .ok (.aload_n 0, 1) := by decide +kernel
theorem dX0_lowNear_27 : decode cX0_lowNear 27 = .ok (.getfield 28, 3) := by decide +kernel
theorem dX0_lowNear_30 : decode cX0_lowNear 30 = .ok (.iload 4, 2) := by decide +kernel
theorem dX0_lowNear_32 : decode cX0_lowNear 32 = .ok (.iaload, 1) := by decide +kernel
theorem dX0_lowNear_33 : decode cX0_lowNear 33 = .ok (.bipush 8, 2) := by decide +kernel
theorem dX0_lowNear_35 : decode cX0_lowNear 35 = .ok (.irem, 1) := by decide +kernel
theorem dX0_lowNear_36 : decode cX0_lowNear 36 = .ok (.aload_n 0, 1) := by decide +kernel
theorem dX0_lowNear_37 : decode cX0_lowNear 37 = .ok (.getfield 28, 3) := by decide +kernel
theorem dX0_lowNear_40 : decode cX0_lowNear 40 = .ok (.iload 4, 2) := by decide +kernel
theorem dX0_lowNear_42 : decode cX0_lowNear 42 = .ok (.iaload, 1) := by decide +kernel
theorem dX0_lowNear_43 : decode cX0_lowNear 43 = .ok (.bipush 8, 2) := by decide +kernel
theorem dX0_lowNear_45 : decode cX0_lowNear 45 = .ok (.idiv, 1) := by decide +kernel
theorem dX0_lowNear_46 : decode cX0_lowNear 46 = .ok (.invokestatic 84, 3) := by decide +kernel
theorem dX0_lowNear_49 : decode cX0_lowNear 49 = .ok (.istore 5, 2) := by decide +kernel
theorem dX0_lowNear_51 : decode cX0_lowNear 51 = .ok (.iload 5, 2) := by decide +kernel
theorem dX0_lowNear_53 : decode cX0_lowNear 53 = .ok (.iload_n 3, 1) := by decide +kernel
theorem dX0_lowNear_54 : decode cX0_lowNear 54 = .ok (.if_icmp .ge 14, 3) := by decide +kernel
theorem dX0_lowNear_57 : decode cX0_lowNear 57 = .ok (.iload 5, 2) := by decide +kernel
theorem dX0_lowNear_59 : decode cX0_lowNear 59 = .ok (.istore_n 3, 1) := by decide +kernel
theorem dX0_lowNear_60 : decode cX0_lowNear 60 = .ok (.aload_n 0, 1) := by decide +kernel
theorem dX0_lowNear_61 : decode cX0_lowNear 61 = .ok (.getfield 28, 3) := by decide +kernel
theorem dX0_lowNear_64 : decode cX0_lowNear 64 = .ok (.iload 4, 2) := by decide +kernel
theorem dX0_lowNear_66 : decode cX0_lowNear 66 = .ok (.iaload, 1) := by decide +kernel
theorem dX0_lowNear_67 : decode cX0_lowNear 67 = .ok (.istore_n 2, 1) := by decide +kernel
theorem dX0_lowNear_68 : decode cX0_lowNear 68 = .ok (.iinc 4 1, 3) := by decide +kernel
theorem dX0_lowNear_71 : decode cX0_lowNear 71 = .ok (.goto (-62), 3) := by decide +kernel
theorem dX0_lowNear_74 : decode cX0_lowNear 74 = .ok (.iload_n 2, 1) := by decide +kernel
theorem dX0_lowNear_75 : decode cX0_lowNear 75 = .ok (.ireturn, 1) := by decide +kernel
theorem dX1_holds_0 : decode cX1_holds 0 = .ok (.iload_n 0, 1) := by decide +kernel
theorem dX1_holds_1 : decode cX1_holds 1 = .ok (.iconst 1, 1) := by decide +kernel
theorem dX1_holds_2 : decode cX1_holds 2 = .ok (.sipush 20000, 3) := by decide +kernel
theorem dX1_holds_5 : decode cX1_holds 5 = .ok (.invokestatic 9, 3) := by decide +kernel
theorem dX1_holds_8 : decode cX1_holds 8 = .ok (.ireturn, 1) := by decide +kernel
theorem dX1_held_0 : decode cX1_held 0 = .ok (.lconst 1, 1) := by decide +kernel
theorem dX1_held_1 : decode cX1_held 1 = .ok (.ldc2_w 15, 3) := by decide +kernel
theorem dX1_held_4 : decode cX1_held 4 = .ok (.lload_n 0, 1) := by decide +kernel
theorem dX1_held_5 : decode cX1_held 5 = .ok (.invokestatic 17, 3) := by decide +kernel
theorem dX1_held_8 : decode cX1_held 8 = .ok (.invokestatic 23, 3) := by decide +kernel
theorem dX1_held_11 : decode cX1_held 11 = .ok (.l2i, 1) := by decide +kernel
theorem dX1_held_12 : decode cX1_held 12 = .ok (.ireturn, 1) := by decide +kernel
theorem dX1_climb_0 : decode cX1_climb 0 = .ok (.iload_n 0, 1) := by decide +kernel
theorem dX1_climb_1 : decode cX1_climb 1 = .ok (.invokestatic 26, 3) := by decide +kernel
theorem dX1_climb_4 : decode cX1_climb 4 = .ok (.iload_n 1, 1) := by decide +kernel
theorem dX1_climb_5 : decode cX1_climb 5 = .ok (.invokestatic 26, 3) := by decide +kernel
theorem dX1_climb_8 : decode cX1_climb 8 = .ok (.isub, 1) := by decide +kernel
theorem dX1_climb_9 : decode cX1_climb 9 = .ok (.i2l, 1) := by decide +kernel
theorem dX1_climb_10 : decode cX1_climb 10 = .ok (.sipush 2730, 3) := by decide +kernel
theorem dX1_climb_13 : decode cX1_climb 13 = .ok (.bipush 10, 2) := by decide +kernel
theorem dX1_climb_15 : decode cX1_climb 15 = .ok (.iload_n 2, 1) := by decide +kernel
theorem dX1_climb_16 : decode cX1_climb 16 = .ok (.imul, 1) := by decide +kernel
theorem dX1_climb_17 : decode cX1_climb 17 = .ok (.iadd, 1) := by decide +kernel
theorem dX1_climb_18 : decode cX1_climb 18 = .ok (.i2l, 1) := by decide +kernel
theorem dX1_climb_19 : decode cX1_climb 19 = .ok (.lmul, 1) := by decide +kernel
theorem dX1_climb_20 : decode cX1_climb 20 = .ok (.ldc2_w 30, 3) := by decide +kernel
theorem dX1_climb_23 : decode cX1_climb 23 = .ok (.invokestatic 32, 3) := by decide +kernel
theorem dX1_climb_26 : decode cX1_climb 26 = .ok (.lreturn, 1) := by decide +kernel
theorem dX1_reduced_0 : decode cX1_reduced 0 = .ok (.iload_n 1, 1) := by decide +kernel
theorem dX1_reduced_1 : decode cX1_reduced 1 = .ok (.ifCond .ne 5, 3) := by decide +kernel
theorem dX1_reduced_4 : decode cX1_reduced 4 = .ok (.iload_n 0, 1) := by decide +kernel
theorem dX1_reduced_5 : decode cX1_reduced 5 = .ok (.ireturn, 1) := by decide +kernel
theorem dX1_reduced_6 : decode cX1_reduced 6 = .ok (.ldc2_w 35, 3) := by decide +kernel
theorem dX1_reduced_9 : decode cX1_reduced 9 = .ok (.iload_n 1, 1) := by decide +kernel
theorem dX1_reduced_10 : decode cX1_reduced 10 = .ok (.invokestatic 37, 3) := by decide +kernel
theorem dX1_reduced_13 : decode cX1_reduced 13 = .ok (.i2l, 1) := by decide +kernel
theorem dX1_reduced_14 : decode cX1_reduced 14 = .ok (.lmul, 1) := by decide +kernel
theorem dX1_reduced_15 : decode cX1_reduced 15 = .ok (.iload_n 2, 1) := by decide +kernel
theorem dX1_reduced_16 : decode cX1_reduced 16 = .ok (.invokestatic 40, 3) := by decide +kernel
theorem dX1_reduced_19 : decode cX1_reduced 19 = .ok (.istore_n 3, 1) := by decide +kernel
theorem dX1_reduced_20 : decode cX1_reduced 20 = .ok (.iload_n 1, 1) := by decide +kernel
theorem dX1_reduced_21 : decode cX1_reduced 21 = .ok (.ifCond .le 13, 3) := by decide +kernel
theorem dX1_reduced_24 : decode cX1_reduced 24 = .ok (.iload_n 0, 1) := by decide +kernel
theorem dX1_reduced_25 : decode cX1_reduced 25 = .ok (.invokestatic 26, 3) := by decide +kernel
theorem dX1_reduced_28 : decode cX1_reduced 28 = .ok (.iload_n 3, 1) := by decide +kernel
theorem dX1_reduced_29 : decode cX1_reduced 29 = .ok (.iadd, 1) := by decide +kernel
theorem dX1_reduced_30 : decode cX1_reduced 30 = .ok (.invokestatic 44, 3) := by decide +kernel
theorem dX1_reduced_33 : decode cX1_reduced 33 = .ok (.ireturn, 1) := by decide +kernel
theorem dX1_reduced_34 : decode cX1_reduced 34 = .ok (.iconst 1, 1) := by decide +kernel
theorem dX1_reduced_35 : decode cX1_reduced 35 = .ok (.iload_n 0, 1) := by decide +kernel
theorem dX1_reduced_36 : decode cX1_reduced 36 = .ok (.invokestatic 26, 3) := by decide +kernel
theorem dX1_reduced_39 : decode cX1_reduced 39 = .ok (.iload_n 3, 1) := by decide +kernel
theorem dX1_reduced_40 : decode cX1_reduced 40 = .ok (.isub, 1) := by decide +kernel
theorem dX1_reduced_41 : decode cX1_reduced 41 = .ok (.iconst 1, 1) := by decide +kernel
theorem dX1_reduced_42 : decode cX1_reduced 42 = .ok (.iadd, 1) := by decide +kernel
theorem dX1_reduced_43 : decode cX1_reduced 43 = .ok (.invokestatic 44, 3) := by decide +kernel
theorem dX1_reduced_46 : decode cX1_reduced 46 = .ok (.iconst 1, 1) := by decide +kernel
theorem dX1_reduced_47 : decode cX1_reduced 47 = .ok (.isub, 1) := by decide +kernel
theorem dX1_reduced_48 : decode cX1_reduced 48 = .ok (.invokestatic 47, 3) := by decide +kernel
theorem dX1_reduced_51 : decode cX1_reduced 51 = .ok (.ireturn, 1) := by decide +kernel
theorem dX1_sumNeeded_0 : decode cX1_sumNeeded 0 = .ok (.sipush 2730, 3) := by decide +kernel
theorem dX1_sumNeeded_3 : decode cX1_sumNeeded 3 = .ok (.bipush 10, 2) := by decide +kernel
theorem dX1_sumNeeded_5 : decode cX1_sumNeeded 5 = .ok (.iload_n 2, 1) := by decide +kernel
theorem dX1_sumNeeded_6 : decode cX1_sumNeeded 6 = .ok (.imul, 1) := by decide +kernel
theorem dX1_sumNeeded_7 : decode cX1_sumNeeded 7 = .ok (.iadd, 1) := by decide +kernel
theorem dX1_sumNeeded_8 : decode cX1_sumNeeded 8 = .ok (.istore_n 3, 1) := by decide +kernel
theorem dX1_sumNeeded_9 : decode cX1_sumNeeded 9 = .ok (.lload_n 0, 1) := by decide +kernel
theorem dX1_sumNeeded_10 : decode cX1_sumNeeded 10 = .ok (.ldc2_w 30, 3) := by decide +kernel
theorem dX1_sumNeeded_13 : decode cX1_sumNeeded 13 = .ok (.lmul, 1) := by decide +kernel
theorem dX1_sumNeeded_14 : decode cX1_sumNeeded 14 = .ok (.iload_n 3, 1) := by decide +kernel
theorem dX1_sumNeeded_15 : decode cX1_sumNeeded 15 = .ok (.i2l, 1) := by decide +kernel
theorem dX1_sumNeeded_16 : decode cX1_sumNeeded 16 = .ok (.ladd, 1) := by decide +kernel
theorem dX1_sumNeeded_17 : decode cX1_sumNeeded 17 = .ok (.lconst 1, 1) := by decide +kernel
theorem dX1_sumNeeded_18 : decode cX1_sumNeeded 18 = .ok (.lsub, 1) := by decide +kernel
theorem dX1_sumNeeded_19 : decode cX1_sumNeeded 19 = .ok (.iload_n 3, 1) := by decide +kernel
theorem dX1_sumNeeded_20 : decode cX1_sumNeeded 20 = .ok (.i2l, 1) := by decide +kernel
theorem dX1_sumNeeded_21 : decode cX1_sumNeeded 21 = .ok (.invokestatic 32, 3) := by decide +kernel
theorem dX1_sumNeeded_24 : decode cX1_sumNeeded 24 = .ok (.l2i, 1) := by decide +kernel
theorem dX1_sumNeeded_25 : decode cX1_sumNeeded 25 = .ok (.ireturn, 1) := by decide +kernel
theorem dX1_sumTo_0 : decode cX1_sumTo 0 = .ok (.iload_n 0, 1) := by decide +kernel
theorem dX1_sumTo_1 : decode cX1_sumTo 1 = .ok (.bipush 100, 2) := by decide +kernel
theorem dX1_sumTo_3 : decode cX1_sumTo 3 = .ok (.idiv, 1) := by decide +kernel
theorem dX1_sumTo_4 : decode cX1_sumTo 4 = .ok (.istore_n 1, 1) := by decide +kernel
theorem dX1_sumTo_5 : decode cX1_sumTo 5 = .ok (.getstatic 50, 3) := by decide +kernel
theorem dX1_sumTo_8 : decode cX1_sumTo 8 = .ok (.iload_n 1, 1) := by decide +kernel
theorem dX1_sumTo_9 : decode cX1_sumTo 9 = .ok (.iaload, 1) := by decide +kernel
theorem dX1_sumTo_10 : decode cX1_sumTo 10 = .ok (.istore_n 2, 1) := by decide +kernel
theorem dX1_sumTo_11 : decode cX1_sumTo 11 = .ok (.iload_n 1, 1) := by decide +kernel
theorem dX1_sumTo_12 : decode cX1_sumTo 12 = .ok (.bipush 100, 2) := by decide +kernel
theorem dX1_sumTo_14 : decode cX1_sumTo 14 = .ok (.imul, 1) := by decide +kernel
theorem dX1_sumTo_15 : decode cX1_sumTo 15 = .ok (.iconst 1, 1) := by decide +kernel
theorem dX1_sumTo_16 : decode cX1_sumTo 16 = .ok (.iadd, 1) := by decide +kernel
theorem dX1_sumTo_17 : decode cX1_sumTo 17 = .ok (.istore_n 3, 1) := by decide +kernel
theorem dX1_sumTo_18 : decode cX1_sumTo 18 = .ok (.iload_n 3, 1) := by decide +kernel
theorem dX1_sumTo_19 : decode cX1_sumTo 19 = .ok (.iload_n 0, 1) := by decide +kernel
theorem dX1_sumTo_20 : decode cX1_sumTo 20 = .ok (.if_icmp .gt 16, 3) := by decide +kernel
theorem dX1_sumTo_23 : decode cX1_sumTo 23 = .ok (.iload_n 2, 1) := by decide +kernel
theorem dX1_sumTo_24 : decode cX1_sumTo 24 = .ok (.ldc 54, 2) := by decide +kernel
theorem dX1_sumTo_26 : decode cX1_sumTo 26 = .ok (.iload_n 3, 1) := by decide +kernel
theorem dX1_sumTo_27 : decode cX1_sumTo 27 = .ok (.idiv, 1) := by decide +kernel
theorem dX1_sumTo_28 : decode cX1_sumTo 28 = .ok (.iadd, 1) := by decide +kernel
theorem dX1_sumTo_29 : decode cX1_sumTo 29 = .ok (.istore_n 2, 1) := by decide +kernel
theorem dX1_sumTo_30 : decode cX1_sumTo 30 = .ok (.iinc 3 1, 3) := by decide +kernel
theorem dX1_sumTo_33 : decode cX1_sumTo 33 = .ok (.goto (-15), 3) := by decide +kernel
theorem dX1_sumTo_36 : decode cX1_sumTo 36 = .ok (.iload_n 2, 1) := by decide +kernel
theorem dX1_sumTo_37 : decode cX1_sumTo 37 = .ok (.ireturn, 1) := by decide +kernel
theorem dX1_leastReaching_0 : decode cX1_leastReaching 0 = .ok (.iconst 0, 1) := by decide +kernel
theorem dX1_leastReaching_1 : decode cX1_leastReaching 1 = .ok (.istore_n 1, 1) := by decide +kernel
theorem dX1_leastReaching_2 : decode cX1_leastReaching 2 = .ok (.sipush 128, 3) := by decide +kernel
theorem dX1_leastReaching_5 : decode cX1_leastReaching 5 = .ok (.istore_n 2, 1) := by decide +kernel
theorem dX1_leastReaching_6 : decode cX1_leastReaching 6 = .ok (.iload_n 2, 1) := by decide +kernel
theorem dX1_leastReaching_7 : decode cX1_leastReaching 7 = .ok (.ifCond .le 35, 3) := by decide +kernel
theorem dX1_leastReaching_10 : decode cX1_leastReaching 10 = .ok (.iload_n 1, 1) := by decide +kernel
theorem dX1_leastReaching_11 : decode cX1_leastReaching 11 = .ok (.iload_n 2, 1) := by decide +kernel
theorem dX1_leastReaching_12 : decode cX1_leastReaching 12 = .ok (.iadd, 1) := by decide +kernel
theorem dX1_leastReaching_13 : decode cX1_leastReaching 13 = .ok (.getstatic 50, 3) := by decide +kernel
theorem dX1_leastReaching_16 : decode cX1_leastReaching 16 = .ok (.arraylength, 1) := by decide +kernel
theorem dX1_leastReaching_17 : decode cX1_leastReaching 17 = .ok (.if_icmp .ge 18, 3) := by decide +kernel
theorem dX1_leastReaching_20 : decode cX1_leastReaching 20 = .ok (.getstatic 50, 3) := by decide +kernel
theorem dX1_leastReaching_23 : decode cX1_leastReaching 23 = .ok (.iload_n 1, 1) := by decide +kernel
theorem dX1_leastReaching_24 : decode cX1_leastReaching 24 = .ok (.iload_n 2, 1) := by decide +kernel
theorem dX1_leastReaching_25 : decode cX1_leastReaching 25 = .ok (.iadd, 1) := by decide +kernel
theorem dX1_leastReaching_26 : decode cX1_leastReaching 26 = .ok (.iaload, 1) := by decide +kernel
theorem dX1_leastReaching_27 : decode cX1_leastReaching 27 = .ok (.iload_n 0, 1) := by decide +kernel
theorem dX1_leastReaching_28 : decode cX1_leastReaching 28 = .ok (.if_icmp .ge 7, 3) := by decide +kernel
theorem dX1_leastReaching_31 : decode cX1_leastReaching 31 = .ok (.iload_n 1, 1) := by decide +kernel
theorem dX1_leastReaching_32 : decode cX1_leastReaching 32 = .ok (.iload_n 2, 1) := by decide +kernel
theorem dX1_leastReaching_33 : decode cX1_leastReaching 33 = .ok (.iadd, 1) := by decide +kernel
theorem dX1_leastReaching_34 : decode cX1_leastReaching 34 = .ok (.istore_n 1, 1) := by decide +kernel
theorem dX1_leastReaching_35 : decode cX1_leastReaching 35 = .ok (.iload_n 2, 1) := by decide +kernel
theorem dX1_leastReaching_36 : decode cX1_leastReaching 36 = .ok (.iconst 2, 1) := by decide +kernel
theorem dX1_leastReaching_37 : decode cX1_leastReaching 37 = .ok (.idiv, 1) := by decide +kernel
theorem dX1_leastReaching_38 : decode cX1_leastReaching 38 = .ok (.istore_n 2, 1) := by decide +kernel
theorem dX1_leastReaching_39 : decode cX1_leastReaching 39 = .ok (.goto (-33), 3) := by decide +kernel
theorem dX1_leastReaching_42 : decode cX1_leastReaching 42 = .ok (.getstatic 50, 3) := by decide +kernel
theorem dX1_leastReaching_45 : decode cX1_leastReaching 45 = .ok (.iload_n 1, 1) := by decide +kernel
theorem dX1_leastReaching_46 : decode cX1_leastReaching 46 = .ok (.iaload, 1) := by decide +kernel
theorem dX1_leastReaching_47 : decode cX1_leastReaching 47 = .ok (.istore_n 2, 1) := by decide +kernel
theorem dX1_leastReaching_48 : decode cX1_leastReaching 48 = .ok (.iload_n 1, 1) := by decide +kernel
theorem dX1_leastReaching_49 : decode cX1_leastReaching 49 = .ok (.bipush 100, 2) := by decide +kernel
theorem dX1_leastReaching_51 : decode cX1_leastReaching 51 = .ok (.imul, 1) := by decide +kernel
theorem dX1_leastReaching_52 : decode cX1_leastReaching 52 = .ok (.iconst 1, 1) := by decide +kernel
theorem dX1_leastReaching_53 : decode cX1_leastReaching 53 = .ok (.iadd, 1) := by decide +kernel
theorem dX1_leastReaching_54 : decode cX1_leastReaching 54 = .ok (.istore_n 3, 1) := by decide +kernel
theorem dX1_leastReaching_55 : decode cX1_leastReaching 55 = .ok (.iload_n 3, 1) := by decide +kernel
theorem dX1_leastReaching_56 : decode cX1_leastReaching 56 = .ok (.sipush 20000, 3) := by decide +kernel
theorem dX1_leastReaching_59 : decode cX1_leastReaching 59 = .ok (.if_icmp .gt 23, 3) := by decide +kernel
theorem dX1_leastReaching_62 : decode cX1_leastReaching 62 = .ok (.iload_n 2, 1) := by decide +kernel
theorem dX1_leastReaching_63 : decode cX1_leastReaching 63 = .ok (.ldc 54, 2) := by decide +kernel
theorem dX1_leastReaching_65 : decode cX1_leastReaching 65 = .ok (.iload_n 3, 1) := by decide +kernel
theorem dX1_leastReaching_66 : decode cX1_leastReaching 66 = .ok (.idiv, 1) := by decide +kernel
theorem dX1_leastReaching_67 : decode cX1_leastReaching 67 = .ok (.iadd, 1) := by decide +kernel
theorem dX1_leastReaching_68 : decode cX1_leastReaching 68 = .ok (.istore_n 2, 1) := by decide +kernel
theorem dX1_leastReaching_69 : decode cX1_leastReaching 69 = .ok (.iload_n 2, 1) := by decide +kernel
theorem dX1_leastReaching_70 : decode cX1_leastReaching 70 = .ok (.iload_n 0, 1) := by decide +kernel
theorem dX1_leastReaching_71 : decode cX1_leastReaching 71 = .ok (.if_icmp .lt 5, 3) := by decide +kernel
theorem dX1_leastReaching_74 : decode cX1_leastReaching 74 = .ok (.iload_n 3, 1) := by decide +kernel
theorem dX1_leastReaching_75 : decode cX1_leastReaching 75 = .ok (.ireturn, 1) := by decide +kernel
theorem dX1_leastReaching_76 : decode cX1_leastReaching 76 = .ok (.iinc 3 1, 3) := by decide +kernel
theorem dX1_leastReaching_79 : decode cX1_leastReaching 79 = .ok (.goto (-24), 3) := by decide +kernel
theorem dX1_leastReaching_82 : decode cX1_leastReaching 82 = .ok (.sipush 20000, 3) := by decide +kernel
theorem dX1_leastReaching_85 : decode cX1_leastReaching 85 = .ok (.ireturn, 1) := by decide +kernel
theorem dX2_init_0 : decode cX2_init 0 = .ok (.aload_n 0, 1) := by decide +kernel
theorem dX2_init_1 : decode cX2_init 1 = .ok (.invokespecial 3, 3) := by decide +kernel
theorem dX2_init_4 : decode cX2_init 4 = .ok (.aload_n 0, 1) := by decide +kernel
theorem dX2_init_5 : decode cX2_init 5 = .ok (.bipush 64, 2) := by decide +kernel
theorem dX2_init_7 : decode cX2_init 7 = .ok (.newarray .boolean, 2) := by decide +kernel
theorem dX2_init_9 : decode cX2_init 9 = .ok (.putfield 9, 3) := by decide +kernel
theorem dX2_init_12 : decode cX2_init 12 = .ok (.aload_n 0, 1) := by decide +kernel
theorem dX2_init_13 : decode cX2_init 13 = .ok (.sipush 128, 3) := by decide +kernel
theorem dX2_init_16 : decode cX2_init 16 = .ok (.newarray .int, 2) := by decide +kernel
theorem dX2_init_18 : decode cX2_init 18 = .ok (.putfield 15, 3) := by decide +kernel
theorem dX2_init_21 : decode cX2_init 21 = .ok (.aload_n 0, 1) := by decide +kernel
theorem dX2_init_22 : decode cX2_init 22 = .ok (.sipush 128, 3) := by decide +kernel
theorem dX2_init_25 : decode cX2_init 25 = .ok (.newarray .int, 2) := by decide +kernel
theorem dX2_init_27 : decode cX2_init 27 = .ok (.putfield 19, 3) := by decide +kernel
theorem dX2_init_30 : decode cX2_init 30 = .ok (.aload_n 0, 1) := by decide +kernel
theorem dX2_init_31 : decode cX2_init 31 = .ok (.sipush 128, 3) := by decide +kernel
theorem dX2_init_34 : decode cX2_init 34 = .ok (.newarray .int, 2) := by decide +kernel
theorem dX2_init_36 : decode cX2_init 36 = .ok (.putfield 22, 3) := by decide +kernel
theorem dX2_init_39 : decode cX2_init 39 = .ok (.aload_n 0, 1) := by decide +kernel
theorem dX2_init_40 : decode cX2_init 40 = .ok (.sipush 128, 3) := by decide +kernel
theorem dX2_init_43 : decode cX2_init 43 = .ok (.newarray .boolean, 2) := by decide +kernel
theorem dX2_init_45 : decode cX2_init 45 = .ok (.putfield 25, 3) := by decide +kernel
theorem dX2_init_48 : decode cX2_init 48 = .ok (.aload_n 0, 1) := by decide +kernel
theorem dX2_init_49 : decode cX2_init 49 = .ok (.sipush 128, 3) := by decide +kernel
theorem dX2_init_52 : decode cX2_init 52 = .ok (.newarray .int, 2) := by decide +kernel
theorem dX2_init_54 : decode cX2_init 54 = .ok (.putfield 28, 3) := by decide +kernel
theorem dX2_init_57 : decode cX2_init 57 = .ok (.aload_n 0, 1) := by decide +kernel
theorem dX2_init_58 : decode cX2_init 58 = .ok (.iconst 0, 1) := by decide +kernel
theorem dX2_init_59 : decode cX2_init 59 = .ok (.putfield 31, 3) := by decide +kernel
theorem dX2_init_62 : decode cX2_init 62 = .ok (.aload_n 0, 1) := by decide +kernel
theorem dX2_init_63 : decode cX2_init 63 = .ok (.iconst 0, 1) := by decide +kernel
theorem dX2_init_64 : decode cX2_init 64 = .ok (.putfield 35, 3) := by decide +kernel
theorem dX2_init_67 : decode cX2_init 67 = .ok (.aload_n 0, 1) := by decide +kernel
theorem dX2_init_68 : decode cX2_init 68 = .ok (.iconst 0, 1) := by decide +kernel
theorem dX2_init_69 : decode cX2_init 69 = .ok (.putfield 38, 3) := by decide +kernel
theorem dX2_init_72 : decode cX2_init 72 = .ok (.aload_n 0, 1) := by decide +kernel
theorem dX2_init_73 : decode cX2_init 73 = .ok (.iconst 0, 1) := by decide +kernel
theorem dX2_init_74 : decode cX2_init 74 = .ok (.putfield 41, 3) := by decide +kernel
theorem dX2_init_77 : decode cX2_init 77 = .ok (.return_, 1) := by decide +kernel
theorem dX2_drawAt_0 : decode cX2_drawAt 0 = .ok (.aload_n 0, 1) := by decide +kernel
theorem dX2_drawAt_1 : decode cX2_drawAt 1 = .ok (.aload_n 1, 1) := by decide +kernel
theorem dX2_drawAt_2 : decode cX2_drawAt 2 = .ok (.iload_n 2, 1) := by decide +kernel
theorem dX2_drawAt_3 : decode cX2_drawAt 3 = .ok (.invokevirtual 44, 3) := by decide +kernel
theorem dX2_drawAt_6 : decode cX2_drawAt 6 = .ok (.aload_n 0, 1) := by decide +kernel
theorem dX2_drawAt_7 : decode cX2_drawAt 7 = .ok (.invokevirtual 48, 3) := by decide +kernel
theorem dX2_drawAt_10 : decode cX2_drawAt 10 = .ok (.iconst 0, 1) := by decide +kernel
theorem dX2_drawAt_11 : decode cX2_drawAt 11 = .ok (.istore_n 3, 1) := by decide +kernel
theorem dX2_drawAt_12 : decode cX2_drawAt 12 = .ok (.iload_n 3, 1) := by decide +kernel
theorem dX2_drawAt_13 : decode cX2_drawAt 13 = .ok (.bipush 7, 2) := by decide +kernel
theorem dX2_drawAt_15 : decode cX2_drawAt 15 = .ok (.if_icmp .ge 34, 3) := by decide +kernel
theorem dX2_drawAt_18 : decode cX2_drawAt 18 = .ok (.iconst 0, 1) := by decide +kernel
theorem dX2_drawAt_19 : decode cX2_drawAt 19 = .ok (.istore 4, 2) := by decide +kernel
theorem dX2_drawAt_21 : decode cX2_drawAt 21 = .ok (.iload 4, 2) := by decide +kernel
theorem dX2_drawAt_23 : decode cX2_drawAt 23 = .ok (.bipush 7, 2) := by decide +kernel
theorem dX2_drawAt_25 : decode cX2_drawAt 25 = .ok (.if_icmp .ge 18, 3) := by decide +kernel
theorem dX2_drawAt_28 : decode cX2_drawAt 28 = .ok (.aload_n 0, 1) := by decide +kernel
theorem dX2_drawAt_29 : decode cX2_drawAt 29 = .ok (.aload_n 1, 1) := by decide +kernel
theorem dX2_drawAt_30 : decode cX2_drawAt 30 = .ok (.iload_n 2, 1) := by decide +kernel
theorem dX2_drawAt_31 : decode cX2_drawAt 31 = .ok (.iload 4, 2) := by decide +kernel
theorem dX2_drawAt_33 : decode cX2_drawAt 33 = .ok (.iload_n 3, 1) := by decide +kernel
theorem dX2_drawAt_34 : decode cX2_drawAt 34 = .ok (.invokevirtual 51, 3) := by decide +kernel
theorem dX2_drawAt_37 : decode cX2_drawAt 37 = .ok (.iinc 4 1, 3) := by decide +kernel
theorem dX2_drawAt_40 : decode cX2_drawAt 40 = .ok (.goto (-19), 3) := by decide +kernel
theorem dX2_drawAt_43 : decode cX2_drawAt 43 = .ok (.iinc 3 1, 3) := by decide +kernel
theorem dX2_drawAt_46 : decode cX2_drawAt 46 = .ok (.goto (-34), 3) := by decide +kernel
theorem dX2_drawAt_49 : decode cX2_drawAt 49 = .ok (.aload_n 0, 1) := by decide +kernel
theorem dX2_drawAt_50 : decode cX2_drawAt 50 = .ok (.invokevirtual 55, 3) := by decide +kernel
theorem dX2_drawAt_53 : decode cX2_drawAt 53 = .ok (.return_, 1) := by decide +kernel
theorem dX2_sumOfAll_0 : decode cX2_sumOfAll 0 = .ok (.iload_n 1, 1) := by decide +kernel
theorem dX2_sumOfAll_1 : decode cX2_sumOfAll 1 = .ok (.tableswitch 42 0 2 #[27, 32, 37], 27) := by decide +kernel
theorem dX2_sumOfAll_28 : decode cX2_sumOfAll 28 = .ok (.aload_n 0, 1) := by decide +kernel
theorem dX2_sumOfAll_29 : decode cX2_sumOfAll 29 = .ok (.getfield 31, 3) := by decide +kernel
theorem dX2_sumOfAll_32 : decode cX2_sumOfAll 32 = .ok (.ireturn, 1) := by decide +kernel
theorem dX2_sumOfAll_33 : decode cX2_sumOfAll 33 = .ok (.aload_n 0, 1) := by decide +kernel
theorem dX2_sumOfAll_34 : decode cX2_sumOfAll 34 = .ok (.getfield 35, 3) := by decide +kernel
theorem dX2_sumOfAll_37 : decode cX2_sumOfAll 37 = .ok (.ireturn, 1) := by decide +kernel
theorem dX2_sumOfAll_38 : decode cX2_sumOfAll 38 = .ok (.aload_n 0, 1) := by decide +kernel
theorem dX2_sumOfAll_39 : decode cX2_sumOfAll 39 = .ok (.getfield 38, 3) := by decide +kernel
theorem dX2_sumOfAll_42 : decode cX2_sumOfAll 42 = .ok (.ireturn, 1) := by decide +kernel
theorem dX2_sumOfAll_43 : decode cX2_sumOfAll 43 = .ok (.aload_n 0, 1) := by decide +kernel
theorem dX2_sumOfAll_44 : decode cX2_sumOfAll 44 = .ok (.getfield 41, 3) := by decide +kernel
theorem dX2_sumOfAll_47 : decode cX2_sumOfAll 47 = .ok (.ireturn, 1) := by decide +kernel
theorem dX2_hasLine_0 : decode cX2_hasLine 0 = .ok (.iload_n 1, 1) := by decide +kernel
theorem dX2_hasLine_1 : decode cX2_hasLine 1 = .ok (.iconst 0, 1) := by decide +kernel
theorem dX2_hasLine_2 : decode cX2_hasLine 2 = .ok (.aload_n 0, 1) := by decide +kernel
theorem dX2_hasLine_3 : decode cX2_hasLine 3 = .ok (.getfield 31, 3) := by decide +kernel
theorem dX2_hasLine_6 : decode cX2_hasLine 6 = .ok (.iconst 1, 1) := by decide +kernel
theorem dX2_hasLine_7 : decode cX2_hasLine 7 = .ok (.isub, 1) := by decide +kernel
theorem dX2_hasLine_8 : decode cX2_hasLine 8 = .ok (.invokestatic 58, 3) := by decide +kernel
theorem dX2_hasLine_11 : decode cX2_hasLine 11 = .ok (.ireturn, 1) := by decide +kernel
theorem dX2_ofLine_0 : decode cX2_ofLine 0 = .ok (.aload_n 0, 1) := by decide +kernel
theorem dX2_ofLine_1 : decode cX2_ofLine 1 = .ok (.getfield 28, 3) := by decide +kernel
theorem dX2_ofLine_4 : decode cX2_ofLine 4 = .ok (.iload_n 1, 1) := by decide +kernel
theorem dX2_ofLine_5 : decode cX2_ofLine 5 = .ok (.iaload, 1) := by decide +kernel
theorem dX2_ofLine_6 : decode cX2_ofLine 6 = .ok (.istore_n 3, 1) := by decide +kernel
theorem dX2_ofLine_7 : decode cX2_ofLine 7 = .ok (.iload_n 2, 1) := by decide +kernel
theorem dX2_ofLine_8 : decode cX2_ofLine 8 = .ok (.tableswitch 52 0 2 #[28, 35, 50], 28) := by decide +kernel
theorem dX2_ofLine_36 : decode cX2_ofLine 36 = .ok (.aload_n 0, 1) := by decide +kernel
theorem dX2_ofLine_37 : decode cX2_ofLine 37 = .ok (.getfield 19, 3) := by decide +kernel
theorem dX2_ofLine_40 : decode cX2_ofLine 40 = .ok (.iload_n 3, 1) := by decide +kernel
theorem dX2_ofLine_41 : decode cX2_ofLine 41 = .ok (.iaload, 1) := by decide +kernel
theorem dX2_ofLine_42 : decode cX2_ofLine 42 = .ok (.ireturn, 1) := by decide +kernel
theorem dX2_ofLine_43 : decode cX2_ofLine 43 = .ok (.aload_n 0, 1) := by decide +kernel
theorem dX2_ofLine_44 : decode cX2_ofLine 44 = .ok (.getfield 25, 3) := by decide +kernel
theorem dX2_ofLine_47 : decode cX2_ofLine 47 = .ok (.iload_n 3, 1) := by decide +kernel
theorem dX2_ofLine_48 : decode cX2_ofLine 48 = .ok (.baload, 1) := by decide +kernel
theorem dX2_ofLine_49 : decode cX2_ofLine 49 = .ok (.ifCond .eq 7, 3) := by decide +kernel
theorem dX2_ofLine_52 : decode cX2_ofLine 52 = .ok (.iconst 1, 1) := by decide +kernel
theorem dX2_ofLine_53 : decode cX2_ofLine 53 = .ok (.goto 4, 3) := by decide +kernel
theorem dX2_ofLine_56 : decode cX2_ofLine 56 = .ok (.iconst 0, 1) := by decide +kernel
theorem dX2_ofLine_57 : decode cX2_ofLine 57 = .ok (.ireturn, 1) := by decide +kernel
theorem dX2_ofLine_58 : decode cX2_ofLine 58 = .ok (.iload_n 3, 1) := by decide +kernel
theorem dX2_ofLine_59 : decode cX2_ofLine 59 = .ok (.ireturn, 1) := by decide +kernel
theorem dX2_ofLine_60 : decode cX2_ofLine 60 = .ok (.aload_n 0, 1) := by decide +kernel
theorem dX2_ofLine_61 : decode cX2_ofLine 61 = .ok (.getfield 22, 3) := by decide +kernel
theorem dX2_ofLine_64 : decode cX2_ofLine 64 = .ok (.iload_n 3, 1) := by decide +kernel
theorem dX2_ofLine_65 : decode cX2_ofLine 65 = .ok (.iaload, 1) := by decide +kernel
theorem dX2_ofLine_66 : decode cX2_ofLine 66 = .ok (.ireturn, 1) := by decide +kernel
theorem dX2_markPoints_0 : decode cX2_markPoints 0 = .ok (.aload_n 0, 1) := by decide +kernel
theorem dX2_markPoints_1 : decode cX2_markPoints 1 = .ok (.iconst 0, 1) := by decide +kernel
theorem dX2_markPoints_2 : decode cX2_markPoints 2 = .ok (.putfield 41, 3) := by decide +kernel
theorem dX2_markPoints_5 : decode cX2_markPoints 5 = .ok (.iconst 0, 1) := by decide +kernel
theorem dX2_markPoints_6 : decode cX2_markPoints 6 = .ok (.istore_n 3, 1) := by decide +kernel
theorem dX2_markPoints_7 : decode cX2_markPoints 7 = .ok (.iload_n 3, 1) := by decide +kernel
theorem dX2_markPoints_8 : decode cX2_markPoints 8 = .ok (.aload_n 0, 1) := by decide +kernel
theorem dX2_markPoints_9 : decode cX2_markPoints 9 = .ok (.getfield 9, 3) := by decide +kernel
theorem dX2_markPoints_12 : decode cX2_markPoints 12 = .ok (.arraylength, 1) := by decide +kernel
theorem dX2_markPoints_13 : decode cX2_markPoints 13 = .ok (.if_icmp .ge 48, 3) := by decide +kernel
theorem dX2_markPoints_16 : decode cX2_markPoints 16 = .ok (.aload_n 0, 1) := by decide +kernel
theorem dX2_markPoints_17 : decode cX2_markPoints 17 = .ok (.getfield 9, 3) := by decide +kernel
theorem dX2_markPoints_20 : decode cX2_markPoints 20 = .ok (.iload_n 3, 1) := by decide +kernel
theorem dX2_markPoints_21 : decode cX2_markPoints 21 = .ok (.aload_n 1, 1) := by decide +kernel
theorem dX2_markPoints_22 : decode cX2_markPoints 22 = .ok (.iload_n 3, 1) := by decide +kernel
theorem dX2_markPoints_23 : decode cX2_markPoints 23 = .ok (.invokevirtual 62, 3) := by decide +kernel
theorem dX2_markPoints_26 : decode cX2_markPoints 26 = .ok (.iload_n 2, 1) := by decide +kernel
theorem dX2_markPoints_27 : decode cX2_markPoints 27 = .ok (.if_icmp .lt 7, 3) := by decide +kernel
theorem dX2_markPoints_30 : decode cX2_markPoints 30 = .ok (.iconst 1, 1) := by decide +kernel
theorem dX2_markPoints_31 : decode cX2_markPoints 31 = .ok (.goto 4, 3) := by decide +kernel
theorem dX2_markPoints_34 : decode cX2_markPoints 34 = .ok (.iconst 0, 1) := by decide +kernel
theorem dX2_markPoints_35 : decode cX2_markPoints 35 = .ok (.bastore, 1) := by decide +kernel
theorem dX2_markPoints_36 : decode cX2_markPoints 36 = .ok (.aload_n 0, 1) := by decide +kernel
theorem dX2_markPoints_37 : decode cX2_markPoints 37 = .ok (.getfield 9, 3) := by decide +kernel
theorem dX2_markPoints_40 : decode cX2_markPoints 40 = .ok (.iload_n 3, 1) := by decide +kernel
theorem dX2_markPoints_41 : decode cX2_markPoints 41 = .ok (.baload, 1) := by decide +kernel
theorem dX2_markPoints_42 : decode cX2_markPoints 42 = .ok (.ifCond .eq 13, 3) := by decide +kernel
theorem dX2_markPoints_45 : decode cX2_markPoints 45 = .ok (.aload_n 0, 1) := by decide +kernel
theorem dX2_markPoints_46 : decode cX2_markPoints 46 = .ok (.dup, 1) := by decide +kernel
theorem dX2_markPoints_47 : decode cX2_markPoints 47 = .ok (.getfield 41, 3) := by decide +kernel
theorem dX2_markPoints_50 : decode cX2_markPoints 50 = .ok (.iconst 1, 1) := by decide +kernel
theorem dX2_markPoints_51 : decode cX2_markPoints 51 = .ok (.iadd, 1) := by decide +kernel
theorem dX2_markPoints_52 : decode cX2_markPoints 52 = .ok (.putfield 41, 3) := by decide +kernel
theorem dX2_markPoints_55 : decode cX2_markPoints 55 = .ok (.iinc 3 1, 3) := by decide +kernel
theorem dX2_markPoints_58 : decode cX2_markPoints 58 = .ok (.goto (-51), 3) := by decide +kernel
theorem dX2_markPoints_61 : decode cX2_markPoints 61 = .ok (.return_, 1) := by decide +kernel
theorem dX2_cutSides_0 : decode cX2_cutSides 0 = .ok (.iconst 0, 1) := by decide +kernel
theorem dX2_cutSides_1 : decode cX2_cutSides 1 = .ok (.istore_n 1, 1) := by decide +kernel
theorem dX2_cutSides_2 : decode cX2_cutSides 2 = .ok (.iload_n 1, 1) := by decide +kernel
theorem dX2_cutSides_3 : decode cX2_cutSides 3 = .ok (.aload_n 0, 1) := by decide +kernel
theorem dX2_cutSides_4 : decode cX2_cutSides 4 = .ok (.getfield 9, 3) := by decide +kernel
theorem dX2_cutSides_7 : decode cX2_cutSides 7 = .ok (.arraylength, 1) := by decide +kernel
theorem dX2_cutSides_8 : decode cX2_cutSides 8 = .ok (.if_icmp .ge 118, 3) := by decide +kernel
theorem dX2_cutSides_11 : decode cX2_cutSides 11 = .ok (.iload_n 1, 1) := by decide +kernel
theorem dX2_cutSides_12 : decode cX2_cutSides 12 = .ok (.bipush 8, 2) := by decide +kernel
theorem dX2_cutSides_14 : decode cX2_cutSides 14 = .ok (.irem, 1) := by decide +kernel
theorem dX2_cutSides_15 : decode cX2_cutSides 15 = .ok (.bipush 7, 2) := by decide +kernel
theorem dX2_cutSides_17 : decode cX2_cutSides 17 = .ok (.if_icmp .ge 24, 3) := by decide +kernel
theorem dX2_cutSides_20 : decode cX2_cutSides 20 = .ok (.aload_n 0, 1) := by decide +kernel
theorem dX2_cutSides_21 : decode cX2_cutSides 21 = .ok (.getfield 9, 3) := by decide +kernel
theorem dX2_cutSides_24 : decode cX2_cutSides 24 = .ok (.iload_n 1, 1) := by decide +kernel
theorem dX2_cutSides_25 : decode cX2_cutSides 25 = .ok (.baload, 1) := by decide +kernel
theorem dX2_cutSides_26 : decode cX2_cutSides 26 = .ok (.aload_n 0, 1) := by decide +kernel
theorem dX2_cutSides_27 : decode cX2_cutSides 27 = .ok (.getfield 9, 3) := by decide +kernel
theorem dX2_cutSides_30 : decode cX2_cutSides 30 = .ok (.iload_n 1, 1) := by decide +kernel
theorem dX2_cutSides_31 : decode cX2_cutSides 31 = .ok (.iconst 1, 1) := by decide +kernel
theorem dX2_cutSides_32 : decode cX2_cutSides 32 = .ok (.iadd, 1) := by decide +kernel
theorem dX2_cutSides_33 : decode cX2_cutSides 33 = .ok (.baload, 1) := by decide +kernel
theorem dX2_cutSides_34 : decode cX2_cutSides 34 = .ok (.if_icmp .eq 7, 3) := by decide +kernel
theorem dX2_cutSides_37 : decode cX2_cutSides 37 = .ok (.iconst 1, 1) := by decide +kernel
theorem dX2_cutSides_38 : decode cX2_cutSides 38 = .ok (.goto 4, 3) := by decide +kernel
theorem dX2_cutSides_41 : decode cX2_cutSides 41 = .ok (.iconst 0, 1) := by decide +kernel
theorem dX2_cutSides_42 : decode cX2_cutSides 42 = .ok (.istore_n 2, 1) := by decide +kernel
theorem dX2_cutSides_43 : decode cX2_cutSides 43 = .ok (.iload_n 1, 1) := by decide +kernel
theorem dX2_cutSides_44 : decode cX2_cutSides 44 = .ok (.bipush 8, 2) := by decide +kernel
theorem dX2_cutSides_46 : decode cX2_cutSides 46 = .ok (.idiv, 1) := by decide +kernel
theorem dX2_cutSides_47 : decode cX2_cutSides 47 = .ok (.bipush 7, 2) := by decide +kernel
theorem dX2_cutSides_49 : decode cX2_cutSides 49 = .ok (.if_icmp .ge 25, 3) := by decide +kernel
theorem dX2_cutSides_52 : decode cX2_cutSides 52 = .ok (.aload_n 0, 1) := by decide +kernel
theorem dX2_cutSides_53 : decode cX2_cutSides 53 = .ok (.getfield 9, 3) := by decide +kernel
theorem dX2_cutSides_56 : decode cX2_cutSides 56 = .ok (.iload_n 1, 1) := by decide +kernel
theorem dX2_cutSides_57 : decode cX2_cutSides 57 = .ok (.baload, 1) := by decide +kernel
theorem dX2_cutSides_58 : decode cX2_cutSides 58 = .ok (.aload_n 0, 1) := by decide +kernel
theorem dX2_cutSides_59 : decode cX2_cutSides 59 = .ok (.getfield 9, 3) := by decide +kernel
theorem dX2_cutSides_62 : decode cX2_cutSides 62 = .ok (.iload_n 1, 1) := by decide +kernel
theorem dX2_cutSides_63 : decode cX2_cutSides 63 = .ok (.bipush 8, 2) := by decide +kernel
theorem dX2_cutSides_65 : decode cX2_cutSides 65 = .ok (.iadd, 1) := by decide +kernel
theorem dX2_cutSides_66 : decode cX2_cutSides 66 = .ok (.baload, 1) := by decide +kernel
theorem dX2_cutSides_67 : decode cX2_cutSides 67 = .ok (.if_icmp .eq 7, 3) := by decide +kernel
theorem dX2_cutSides_70 : decode cX2_cutSides 70 = .ok (.iconst 1, 1) := by decide +kernel
theorem dX2_cutSides_71 : decode cX2_cutSides 71 = .ok (.goto 4, 3) := by decide +kernel
theorem dX2_cutSides_74 : decode cX2_cutSides 74 = .ok (.iconst 0, 1) := by decide +kernel
theorem dX2_cutSides_75 : decode cX2_cutSides 75 = .ok (.istore_n 3, 1) := by decide +kernel
theorem dX2_cutSides_76 : decode cX2_cutSides 76 = .ok (.aload_n 0, 1) := by decide +kernel
theorem dX2_cutSides_77 : decode cX2_cutSides 77 = .ok (.getfield 15, 3) := by decide +kernel
theorem dX2_cutSides_80 : decode cX2_cutSides 80 = .ok (.iconst 2, 1) := by decide +kernel
theorem dX2_cutSides_81 : decode cX2_cutSides 81 = .ok (.iload_n 1, 1) := by decide +kernel
theorem dX2_cutSides_82 : decode cX2_cutSides 82 = .ok (.imul, 1) := by decide +kernel
theorem dX2_cutSides_83 : decode cX2_cutSides 83 = .ok (.iload_n 2, 1) := by decide +kernel
theorem dX2_cutSides_84 : decode cX2_cutSides 84 = .ok (.ifCond .eq 9, 3) := by decide +kernel
theorem dX2_cutSides_87 : decode cX2_cutSides 87 = .ok (.iconst 2, 1) := by decide +kernel
theorem dX2_cutSides_88 : decode cX2_cutSides 88 = .ok (.iload_n 1, 1) := by decide +kernel
theorem dX2_cutSides_89 : decode cX2_cutSides 89 = .ok (.imul, 1) := by decide +kernel
theorem dX2_cutSides_90 : decode cX2_cutSides 90 = .ok (.goto 5, 3) := by decide +kernel
theorem dX2_cutSides_93 : decode cX2_cutSides 93 = .ok (.bipush (-6), 2) := by decide +kernel
theorem dX2_cutSides_95 : decode cX2_cutSides 95 = .ok (.iastore, 1) := by decide +kernel
theorem dX2_cutSides_96 : decode cX2_cutSides 96 = .ok (.aload_n 0, 1) := by decide +kernel
theorem dX2_cutSides_97 : decode cX2_cutSides 97 = .ok (.getfield 15, 3) := by decide +kernel
theorem dX2_cutSides_100 : decode cX2_cutSides 100 = .ok (.iconst 2, 1) := by decide +kernel
theorem dX2_cutSides_101 : decode cX2_cutSides 101 = .ok (.iload_n 1, 1) := by decide +kernel
theorem dX2_cutSides_102 : decode cX2_cutSides 102 = .ok (.imul, 1) := by decide +kernel
theorem dX2_cutSides_103 : decode cX2_cutSides 103 = .ok (.iconst 1, 1) := by decide +kernel
theorem dX2_cutSides_104 : decode cX2_cutSides 104 = .ok (.iadd, 1) := by decide +kernel
theorem dX2_cutSides_105 : decode cX2_cutSides 105 = .ok (.iload_n 3, 1) := by decide +kernel
theorem dX2_cutSides_106 : decode cX2_cutSides 106 = .ok (.ifCond .eq 11, 3) := by decide +kernel
theorem dX2_cutSides_109 : decode cX2_cutSides 109 = .ok (.iconst 2, 1) := by decide +kernel
theorem dX2_cutSides_110 : decode cX2_cutSides 110 = .ok (.iload_n 1, 1) := by decide +kernel
theorem dX2_cutSides_111 : decode cX2_cutSides 111 = .ok (.imul, 1) := by decide +kernel
theorem dX2_cutSides_112 : decode cX2_cutSides 112 = .ok (.iconst 1, 1) := by decide +kernel
theorem dX2_cutSides_113 : decode cX2_cutSides 113 = .ok (.iadd, 1) := by decide +kernel
theorem dX2_cutSides_114 : decode cX2_cutSides 114 = .ok (.goto 5, 3) := by decide +kernel
theorem dX2_cutSides_117 : decode cX2_cutSides 117 = .ok (.bipush (-6), 2) := by decide +kernel
theorem dX2_cutSides_119 : decode cX2_cutSides 119 = .ok (.iastore, 1) := by decide +kernel
theorem dX2_cutSides_120 : decode cX2_cutSides 120 = .ok (.iinc 1 1, 3) := by decide +kernel
theorem dX2_cutSides_123 : decode cX2_cutSides 123 = .ok (.goto (-121), 3) := by decide +kernel
theorem dX2_cutSides_126 : decode cX2_cutSides 126 = .ok (.return_, 1) := by decide +kernel
theorem dX2_crossSquare_0 : decode cX2_crossSquare 0 = .ok (.bipush 8, 2) := by decide +kernel
theorem dX2_crossSquare_2 : decode cX2_crossSquare 2 = .ok (.iload 4, 2) := by decide +kernel
theorem dX2_crossSquare_4 : decode cX2_crossSquare 4 = .ok (.imul, 1) := by decide +kernel
theorem dX2_crossSquare_5 : decode cX2_crossSquare 5 = .ok (.iload_n 3, 1) := by decide +kernel
theorem dX2_crossSquare_6 : decode cX2_crossSquare 6 = .ok (.iadd, 1) := by decide +kernel
theorem dX2_crossSquare_7 : decode cX2_crossSquare 7 = .ok (.istore 5, 2) := by decide +kernel
theorem dX2_crossSquare_9 : decode cX2_crossSquare 9 = .ok (.iconst 2, 1) := by decide +kernel
theorem dX2_crossSquare_10 : decode cX2_crossSquare 10 = .ok (.iload 5, 2) := by decide +kernel
theorem dX2_crossSquare_12 : decode cX2_crossSquare 12 = .ok (.imul, 1) := by decide +kernel
theorem dX2_crossSquare_13 : decode cX2_crossSquare 13 = .ok (.istore 6, 2) := by decide +kernel
theorem dX2_crossSquare_15 : decode cX2_crossSquare 15 = .ok (.iload 6, 2) := by decide +kernel
theorem dX2_crossSquare_17 : decode cX2_crossSquare 17 = .ok (.iconst 1, 1) := by decide +kernel
theorem dX2_crossSquare_18 : decode cX2_crossSquare 18 = .ok (.iadd, 1) := by decide +kernel
theorem dX2_crossSquare_19 : decode cX2_crossSquare 19 = .ok (.istore 7, 2) := by decide +kernel
theorem dX2_crossSquare_21 : decode cX2_crossSquare 21 = .ok (.iload 7, 2) := by decide +kernel
theorem dX2_crossSquare_23 : decode cX2_crossSquare 23 = .ok (.iconst 2, 1) := by decide +kernel
theorem dX2_crossSquare_24 : decode cX2_crossSquare 24 = .ok (.iadd, 1) := by decide +kernel
theorem dX2_crossSquare_25 : decode cX2_crossSquare 25 = .ok (.istore 8, 2) := by decide +kernel
theorem dX2_crossSquare_27 : decode cX2_crossSquare 27 = .ok (.iload 6, 2) := by decide +kernel
theorem dX2_crossSquare_29 : decode cX2_crossSquare 29 = .ok (.bipush 16, 2) := by decide +kernel
theorem dX2_crossSquare_31 : decode cX2_crossSquare 31 = .ok (.iadd, 1) := by decide +kernel
theorem dX2_crossSquare_32 : decode cX2_crossSquare 32 = .ok (.istore 9, 2) := by decide +kernel
theorem dX2_crossSquare_34 : decode cX2_crossSquare 34 = .ok (.aload_n 0, 1) := by decide +kernel
theorem dX2_crossSquare_35 : decode cX2_crossSquare 35 = .ok (.iload 6, 2) := by decide +kernel
theorem dX2_crossSquare_37 : decode cX2_crossSquare 37 = .ok (.invokevirtual 68, 3) := by decide +kernel
theorem dX2_crossSquare_40 : decode cX2_crossSquare 40 = .ok (.ifCond .eq 132, 3) := by decide +kernel
theorem dX2_crossSquare_43 : decode cX2_crossSquare 43 = .ok (.aload_n 0, 1) := by decide +kernel
theorem dX2_crossSquare_44 : decode cX2_crossSquare 44 = .ok (.iload 7, 2) := by decide +kernel
theorem dX2_crossSquare_46 : decode cX2_crossSquare 46 = .ok (.invokevirtual 68, 3) := by decide +kernel
