theorem dX8_low_1 : decode cX8_low 1 = .ok (.invokestatic 169, 3) := by decide +kernel
theorem dX8_low_4 : decode cX8_low 4 = .ok (.ifCond .eq 12, 3) := by decide +kernel
theorem dX8_low_7 : decode cX8_low 7 = .ok (.aload_n 0, 1) := by decide +kernel
theorem dX8_low_8 : decode cX8_low 8 = .ok (.iload_n 1, 1) := by decide +kernel
theorem dX8_low_9 : decode cX8_low 9 = .ok (.iload_n 2, 1) := by decide +kernel
theorem dX8_low_10 : decode cX8_low 10 = .ok (.invokevirtual 269, 3) := by decide +kernel
theorem dX8_low_13 : decode cX8_low 13 = .ok (.goto 5, 3) := by decide +kernel
theorem dX8_low_16 : decode cX8_low 16 = .ok (.bipush (-2), 2) := by decide +kernel
theorem dX8_low_18 : decode cX8_low 18 = .ok (.ireturn, 1) := by decide +kernel
theorem dX8_nearest_0 : decode cX8_nearest 0 = .ok (.bipush (-6), 2) := by decide +kernel
theorem dX8_nearest_2 : decode cX8_nearest 2 = .ok (.istore_n 3, 1) := by decide +kernel
theorem dX8_nearest_3 : decode cX8_nearest 3 = .ok (.bipush 9, 2) := by decide +kernel
theorem dX8_nearest_5 : decode cX8_nearest 5 = .ok (.istore 4, 2) := by decide +kernel
theorem dX8_nearest_7 : decode cX8_nearest 7 = .ok (.aload_n 0, 1) := by decide +kernel
theorem dX8_nearest_8 : decode cX8_nearest 8 = .ok (.iload_n 1, 1) := by decide +kernel
theorem dX8_nearest_9 : decode cX8_nearest 9 = .ok (.iconst (-1), 1) := by decide +kernel
theorem dX8_nearest_10 : decode cX8_nearest 10 = .ok (.invokevirtual 269, 3) := by decide +kernel
theorem dX8_nearest_13 : decode cX8_nearest 13 = .ok (.istore 5, 2) := by decide +kernel
theorem dX8_nearest_15 : decode cX8_nearest 15 = .ok (.iconst 0, 1) := by decide +kernel
theorem dX8_nearest_16 : decode cX8_nearest 16 = .ok (.istore 6, 2) := by decide +kernel
theorem dX8_nearest_18 : decode cX8_nearest 18 = .ok (.iload 6, 2) := by decide +kernel
theorem dX8_nearest_20 : decode cX8_nearest 20 = .ok (.iload 5, 2) := by decide +kernel
theorem dX8_nearest_22 : decode cX8_nearest 22 = .ok (.if_icmp .ge 74, 3) := by decide +kernel
theorem dX8_nearest_25 : decode cX8_nearest 25 = .ok (.aload_n 0, 1) := by decide +kernel
theorem dX8_nearest_26 : decode cX8_nearest 26 = .ok (.iload_n 1, 1) := by decide +kernel
theorem dX8_nearest_27 : decode cX8_nearest 27 = .ok (.iload 6, 2) := by decide +kernel
theorem dX8_nearest_29 : decode cX8_nearest 29 = .ok (.invokevirtual 269, 3) := by decide +kernel
theorem dX8_nearest_32 : decode cX8_nearest 32 = .ok (.istore 7, 2) := by decide +kernel
theorem dX8_nearest_34 : decode cX8_nearest 34 = .ok (.iload 7, 2) := by decide +kernel
theorem dX8_nearest_36 : decode cX8_nearest 36 = .ok (.bipush 8, 2) := by decide +kernel
theorem dX8_nearest_38 : decode cX8_nearest 38 = .ok (.irem, 1) := by decide +kernel
theorem dX8_nearest_39 : decode cX8_nearest 39 = .ok (.iload_n 2, 1) := by decide +kernel
theorem dX8_nearest_40 : decode cX8_nearest 40 = .ok (.bipush 8, 2) := by decide +kernel
theorem dX8_nearest_42 : decode cX8_nearest 42 = .ok (.irem, 1) := by decide +kernel
theorem dX8_nearest_43 : decode cX8_nearest 43 = .ok (.isub, 1) := by decide +kernel
theorem dX8_nearest_44 : decode cX8_nearest 44 = .ok (.istore 8, 2) := by decide +kernel
theorem dX8_nearest_46 : decode cX8_nearest 46 = .ok (.iload 7, 2) := by decide +kernel
theorem dX8_nearest_48 : decode cX8_nearest 48 = .ok (.bipush 8, 2) := by decide +kernel
theorem dX8_nearest_50 : decode cX8_nearest 50 = .ok (.idiv, 1) := by decide +kernel
theorem dX8_nearest_51 : decode cX8_nearest 51 = .ok (.iload_n 2, 1) := by decide +kernel
theorem dX8_nearest_52 : decode cX8_nearest 52 = .ok (.bipush 8, 2) := by decide +kernel
theorem dX8_nearest_54 : decode cX8_nearest 54 = .ok (.idiv, 1) := by decide +kernel
theorem dX8_nearest_55 : decode cX8_nearest 55 = .ok (.isub, 1) := by decide +kernel
theorem dX8_nearest_56 : decode cX8_nearest 56 = .ok (.istore 9, 2) := by decide +kernel
theorem dX8_nearest_58 : decode cX8_nearest 58 = .ok (.iload 8, 2) := by decide +kernel
theorem dX8_nearest_60 : decode cX8_nearest 60 = .ok (.iload 8, 2) := by decide +kernel
theorem dX8_nearest_62 : decode cX8_nearest 62 = .ok (.imul, 1) := by decide +kernel
theorem dX8_nearest_63 : decode cX8_nearest 63 = .ok (.iload 9, 2) := by decide +kernel
theorem dX8_nearest_65 : decode cX8_nearest 65 = .ok (.iload 9, 2) := by decide +kernel
theorem dX8_nearest_67 : decode cX8_nearest 67 = .ok (.imul, 1) := by decide +kernel
theorem dX8_nearest_68 : decode cX8_nearest 68 = .ok (.iadd, 1) := by decide +kernel
theorem dX8_nearest_69 : decode cX8_nearest 69 = .ok (.iload 4, 2) := by decide +kernel
theorem dX8_nearest_71 : decode cX8_nearest 71 = .ok (.if_icmp .ge 19, 3) := by decide +kernel
theorem dX8_nearest_74 : decode cX8_nearest 74 = .ok (.iload 8, 2) := by decide +kernel
theorem dX8_nearest_76 : decode cX8_nearest 76 = .ok (.iload 8, 2) := by decide +kernel
theorem dX8_nearest_78 : decode cX8_nearest 78 = .ok (.imul, 1) := by decide +kernel
theorem dX8_nearest_79 : decode cX8_nearest 79 = .ok (.iload 9, 2) := by decide +kernel
theorem dX8_nearest_81 : decode cX8_nearest 81 = .ok (.iload 9, 2) := by decide +kernel
theorem dX8_nearest_83 : decode cX8_nearest 83 = .ok (.imul, 1) := by decide +kernel
theorem dX8_nearest_84 : decode cX8_nearest 84 = .ok (.iadd, 1) := by decide +kernel
theorem dX8_nearest_85 : decode cX8_nearest 85 = .ok (.istore 4, 2) := by decide +kernel
theorem dX8_nearest_87 : decode cX8_nearest 87 = .ok (.iload 7, 2) := by decide +kernel
theorem dX8_nearest_89 : decode cX8_nearest 89 = .ok (.istore_n 3, 1) := by decide +kernel
theorem dX8_nearest_90 : decode cX8_nearest 90 = .ok (.iinc 6 1, 3) := by decide +kernel
theorem dX8_nearest_93 : decode cX8_nearest 93 = .ok (.goto (-75), 3) := by decide +kernel
theorem dX8_nearest_96 : decode cX8_nearest 96 = .ok (.iload_n 3, 1) := by decide +kernel
theorem dX8_nearest_97 : decode cX8_nearest 97 = .ok (.ireturn, 1) := by decide +kernel
theorem dX8_follow_0 : decode cX8_follow 0 = .ok (.iload_n 1, 1) := by decide +kernel
theorem dX8_follow_1 : decode cX8_follow 1 = .ok (.invokestatic 169, 3) := by decide +kernel
theorem dX8_follow_4 : decode cX8_follow 4 = .ok (.ifCond .eq 15, 3) := by decide +kernel
theorem dX8_follow_7 : decode cX8_follow 7 = .ok (.iload_n 3, 1) := by decide +kernel
theorem dX8_follow_8 : decode cX8_follow 8 = .ok (.i2l, 1) := by decide +kernel
theorem dX8_follow_9 : decode cX8_follow 9 = .ok (.lconst 0, 1) := by decide +kernel
theorem dX8_follow_10 : decode cX8_follow 10 = .ok (.ldc2_w 157, 3) := by decide +kernel
theorem dX8_follow_13 : decode cX8_follow 13 = .ok (.invokestatic 102, 3) := by decide +kernel
theorem dX8_follow_16 : decode cX8_follow 16 = .ok (.ifCond .ne 6, 3) := by decide +kernel
theorem dX8_follow_19 : decode cX8_follow 19 = .ok (.bipush (-2), 2) := by decide +kernel
theorem dX8_follow_21 : decode cX8_follow 21 = .ok (.ireturn, 1) := by decide +kernel
theorem dX8_follow_22 : decode cX8_follow 22 = .ok (.iload_n 2, 1) := by decide +kernel
theorem dX8_follow_23 : decode cX8_follow 23 = .ok (.ifCond .ge 8, 3) := by decide +kernel
theorem dX8_follow_26 : decode cX8_follow 26 = .ok (.bipush (-6), 2) := by decide +kernel
theorem dX8_follow_28 : decode cX8_follow 28 = .ok (.goto 9, 3) := by decide +kernel
theorem dX8_follow_31 : decode cX8_follow 31 = .ok (.aload_n 0, 1) := by decide +kernel
theorem dX8_follow_32 : decode cX8_follow 32 = .ok (.iload_n 1, 1) := by decide +kernel
theorem dX8_follow_33 : decode cX8_follow 33 = .ok (.iload_n 2, 1) := by decide +kernel
theorem dX8_follow_34 : decode cX8_follow 34 = .ok (.invokevirtual 269, 3) := by decide +kernel
theorem dX8_follow_37 : decode cX8_follow 37 = .ok (.istore 4, 2) := by decide +kernel
theorem dX8_follow_39 : decode cX8_follow 39 = .ok (.iconst 1, 1) := by decide +kernel
theorem dX8_follow_40 : decode cX8_follow 40 = .ok (.istore 5, 2) := by decide +kernel
theorem dX8_follow_42 : decode cX8_follow 42 = .ok (.iload 5, 2) := by decide +kernel
theorem dX8_follow_44 : decode cX8_follow 44 = .ok (.iload_n 3, 1) := by decide +kernel
theorem dX8_follow_45 : decode cX8_follow 45 = .ok (.if_icmp .gt 41, 3) := by decide +kernel
theorem dX8_follow_48 : decode cX8_follow 48 = .ok (.iload 4, 2) := by decide +kernel
theorem dX8_follow_50 : decode cX8_follow 50 = .ok (.ifCond .lt 36, 3) := by decide +kernel
theorem dX8_follow_53 : decode cX8_follow 53 = .ok (.iload_n 1, 1) := by decide +kernel
theorem dX8_follow_54 : decode cX8_follow 54 = .ok (.iload 5, 2) := by decide +kernel
theorem dX8_follow_56 : decode cX8_follow 56 = .ok (.iadd, 1) := by decide +kernel
theorem dX8_follow_57 : decode cX8_follow 57 = .ok (.invokestatic 169, 3) := by decide +kernel
theorem dX8_follow_60 : decode cX8_follow 60 = .ok (.ifCond .eq 16, 3) := by decide +kernel
theorem dX8_follow_63 : decode cX8_follow 63 = .ok (.aload_n 0, 1) := by decide +kernel
theorem dX8_follow_64 : decode cX8_follow 64 = .ok (.iload_n 1, 1) := by decide +kernel
theorem dX8_follow_65 : decode cX8_follow 65 = .ok (.iload 5, 2) := by decide +kernel
theorem dX8_follow_67 : decode cX8_follow 67 = .ok (.iadd, 1) := by decide +kernel
theorem dX8_follow_68 : decode cX8_follow 68 = .ok (.iload 4, 2) := by decide +kernel
theorem dX8_follow_70 : decode cX8_follow 70 = .ok (.invokevirtual 272, 3) := by decide +kernel
theorem dX8_follow_73 : decode cX8_follow 73 = .ok (.goto 5, 3) := by decide +kernel
theorem dX8_follow_76 : decode cX8_follow 76 = .ok (.bipush (-6), 2) := by decide +kernel
theorem dX8_follow_78 : decode cX8_follow 78 = .ok (.istore 4, 2) := by decide +kernel
theorem dX8_follow_80 : decode cX8_follow 80 = .ok (.iinc 5 1, 3) := by decide +kernel
theorem dX8_follow_83 : decode cX8_follow 83 = .ok (.goto (-41), 3) := by decide +kernel
theorem dX8_follow_86 : decode cX8_follow 86 = .ok (.iload 4, 2) := by decide +kernel
theorem dX8_follow_88 : decode cX8_follow 88 = .ok (.ireturn, 1) := by decide +kernel
theorem dX8_isHigh_0 : decode cX8_isHigh 0 = .ok (.aload_n 0, 1) := by decide +kernel
theorem dX8_isHigh_1 : decode cX8_isHigh 1 = .ok (.getfield 75, 3) := by decide +kernel
theorem dX8_isHigh_4 : decode cX8_isHigh 4 = .ok (.bipush 8, 2) := by decide +kernel
theorem dX8_isHigh_6 : decode cX8_isHigh 6 = .ok (.iload_n 2, 1) := by decide +kernel
theorem dX8_isHigh_7 : decode cX8_isHigh 7 = .ok (.imul, 1) := by decide +kernel
theorem dX8_isHigh_8 : decode cX8_isHigh 8 = .ok (.iload_n 1, 1) := by decide +kernel
theorem dX8_isHigh_9 : decode cX8_isHigh 9 = .ok (.iadd, 1) := by decide +kernel
theorem dX8_isHigh_10 : decode cX8_isHigh 10 = .ok (.laload, 1) := by decide +kernel
theorem dX8_isHigh_11 : decode cX8_isHigh 11 = .ok (.iload_n 3, 1) := by decide +kernel
theorem dX8_isHigh_12 : decode cX8_isHigh 12 = .ok (.i2l, 1) := by decide +kernel
theorem dX8_isHigh_13 : decode cX8_isHigh 13 = .ok (.lcmp, 1) := by decide +kernel
theorem dX8_isHigh_14 : decode cX8_isHigh 14 = .ok (.ifCond .lt 7, 3) := by decide +kernel
theorem dX8_isHigh_17 : decode cX8_isHigh 17 = .ok (.iconst 1, 1) := by decide +kernel
theorem dX8_isHigh_18 : decode cX8_isHigh 18 = .ok (.goto 4, 3) := by decide +kernel
theorem dX8_isHigh_21 : decode cX8_isHigh 21 = .ok (.iconst 0, 1) := by decide +kernel
theorem dX8_isHigh_22 : decode cX8_isHigh 22 = .ok (.ireturn, 1) := by decide +kernel
theorem dX8_link_0 : decode cX8_link 0 = .ok (.aload_n 0, 1) := by decide +kernel
theorem dX8_link_1 : decode cX8_link 1 = .ok (.getfield 81, 3) := by decide +kernel
theorem dX8_link_4 : decode cX8_link 4 = .ok (.iload_n 1, 1) := by decide +kernel
theorem dX8_link_5 : decode cX8_link 5 = .ok (.dup2, 1) := by decide +kernel
theorem dX8_link_6 : decode cX8_link 6 = .ok (.iaload, 1) := by decide +kernel
theorem dX8_link_7 : decode cX8_link 7 = .ok (.iconst 1, 1) := by decide +kernel
theorem dX8_link_8 : decode cX8_link 8 = .ok (.iadd, 1) := by decide +kernel
theorem dX8_link_9 : decode cX8_link 9 = .ok (.iastore, 1) := by decide +kernel
theorem dX8_link_10 : decode cX8_link 10 = .ok (.aload_n 0, 1) := by decide +kernel
theorem dX8_link_11 : decode cX8_link 11 = .ok (.getfield 81, 3) := by decide +kernel
theorem dX8_link_14 : decode cX8_link 14 = .ok (.iload_n 2, 1) := by decide +kernel
theorem dX8_link_15 : decode cX8_link 15 = .ok (.dup2, 1) := by decide +kernel
theorem dX8_link_16 : decode cX8_link 16 = .ok (.iaload, 1) := by decide +kernel
theorem dX8_link_17 : decode cX8_link 17 = .ok (.iconst 1, 1) := by decide +kernel
theorem dX8_link_18 : decode cX8_link 18 = .ok (.iadd, 1) := by decide +kernel
theorem dX8_link_19 : decode cX8_link 19 = .ok (.iastore, 1) := by decide +kernel
theorem dX8_link_20 : decode cX8_link 20 = .ok (.aload_n 0, 1) := by decide +kernel
theorem dX8_link_21 : decode cX8_link 21 = .ok (.getfield 78, 3) := by decide +kernel
theorem dX8_link_24 : decode cX8_link 24 = .ok (.iload_n 1, 1) := by decide +kernel
theorem dX8_link_25 : decode cX8_link 25 = .ok (.iaload, 1) := by decide +kernel
theorem dX8_link_26 : decode cX8_link 26 = .ok (.aload_n 0, 1) := by decide +kernel
theorem dX8_link_27 : decode cX8_link 27 = .ok (.getfield 78, 3) := by decide +kernel
theorem dX8_link_30 : decode cX8_link 30 = .ok (.iload_n 2, 1) := by decide +kernel
theorem dX8_link_31 : decode cX8_link 31 = .ok (.iaload, 1) := by decide +kernel
theorem dX8_link_32 : decode cX8_link 32 = .ok (.if_icmp .ge 12, 3) := by decide +kernel
theorem dX8_link_35 : decode cX8_link 35 = .ok (.aload_n 0, 1) := by decide +kernel
theorem dX8_link_36 : decode cX8_link 36 = .ok (.getfield 78, 3) := by decide +kernel
theorem dX8_link_39 : decode cX8_link 39 = .ok (.iload_n 1, 1) := by decide +kernel
theorem dX8_link_40 : decode cX8_link 40 = .ok (.iaload, 1) := by decide +kernel
theorem dX8_link_41 : decode cX8_link 41 = .ok (.goto 9, 3) := by decide +kernel
theorem dX8_link_44 : decode cX8_link 44 = .ok (.aload_n 0, 1) := by decide +kernel
theorem dX8_link_45 : decode cX8_link 45 = .ok (.getfield 78, 3) := by decide +kernel
theorem dX8_link_48 : decode cX8_link 48 = .ok (.iload_n 2, 1) := by decide +kernel
theorem dX8_link_49 : decode cX8_link 49 = .ok (.iaload, 1) := by decide +kernel
theorem dX8_link_50 : decode cX8_link 50 = .ok (.istore_n 3, 1) := by decide +kernel
theorem dX8_link_51 : decode cX8_link 51 = .ok (.aload_n 0, 1) := by decide +kernel
theorem dX8_link_52 : decode cX8_link 52 = .ok (.getfield 78, 3) := by decide +kernel
theorem dX8_link_55 : decode cX8_link 55 = .ok (.iload_n 1, 1) := by decide +kernel
theorem dX8_link_56 : decode cX8_link 56 = .ok (.iaload, 1) := by decide +kernel
theorem dX8_link_57 : decode cX8_link 57 = .ok (.aload_n 0, 1) := by decide +kernel
theorem dX8_link_58 : decode cX8_link 58 = .ok (.getfield 78, 3) := by decide +kernel
theorem dX8_link_61 : decode cX8_link 61 = .ok (.iload_n 2, 1) := by decide +kernel
theorem dX8_link_62 : decode cX8_link 62 = .ok (.iaload, 1) := by decide +kernel
theorem dX8_link_63 : decode cX8_link 63 = .ok (.if_icmp .ge 12, 3) := by decide +kernel
theorem dX8_link_66 : decode cX8_link 66 = .ok (.aload_n 0, 1) := by decide +kernel
theorem dX8_link_67 : decode cX8_link 67 = .ok (.getfield 78, 3) := by decide +kernel
theorem dX8_link_70 : decode cX8_link 70 = .ok (.iload_n 2, 1) := by decide +kernel
theorem dX8_link_71 : decode cX8_link 71 = .ok (.iaload, 1) := by decide +kernel
theorem dX8_link_72 : decode cX8_link 72 = .ok (.goto 9, 3) := by decide +kernel
theorem dX8_link_75 : decode cX8_link 75 = .ok (.aload_n 0, 1) := by decide +kernel
theorem dX8_link_76 : decode cX8_link 76 = .ok (.getfield 78, 3) := by decide +kernel
theorem dX8_link_79 : decode cX8_link 79 = .ok (.iload_n 1, 1) := by decide +kernel
theorem dX8_link_80 : decode cX8_link 80 = .ok (.iaload, 1) := by decide +kernel
theorem dX8_link_81 : decode cX8_link 81 = .ok (.istore 4, 2) := by decide +kernel
theorem dX8_link_83 : decode cX8_link 83 = .ok (.iconst 0, 1) := by decide +kernel
theorem dX8_link_84 : decode cX8_link 84 = .ok (.istore 5, 2) := by decide +kernel
theorem dX8_link_86 : decode cX8_link 86 = .ok (.iload 5, 2) := by decide +kernel
theorem dX8_link_88 : decode cX8_link 88 = .ok (.sipush 128, 3) := by decide +kernel
theorem dX8_link_91 : decode cX8_link 91 = .ok (.if_icmp .ge 39, 3) := by decide +kernel
theorem dX8_link_94 : decode cX8_link 94 = .ok (.aload_n 0, 1) := by decide +kernel
theorem dX8_link_95 : decode cX8_link 95 = .ok (.getfield 78, 3) := by decide +kernel
theorem dX8_link_98 : decode cX8_link 98 = .ok (.iload 5, 2) := by decide +kernel
theorem dX8_link_100 : decode cX8_link 100 = .ok (.aload_n 0, 1) := by decide +kernel
theorem dX8_link_101 : decode cX8_link 101 = .ok (.getfield 78, 3) := by decide +kernel
theorem dX8_link_104 : decode cX8_link 104 = .ok (.iload 5, 2) := by decide +kernel
theorem dX8_link_106 : decode cX8_link 106 = .ok (.iaload, 1) := by decide +kernel
theorem dX8_link_107 : decode cX8_link 107 = .ok (.iload 4, 2) := by decide +kernel
theorem dX8_link_109 : decode cX8_link 109 = .ok (.if_icmp .ne 7, 3) := by decide +kernel
theorem dX8_link_112 : decode cX8_link 112 = .ok (.iload_n 3, 1) := by decide +kernel
theorem dX8_link_113 : decode cX8_link 113 = .ok (.goto 10, 3) := by decide +kernel
theorem dX8_link_116 : decode cX8_link 116 = .ok (.aload_n 0, 1) := by decide +kernel
theorem dX8_link_117 : decode cX8_link 117 = .ok (.getfield 78, 3) := by decide +kernel
theorem dX8_link_120 : decode cX8_link 120 = .ok (.iload 5, 2) := by decide +kernel
theorem dX8_link_122 : decode cX8_link 122 = .ok (.iaload, 1) := by decide +kernel
theorem dX8_link_123 : decode cX8_link 123 = .ok (.iastore, 1) := by decide +kernel
theorem dX8_link_124 : decode cX8_link 124 = .ok (.iinc 5 1, 3) := by decide +kernel
theorem dX8_link_127 : decode cX8_link 127 = .ok (.goto (-41), 3) := by decide +kernel
theorem dX8_link_130 : decode cX8_link 130 = .ok (.return_, 1) := by decide +kernel
theorem dX8_goThrough_0 : decode cX8_goThrough 0 = .ok (.bipush 16, 2) := by decide +kernel
theorem dX8_goThrough_2 : decode cX8_goThrough 2 = .ok (.iload_n 2, 1) := by decide +kernel
theorem dX8_goThrough_3 : decode cX8_goThrough 3 = .ok (.imul, 1) := by decide +kernel
theorem dX8_goThrough_4 : decode cX8_goThrough 4 = .ok (.iconst 2, 1) := by decide +kernel
theorem dX8_goThrough_5 : decode cX8_goThrough 5 = .ok (.iload_n 1, 1) := by decide +kernel
theorem dX8_goThrough_6 : decode cX8_goThrough 6 = .ok (.imul, 1) := by decide +kernel
theorem dX8_goThrough_7 : decode cX8_goThrough 7 = .ok (.iadd, 1) := by decide +kernel
theorem dX8_goThrough_8 : decode cX8_goThrough 8 = .ok (.istore 4, 2) := by decide +kernel
theorem dX8_goThrough_10 : decode cX8_goThrough 10 = .ok (.iload 4, 2) := by decide +kernel
theorem dX8_goThrough_12 : decode cX8_goThrough 12 = .ok (.bipush 16, 2) := by decide +kernel
theorem dX8_goThrough_14 : decode cX8_goThrough 14 = .ok (.iadd, 1) := by decide +kernel
theorem dX8_goThrough_15 : decode cX8_goThrough 15 = .ok (.istore 5, 2) := by decide +kernel
theorem dX8_goThrough_17 : decode cX8_goThrough 17 = .ok (.iload 4, 2) := by decide +kernel
theorem dX8_goThrough_19 : decode cX8_goThrough 19 = .ok (.iconst 1, 1) := by decide +kernel
theorem dX8_goThrough_20 : decode cX8_goThrough 20 = .ok (.iadd, 1) := by decide +kernel
theorem dX8_goThrough_21 : decode cX8_goThrough 21 = .ok (.istore 6, 2) := by decide +kernel
theorem dX8_goThrough_23 : decode cX8_goThrough 23 = .ok (.iload 4, 2) := by decide +kernel
theorem dX8_goThrough_25 : decode cX8_goThrough 25 = .ok (.iconst 3, 1) := by decide +kernel
theorem dX8_goThrough_26 : decode cX8_goThrough 26 = .ok (.iadd, 1) := by decide +kernel
theorem dX8_goThrough_27 : decode cX8_goThrough 27 = .ok (.istore 7, 2) := by decide +kernel
theorem dX8_goThrough_29 : decode cX8_goThrough 29 = .ok (.aload_n 0, 1) := by decide +kernel
theorem dX8_goThrough_30 : decode cX8_goThrough 30 = .ok (.getfield 78, 3) := by decide +kernel
theorem dX8_goThrough_33 : decode cX8_goThrough 33 = .ok (.iload 4, 2) := by decide +kernel
theorem dX8_goThrough_35 : decode cX8_goThrough 35 = .ok (.iaload, 1) := by decide +kernel
theorem dX8_goThrough_36 : decode cX8_goThrough 36 = .ok (.ifCond .lt 7, 3) := by decide +kernel
theorem dX8_goThrough_39 : decode cX8_goThrough 39 = .ok (.iconst 1, 1) := by decide +kernel
theorem dX8_goThrough_40 : decode cX8_goThrough 40 = .ok (.goto 4, 3) := by decide +kernel
theorem dX8_goThrough_43 : decode cX8_goThrough 43 = .ok (.iconst 0, 1) := by decide +kernel
theorem dX8_goThrough_44 : decode cX8_goThrough 44 = .ok (.aload_n 0, 1) := by decide +kernel
theorem dX8_goThrough_45 : decode cX8_goThrough 45 = .ok (.getfield 78, 3) := by decide +kernel
theorem dX8_goThrough_48 : decode cX8_goThrough 48 = .ok (.iload 5, 2) := by decide +kernel
theorem dX8_goThrough_50 : decode cX8_goThrough 50 = .ok (.iaload, 1) := by decide +kernel
theorem dX8_goThrough_51 : decode cX8_goThrough 51 = .ok (.ifCond .lt 7, 3) := by decide +kernel
theorem dX8_goThrough_54 : decode cX8_goThrough 54 = .ok (.iconst 1, 1) := by decide +kernel
theorem dX8_goThrough_55 : decode cX8_goThrough 55 = .ok (.goto 4, 3) := by decide +kernel
theorem dX8_goThrough_58 : decode cX8_goThrough 58 = .ok (.iconst 0, 1) := by decide +kernel
theorem dX8_goThrough_59 : decode cX8_goThrough 59 = .ok (.iadd, 1) := by decide +kernel
theorem dX8_goThrough_60 : decode cX8_goThrough 60 = .ok (.aload_n 0, 1) := by decide +kernel
theorem dX8_goThrough_61 : decode cX8_goThrough 61 = .ok (.getfield 78, 3) := by decide +kernel
theorem dX8_goThrough_64 : decode cX8_goThrough 64 = .ok (.iload 6, 2) := by decide +kernel
theorem dX8_goThrough_66 : decode cX8_goThrough 66 = .ok (.iaload, 1) := by decide +kernel
theorem dX8_goThrough_67 : decode cX8_goThrough 67 = .ok (.ifCond .lt 7, 3) := by decide +kernel
theorem dX8_goThrough_70 : decode cX8_goThrough 70 = .ok (.iconst 1, 1) := by decide +kernel
theorem dX8_goThrough_71 : decode cX8_goThrough 71 = .ok (.goto 4, 3) := by decide +kernel
theorem dX8_goThrough_74 : decode cX8_goThrough 74 = .ok (.iconst 0, 1) := by decide +kernel
theorem dX8_goThrough_75 : decode cX8_goThrough 75 = .ok (.iadd, 1) := by decide +kernel
theorem dX8_goThrough_76 : decode cX8_goThrough 76 = .ok (.aload_n 0, 1) := by decide +kernel
theorem dX8_goThrough_77 : decode cX8_goThrough 77 = .ok (.getfield 78, 3) := by decide +kernel
theorem dX8_goThrough_80 : decode cX8_goThrough 80 = .ok (.iload 7, 2) := by decide +kernel
theorem dX8_goThrough_82 : decode cX8_goThrough 82 = .ok (.iaload, 1) := by decide +kernel
theorem dX8_goThrough_83 : decode cX8_goThrough 83 = .ok (.ifCond .lt 7, 3) := by decide +kernel
theorem dX8_goThrough_86 : decode cX8_goThrough 86 = .ok (.iconst 1, 1) := by decide +kernel
theorem dX8_goThrough_87 : decode cX8_goThrough 87 = .ok (.goto 4, 3) := by decide +kernel
theorem dX8_goThrough_90 : decode cX8_goThrough 90 = .ok (.iconst 0, 1) := by decide +kernel
theorem dX8_goThrough_91 : decode cX8_goThrough 91 = .ok (.iadd, 1) := by decide +kernel
theorem dX8_goThrough_92 : decode cX8_goThrough 92 = .ok (.istore 8, 2) := by decide +kernel
theorem dX8_goThrough_94 : decode cX8_goThrough 94 = .ok (.iload 8, 2) := by decide +kernel
theorem dX8_goThrough_96 : decode cX8_goThrough 96 = .ok (.iconst 4, 1) := by decide +kernel
theorem dX8_goThrough_97 : decode cX8_goThrough 97 = .ok (.if_icmp .ne 129, 3) := by decide +kernel
theorem dX8_goThrough_100 : decode cX8_goThrough 100 = .ok (.aload_n 0, 1) := by decide +kernel
theorem dX8_goThrough_101 : decode cX8_goThrough 101 = .ok (.getfield 75, 3) := by decide +kernel
theorem dX8_goThrough_104 : decode cX8_goThrough 104 = .ok (.bipush 8, 2) := by decide +kernel
theorem dX8_goThrough_106 : decode cX8_goThrough 106 = .ok (.iload_n 2, 1) := by decide +kernel
theorem dX8_goThrough_107 : decode cX8_goThrough 107 = .ok (.imul, 1) := by decide +kernel
theorem dX8_goThrough_108 : decode cX8_goThrough 108 = .ok (.iload_n 1, 1) := by decide +kernel
theorem dX8_goThrough_109 : decode cX8_goThrough 109 = .ok (.iadd, 1) := by decide +kernel
theorem dX8_goThrough_110 : decode cX8_goThrough 110 = .ok (.laload, 1) := by decide +kernel
theorem dX8_goThrough_111 : decode cX8_goThrough 111 = .ok (.aload_n 0, 1) := by decide +kernel
theorem dX8_goThrough_112 : decode cX8_goThrough 112 = .ok (.getfield 75, 3) := by decide +kernel
theorem dX8_goThrough_115 : decode cX8_goThrough 115 = .ok (.bipush 8, 2) := by decide +kernel
theorem dX8_goThrough_117 : decode cX8_goThrough 117 = .ok (.iload_n 2, 1) := by decide +kernel
theorem dX8_goThrough_118 : decode cX8_goThrough 118 = .ok (.imul, 1) := by decide +kernel
theorem dX8_goThrough_119 : decode cX8_goThrough 119 = .ok (.iload_n 1, 1) := by decide +kernel
theorem dX8_goThrough_120 : decode cX8_goThrough 120 = .ok (.iadd, 1) := by decide +kernel
theorem dX8_goThrough_121 : decode cX8_goThrough 121 = .ok (.iconst 1, 1) := by decide +kernel
theorem dX8_goThrough_122 : decode cX8_goThrough 122 = .ok (.iadd, 1) := by decide +kernel
theorem dX8_goThrough_123 : decode cX8_goThrough 123 = .ok (.laload, 1) := by decide +kernel
theorem dX8_goThrough_124 : decode cX8_goThrough 124 = .ok (.ladd, 1) := by decide +kernel
theorem dX8_goThrough_125 : decode cX8_goThrough 125 = .ok (.aload_n 0, 1) := by decide +kernel
theorem dX8_goThrough_126 : decode cX8_goThrough 126 = .ok (.getfield 75, 3) := by decide +kernel
theorem dX8_goThrough_129 : decode cX8_goThrough 129 = .ok (.bipush 8, 2) := by decide +kernel
theorem dX8_goThrough_131 : decode cX8_goThrough 131 = .ok (.iload_n 2, 1) := by decide +kernel
theorem dX8_goThrough_132 : decode cX8_goThrough 132 = .ok (.imul, 1) := by decide +kernel
theorem dX8_goThrough_133 : decode cX8_goThrough 133 = .ok (.iload_n 1, 1) := by decide +kernel
theorem dX8_goThrough_134 : decode cX8_goThrough 134 = .ok (.iadd, 1) := by decide +kernel
theorem dX8_goThrough_135 : decode cX8_goThrough 135 = .ok (.bipush 8, 2) := by decide +kernel
theorem dX8_goThrough_137 : decode cX8_goThrough 137 = .ok (.iadd, 1) := by decide +kernel
theorem dX8_goThrough_138 : decode cX8_goThrough 138 = .ok (.laload, 1) := by decide +kernel
theorem dX8_goThrough_139 : decode cX8_goThrough 139 = .ok (.ladd, 1) := by decide +kernel
theorem dX8_goThrough_140 : decode cX8_goThrough 140 = .ok (.aload_n 0, 1) := by decide +kernel
theorem dX8_goThrough_141 : decode cX8_goThrough 141 = .ok (.getfield 75, 3) := by decide +kernel
theorem dX8_goThrough_144 : decode cX8_goThrough 144 = .ok (.bipush 8, 2) := by decide +kernel
theorem dX8_goThrough_146 : decode cX8_goThrough 146 = .ok (.iload_n 2, 1) := by decide +kernel
theorem dX8_goThrough_147 : decode cX8_goThrough 147 = .ok (.imul, 1) := by decide +kernel
theorem dX8_goThrough_148 : decode cX8_goThrough 148 = .ok (.iload_n 1, 1) := by decide +kernel
theorem dX8_goThrough_149 : decode cX8_goThrough 149 = .ok (.iadd, 1) := by decide +kernel
theorem dX8_goThrough_150 : decode cX8_goThrough 150 = .ok (.bipush 9, 2) := by decide +kernel
theorem dX8_goThrough_152 : decode cX8_goThrough 152 = .ok (.iadd, 1) := by decide +kernel
theorem dX8_goThrough_153 : decode cX8_goThrough 153 = .ok (.laload, 1) := by decide +kernel
theorem dX8_goThrough_154 : decode cX8_goThrough 154 = .ok (.ladd, 1) := by decide +kernel
theorem dX8_goThrough_155 : decode cX8_goThrough 155 = .ok (.lstore 9, 2) := by decide +kernel
theorem dX8_goThrough_157 : decode cX8_goThrough 157 = .ok (.lload 9, 2) := by decide +kernel
theorem dX8_goThrough_159 : decode cX8_goThrough 159 = .ok (.ldc2_w 195, 3) := by decide +kernel
theorem dX8_goThrough_162 : decode cX8_goThrough 162 = .ok (.iload_n 3, 1) := by decide +kernel
theorem dX8_goThrough_163 : decode cX8_goThrough 163 = .ok (.i2l, 1) := by decide +kernel
theorem dX8_goThrough_164 : decode cX8_goThrough 164 = .ok (.lmul, 1) := by decide +kernel
theorem dX8_goThrough_165 : decode cX8_goThrough 165 = .ok (.lcmp, 1) := by decide +kernel
theorem dX8_goThrough_166 : decode cX8_goThrough 166 = .ok (.ifCond .ge 7, 3) := by decide +kernel
theorem dX8_goThrough_169 : decode cX8_goThrough 169 = .ok (.iconst 1, 1) := by decide +kernel
theorem dX8_goThrough_170 : decode cX8_goThrough 170 = .ok (.goto 4, 3) := by decide +kernel
theorem dX8_goThrough_173 : decode cX8_goThrough 173 = .ok (.iconst 0, 1) := by decide +kernel
theorem dX8_goThrough_174 : decode cX8_goThrough 174 = .ok (.istore 11, 2) := by decide +kernel
theorem dX8_goThrough_176 : decode cX8_goThrough 176 = .ok (.aload_n 0, 1) := by decide +kernel
theorem dX8_goThrough_177 : decode cX8_goThrough 177 = .ok (.iload_n 1, 1) := by decide +kernel
theorem dX8_goThrough_178 : decode cX8_goThrough 178 = .ok (.iload_n 2, 1) := by decide +kernel
theorem dX8_goThrough_179 : decode cX8_goThrough 179 = .ok (.iload_n 3, 1) := by decide +kernel
theorem dX8_goThrough_180 : decode cX8_goThrough 180 = .ok (.invokevirtual 275, 3) := by decide +kernel
theorem dX8_goThrough_183 : decode cX8_goThrough 183 = .ok (.iload 11, 2) := by decide +kernel
theorem dX8_goThrough_185 : decode cX8_goThrough 185 = .ok (.if_icmp .ne 22, 3) := by decide +kernel
theorem dX8_goThrough_188 : decode cX8_goThrough 188 = .ok (.aload_n 0, 1) := by decide +kernel
theorem dX8_goThrough_189 : decode cX8_goThrough 189 = .ok (.iload 4, 2) := by decide +kernel
theorem dX8_goThrough_191 : decode cX8_goThrough 191 = .ok (.iload 6, 2) := by decide +kernel
theorem dX8_goThrough_193 : decode cX8_goThrough 193 = .ok (.invokevirtual 279, 3) := by decide +kernel
theorem dX8_goThrough_196 : decode cX8_goThrough 196 = .ok (.aload_n 0, 1) := by decide +kernel
theorem dX8_goThrough_197 : decode cX8_goThrough 197 = .ok (.iload 5, 2) := by decide +kernel
theorem dX8_goThrough_199 : decode cX8_goThrough 199 = .ok (.iload 7, 2) := by decide +kernel
theorem dX8_goThrough_201 : decode cX8_goThrough 201 = .ok (.invokevirtual 279, 3) := by decide +kernel
theorem dX8_goThrough_204 : decode cX8_goThrough 204 = .ok (.goto 19, 3) := by decide +kernel
theorem dX8_goThrough_207 : decode cX8_goThrough 207 = .ok (.aload_n 0, 1) := by decide +kernel
theorem dX8_goThrough_208 : decode cX8_goThrough 208 = .ok (.iload 4, 2) := by decide +kernel
theorem dX8_goThrough_210 : decode cX8_goThrough 210 = .ok (.iload 7, 2) := by decide +kernel
theorem dX8_goThrough_212 : decode cX8_goThrough 212 = .ok (.invokevirtual 279, 3) := by decide +kernel
theorem dX8_goThrough_215 : decode cX8_goThrough 215 = .ok (.aload_n 0, 1) := by decide +kernel
theorem dX8_goThrough_216 : decode cX8_goThrough 216 = .ok (.iload 5, 2) := by decide +kernel
theorem dX8_goThrough_218 : decode cX8_goThrough 218 = .ok (.iload 6, 2) := by decide +kernel
theorem dX8_goThrough_220 : decode cX8_goThrough 220 = .ok (.invokevirtual 279, 3) := by decide +kernel
theorem dX8_goThrough_223 : decode cX8_goThrough 223 = .ok (.goto 85, 3) := by decide +kernel
theorem dX8_goThrough_226 : decode cX8_goThrough 226 = .ok (.iload 8, 2) := by decide +kernel
theorem dX8_goThrough_228 : decode cX8_goThrough 228 = .ok (.iconst 2, 1) := by decide +kernel
theorem dX8_goThrough_229 : decode cX8_goThrough 229 = .ok (.if_icmp .ne 79, 3) := by decide +kernel
theorem dX8_goThrough_232 : decode cX8_goThrough 232 = .ok (.aload_n 0, 1) := by decide +kernel
theorem dX8_goThrough_233 : decode cX8_goThrough 233 = .ok (.getfield 78, 3) := by decide +kernel
theorem dX8_goThrough_236 : decode cX8_goThrough 236 = .ok (.iload 4, 2) := by decide +kernel
theorem dX8_goThrough_238 : decode cX8_goThrough 238 = .ok (.iaload, 1) := by decide +kernel
theorem dX8_goThrough_239 : decode cX8_goThrough 239 = .ok (.ifCond .lt 8, 3) := by decide +kernel
theorem dX8_goThrough_242 : decode cX8_goThrough 242 = .ok (.iload 4, 2) := by decide +kernel
theorem dX8_goThrough_244 : decode cX8_goThrough 244 = .ok (.goto 20, 3) := by decide +kernel
theorem dX8_goThrough_247 : decode cX8_goThrough 247 = .ok (.aload_n 0, 1) := by decide +kernel
theorem dX8_goThrough_248 : decode cX8_goThrough 248 = .ok (.getfield 78, 3) := by decide +kernel
theorem dX8_goThrough_251 : decode cX8_goThrough 251 = .ok (.iload 6, 2) := by decide +kernel
theorem dX8_goThrough_253 : decode cX8_goThrough 253 = .ok (.iaload, 1) := by decide +kernel
theorem dX8_goThrough_254 : decode cX8_goThrough 254 = .ok (.ifCond .lt 8, 3) := by decide +kernel
theorem dX8_goThrough_257 : decode cX8_goThrough 257 = .ok (.iload 6, 2) := by decide +kernel
theorem dX8_goThrough_259 : decode cX8_goThrough 259 = .ok (.goto 5, 3) := by decide +kernel
theorem dX8_goThrough_262 : decode cX8_goThrough 262 = .ok (.iload 5, 2) := by decide +kernel
theorem dX8_goThrough_264 : decode cX8_goThrough 264 = .ok (.istore 9, 2) := by decide +kernel
theorem dX8_goThrough_266 : decode cX8_goThrough 266 = .ok (.aload_n 0, 1) := by decide +kernel
theorem dX8_goThrough_267 : decode cX8_goThrough 267 = .ok (.getfield 78, 3) := by decide +kernel
theorem dX8_goThrough_270 : decode cX8_goThrough 270 = .ok (.iload 7, 2) := by decide +kernel
theorem dX8_goThrough_272 : decode cX8_goThrough 272 = .ok (.iaload, 1) := by decide +kernel
theorem dX8_goThrough_273 : decode cX8_goThrough 273 = .ok (.ifCond .lt 8, 3) := by decide +kernel
theorem dX8_goThrough_276 : decode cX8_goThrough 276 = .ok (.iload 7, 2) := by decide +kernel
theorem dX8_goThrough_278 : decode cX8_goThrough 278 = .ok (.goto 20, 3) := by decide +kernel
theorem dX8_goThrough_281 : decode cX8_goThrough 281 = .ok (.aload_n 0, 1) := by decide +kernel
theorem dX8_goThrough_282 : decode cX8_goThrough 282 = .ok (.getfield 78, 3) := by decide +kernel
theorem dX8_goThrough_285 : decode cX8_goThrough 285 = .ok (.iload 5, 2) := by decide +kernel
theorem dX8_goThrough_287 : decode cX8_goThrough 287 = .ok (.iaload, 1) := by decide +kernel
theorem dX8_goThrough_288 : decode cX8_goThrough 288 = .ok (.ifCond .lt 8, 3) := by decide +kernel
theorem dX8_goThrough_291 : decode cX8_goThrough 291 = .ok (.iload 5, 2) := by decide +kernel
theorem dX8_goThrough_293 : decode cX8_goThrough 293 = .ok (.goto 5, 3) := by decide +kernel
theorem dX8_goThrough_296 : decode cX8_goThrough 296 = .ok (.iload 6, 2) := by decide +kernel
theorem dX8_goThrough_298 : decode cX8_goThrough 298 = .ok (.istore 10, 2) := by decide +kernel
theorem dX8_goThrough_300 : decode cX8_goThrough 300 = .ok (.aload_n 0, 1) := by decide +kernel
theorem dX8_goThrough_301 : decode cX8_goThrough 301 = .ok (.iload 9, 2) := by decide +kernel
theorem dX8_goThrough_303 : decode cX8_goThrough 303 = .ok (.iload 10, 2) := by decide +kernel
theorem dX8_goThrough_305 : decode cX8_goThrough 305 = .ok (.invokevirtual 279, 3) := by decide +kernel
theorem dX8_goThrough_308 : decode cX8_goThrough 308 = .ok (.return_, 1) := by decide +kernel
theorem dX8_findLines_0 : decode cX8_findLines 0 = .ok (.aload_n 0, 1) := by decide +kernel
theorem dX8_findLines_1 : decode cX8_findLines 1 = .ok (.iload_n 1, 1) := by decide +kernel
theorem dX8_findLines_2 : decode cX8_findLines 2 = .ok (.invokevirtual 263, 3) := by decide +kernel
theorem dX8_findLines_5 : decode cX8_findLines 5 = .ok (.iconst 0, 1) := by decide +kernel
theorem dX8_findLines_6 : decode cX8_findLines 6 = .ok (.istore_n 3, 1) := by decide +kernel
theorem dX8_findLines_7 : decode cX8_findLines 7 = .ok (.iload_n 3, 1) := by decide +kernel
theorem dX8_findLines_8 : decode cX8_findLines 8 = .ok (.sipush 128, 3) := by decide +kernel
theorem dX8_findLines_11 : decode cX8_findLines 11 = .ok (.if_icmp .ge 118, 3) := by decide +kernel
theorem dX8_findLines_14 : decode cX8_findLines 14 = .ok (.iload_n 3, 1) := by decide +kernel
theorem dX8_findLines_15 : decode cX8_findLines 15 = .ok (.bipush 16, 2) := by decide +kernel
theorem dX8_findLines_17 : decode cX8_findLines 17 = .ok (.irem, 1) := by decide +kernel
theorem dX8_findLines_18 : decode cX8_findLines 18 = .ok (.iconst 2, 1) := by decide +kernel
theorem dX8_findLines_19 : decode cX8_findLines 19 = .ok (.idiv, 1) := by decide +kernel
theorem dX8_findLines_20 : decode cX8_findLines 20 = .ok (.istore 4, 2) := by decide +kernel
theorem dX8_findLines_22 : decode cX8_findLines 22 = .ok (.iload_n 3, 1) := by decide +kernel
theorem dX8_findLines_23 : decode cX8_findLines 23 = .ok (.bipush 16, 2) := by decide +kernel
theorem dX8_findLines_25 : decode cX8_findLines 25 = .ok (.idiv, 1) := by decide +kernel
theorem dX8_findLines_26 : decode cX8_findLines 26 = .ok (.istore 5, 2) := by decide +kernel
theorem dX8_findLines_28 : decode cX8_findLines 28 = .ok (.iload_n 3, 1) := by decide +kernel
theorem dX8_findLines_29 : decode cX8_findLines 29 = .ok (.iconst 2, 1) := by decide +kernel
theorem dX8_findLines_30 : decode cX8_findLines 30 = .ok (.irem, 1) := by decide +kernel
theorem dX8_findLines_31 : decode cX8_findLines 31 = .ok (.ifCond .ne 10, 3) := by decide +kernel
theorem dX8_findLines_34 : decode cX8_findLines 34 = .ok (.iload 4, 2) := by decide +kernel
theorem dX8_findLines_36 : decode cX8_findLines 36 = .ok (.iconst 1, 1) := by decide +kernel
theorem dX8_findLines_37 : decode cX8_findLines 37 = .ok (.iadd, 1) := by decide +kernel
theorem dX8_findLines_38 : decode cX8_findLines 38 = .ok (.goto 5, 3) := by decide +kernel
theorem dX8_findLines_41 : decode cX8_findLines 41 = .ok (.iload 4, 2) := by decide +kernel
theorem dX8_findLines_43 : decode cX8_findLines 43 = .ok (.istore 6, 2) := by decide +kernel
theorem dX8_findLines_45 : decode cX8_findLines 45 = .ok (.iload_n 3, 1) := by decide +kernel
theorem dX8_findLines_46 : decode cX8_findLines 46 = .ok (.iconst 2, 1) := by decide +kernel
theorem dX8_findLines_47 : decode cX8_findLines 47 = .ok (.irem, 1) := by decide +kernel
theorem dX8_findLines_48 : decode cX8_findLines 48 = .ok (.ifCond .ne 8, 3) := by decide +kernel
theorem dX8_findLines_51 : decode cX8_findLines 51 = .ok (.iload 5, 2) := by decide +kernel
theorem dX8_findLines_53 : decode cX8_findLines 53 = .ok (.goto 7, 3) := by decide +kernel
theorem dX8_findLines_56 : decode cX8_findLines 56 = .ok (.iload 5, 2) := by decide +kernel
theorem dX8_findLines_58 : decode cX8_findLines 58 = .ok (.iconst 1, 1) := by decide +kernel
theorem dX8_findLines_59 : decode cX8_findLines 59 = .ok (.iadd, 1) := by decide +kernel
theorem dX8_findLines_60 : decode cX8_findLines 60 = .ok (.istore 7, 2) := by decide +kernel
theorem dX8_findLines_62 : decode cX8_findLines 62 = .ok (.iload 6, 2) := by decide +kernel
theorem dX8_findLines_64 : decode cX8_findLines 64 = .ok (.iload 7, 2) := by decide +kernel
theorem dX8_findLines_66 : decode cX8_findLines 66 = .ok (.invokestatic 161, 3) := by decide +kernel
theorem dX8_findLines_69 : decode cX8_findLines 69 = .ok (.ifCond .eq 28, 3) := by decide +kernel
theorem dX8_findLines_72 : decode cX8_findLines 72 = .ok (.aload_n 0, 1) := by decide +kernel
theorem dX8_findLines_73 : decode cX8_findLines 73 = .ok (.iload 4, 2) := by decide +kernel
theorem dX8_findLines_75 : decode cX8_findLines 75 = .ok (.iload 5, 2) := by decide +kernel
theorem dX8_findLines_77 : decode cX8_findLines 77 = .ok (.iload_n 2, 1) := by decide +kernel
theorem dX8_findLines_78 : decode cX8_findLines 78 = .ok (.invokevirtual 275, 3) := by decide +kernel
theorem dX8_findLines_81 : decode cX8_findLines 81 = .ok (.aload_n 0, 1) := by decide +kernel
theorem dX8_findLines_82 : decode cX8_findLines 82 = .ok (.iload 6, 2) := by decide +kernel
theorem dX8_findLines_84 : decode cX8_findLines 84 = .ok (.iload 7, 2) := by decide +kernel
theorem dX8_findLines_86 : decode cX8_findLines 86 = .ok (.iload_n 2, 1) := by decide +kernel
theorem dX8_findLines_87 : decode cX8_findLines 87 = .ok (.invokevirtual 275, 3) := by decide +kernel
theorem dX8_findLines_90 : decode cX8_findLines 90 = .ok (.if_icmp .eq 7, 3) := by decide +kernel
theorem dX8_findLines_93 : decode cX8_findLines 93 = .ok (.iconst 1, 1) := by decide +kernel
theorem dX8_findLines_94 : decode cX8_findLines 94 = .ok (.goto 4, 3) := by decide +kernel
theorem dX8_findLines_97 : decode cX8_findLines 97 = .ok (.iconst 0, 1) := by decide +kernel
theorem dX8_findLines_98 : decode cX8_findLines 98 = .ok (.istore 8, 2) := by decide +kernel
theorem dX8_findLines_100 : decode cX8_findLines 100 = .ok (.aload_n 0, 1) := by decide +kernel
theorem dX8_findLines_101 : decode cX8_findLines 101 = .ok (.getfield 78, 3) := by decide +kernel
theorem dX8_findLines_104 : decode cX8_findLines 104 = .ok (.iload_n 3, 1) := by decide +kernel
theorem dX8_findLines_105 : decode cX8_findLines 105 = .ok (.iload 8, 2) := by decide +kernel
theorem dX8_findLines_107 : decode cX8_findLines 107 = .ok (.ifCond .eq 7, 3) := by decide +kernel
theorem dX8_findLines_110 : decode cX8_findLines 110 = .ok (.iload_n 3, 1) := by decide +kernel
theorem dX8_findLines_111 : decode cX8_findLines 111 = .ok (.goto 4, 3) := by decide +kernel
theorem dX8_findLines_114 : decode cX8_findLines 114 = .ok (.iconst (-1), 1) := by decide +kernel
theorem dX8_findLines_115 : decode cX8_findLines 115 = .ok (.iastore, 1) := by decide +kernel
theorem dX8_findLines_116 : decode cX8_findLines 116 = .ok (.aload_n 0, 1) := by decide +kernel
theorem dX8_findLines_117 : decode cX8_findLines 117 = .ok (.getfield 81, 3) := by decide +kernel
theorem dX8_findLines_120 : decode cX8_findLines 120 = .ok (.iload_n 3, 1) := by decide +kernel
theorem dX8_findLines_121 : decode cX8_findLines 121 = .ok (.iconst 0, 1) := by decide +kernel
theorem dX8_findLines_122 : decode cX8_findLines 122 = .ok (.iastore, 1) := by decide +kernel
theorem dX8_findLines_123 : decode cX8_findLines 123 = .ok (.iinc 3 1, 3) := by decide +kernel
theorem dX8_findLines_126 : decode cX8_findLines 126 = .ok (.goto (-119), 3) := by decide +kernel
theorem dX8_findLines_129 : decode cX8_findLines 129 = .ok (.iconst 0, 1) := by decide +kernel
theorem dX8_findLines_130 : decode cX8_findLines 130 = .ok (.istore_n 3, 1) := by decide +kernel
theorem dX8_findLines_131 : decode cX8_findLines 131 = .ok (.iload_n 3, 1) := by decide +kernel
theorem dX8_findLines_132 : decode cX8_findLines 132 = .ok (.bipush 7, 2) := by decide +kernel
theorem dX8_findLines_134 : decode cX8_findLines 134 = .ok (.if_icmp .ge 33, 3) := by decide +kernel
theorem dX8_findLines_137 : decode cX8_findLines 137 = .ok (.iconst 0, 1) := by decide +kernel
theorem dX8_findLines_138 : decode cX8_findLines 138 = .ok (.istore 4, 2) := by decide +kernel
theorem dX8_findLines_140 : decode cX8_findLines 140 = .ok (.iload 4, 2) := by decide +kernel
theorem dX8_findLines_142 : decode cX8_findLines 142 = .ok (.bipush 7, 2) := by decide +kernel
theorem dX8_findLines_144 : decode cX8_findLines 144 = .ok (.if_icmp .ge 17, 3) := by decide +kernel
theorem dX8_findLines_147 : decode cX8_findLines 147 = .ok (.aload_n 0, 1) := by decide +kernel
theorem dX8_findLines_148 : decode cX8_findLines 148 = .ok (.iload 4, 2) := by decide +kernel
theorem dX8_findLines_150 : decode cX8_findLines 150 = .ok (.iload_n 3, 1) := by decide +kernel
theorem dX8_findLines_151 : decode cX8_findLines 151 = .ok (.iload_n 2, 1) := by decide +kernel
theorem dX8_findLines_152 : decode cX8_findLines 152 = .ok (.invokevirtual 283, 3) := by decide +kernel
theorem dX8_findLines_155 : decode cX8_findLines 155 = .ok (.iinc 4 1, 3) := by decide +kernel
theorem dX8_findLines_158 : decode cX8_findLines 158 = .ok (.goto (-18), 3) := by decide +kernel
theorem dX8_findLines_161 : decode cX8_findLines 161 = .ok (.iinc 3 1, 3) := by decide +kernel
theorem dX8_findLines_164 : decode cX8_findLines 164 = .ok (.goto (-33), 3) := by decide +kernel
theorem dX8_findLines_167 : decode cX8_findLines 167 = .ok (.return_, 1) := by decide +kernel
theorem dX8_ofLine_0 : decode cX8_ofLine 0 = .ok (.iconst 0, 1) := by decide +kernel
theorem dX8_ofLine_1 : decode cX8_ofLine 1 = .ok (.istore_n 3, 1) := by decide +kernel
theorem dX8_ofLine_2 : decode cX8_ofLine 2 = .ok (.iconst 1, 1) := by decide +kernel
theorem dX8_ofLine_3 : decode cX8_ofLine 3 = .ok (.istore 4, 2) := by decide +kernel
theorem dX8_ofLine_5 : decode cX8_ofLine 5 = .ok (.iload_n 1, 1) := by decide +kernel
theorem dX8_ofLine_6 : decode cX8_ofLine 6 = .ok (.istore 5, 2) := by decide +kernel
theorem dX8_ofLine_8 : decode cX8_ofLine 8 = .ok (.iconst 0, 1) := by decide +kernel
theorem dX8_ofLine_9 : decode cX8_ofLine 9 = .ok (.istore 6, 2) := by decide +kernel
theorem dX8_ofLine_11 : decode cX8_ofLine 11 = .ok (.iload 6, 2) := by decide +kernel
theorem dX8_ofLine_13 : decode cX8_ofLine 13 = .ok (.sipush 128, 3) := by decide +kernel
theorem dX8_ofLine_16 : decode cX8_ofLine 16 = .ok (.if_icmp .ge 50, 3) := by decide +kernel
theorem dX8_ofLine_19 : decode cX8_ofLine 19 = .ok (.aload_n 0, 1) := by decide +kernel
theorem dX8_ofLine_20 : decode cX8_ofLine 20 = .ok (.getfield 78, 3) := by decide +kernel
theorem dX8_ofLine_23 : decode cX8_ofLine 23 = .ok (.iload 6, 2) := by decide +kernel
theorem dX8_ofLine_25 : decode cX8_ofLine 25 = .ok (.iaload, 1) := by decide +kernel
theorem dX8_ofLine_26 : decode cX8_ofLine 26 = .ok (.iload_n 1, 1) := by decide +kernel
theorem dX8_ofLine_27 : decode cX8_ofLine 27 = .ok (.if_icmp .ne 33, 3) := by decide +kernel
theorem dX8_ofLine_30 : decode cX8_ofLine 30 = .ok (.iinc 3 1, 3) := by decide +kernel
theorem dX8_ofLine_33 : decode cX8_ofLine 33 = .ok (.iload 4, 2) := by decide +kernel
theorem dX8_ofLine_35 : decode cX8_ofLine 35 = .ok (.ifCond .eq 18, 3) := by decide +kernel
theorem dX8_ofLine_38 : decode cX8_ofLine 38 = .ok (.aload_n 0, 1) := by decide +kernel
theorem dX8_ofLine_39 : decode cX8_ofLine 39 = .ok (.getfield 81, 3) := by decide +kernel
theorem dX8_ofLine_42 : decode cX8_ofLine 42 = .ok (.iload 6, 2) := by decide +kernel
theorem dX8_ofLine_44 : decode cX8_ofLine 44 = .ok (.iaload, 1) := by decide +kernel
theorem dX8_ofLine_45 : decode cX8_ofLine 45 = .ok (.iconst 2, 1) := by decide +kernel
theorem dX8_ofLine_46 : decode cX8_ofLine 46 = .ok (.if_icmp .ne 7, 3) := by decide +kernel
theorem dX8_ofLine_49 : decode cX8_ofLine 49 = .ok (.iconst 1, 1) := by decide +kernel
theorem dX8_ofLine_50 : decode cX8_ofLine 50 = .ok (.goto 4, 3) := by decide +kernel
theorem dX8_ofLine_53 : decode cX8_ofLine 53 = .ok (.iconst 0, 1) := by decide +kernel
theorem dX8_ofLine_54 : decode cX8_ofLine 54 = .ok (.istore 4, 2) := by decide +kernel
theorem dX8_ofLine_56 : decode cX8_ofLine 56 = .ok (.iload 6, 2) := by decide +kernel
theorem dX8_ofLine_58 : decode cX8_ofLine 58 = .ok (.istore 5, 2) := by decide +kernel
theorem dX8_ofLine_60 : decode cX8_ofLine 60 = .ok (.iinc 6 1, 3) := by decide +kernel
theorem dX8_ofLine_63 : decode cX8_ofLine 63 = .ok (.goto (-52), 3) := by decide +kernel
theorem dX8_ofLine_66 : decode cX8_ofLine 66 = .ok (.iload_n 2, 1) := by decide +kernel
theorem dX8_ofLine_67 : decode cX8_ofLine 67 = .ok (.ifCond .ne 7, 3) := by decide +kernel
theorem dX8_ofLine_70 : decode cX8_ofLine 70 = .ok (.iload_n 3, 1) := by decide +kernel
theorem dX8_ofLine_71 : decode cX8_ofLine 71 = .ok (.goto 23, 3) := by decide +kernel
theorem dX8_ofLine_74 : decode cX8_ofLine 74 = .ok (.iload_n 2, 1) := by decide +kernel
theorem dX8_ofLine_75 : decode cX8_ofLine 75 = .ok (.iconst 1, 1) := by decide +kernel
theorem dX8_ofLine_76 : decode cX8_ofLine 76 = .ok (.if_icmp .ne 16, 3) := by decide +kernel
theorem dX8_ofLine_79 : decode cX8_ofLine 79 = .ok (.iload 4, 2) := by decide +kernel
theorem dX8_ofLine_81 : decode cX8_ofLine 81 = .ok (.ifCond .eq 7, 3) := by decide +kernel
theorem dX8_ofLine_84 : decode cX8_ofLine 84 = .ok (.iconst 1, 1) := by decide +kernel
theorem dX8_ofLine_85 : decode cX8_ofLine 85 = .ok (.goto 9, 3) := by decide +kernel
theorem dX8_ofLine_88 : decode cX8_ofLine 88 = .ok (.iconst 0, 1) := by decide +kernel
theorem dX8_ofLine_89 : decode cX8_ofLine 89 = .ok (.goto 5, 3) := by decide +kernel
theorem dX8_ofLine_92 : decode cX8_ofLine 92 = .ok (.iload 5, 2) := by decide +kernel
theorem dX8_ofLine_94 : decode cX8_ofLine 94 = .ok (.ireturn, 1) := by decide +kernel
theorem dX8_whyNot_0 : decode cX8_whyNot 0 = .ok (.iload_n 1, 1) := by decide +kernel
theorem dX8_whyNot_1 : decode cX8_whyNot 1 = .ok (.invokestatic 169, 3) := by decide +kernel
theorem dX8_whyNot_4 : decode cX8_whyNot 4 = .ok (.ifCond .eq 27, 3) := by decide +kernel
theorem dX8_whyNot_7 : decode cX8_whyNot 7 = .ok (.iload_n 2, 1) := by decide +kernel
theorem dX8_whyNot_8 : decode cX8_whyNot 8 = .ok (.i2l, 1) := by decide +kernel
theorem dX8_whyNot_9 : decode cX8_whyNot 9 = .ok (.lconst 1, 1) := by decide +kernel
theorem dX8_whyNot_10 : decode cX8_whyNot 10 = .ok (.ldc2_w 182, 3) := by decide +kernel
theorem dX8_whyNot_13 : decode cX8_whyNot 13 = .ok (.invokestatic 102, 3) := by decide +kernel
theorem dX8_whyNot_16 : decode cX8_whyNot 16 = .ok (.ifCond .eq 15, 3) := by decide +kernel
theorem dX8_whyNot_19 : decode cX8_whyNot 19 = .ok (.iload_n 3, 1) := by decide +kernel
theorem dX8_whyNot_20 : decode cX8_whyNot 20 = .ok (.i2l, 1) := by decide +kernel
theorem dX8_whyNot_21 : decode cX8_whyNot 21 = .ok (.lconst 0, 1) := by decide +kernel
theorem dX8_whyNot_22 : decode cX8_whyNot 22 = .ok (.ldc2_w 287, 3) := by decide +kernel
theorem dX8_whyNot_25 : decode cX8_whyNot 25 = .ok (.invokestatic 102, 3) := by decide +kernel
theorem dX8_whyNot_28 : decode cX8_whyNot 28 = .ok (.ifCond .ne 6, 3) := by decide +kernel
theorem dX8_whyNot_31 : decode cX8_whyNot 31 = .ok (.bipush (-2), 2) := by decide +kernel
theorem dX8_whyNot_33 : decode cX8_whyNot 33 = .ok (.ireturn, 1) := by decide +kernel
theorem dX8_whyNot_34 : decode cX8_whyNot 34 = .ok (.aload_n 0, 1) := by decide +kernel
theorem dX8_whyNot_35 : decode cX8_whyNot 35 = .ok (.iload_n 1, 1) := by decide +kernel
theorem dX8_whyNot_36 : decode cX8_whyNot 36 = .ok (.iconst (-1), 1) := by decide +kernel
theorem dX8_whyNot_37 : decode cX8_whyNot 37 = .ok (.invokevirtual 253, 3) := by decide +kernel
theorem dX8_whyNot_40 : decode cX8_whyNot 40 = .ok (.ifCond .eq 7, 3) := by decide +kernel
theorem dX8_whyNot_43 : decode cX8_whyNot 43 = .ok (.iconst 0, 1) := by decide +kernel
theorem dX8_whyNot_44 : decode cX8_whyNot 44 = .ok (.goto 5, 3) := by decide +kernel
theorem dX8_whyNot_47 : decode cX8_whyNot 47 = .ok (.bipush (-3), 2) := by decide +kernel
theorem dX8_whyNot_49 : decode cX8_whyNot 49 = .ok (.ireturn, 1) := by decide +kernel
theorem dX8_lines_0 : decode cX8_lines 0 = .ok (.aload_n 0, 1) := by decide +kernel
theorem dX8_lines_1 : decode cX8_lines 1 = .ok (.iload_n 1, 1) := by decide +kernel
theorem dX8_lines_2 : decode cX8_lines 2 = .ok (.iload_n 2, 1) := by decide +kernel
theorem dX8_lines_3 : decode cX8_lines 3 = .ok (.iload_n 3, 1) := by decide +kernel
theorem dX8_lines_4 : decode cX8_lines 4 = .ok (.invokevirtual 289, 3) := by decide +kernel
theorem dX8_lines_7 : decode cX8_lines 7 = .ok (.istore 4, 2) := by decide +kernel
theorem dX8_lines_9 : decode cX8_lines 9 = .ok (.iload 4, 2) := by decide +kernel
theorem dX8_lines_11 : decode cX8_lines 11 = .ok (.ifCond .ge 6, 3) := by decide +kernel
theorem dX8_lines_14 : decode cX8_lines 14 = .ok (.iload 4, 2) := by decide +kernel
theorem dX8_lines_16 : decode cX8_lines 16 = .ok (.ireturn, 1) := by decide +kernel
theorem dX8_lines_17 : decode cX8_lines 17 = .ok (.aload_n 0, 1) := by decide +kernel
theorem dX8_lines_18 : decode cX8_lines 18 = .ok (.iload_n 1, 1) := by decide +kernel
theorem dX8_lines_19 : decode cX8_lines 19 = .ok (.iload_n 2, 1) := by decide +kernel
theorem dX8_lines_20 : decode cX8_lines 20 = .ok (.invokevirtual 293, 3) := by decide +kernel
theorem dX8_lines_23 : decode cX8_lines 23 = .ok (.iconst 0, 1) := by decide +kernel
theorem dX8_lines_24 : decode cX8_lines 24 = .ok (.istore 5, 2) := by decide +kernel
theorem dX8_lines_26 : decode cX8_lines 26 = .ok (.iconst 0, 1) := by decide +kernel
theorem dX8_lines_27 : decode cX8_lines 27 = .ok (.istore 6, 2) := by decide +kernel
theorem dX8_lines_29 : decode cX8_lines 29 = .ok (.iload 6, 2) := by decide +kernel
theorem dX8_lines_31 : decode cX8_lines 31 = .ok (.sipush 128, 3) := by decide +kernel
theorem dX8_lines_34 : decode cX8_lines 34 = .ok (.if_icmp .ge 83, 3) := by decide +kernel
theorem dX8_lines_37 : decode cX8_lines 37 = .ok (.aload_n 0, 1) := by decide +kernel
theorem dX8_lines_38 : decode cX8_lines 38 = .ok (.getfield 78, 3) := by decide +kernel
theorem dX8_lines_41 : decode cX8_lines 41 = .ok (.iload 6, 2) := by decide +kernel
theorem dX8_lines_43 : decode cX8_lines 43 = .ok (.iaload, 1) := by decide +kernel
theorem dX8_lines_44 : decode cX8_lines 44 = .ok (.iload 6, 2) := by decide +kernel
theorem dX8_lines_46 : decode cX8_lines 46 = .ok (.if_icmp .ne 7, 3) := by decide +kernel
theorem dX8_lines_49 : decode cX8_lines 49 = .ok (.iconst 1, 1) := by decide +kernel
theorem dX8_lines_50 : decode cX8_lines 50 = .ok (.goto 4, 3) := by decide +kernel
theorem dX8_lines_53 : decode cX8_lines 53 = .ok (.iconst 0, 1) := by decide +kernel
theorem dX8_lines_54 : decode cX8_lines 54 = .ok (.istore 7, 2) := by decide +kernel
theorem dX8_lines_56 : decode cX8_lines 56 = .ok (.iload 5, 2) := by decide +kernel
theorem dX8_lines_58 : decode cX8_lines 58 = .ok (.iload_n 3, 1) := by decide +kernel
theorem dX8_lines_59 : decode cX8_lines 59 = .ok (.ifCond .ne 8, 3) := by decide +kernel
theorem dX8_lines_62 : decode cX8_lines 62 = .ok (.iload 7, 2) := by decide +kernel
theorem dX8_lines_64 : decode cX8_lines 64 = .ok (.ifCond .ne 39, 3) := by decide +kernel
theorem dX8_lines_67 : decode cX8_lines 67 = .ok (.iload_n 3, 1) := by decide +kernel
theorem dX8_lines_68 : decode cX8_lines 68 = .ok (.iconst 1, 1) := by decide +kernel
theorem dX8_lines_69 : decode cX8_lines 69 = .ok (.if_icmp .ne 19, 3) := by decide +kernel
theorem dX8_lines_72 : decode cX8_lines 72 = .ok (.iload 7, 2) := by decide +kernel
theorem dX8_lines_74 : decode cX8_lines 74 = .ok (.ifCond .eq 14, 3) := by decide +kernel
theorem dX8_lines_77 : decode cX8_lines 77 = .ok (.aload_n 0, 1) := by decide +kernel
theorem dX8_lines_78 : decode cX8_lines 78 = .ok (.iload 6, 2) := by decide +kernel
theorem dX8_lines_80 : decode cX8_lines 80 = .ok (.iconst 1, 1) := by decide +kernel
theorem dX8_lines_81 : decode cX8_lines 81 = .ok (.invokevirtual 296, 3) := by decide +kernel
theorem dX8_lines_84 : decode cX8_lines 84 = .ok (.iconst 1, 1) := by decide +kernel
theorem dX8_lines_85 : decode cX8_lines 85 = .ok (.if_icmp .eq 18, 3) := by decide +kernel
theorem dX8_lines_88 : decode cX8_lines 88 = .ok (.iload_n 3, 1) := by decide +kernel
theorem dX8_lines_89 : decode cX8_lines 89 = .ok (.iconst 2, 1) := by decide +kernel
theorem dX8_lines_90 : decode cX8_lines 90 = .ok (.if_icmp .ne 17, 3) := by decide +kernel
theorem dX8_lines_93 : decode cX8_lines 93 = .ok (.aload_n 0, 1) := by decide +kernel
theorem dX8_lines_94 : decode cX8_lines 94 = .ok (.getfield 78, 3) := by decide +kernel
theorem dX8_lines_97 : decode cX8_lines 97 = .ok (.iload 6, 2) := by decide +kernel
theorem dX8_lines_99 : decode cX8_lines 99 = .ok (.iaload, 1) := by decide +kernel
theorem dX8_lines_100 : decode cX8_lines 100 = .ok (.ifCond .lt 7, 3) := by decide +kernel
theorem dX8_lines_103 : decode cX8_lines 103 = .ok (.iconst 1, 1) := by decide +kernel
theorem dX8_lines_104 : decode cX8_lines 104 = .ok (.goto 4, 3) := by decide +kernel
theorem dX8_lines_107 : decode cX8_lines 107 = .ok (.iconst 0, 1) := by decide +kernel
theorem dX8_lines_108 : decode cX8_lines 108 = .ok (.iadd, 1) := by decide +kernel
theorem dX8_lines_109 : decode cX8_lines 109 = .ok (.istore 5, 2) := by decide +kernel
theorem dX8_lines_111 : decode cX8_lines 111 = .ok (.iinc 6 1, 3) := by decide +kernel
theorem dX8_lines_114 : decode cX8_lines 114 = .ok (.goto (-85), 3) := by decide +kernel
theorem dX8_lines_117 : decode cX8_lines 117 = .ok (.iconst 0, 1) := by decide +kernel
theorem dX8_lines_118 : decode cX8_lines 118 = .ok (.istore 6, 2) := by decide +kernel
theorem dX8_lines_120 : decode cX8_lines 120 = .ok (.iload 6, 2) := by decide +kernel
theorem dX8_lines_122 : decode cX8_lines 122 = .ok (.bipush 64, 2) := by decide +kernel
theorem dX8_lines_124 : decode cX8_lines 124 = .ok (.if_icmp .ge 37, 3) := by decide +kernel
theorem dX8_lines_127 : decode cX8_lines 127 = .ok (.iload_n 3, 1) := by decide +kernel
theorem dX8_lines_128 : decode cX8_lines 128 = .ok (.iconst 3, 1) := by decide +kernel
theorem dX8_lines_129 : decode cX8_lines 129 = .ok (.if_icmp .ne 32, 3) := by decide +kernel
theorem dX8_lines_132 : decode cX8_lines 132 = .ok (.iload 5, 2) := by decide +kernel
theorem dX8_lines_134 : decode cX8_lines 134 = .ok (.aload_n 0, 1) := by decide +kernel
theorem dX8_lines_135 : decode cX8_lines 135 = .ok (.getfield 75, 3) := by decide +kernel
theorem dX8_lines_138 : decode cX8_lines 138 = .ok (.iload 6, 2) := by decide +kernel
theorem dX8_lines_140 : decode cX8_lines 140 = .ok (.laload, 1) := by decide +kernel
theorem dX8_lines_141 : decode cX8_lines 141 = .ok (.iload_n 2, 1) := by decide +kernel
theorem dX8_lines_142 : decode cX8_lines 142 = .ok (.i2l, 1) := by decide +kernel
theorem dX8_lines_143 : decode cX8_lines 143 = .ok (.lcmp, 1) := by decide +kernel
theorem dX8_lines_144 : decode cX8_lines 144 = .ok (.ifCond .lt 7, 3) := by decide +kernel
theorem dX8_lines_147 : decode cX8_lines 147 = .ok (.iconst 1, 1) := by decide +kernel
theorem dX8_lines_148 : decode cX8_lines 148 = .ok (.goto 4, 3) := by decide +kernel
theorem dX8_lines_151 : decode cX8_lines 151 = .ok (.iconst 0, 1) := by decide +kernel
theorem dX8_lines_152 : decode cX8_lines 152 = .ok (.iadd, 1) := by decide +kernel
theorem dX8_lines_153 : decode cX8_lines 153 = .ok (.istore 5, 2) := by decide +kernel
theorem dX8_lines_155 : decode cX8_lines 155 = .ok (.iinc 6 1, 3) := by decide +kernel
theorem dX8_lines_158 : decode cX8_lines 158 = .ok (.goto (-38), 3) := by decide +kernel
theorem dX8_lines_161 : decode cX8_lines 161 = .ok (.iload 5, 2) := by decide +kernel
theorem dX8_lines_163 : decode cX8_lines 163 = .ok (.ireturn, 1) := by decide +kernel
theorem dX8_line_0 : decode cX8_line 0 = .ok (.aload_n 0, 1) := by decide +kernel
theorem dX8_line_1 : decode cX8_line 1 = .ok (.iload_n 1, 1) := by decide +kernel
theorem dX8_line_2 : decode cX8_line 2 = .ok (.iload_n 2, 1) := by decide +kernel
theorem dX8_line_3 : decode cX8_line 3 = .ok (.iload 4, 2) := by decide +kernel
theorem dX8_line_5 : decode cX8_line 5 = .ok (.invokevirtual 289, 3) := by decide +kernel
theorem dX8_line_8 : decode cX8_line 8 = .ok (.istore 5, 2) := by decide +kernel
theorem dX8_line_10 : decode cX8_line 10 = .ok (.iload 5, 2) := by decide +kernel
theorem dX8_line_12 : decode cX8_line 12 = .ok (.ifCond .ge 6, 3) := by decide +kernel
theorem dX8_line_15 : decode cX8_line 15 = .ok (.iload 5, 2) := by decide +kernel
theorem dX8_line_17 : decode cX8_line 17 = .ok (.ireturn, 1) := by decide +kernel
theorem dX8_line_18 : decode cX8_line 18 = .ok (.aload_n 0, 1) := by decide +kernel
theorem dX8_line_19 : decode cX8_line 19 = .ok (.iload_n 1, 1) := by decide +kernel
theorem dX8_line_20 : decode cX8_line 20 = .ok (.iload_n 2, 1) := by decide +kernel
theorem dX8_line_21 : decode cX8_line 21 = .ok (.invokevirtual 293, 3) := by decide +kernel
theorem dX8_line_24 : decode cX8_line 24 = .ok (.iconst 0, 1) := by decide +kernel
theorem dX8_line_25 : decode cX8_line 25 = .ok (.istore 6, 2) := by decide +kernel
theorem dX8_line_27 : decode cX8_line 27 = .ok (.iconst 0, 1) := by decide +kernel
theorem dX8_line_28 : decode cX8_line 28 = .ok (.istore 7, 2) := by decide +kernel
theorem dX8_line_30 : decode cX8_line 30 = .ok (.iload 7, 2) := by decide +kernel
theorem dX8_line_32 : decode cX8_line 32 = .ok (.sipush 128, 3) := by decide +kernel
theorem dX8_line_35 : decode cX8_line 35 = .ok (.if_icmp .ge 60, 3) := by decide +kernel
theorem dX8_line_38 : decode cX8_line 38 = .ok (.aload_n 0, 1) := by decide +kernel
theorem dX8_line_39 : decode cX8_line 39 = .ok (.getfield 78, 3) := by decide +kernel
theorem dX8_line_42 : decode cX8_line 42 = .ok (.iload 7, 2) := by decide +kernel
theorem dX8_line_44 : decode cX8_line 44 = .ok (.iaload, 1) := by decide +kernel
theorem dX8_line_45 : decode cX8_line 45 = .ok (.iload 7, 2) := by decide +kernel
theorem dX8_line_47 : decode cX8_line 47 = .ok (.if_icmp .ne 42, 3) := by decide +kernel
theorem dX8_line_50 : decode cX8_line 50 = .ok (.iload 6, 2) := by decide +kernel
theorem dX8_line_52 : decode cX8_line 52 = .ok (.iload_n 3, 1) := by decide +kernel
theorem dX8_line_53 : decode cX8_line 53 = .ok (.if_icmp .ne 33, 3) := by decide +kernel
theorem dX8_line_56 : decode cX8_line 56 = .ok (.iload 4, 2) := by decide +kernel
theorem dX8_line_58 : decode cX8_line 58 = .ok (.iconst 2, 1) := by decide +kernel
theorem dX8_line_59 : decode cX8_line 59 = .ok (.if_icmp .ne 8, 3) := by decide +kernel
theorem dX8_line_62 : decode cX8_line 62 = .ok (.iload 7, 2) := by decide +kernel
theorem dX8_line_64 : decode cX8_line 64 = .ok (.goto 21, 3) := by decide +kernel
theorem dX8_line_67 : decode cX8_line 67 = .ok (.aload_n 0, 1) := by decide +kernel
theorem dX8_line_68 : decode cX8_line 68 = .ok (.iload 7, 2) := by decide +kernel
theorem dX8_line_70 : decode cX8_line 70 = .ok (.iload 4, 2) := by decide +kernel
theorem dX8_line_72 : decode cX8_line 72 = .ok (.iconst 3, 1) := by decide +kernel
theorem dX8_line_73 : decode cX8_line 73 = .ok (.if_icmp .ne 7, 3) := by decide +kernel
theorem dX8_line_76 : decode cX8_line 76 = .ok (.iconst 2, 1) := by decide +kernel
theorem dX8_line_77 : decode cX8_line 77 = .ok (.goto 5, 3) := by decide +kernel
theorem dX8_line_80 : decode cX8_line 80 = .ok (.iload 4, 2) := by decide +kernel
theorem dX8_line_82 : decode cX8_line 82 = .ok (.invokevirtual 296, 3) := by decide +kernel
theorem dX8_line_85 : decode cX8_line 85 = .ok (.ireturn, 1) := by decide +kernel
theorem dX8_line_86 : decode cX8_line 86 = .ok (.iinc 6 1, 3) := by decide +kernel
theorem dX8_line_89 : decode cX8_line 89 = .ok (.iinc 7 1, 3) := by decide +kernel
theorem dX8_line_92 : decode cX8_line 92 = .ok (.goto (-62), 3) := by decide +kernel
theorem dX8_line_95 : decode cX8_line 95 = .ok (.iconst (-1), 1) := by decide +kernel
theorem dX8_line_96 : decode cX8_line 96 = .ok (.ireturn, 1) := by decide +kernel
theorem dX8_findDrift_0 : decode cX8_findDrift 0 = .ok (.iconst 0, 1) := by decide +kernel
theorem dX8_findDrift_1 : decode cX8_findDrift 1 = .ok (.istore_n 2, 1) := by decide +kernel
theorem dX8_findDrift_2 : decode cX8_findDrift 2 = .ok (.iload_n 2, 1) := by decide +kernel
theorem dX8_findDrift_3 : decode cX8_findDrift 3 = .ok (.bipush 48, 2) := by decide +kernel
theorem dX8_findDrift_5 : decode cX8_findDrift 5 = .ok (.if_icmp .ge 84, 3) := by decide +kernel
theorem dX8_findDrift_8 : decode cX8_findDrift 8 = .ok (.aload_n 0, 1) := by decide +kernel
theorem dX8_findDrift_9 : decode cX8_findDrift 9 = .ok (.getfield 87, 3) := by decide +kernel
theorem dX8_findDrift_12 : decode cX8_findDrift 12 = .ok (.iload_n 2, 1) := by decide +kernel
theorem dX8_findDrift_13 : decode cX8_findDrift 13 = .ok (.aload_n 0, 1) := by decide +kernel
theorem dX8_findDrift_14 : decode cX8_findDrift 14 = .ok (.iload_n 1, 1) := by decide +kernel
theorem dX8_findDrift_15 : decode cX8_findDrift 15 = .ok (.iload_n 2, 1) := by decide +kernel
theorem dX8_findDrift_16 : decode cX8_findDrift 16 = .ok (.invokevirtual 172, 3) := by decide +kernel
theorem dX8_findDrift_19 : decode cX8_findDrift 19 = .ok (.ifCond .eq 16, 3) := by decide +kernel
theorem dX8_findDrift_22 : decode cX8_findDrift 22 = .ok (.aload_n 0, 1) := by decide +kernel
theorem dX8_findDrift_23 : decode cX8_findDrift 23 = .ok (.iload_n 2, 1) := by decide +kernel
theorem dX8_findDrift_24 : decode cX8_findDrift 24 = .ok (.iload_n 1, 1) := by decide +kernel
theorem dX8_findDrift_25 : decode cX8_findDrift 25 = .ok (.invokevirtual 253, 3) := by decide +kernel
theorem dX8_findDrift_28 : decode cX8_findDrift 28 = .ok (.ifCond .eq 7, 3) := by decide +kernel
theorem dX8_findDrift_31 : decode cX8_findDrift 31 = .ok (.iconst 1, 1) := by decide +kernel
theorem dX8_findDrift_32 : decode cX8_findDrift 32 = .ok (.goto 4, 3) := by decide +kernel
theorem dX8_findDrift_35 : decode cX8_findDrift 35 = .ok (.iconst 0, 1) := by decide +kernel
theorem dX8_findDrift_36 : decode cX8_findDrift 36 = .ok (.bastore, 1) := by decide +kernel
theorem dX8_findDrift_37 : decode cX8_findDrift 37 = .ok (.aload_n 0, 1) := by decide +kernel
theorem dX8_findDrift_38 : decode cX8_findDrift 38 = .ok (.getfield 87, 3) := by decide +kernel
theorem dX8_findDrift_41 : decode cX8_findDrift 41 = .ok (.iload_n 2, 1) := by decide +kernel
theorem dX8_findDrift_42 : decode cX8_findDrift 42 = .ok (.baload, 1) := by decide +kernel
theorem dX8_findDrift_43 : decode cX8_findDrift 43 = .ok (.ifCond .eq 40, 3) := by decide +kernel
theorem dX8_findDrift_46 : decode cX8_findDrift 46 = .ok (.aload_n 0, 1) := by decide +kernel
theorem dX8_findDrift_47 : decode cX8_findDrift 47 = .ok (.iload_n 2, 1) := by decide +kernel
theorem dX8_findDrift_48 : decode cX8_findDrift 48 = .ok (.invokevirtual 256, 3) := by decide +kernel
theorem dX8_findDrift_51 : decode cX8_findDrift 51 = .ok (.aload_n 0, 1) := by decide +kernel
theorem dX8_findDrift_52 : decode cX8_findDrift 52 = .ok (.getfield 84, 3) := by decide +kernel
theorem dX8_findDrift_55 : decode cX8_findDrift 55 = .ok (.iload_n 2, 1) := by decide +kernel
theorem dX8_findDrift_56 : decode cX8_findDrift 56 = .ok (.aload_n 0, 1) := by decide +kernel
theorem dX8_findDrift_57 : decode cX8_findDrift 57 = .ok (.getfield 72, 3) := by decide +kernel
theorem dX8_findDrift_60 : decode cX8_findDrift 60 = .ok (.iload_n 1, 1) := by decide +kernel
theorem dX8_findDrift_61 : decode cX8_findDrift 61 = .ok (.iaload, 1) := by decide +kernel
theorem dX8_findDrift_62 : decode cX8_findDrift 62 = .ok (.i2l, 1) := by decide +kernel
theorem dX8_findDrift_63 : decode cX8_findDrift 63 = .ok (.aload_n 0, 1) := by decide +kernel
theorem dX8_findDrift_64 : decode cX8_findDrift 64 = .ok (.iload_n 2, 1) := by decide +kernel
theorem dX8_findDrift_65 : decode cX8_findDrift 65 = .ok (.aload_n 0, 1) := by decide +kernel
theorem dX8_findDrift_66 : decode cX8_findDrift 66 = .ok (.getfield 23, 3) := by decide +kernel
theorem dX8_findDrift_69 : decode cX8_findDrift 69 = .ok (.iload_n 1, 1) := by decide +kernel
theorem dX8_findDrift_70 : decode cX8_findDrift 70 = .ok (.iaload, 1) := by decide +kernel
theorem dX8_findDrift_71 : decode cX8_findDrift 71 = .ok (.aload_n 0, 1) := by decide +kernel
theorem dX8_findDrift_72 : decode cX8_findDrift 72 = .ok (.getfield 26, 3) := by decide +kernel
theorem dX8_findDrift_75 : decode cX8_findDrift 75 = .ok (.iload_n 1, 1) := by decide +kernel
theorem dX8_findDrift_76 : decode cX8_findDrift 76 = .ok (.iaload, 1) := by decide +kernel
theorem dX8_findDrift_77 : decode cX8_findDrift 77 = .ok (.iload_n 1, 1) := by decide +kernel
theorem dX8_findDrift_78 : decode cX8_findDrift 78 = .ok (.invokevirtual 259, 3) := by decide +kernel
theorem dX8_findDrift_81 : decode cX8_findDrift 81 = .ok (.lsub, 1) := by decide +kernel
theorem dX8_findDrift_82 : decode cX8_findDrift 82 = .ok (.lastore, 1) := by decide +kernel
theorem dX8_findDrift_83 : decode cX8_findDrift 83 = .ok (.iinc 2 1, 3) := by decide +kernel
theorem dX8_findDrift_86 : decode cX8_findDrift 86 = .ok (.goto (-84), 3) := by decide +kernel
theorem dX8_findDrift_89 : decode cX8_findDrift 89 = .ok (.aload_n 0, 1) := by decide +kernel
theorem dX8_findDrift_90 : decode cX8_findDrift 90 = .ok (.bipush (-6), 2) := by decide +kernel
theorem dX8_findDrift_92 : decode cX8_findDrift 92 = .ok (.putfield 299, 3) := by decide +kernel
theorem dX8_findDrift_95 : decode cX8_findDrift 95 = .ok (.aload_n 0, 1) := by decide +kernel
theorem dX8_findDrift_96 : decode cX8_findDrift 96 = .ok (.lconst 0, 1) := by decide +kernel
theorem dX8_findDrift_97 : decode cX8_findDrift 97 = .ok (.putfield 302, 3) := by decide +kernel
theorem dX8_findDrift_100 : decode cX8_findDrift 100 = .ok (.aload_n 0, 1) := by decide +kernel
theorem dX8_findDrift_101 : decode cX8_findDrift 101 = .ok (.lconst 1, 1) := by decide +kernel
theorem dX8_findDrift_102 : decode cX8_findDrift 102 = .ok (.putfield 305, 3) := by decide +kernel
theorem dX8_findDrift_105 : decode cX8_findDrift 105 = .ok (.iconst 0, 1) := by decide +kernel
theorem dX8_findDrift_106 : decode cX8_findDrift 106 = .ok (.istore_n 2, 1) := by decide +kernel
theorem dX8_findDrift_107 : decode cX8_findDrift 107 = .ok (.iload_n 2, 1) := by decide +kernel
theorem dX8_findDrift_108 : decode cX8_findDrift 108 = .ok (.bipush 48, 2) := by decide +kernel
theorem dX8_findDrift_110 : decode cX8_findDrift 110 = .ok (.if_icmp .ge 23, 3) := by decide +kernel
theorem dX8_findDrift_113 : decode cX8_findDrift 113 = .ok (.aload_n 0, 1) := by decide +kernel
theorem dX8_findDrift_114 : decode cX8_findDrift 114 = .ok (.getfield 87, 3) := by decide +kernel
theorem dX8_findDrift_117 : decode cX8_findDrift 117 = .ok (.iload_n 2, 1) := by decide +kernel
theorem dX8_findDrift_118 : decode cX8_findDrift 118 = .ok (.baload, 1) := by decide +kernel
theorem dX8_findDrift_119 : decode cX8_findDrift 119 = .ok (.ifCond .eq 8, 3) := by decide +kernel
theorem dX8_findDrift_122 : decode cX8_findDrift 122 = .ok (.aload_n 0, 1) := by decide +kernel
theorem dX8_findDrift_123 : decode cX8_findDrift 123 = .ok (.iload_n 2, 1) := by decide +kernel
theorem dX8_findDrift_124 : decode cX8_findDrift 124 = .ok (.invokevirtual 308, 3) := by decide +kernel
theorem dX8_findDrift_127 : decode cX8_findDrift 127 = .ok (.iinc 2 1, 3) := by decide +kernel
theorem dX8_findDrift_130 : decode cX8_findDrift 130 = .ok (.goto (-23), 3) := by decide +kernel
theorem dX8_findDrift_133 : decode cX8_findDrift 133 = .ok (.aload_n 0, 1) := by decide +kernel
theorem dX8_findDrift_134 : decode cX8_findDrift 134 = .ok (.getfield 299, 3) := by decide +kernel
theorem dX8_findDrift_137 : decode cX8_findDrift 137 = .ok (.ifCond .lt 7, 3) := by decide +kernel
theorem dX8_findDrift_140 : decode cX8_findDrift 140 = .ok (.iconst 1, 1) := by decide +kernel
theorem dX8_findDrift_141 : decode cX8_findDrift 141 = .ok (.goto 4, 3) := by decide +kernel
theorem dX8_findDrift_144 : decode cX8_findDrift 144 = .ok (.iconst 0, 1) := by decide +kernel
theorem dX8_findDrift_145 : decode cX8_findDrift 145 = .ok (.ireturn, 1) := by decide +kernel
theorem dX8_tryHour_0 : decode cX8_tryHour 0 = .ok (.lconst 0, 1) := by decide +kernel
theorem dX8_tryHour_1 : decode cX8_tryHour 1 = .ok (.lstore_n 2, 1) := by decide +kernel
theorem dX8_tryHour_2 : decode cX8_tryHour 2 = .ok (.lconst 0, 1) := by decide +kernel
theorem dX8_tryHour_3 : decode cX8_tryHour 3 = .ok (.lstore 4, 2) := by decide +kernel
theorem dX8_tryHour_5 : decode cX8_tryHour 5 = .ok (.lconst 0, 1) := by decide +kernel
theorem dX8_tryHour_6 : decode cX8_tryHour 6 = .ok (.lstore 6, 2) := by decide +kernel
theorem dX8_tryHour_8 : decode cX8_tryHour 8 = .ok (.lconst 0, 1) := by decide +kernel
theorem dX8_tryHour_9 : decode cX8_tryHour 9 = .ok (.lstore 8, 2) := by decide +kernel
theorem dX8_tryHour_11 : decode cX8_tryHour 11 = .ok (.iconst 0, 1) := by decide +kernel
theorem dX8_tryHour_12 : decode cX8_tryHour 12 = .ok (.istore 10, 2) := by decide +kernel
theorem dX8_tryHour_14 : decode cX8_tryHour 14 = .ok (.iload 10, 2) := by decide +kernel
theorem dX8_tryHour_16 : decode cX8_tryHour 16 = .ok (.bipush 48, 2) := by decide +kernel
theorem dX8_tryHour_18 : decode cX8_tryHour 18 = .ok (.if_icmp .ge 72, 3) := by decide +kernel
theorem dX8_tryHour_21 : decode cX8_tryHour 21 = .ok (.aload_n 0, 1) := by decide +kernel
theorem dX8_tryHour_22 : decode cX8_tryHour 22 = .ok (.getfield 87, 3) := by decide +kernel
theorem dX8_tryHour_25 : decode cX8_tryHour 25 = .ok (.iload 10, 2) := by decide +kernel
theorem dX8_tryHour_27 : decode cX8_tryHour 27 = .ok (.baload, 1) := by decide +kernel
theorem dX8_tryHour_28 : decode cX8_tryHour 28 = .ok (.ifCond .eq 28, 3) := by decide +kernel
theorem dX8_tryHour_31 : decode cX8_tryHour 31 = .ok (.iload 10, 2) := by decide +kernel
theorem dX8_tryHour_33 : decode cX8_tryHour 33 = .ok (.iload_n 1, 1) := by decide +kernel
theorem dX8_tryHour_34 : decode cX8_tryHour 34 = .ok (.if_icmp .ge 22, 3) := by decide +kernel
theorem dX8_tryHour_37 : decode cX8_tryHour 37 = .ok (.lload_n 2, 1) := by decide +kernel
theorem dX8_tryHour_38 : decode cX8_tryHour 38 = .ok (.aload_n 0, 1) := by decide +kernel
theorem dX8_tryHour_39 : decode cX8_tryHour 39 = .ok (.getfield 84, 3) := by decide +kernel
theorem dX8_tryHour_42 : decode cX8_tryHour 42 = .ok (.iload 10, 2) := by decide +kernel
theorem dX8_tryHour_44 : decode cX8_tryHour 44 = .ok (.laload, 1) := by decide +kernel
theorem dX8_tryHour_45 : decode cX8_tryHour 45 = .ok (.ladd, 1) := by decide +kernel
theorem dX8_tryHour_46 : decode cX8_tryHour 46 = .ok (.lstore_n 2, 1) := by decide +kernel
theorem dX8_tryHour_47 : decode cX8_tryHour 47 = .ok (.lload 6, 2) := by decide +kernel
theorem dX8_tryHour_49 : decode cX8_tryHour 49 = .ok (.lconst 1, 1) := by decide +kernel
theorem dX8_tryHour_50 : decode cX8_tryHour 50 = .ok (.ladd, 1) := by decide +kernel
theorem dX8_tryHour_51 : decode cX8_tryHour 51 = .ok (.lstore 6, 2) := by decide +kernel
theorem dX8_tryHour_53 : decode cX8_tryHour 53 = .ok (.goto 31, 3) := by decide +kernel
theorem dX8_tryHour_56 : decode cX8_tryHour 56 = .ok (.aload_n 0, 1) := by decide +kernel
theorem dX8_tryHour_57 : decode cX8_tryHour 57 = .ok (.getfield 87, 3) := by decide +kernel
theorem dX8_tryHour_60 : decode cX8_tryHour 60 = .ok (.iload 10, 2) := by decide +kernel
theorem dX8_tryHour_62 : decode cX8_tryHour 62 = .ok (.baload, 1) := by decide +kernel
theorem dX8_tryHour_63 : decode cX8_tryHour 63 = .ok (.ifCond .eq 21, 3) := by decide +kernel
theorem dX8_tryHour_66 : decode cX8_tryHour 66 = .ok (.lload 4, 2) := by decide +kernel
theorem dX8_tryHour_68 : decode cX8_tryHour 68 = .ok (.aload_n 0, 1) := by decide +kernel
theorem dX8_tryHour_69 : decode cX8_tryHour 69 = .ok (.getfield 84, 3) := by decide +kernel
theorem dX8_tryHour_72 : decode cX8_tryHour 72 = .ok (.iload 10, 2) := by decide +kernel
theorem dX8_tryHour_74 : decode cX8_tryHour 74 = .ok (.laload, 1) := by decide +kernel
theorem dX8_tryHour_75 : decode cX8_tryHour 75 = .ok (.ladd, 1) := by decide +kernel
theorem dX8_tryHour_76 : decode cX8_tryHour 76 = .ok (.lstore 4, 2) := by decide +kernel
theorem dX8_tryHour_78 : decode cX8_tryHour 78 = .ok (.lload 8, 2) := by decide +kernel
theorem dX8_tryHour_80 : decode cX8_tryHour 80 = .ok (.lconst 1, 1) := by decide +kernel
theorem dX8_tryHour_81 : decode cX8_tryHour 81 = .ok (.ladd, 1) := by decide +kernel
theorem dX8_tryHour_82 : decode cX8_tryHour 82 = .ok (.lstore 8, 2) := by decide +kernel
theorem dX8_tryHour_84 : decode cX8_tryHour 84 = .ok (.iinc 10 1, 3) := by decide +kernel
theorem dX8_tryHour_87 : decode cX8_tryHour 87 = .ok (.goto (-73), 3) := by decide +kernel
theorem dX8_tryHour_90 : decode cX8_tryHour 90 = .ok (.lload 6, 2) := by decide +kernel
theorem dX8_tryHour_92 : decode cX8_tryHour 92 = .ok (.ldc2_w 202, 3) := by decide +kernel
theorem dX8_tryHour_95 : decode cX8_tryHour 95 = .ok (.lcmp, 1) := by decide +kernel
theorem dX8_tryHour_96 : decode cX8_tryHour 96 = .ok (.ifCond .lt 12, 3) := by decide +kernel
theorem dX8_tryHour_99 : decode cX8_tryHour 99 = .ok (.lload 8, 2) := by decide +kernel
theorem dX8_tryHour_101 : decode cX8_tryHour 101 = .ok (.ldc2_w 202, 3) := by decide +kernel
theorem dX8_tryHour_104 : decode cX8_tryHour 104 = .ok (.lcmp, 1) := by decide +kernel
theorem dX8_tryHour_105 : decode cX8_tryHour 105 = .ok (.ifCond .ge 4, 3) := by decide +kernel
theorem dX8_tryHour_108 : decode cX8_tryHour 108 = .ok (.return_, 1) := by decide +kernel
theorem dX8_tryHour_109 : decode cX8_tryHour 109 = .ok (.lload 4, 2) := by decide +kernel
theorem dX8_tryHour_111 : decode cX8_tryHour 111 = .ok (.lload 6, 2) := by decide +kernel
theorem dX8_tryHour_113 : decode cX8_tryHour 113 = .ok (.lmul, 1) := by decide +kernel
theorem dX8_tryHour_114 : decode cX8_tryHour 114 = .ok (.lload_n 2, 1) := by decide +kernel
theorem dX8_tryHour_115 : decode cX8_tryHour 115 = .ok (.lload 8, 2) := by decide +kernel
theorem dX8_tryHour_117 : decode cX8_tryHour 117 = .ok (.lmul, 1) := by decide +kernel
theorem dX8_tryHour_118 : decode cX8_tryHour 118 = .ok (.lsub, 1) := by decide +kernel
theorem dX8_tryHour_119 : decode cX8_tryHour 119 = .ok (.lstore 10, 2) := by decide +kernel
theorem dX8_tryHour_121 : decode cX8_tryHour 121 = .ok (.lload 6, 2) := by decide +kernel
theorem dX8_tryHour_123 : decode cX8_tryHour 123 = .ok (.lload 8, 2) := by decide +kernel
theorem dX8_tryHour_125 : decode cX8_tryHour 125 = .ok (.lmul, 1) := by decide +kernel
theorem dX8_tryHour_126 : decode cX8_tryHour 126 = .ok (.lstore 12, 2) := by decide +kernel
theorem dX8_tryHour_128 : decode cX8_tryHour 128 = .ok (.aload_n 0, 1) := by decide +kernel
theorem dX8_tryHour_129 : decode cX8_tryHour 129 = .ok (.getfield 299, 3) := by decide +kernel
theorem dX8_tryHour_132 : decode cX8_tryHour 132 = .ok (.ifCond .lt 27, 3) := by decide +kernel
theorem dX8_tryHour_135 : decode cX8_tryHour 135 = .ok (.lload 10, 2) := by decide +kernel
theorem dX8_tryHour_137 : decode cX8_tryHour 137 = .ok (.invokestatic 92, 3) := by decide +kernel
theorem dX8_tryHour_140 : decode cX8_tryHour 140 = .ok (.aload_n 0, 1) := by decide +kernel
theorem dX8_tryHour_141 : decode cX8_tryHour 141 = .ok (.getfield 305, 3) := by decide +kernel
theorem dX8_tryHour_144 : decode cX8_tryHour 144 = .ok (.lmul, 1) := by decide +kernel
theorem dX8_tryHour_145 : decode cX8_tryHour 145 = .ok (.aload_n 0, 1) := by decide +kernel
theorem dX8_tryHour_146 : decode cX8_tryHour 146 = .ok (.getfield 302, 3) := by decide +kernel
theorem dX8_tryHour_149 : decode cX8_tryHour 149 = .ok (.invokestatic 92, 3) := by decide +kernel
theorem dX8_tryHour_152 : decode cX8_tryHour 152 = .ok (.lload 12, 2) := by decide +kernel
theorem dX8_tryHour_154 : decode cX8_tryHour 154 = .ok (.lmul, 1) := by decide +kernel
theorem dX8_tryHour_155 : decode cX8_tryHour 155 = .ok (.lcmp, 1) := by decide +kernel
theorem dX8_tryHour_156 : decode cX8_tryHour 156 = .ok (.ifCond .le 20, 3) := by decide +kernel
theorem dX8_tryHour_159 : decode cX8_tryHour 159 = .ok (.aload_n 0, 1) := by decide +kernel
theorem dX8_tryHour_160 : decode cX8_tryHour 160 = .ok (.iload_n 1, 1) := by decide +kernel
theorem dX8_tryHour_161 : decode cX8_tryHour 161 = .ok (.putfield 299, 3) := by decide +kernel
theorem dX8_tryHour_164 : decode cX8_tryHour 164 = .ok (.aload_n 0, 1) := by decide +kernel
theorem dX8_tryHour_165 : decode cX8_tryHour 165 = .ok (.lload 10, 2) := by decide +kernel
theorem dX8_tryHour_167 : decode cX8_tryHour 167 = .ok (.putfield 302, 3) := by decide +kernel
theorem dX8_tryHour_170 : decode cX8_tryHour 170 = .ok (.aload_n 0, 1) := by decide +kernel
theorem dX8_tryHour_171 : decode cX8_tryHour 171 = .ok (.lload 12, 2) := by decide +kernel
theorem dX8_tryHour_173 : decode cX8_tryHour 173 = .ok (.putfield 305, 3) := by decide +kernel
theorem dX8_tryHour_176 : decode cX8_tryHour 176 = .ok (.return_, 1) := by decide +kernel
theorem dX8_drift_0 : decode cX8_drift 0 = .ok (.aload_n 0, 1) := by decide +kernel
theorem dX8_drift_1 : decode cX8_drift 1 = .ok (.iload_n 1, 1) := by decide +kernel
theorem dX8_drift_2 : decode cX8_drift 2 = .ok (.invokevirtual 166, 3) := by decide +kernel
theorem dX8_drift_5 : decode cX8_drift 5 = .ok (.ifCond .ne 7, 3) := by decide +kernel
theorem dX8_drift_8 : decode cX8_drift 8 = .ok (.ldc2_w 136, 3) := by decide +kernel
theorem dX8_drift_11 : decode cX8_drift 11 = .ok (.lreturn, 1) := by decide +kernel
theorem dX8_drift_12 : decode cX8_drift 12 = .ok (.iload_n 2, 1) := by decide +kernel
theorem dX8_drift_13 : decode cX8_drift 13 = .ok (.i2l, 1) := by decide +kernel
theorem dX8_drift_14 : decode cX8_drift 14 = .ok (.lconst 0, 1) := by decide +kernel
theorem dX8_drift_15 : decode cX8_drift 15 = .ok (.ldc2_w 202, 3) := by decide +kernel
theorem dX8_drift_18 : decode cX8_drift 18 = .ok (.invokestatic 102, 3) := by decide +kernel
theorem dX8_drift_21 : decode cX8_drift 21 = .ok (.ifCond .ne 7, 3) := by decide +kernel
theorem dX8_drift_24 : decode cX8_drift 24 = .ok (.ldc2_w 138, 3) := by decide +kernel
theorem dX8_drift_27 : decode cX8_drift 27 = .ok (.lreturn, 1) := by decide +kernel
theorem dX8_drift_28 : decode cX8_drift 28 = .ok (.aload_n 0, 1) := by decide +kernel
theorem dX8_drift_29 : decode cX8_drift 29 = .ok (.iload_n 1, 1) := by decide +kernel
theorem dX8_drift_30 : decode cX8_drift 30 = .ok (.invokevirtual 311, 3) := by decide +kernel
theorem dX8_drift_33 : decode cX8_drift 33 = .ok (.ifCond .ne 7, 3) := by decide +kernel
theorem dX8_drift_36 : decode cX8_drift 36 = .ok (.ldc2_w 197, 3) := by decide +kernel
theorem dX8_drift_39 : decode cX8_drift 39 = .ok (.lreturn, 1) := by decide +kernel
theorem dX8_drift_40 : decode cX8_drift 40 = .ok (.iload_n 2, 1) := by decide +kernel
theorem dX8_drift_41 : decode cX8_drift 41 = .ok (.ifCond .ne 11, 3) := by decide +kernel
theorem dX8_drift_44 : decode cX8_drift 44 = .ok (.aload_n 0, 1) := by decide +kernel
theorem dX8_drift_45 : decode cX8_drift 45 = .ok (.getfield 299, 3) := by decide +kernel
theorem dX8_drift_48 : decode cX8_drift 48 = .ok (.i2l, 1) := by decide +kernel
theorem dX8_drift_49 : decode cX8_drift 49 = .ok (.goto 17, 3) := by decide +kernel
theorem dX8_drift_52 : decode cX8_drift 52 = .ok (.aload_n 0, 1) := by decide +kernel
theorem dX8_drift_53 : decode cX8_drift 53 = .ok (.getfield 302, 3) := by decide +kernel
theorem dX8_drift_56 : decode cX8_drift 56 = .ok (.aload_n 0, 1) := by decide +kernel
