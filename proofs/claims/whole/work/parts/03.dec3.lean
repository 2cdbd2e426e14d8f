theorem dX7_off_0 : decode cX7_off 0 = .ok (.aload_n 0, 1) := by decide +kernel
theorem dX7_off_1 : decode cX7_off 1 = .ok (.getfield 32, 3) := by decide +kernel
theorem dX7_off_4 : decode cX7_off 4 = .ok (.iload_n 1, 1) := by decide +kernel
theorem dX7_off_5 : decode cX7_off 5 = .ok (.invokevirtual 187, 3) := by decide +kernel
theorem dX7_off_8 : decode cX7_off 8 = .ok (.ifCond .ne 7, 3) := by decide +kernel
theorem dX7_off_11 : decode cX7_off 11 = .ok (.ldc2_w 74, 3) := by decide +kernel
theorem dX7_off_14 : decode cX7_off 14 = .ok (.lreturn, 1) := by decide +kernel
theorem dX7_off_15 : decode cX7_off 15 = .ok (.iload_n 2, 1) := by decide +kernel
theorem dX7_off_16 : decode cX7_off 16 = .ok (.invokestatic 76, 3) := by decide +kernel
theorem dX7_off_19 : decode cX7_off 19 = .ok (.ifCond .ne 7, 3) := by decide +kernel
theorem dX7_off_22 : decode cX7_off 22 = .ok (.ldc2_w 83, 3) := by decide +kernel
theorem dX7_off_25 : decode cX7_off 25 = .ok (.lreturn, 1) := by decide +kernel
theorem dX7_off_26 : decode cX7_off 26 = .ok (.aload_n 0, 1) := by decide +kernel
theorem dX7_off_27 : decode cX7_off 27 = .ok (.getfield 32, 3) := by decide +kernel
theorem dX7_off_30 : decode cX7_off 30 = .ok (.invokevirtual 171, 3) := by decide +kernel
theorem dX7_off_33 : decode cX7_off 33 = .ok (.ifCond .eq 25, 3) := by decide +kernel
theorem dX7_off_36 : decode cX7_off 36 = .ok (.aload_n 0, 1) := by decide +kernel
theorem dX7_off_37 : decode cX7_off 37 = .ok (.getfield 32, 3) := by decide +kernel
theorem dX7_off_40 : decode cX7_off 40 = .ok (.iload_n 1, 1) := by decide +kernel
theorem dX7_off_41 : decode cX7_off 41 = .ok (.invokevirtual 190, 3) := by decide +kernel
theorem dX7_off_44 : decode cX7_off 44 = .ok (.aload_n 0, 1) := by decide +kernel
theorem dX7_off_45 : decode cX7_off 45 = .ok (.getfield 32, 3) := by decide +kernel
theorem dX7_off_48 : decode cX7_off 48 = .ok (.invokevirtual 177, 3) := by decide +kernel
theorem dX7_off_51 : decode cX7_off 51 = .ok (.iload_n 2, 1) := by decide +kernel
theorem dX7_off_52 : decode cX7_off 52 = .ok (.invokestatic 181, 3) := by decide +kernel
theorem dX7_off_55 : decode cX7_off 55 = .ok (.goto 6, 3) := by decide +kernel
theorem dX7_off_58 : decode cX7_off 58 = .ok (.ldc2_w 185, 3) := by decide +kernel
theorem dX7_off_61 : decode cX7_off 61 = .ok (.lreturn, 1) := by decide +kernel
theorem dX7_worst_0 : decode cX7_worst 0 = .ok (.aload_n 0, 1) := by decide +kernel
theorem dX7_worst_1 : decode cX7_worst 1 = .ok (.getfield 32, 3) := by decide +kernel
theorem dX7_worst_4 : decode cX7_worst 4 = .ok (.invokevirtual 193, 3) := by decide +kernel
theorem dX7_worst_7 : decode cX7_worst 7 = .ok (.ifCond .ne 6, 3) := by decide +kernel
theorem dX7_worst_10 : decode cX7_worst 10 = .ok (.bipush (-6), 2) := by decide +kernel
theorem dX7_worst_12 : decode cX7_worst 12 = .ok (.ireturn, 1) := by decide +kernel
theorem dX7_worst_13 : decode cX7_worst 13 = .ok (.aload_n 0, 1) := by decide +kernel
theorem dX7_worst_14 : decode cX7_worst 14 = .ok (.getfield 32, 3) := by decide +kernel
theorem dX7_worst_17 : decode cX7_worst 17 = .ok (.invokevirtual 171, 3) := by decide +kernel
theorem dX7_worst_20 : decode cX7_worst 20 = .ok (.ifCond .eq 13, 3) := by decide +kernel
theorem dX7_worst_23 : decode cX7_worst 23 = .ok (.aload_n 0, 1) := by decide +kernel
theorem dX7_worst_24 : decode cX7_worst 24 = .ok (.getfield 32, 3) := by decide +kernel
theorem dX7_worst_27 : decode cX7_worst 27 = .ok (.invokevirtual 196, 3) := by decide +kernel
theorem dX7_worst_30 : decode cX7_worst 30 = .ok (.goto 5, 3) := by decide +kernel
theorem dX7_worst_33 : decode cX7_worst 33 = .ok (.bipush (-5), 2) := by decide +kernel
theorem dX7_worst_35 : decode cX7_worst 35 = .ok (.ireturn, 1) := by decide +kernel
theorem dX7_closing_0 : decode cX7_closing 0 = .ok (.aload_n 0, 1) := by decide +kernel
theorem dX7_closing_1 : decode cX7_closing 1 = .ok (.getfield 32, 3) := by decide +kernel
theorem dX7_closing_4 : decode cX7_closing 4 = .ok (.iload_n 1, 1) := by decide +kernel
theorem dX7_closing_5 : decode cX7_closing 5 = .ok (.invokevirtual 161, 3) := by decide +kernel
theorem dX7_closing_8 : decode cX7_closing 8 = .ok (.ifCond .eq 40, 3) := by decide +kernel
theorem dX7_closing_11 : decode cX7_closing 11 = .ok (.aload_n 0, 1) := by decide +kernel
theorem dX7_closing_12 : decode cX7_closing 12 = .ok (.getfield 32, 3) := by decide +kernel
theorem dX7_closing_15 : decode cX7_closing 15 = .ok (.iload_n 2, 1) := by decide +kernel
theorem dX7_closing_16 : decode cX7_closing 16 = .ok (.invokevirtual 161, 3) := by decide +kernel
theorem dX7_closing_19 : decode cX7_closing 19 = .ok (.ifCond .eq 29, 3) := by decide +kernel
theorem dX7_closing_22 : decode cX7_closing 22 = .ok (.aload_n 0, 1) := by decide +kernel
theorem dX7_closing_23 : decode cX7_closing 23 = .ok (.getfield 32, 3) := by decide +kernel
theorem dX7_closing_26 : decode cX7_closing 26 = .ok (.iload_n 3, 1) := by decide +kernel
theorem dX7_closing_27 : decode cX7_closing 27 = .ok (.invokevirtual 161, 3) := by decide +kernel
theorem dX7_closing_30 : decode cX7_closing 30 = .ok (.ifCond .eq 18, 3) := by decide +kernel
theorem dX7_closing_33 : decode cX7_closing 33 = .ok (.iload_n 1, 1) := by decide +kernel
theorem dX7_closing_34 : decode cX7_closing 34 = .ok (.iload_n 2, 1) := by decide +kernel
theorem dX7_closing_35 : decode cX7_closing 35 = .ok (.if_icmp .eq 13, 3) := by decide +kernel
theorem dX7_closing_38 : decode cX7_closing 38 = .ok (.iload_n 2, 1) := by decide +kernel
theorem dX7_closing_39 : decode cX7_closing 39 = .ok (.iload_n 3, 1) := by decide +kernel
theorem dX7_closing_40 : decode cX7_closing 40 = .ok (.if_icmp .eq 8, 3) := by decide +kernel
theorem dX7_closing_43 : decode cX7_closing 43 = .ok (.iload_n 3, 1) := by decide +kernel
theorem dX7_closing_44 : decode cX7_closing 44 = .ok (.iload_n 1, 1) := by decide +kernel
theorem dX7_closing_45 : decode cX7_closing 45 = .ok (.if_icmp .ne 7, 3) := by decide +kernel
theorem dX7_closing_48 : decode cX7_closing 48 = .ok (.ldc2_w 74, 3) := by decide +kernel
theorem dX7_closing_51 : decode cX7_closing 51 = .ok (.lreturn, 1) := by decide +kernel
theorem dX7_closing_52 : decode cX7_closing 52 = .ok (.aload_n 0, 1) := by decide +kernel
theorem dX7_closing_53 : decode cX7_closing 53 = .ok (.getfield 32, 3) := by decide +kernel
theorem dX7_closing_56 : decode cX7_closing 56 = .ok (.iload_n 1, 1) := by decide +kernel
theorem dX7_closing_57 : decode cX7_closing 57 = .ok (.iload_n 2, 1) := by decide +kernel
theorem dX7_closing_58 : decode cX7_closing 58 = .ok (.invokevirtual 199, 3) := by decide +kernel
theorem dX7_closing_61 : decode cX7_closing 61 = .ok (.ifCond .eq 27, 3) := by decide +kernel
theorem dX7_closing_64 : decode cX7_closing 64 = .ok (.aload_n 0, 1) := by decide +kernel
theorem dX7_closing_65 : decode cX7_closing 65 = .ok (.getfield 32, 3) := by decide +kernel
theorem dX7_closing_68 : decode cX7_closing 68 = .ok (.iload_n 2, 1) := by decide +kernel
theorem dX7_closing_69 : decode cX7_closing 69 = .ok (.iload_n 3, 1) := by decide +kernel
theorem dX7_closing_70 : decode cX7_closing 70 = .ok (.invokevirtual 199, 3) := by decide +kernel
theorem dX7_closing_73 : decode cX7_closing 73 = .ok (.ifCond .eq 15, 3) := by decide +kernel
theorem dX7_closing_76 : decode cX7_closing 76 = .ok (.aload_n 0, 1) := by decide +kernel
theorem dX7_closing_77 : decode cX7_closing 77 = .ok (.getfield 32, 3) := by decide +kernel
theorem dX7_closing_80 : decode cX7_closing 80 = .ok (.iload_n 3, 1) := by decide +kernel
theorem dX7_closing_81 : decode cX7_closing 81 = .ok (.iload_n 1, 1) := by decide +kernel
theorem dX7_closing_82 : decode cX7_closing 82 = .ok (.invokevirtual 199, 3) := by decide +kernel
theorem dX7_closing_85 : decode cX7_closing 85 = .ok (.ifCond .ne 7, 3) := by decide +kernel
theorem dX7_closing_88 : decode cX7_closing 88 = .ok (.ldc2_w 133, 3) := by decide +kernel
theorem dX7_closing_91 : decode cX7_closing 91 = .ok (.lreturn, 1) := by decide +kernel
theorem dX7_closing_92 : decode cX7_closing 92 = .ok (.aload_n 0, 1) := by decide +kernel
theorem dX7_closing_93 : decode cX7_closing 93 = .ok (.getfield 32, 3) := by decide +kernel
theorem dX7_closing_96 : decode cX7_closing 96 = .ok (.iload_n 1, 1) := by decide +kernel
theorem dX7_closing_97 : decode cX7_closing 97 = .ok (.iload_n 2, 1) := by decide +kernel
theorem dX7_closing_98 : decode cX7_closing 98 = .ok (.invokevirtual 202, 3) := by decide +kernel
theorem dX7_closing_101 : decode cX7_closing 101 = .ok (.aload_n 0, 1) := by decide +kernel
theorem dX7_closing_102 : decode cX7_closing 102 = .ok (.getfield 32, 3) := by decide +kernel
theorem dX7_closing_105 : decode cX7_closing 105 = .ok (.iload_n 2, 1) := by decide +kernel
theorem dX7_closing_106 : decode cX7_closing 106 = .ok (.iload_n 3, 1) := by decide +kernel
theorem dX7_closing_107 : decode cX7_closing 107 = .ok (.invokevirtual 202, 3) := by decide +kernel
theorem dX7_closing_110 : decode cX7_closing 110 = .ok (.ladd, 1) := by decide +kernel
theorem dX7_closing_111 : decode cX7_closing 111 = .ok (.aload_n 0, 1) := by decide +kernel
theorem dX7_closing_112 : decode cX7_closing 112 = .ok (.getfield 32, 3) := by decide +kernel
theorem dX7_closing_115 : decode cX7_closing 115 = .ok (.iload_n 3, 1) := by decide +kernel
theorem dX7_closing_116 : decode cX7_closing 116 = .ok (.iload_n 1, 1) := by decide +kernel
theorem dX7_closing_117 : decode cX7_closing 117 = .ok (.invokevirtual 202, 3) := by decide +kernel
theorem dX7_closing_120 : decode cX7_closing 120 = .ok (.ladd, 1) := by decide +kernel
theorem dX7_closing_121 : decode cX7_closing 121 = .ok (.lreturn, 1) := by decide +kernel
theorem dX7_field_0 : decode cX7_field 0 = .ok (.iload_n 1, 1) := by decide +kernel
theorem dX7_field_1 : decode cX7_field 1 = .ok (.invokestatic 114, 3) := by decide +kernel
theorem dX7_field_4 : decode cX7_field 4 = .ok (.ifCond .eq 17, 3) := by decide +kernel
theorem dX7_field_7 : decode cX7_field 7 = .ok (.iload_n 2, 1) := by decide +kernel
theorem dX7_field_8 : decode cX7_field 8 = .ok (.invokestatic 92, 3) := by decide +kernel
theorem dX7_field_11 : decode cX7_field 11 = .ok (.ifCond .eq 10, 3) := by decide +kernel
theorem dX7_field_14 : decode cX7_field 14 = .ok (.iload_n 3, 1) := by decide +kernel
theorem dX7_field_15 : decode cX7_field 15 = .ok (.invokestatic 92, 3) := by decide +kernel
theorem dX7_field_18 : decode cX7_field 18 = .ok (.ifCond .ne 7, 3) := by decide +kernel
theorem dX7_field_21 : decode cX7_field 21 = .ok (.ldc2_w 83, 3) := by decide +kernel
theorem dX7_field_24 : decode cX7_field 24 = .ok (.lreturn, 1) := by decide +kernel
theorem dX7_field_25 : decode cX7_field 25 = .ok (.aload_n 0, 1) := by decide +kernel
theorem dX7_field_26 : decode cX7_field 26 = .ok (.getfield 18, 3) := by decide +kernel
theorem dX7_field_29 : decode cX7_field 29 = .ok (.iload_n 1, 1) := by decide +kernel
theorem dX7_field_30 : decode cX7_field 30 = .ok (.invokevirtual 205, 3) := by decide +kernel
theorem dX7_field_33 : decode cX7_field 33 = .ok (.ifCond .eq 18, 3) := by decide +kernel
theorem dX7_field_36 : decode cX7_field 36 = .ok (.aload_n 0, 1) := by decide +kernel
theorem dX7_field_37 : decode cX7_field 37 = .ok (.getfield 18, 3) := by decide +kernel
theorem dX7_field_40 : decode cX7_field 40 = .ok (.iload_n 2, 1) := by decide +kernel
theorem dX7_field_41 : decode cX7_field 41 = .ok (.iload_n 3, 1) := by decide +kernel
theorem dX7_field_42 : decode cX7_field 42 = .ok (.bipush (-6), 2) := by decide +kernel
theorem dX7_field_44 : decode cX7_field 44 = .ok (.invokevirtual 208, 3) := by decide +kernel
theorem dX7_field_47 : decode cX7_field 47 = .ok (.i2l, 1) := by decide +kernel
theorem dX7_field_48 : decode cX7_field 48 = .ok (.goto 6, 3) := by decide +kernel
theorem dX7_field_51 : decode cX7_field 51 = .ok (.ldc2_w 133, 3) := by decide +kernel
theorem dX7_field_54 : decode cX7_field 54 = .ok (.lreturn, 1) := by decide +kernel
theorem dX7_low_0 : decode cX7_low 0 = .ok (.iload_n 1, 1) := by decide +kernel
theorem dX7_low_1 : decode cX7_low 1 = .ok (.invokestatic 114, 3) := by decide +kernel
theorem dX7_low_4 : decode cX7_low 4 = .ok (.ifCond .ne 6, 3) := by decide +kernel
theorem dX7_low_7 : decode cX7_low 7 = .ok (.bipush (-2), 2) := by decide +kernel
theorem dX7_low_9 : decode cX7_low 9 = .ok (.ireturn, 1) := by decide +kernel
theorem dX7_low_10 : decode cX7_low 10 = .ok (.aload_n 0, 1) := by decide +kernel
theorem dX7_low_11 : decode cX7_low 11 = .ok (.getfield 18, 3) := by decide +kernel
theorem dX7_low_14 : decode cX7_low 14 = .ok (.iload_n 1, 1) := by decide +kernel
theorem dX7_low_15 : decode cX7_low 15 = .ok (.invokevirtual 212, 3) := by decide +kernel
theorem dX7_low_18 : decode cX7_low 18 = .ok (.pop, 1) := by decide +kernel
theorem dX7_low_19 : decode cX7_low 19 = .ok (.iload_n 2, 1) := by decide +kernel
theorem dX7_low_20 : decode cX7_low 20 = .ok (.iconst (-1), 1) := by decide +kernel
theorem dX7_low_21 : decode cX7_low 21 = .ok (.if_icmp .ne 13, 3) := by decide +kernel
theorem dX7_low_24 : decode cX7_low 24 = .ok (.aload_n 0, 1) := by decide +kernel
theorem dX7_low_25 : decode cX7_low 25 = .ok (.getfield 18, 3) := by decide +kernel
theorem dX7_low_28 : decode cX7_low 28 = .ok (.invokevirtual 215, 3) := by decide +kernel
theorem dX7_low_31 : decode cX7_low 31 = .ok (.goto 11, 3) := by decide +kernel
theorem dX7_low_34 : decode cX7_low 34 = .ok (.aload_n 0, 1) := by decide +kernel
theorem dX7_low_35 : decode cX7_low 35 = .ok (.getfield 18, 3) := by decide +kernel
theorem dX7_low_38 : decode cX7_low 38 = .ok (.iload_n 2, 1) := by decide +kernel
theorem dX7_low_39 : decode cX7_low 39 = .ok (.invokevirtual 218, 3) := by decide +kernel
theorem dX7_low_42 : decode cX7_low 42 = .ok (.ireturn, 1) := by decide +kernel
theorem dX7_follow_0 : decode cX7_follow 0 = .ok (.iload_n 1, 1) := by decide +kernel
theorem dX7_follow_1 : decode cX7_follow 1 = .ok (.invokestatic 114, 3) := by decide +kernel
theorem dX7_follow_4 : decode cX7_follow 4 = .ok (.ifCond .eq 13, 3) := by decide +kernel
theorem dX7_follow_7 : decode cX7_follow 7 = .ok (.iload_n 3, 1) := by decide +kernel
theorem dX7_follow_8 : decode cX7_follow 8 = .ok (.iconst 0, 1) := by decide +kernel
theorem dX7_follow_9 : decode cX7_follow 9 = .ok (.bipush 47, 2) := by decide +kernel
theorem dX7_follow_11 : decode cX7_follow 11 = .ok (.invokestatic 95, 3) := by decide +kernel
theorem dX7_follow_14 : decode cX7_follow 14 = .ok (.ifCond .ne 6, 3) := by decide +kernel
theorem dX7_follow_17 : decode cX7_follow 17 = .ok (.bipush (-2), 2) := by decide +kernel
theorem dX7_follow_19 : decode cX7_follow 19 = .ok (.ireturn, 1) := by decide +kernel
theorem dX7_follow_20 : decode cX7_follow 20 = .ok (.aload_n 0, 1) := by decide +kernel
theorem dX7_follow_21 : decode cX7_follow 21 = .ok (.getfield 18, 3) := by decide +kernel
theorem dX7_follow_24 : decode cX7_follow 24 = .ok (.iload_n 1, 1) := by decide +kernel
theorem dX7_follow_25 : decode cX7_follow 25 = .ok (.invokevirtual 212, 3) := by decide +kernel
theorem dX7_follow_28 : decode cX7_follow 28 = .ok (.pop, 1) := by decide +kernel
theorem dX7_follow_29 : decode cX7_follow 29 = .ok (.aload_n 0, 1) := by decide +kernel
theorem dX7_follow_30 : decode cX7_follow 30 = .ok (.getfield 18, 3) := by decide +kernel
theorem dX7_follow_33 : decode cX7_follow 33 = .ok (.iload_n 2, 1) := by decide +kernel
theorem dX7_follow_34 : decode cX7_follow 34 = .ok (.invokevirtual 218, 3) := by decide +kernel
theorem dX7_follow_37 : decode cX7_follow 37 = .ok (.istore 4, 2) := by decide +kernel
theorem dX7_follow_39 : decode cX7_follow 39 = .ok (.iload_n 1, 1) := by decide +kernel
theorem dX7_follow_40 : decode cX7_follow 40 = .ok (.iconst 1, 1) := by decide +kernel
theorem dX7_follow_41 : decode cX7_follow 41 = .ok (.iadd, 1) := by decide +kernel
theorem dX7_follow_42 : decode cX7_follow 42 = .ok (.istore 5, 2) := by decide +kernel
theorem dX7_follow_44 : decode cX7_follow 44 = .ok (.iload 5, 2) := by decide +kernel
theorem dX7_follow_46 : decode cX7_follow 46 = .ok (.iload_n 1, 1) := by decide +kernel
theorem dX7_follow_47 : decode cX7_follow 47 = .ok (.iload_n 3, 1) := by decide +kernel
theorem dX7_follow_48 : decode cX7_follow 48 = .ok (.iadd, 1) := by decide +kernel
theorem dX7_follow_49 : decode cX7_follow 49 = .ok (.if_icmp .gt 47, 3) := by decide +kernel
theorem dX7_follow_52 : decode cX7_follow 52 = .ok (.iload 4, 2) := by decide +kernel
theorem dX7_follow_54 : decode cX7_follow 54 = .ok (.bipush (-6), 2) := by decide +kernel
theorem dX7_follow_56 : decode cX7_follow 56 = .ok (.if_icmp .eq 40, 3) := by decide +kernel
theorem dX7_follow_59 : decode cX7_follow 59 = .ok (.iload 5, 2) := by decide +kernel
theorem dX7_follow_61 : decode cX7_follow 61 = .ok (.bipush 48, 2) := by decide +kernel
theorem dX7_follow_63 : decode cX7_follow 63 = .ok (.if_icmp .lt 6, 3) := by decide +kernel
theorem dX7_follow_66 : decode cX7_follow 66 = .ok (.bipush (-6), 2) := by decide +kernel
theorem dX7_follow_68 : decode cX7_follow 68 = .ok (.ireturn, 1) := by decide +kernel
theorem dX7_follow_69 : decode cX7_follow 69 = .ok (.aload_n 0, 1) := by decide +kernel
theorem dX7_follow_70 : decode cX7_follow 70 = .ok (.getfield 18, 3) := by decide +kernel
theorem dX7_follow_73 : decode cX7_follow 73 = .ok (.iload 5, 2) := by decide +kernel
theorem dX7_follow_75 : decode cX7_follow 75 = .ok (.invokevirtual 212, 3) := by decide +kernel
theorem dX7_follow_78 : decode cX7_follow 78 = .ok (.pop, 1) := by decide +kernel
theorem dX7_follow_79 : decode cX7_follow 79 = .ok (.aload_n 0, 1) := by decide +kernel
theorem dX7_follow_80 : decode cX7_follow 80 = .ok (.getfield 18, 3) := by decide +kernel
theorem dX7_follow_83 : decode cX7_follow 83 = .ok (.iload 4, 2) := by decide +kernel
theorem dX7_follow_85 : decode cX7_follow 85 = .ok (.invokevirtual 221, 3) := by decide +kernel
theorem dX7_follow_88 : decode cX7_follow 88 = .ok (.istore 4, 2) := by decide +kernel
theorem dX7_follow_90 : decode cX7_follow 90 = .ok (.iinc 5 1, 3) := by decide +kernel
theorem dX7_follow_93 : decode cX7_follow 93 = .ok (.goto (-49), 3) := by decide +kernel
theorem dX7_follow_96 : decode cX7_follow 96 = .ok (.iload 4, 2) := by decide +kernel
theorem dX7_follow_98 : decode cX7_follow 98 = .ok (.ireturn, 1) := by decide +kernel
theorem dX7_lines_0 : decode cX7_lines 0 = .ok (.iload_n 1, 1) := by decide +kernel
theorem dX7_lines_1 : decode cX7_lines 1 = .ok (.invokestatic 114, 3) := by decide +kernel
theorem dX7_lines_4 : decode cX7_lines 4 = .ok (.ifCond .eq 19, 3) := by decide +kernel
theorem dX7_lines_7 : decode cX7_lines 7 = .ok (.iload_n 2, 1) := by decide +kernel
theorem dX7_lines_8 : decode cX7_lines 8 = .ok (.invokestatic 135, 3) := by decide +kernel
theorem dX7_lines_11 : decode cX7_lines 11 = .ok (.ifCond .eq 12, 3) := by decide +kernel
theorem dX7_lines_14 : decode cX7_lines 14 = .ok (.iload_n 3, 1) := by decide +kernel
theorem dX7_lines_15 : decode cX7_lines 15 = .ok (.iconst 0, 1) := by decide +kernel
theorem dX7_lines_16 : decode cX7_lines 16 = .ok (.iconst 3, 1) := by decide +kernel
theorem dX7_lines_17 : decode cX7_lines 17 = .ok (.invokestatic 95, 3) := by decide +kernel
theorem dX7_lines_20 : decode cX7_lines 20 = .ok (.ifCond .ne 6, 3) := by decide +kernel
theorem dX7_lines_23 : decode cX7_lines 23 = .ok (.bipush (-2), 2) := by decide +kernel
theorem dX7_lines_25 : decode cX7_lines 25 = .ok (.ireturn, 1) := by decide +kernel
theorem dX7_lines_26 : decode cX7_lines 26 = .ok (.aload_n 0, 1) := by decide +kernel
theorem dX7_lines_27 : decode cX7_lines 27 = .ok (.getfield 18, 3) := by decide +kernel
theorem dX7_lines_30 : decode cX7_lines 30 = .ok (.iload_n 1, 1) := by decide +kernel
theorem dX7_lines_31 : decode cX7_lines 31 = .ok (.invokevirtual 212, 3) := by decide +kernel
theorem dX7_lines_34 : decode cX7_lines 34 = .ok (.ifCond .ne 6, 3) := by decide +kernel
theorem dX7_lines_37 : decode cX7_lines 37 = .ok (.bipush (-3), 2) := by decide +kernel
theorem dX7_lines_39 : decode cX7_lines 39 = .ok (.ireturn, 1) := by decide +kernel
theorem dX7_lines_40 : decode cX7_lines 40 = .ok (.aload_n 0, 1) := by decide +kernel
theorem dX7_lines_41 : decode cX7_lines 41 = .ok (.getfield 25, 3) := by decide +kernel
theorem dX7_lines_44 : decode cX7_lines 44 = .ok (.aload_n 0, 1) := by decide +kernel
theorem dX7_lines_45 : decode cX7_lines 45 = .ok (.getfield 18, 3) := by decide +kernel
theorem dX7_lines_48 : decode cX7_lines 48 = .ok (.iload_n 2, 1) := by decide +kernel
theorem dX7_lines_49 : decode cX7_lines 49 = .ok (.invokevirtual 224, 3) := by decide +kernel
theorem dX7_lines_52 : decode cX7_lines 52 = .ok (.aload_n 0, 1) := by decide +kernel
theorem dX7_lines_53 : decode cX7_lines 53 = .ok (.getfield 25, 3) := by decide +kernel
theorem dX7_lines_56 : decode cX7_lines 56 = .ok (.iload_n 3, 1) := by decide +kernel
theorem dX7_lines_57 : decode cX7_lines 57 = .ok (.invokevirtual 228, 3) := by decide +kernel
theorem dX7_lines_60 : decode cX7_lines 60 = .ok (.ireturn, 1) := by decide +kernel
theorem dX7_line_0 : decode cX7_line 0 = .ok (.iload_n 1, 1) := by decide +kernel
theorem dX7_line_1 : decode cX7_line 1 = .ok (.invokestatic 114, 3) := by decide +kernel
theorem dX7_line_4 : decode cX7_line 4 = .ok (.ifCond .eq 20, 3) := by decide +kernel
theorem dX7_line_7 : decode cX7_line 7 = .ok (.iload_n 2, 1) := by decide +kernel
theorem dX7_line_8 : decode cX7_line 8 = .ok (.invokestatic 135, 3) := by decide +kernel
theorem dX7_line_11 : decode cX7_line 11 = .ok (.ifCond .eq 13, 3) := by decide +kernel
theorem dX7_line_14 : decode cX7_line 14 = .ok (.iload 4, 2) := by decide +kernel
theorem dX7_line_16 : decode cX7_line 16 = .ok (.iconst 0, 1) := by decide +kernel
theorem dX7_line_17 : decode cX7_line 17 = .ok (.iconst 3, 1) := by decide +kernel
theorem dX7_line_18 : decode cX7_line 18 = .ok (.invokestatic 95, 3) := by decide +kernel
theorem dX7_line_21 : decode cX7_line 21 = .ok (.ifCond .ne 6, 3) := by decide +kernel
theorem dX7_line_24 : decode cX7_line 24 = .ok (.bipush (-2), 2) := by decide +kernel
theorem dX7_line_26 : decode cX7_line 26 = .ok (.ireturn, 1) := by decide +kernel
theorem dX7_line_27 : decode cX7_line 27 = .ok (.aload_n 0, 1) := by decide +kernel
theorem dX7_line_28 : decode cX7_line 28 = .ok (.getfield 18, 3) := by decide +kernel
theorem dX7_line_31 : decode cX7_line 31 = .ok (.iload_n 1, 1) := by decide +kernel
theorem dX7_line_32 : decode cX7_line 32 = .ok (.invokevirtual 212, 3) := by decide +kernel
theorem dX7_line_35 : decode cX7_line 35 = .ok (.ifCond .ne 6, 3) := by decide +kernel
theorem dX7_line_38 : decode cX7_line 38 = .ok (.bipush (-3), 2) := by decide +kernel
theorem dX7_line_40 : decode cX7_line 40 = .ok (.ireturn, 1) := by decide +kernel
theorem dX7_line_41 : decode cX7_line 41 = .ok (.aload_n 0, 1) := by decide +kernel
theorem dX7_line_42 : decode cX7_line 42 = .ok (.getfield 25, 3) := by decide +kernel
theorem dX7_line_45 : decode cX7_line 45 = .ok (.aload_n 0, 1) := by decide +kernel
theorem dX7_line_46 : decode cX7_line 46 = .ok (.getfield 18, 3) := by decide +kernel
theorem dX7_line_49 : decode cX7_line 49 = .ok (.iload_n 2, 1) := by decide +kernel
theorem dX7_line_50 : decode cX7_line 50 = .ok (.invokevirtual 224, 3) := by decide +kernel
theorem dX7_line_53 : decode cX7_line 53 = .ok (.aload_n 0, 1) := by decide +kernel
theorem dX7_line_54 : decode cX7_line 54 = .ok (.getfield 25, 3) := by decide +kernel
theorem dX7_line_57 : decode cX7_line 57 = .ok (.iload_n 3, 1) := by decide +kernel
theorem dX7_line_58 : decode cX7_line 58 = .ok (.invokevirtual 231, 3) := by decide +kernel
theorem dX7_line_61 : decode cX7_line 61 = .ok (.ifCond .eq 16, 3) := by decide +kernel
theorem dX7_line_64 : decode cX7_line 64 = .ok (.aload_n 0, 1) := by decide +kernel
theorem dX7_line_65 : decode cX7_line 65 = .ok (.getfield 25, 3) := by decide +kernel
theorem dX7_line_68 : decode cX7_line 68 = .ok (.iload_n 3, 1) := by decide +kernel
theorem dX7_line_69 : decode cX7_line 69 = .ok (.iload 4, 2) := by decide +kernel
theorem dX7_line_71 : decode cX7_line 71 = .ok (.invokevirtual 234, 3) := by decide +kernel
theorem dX7_line_74 : decode cX7_line 74 = .ok (.goto 4, 3) := by decide +kernel
theorem dX7_line_77 : decode cX7_line 77 = .ok (.iconst (-1), 1) := by decide +kernel
theorem dX7_line_78 : decode cX7_line 78 = .ok (.ireturn, 1) := by decide +kernel
theorem dX7_drift_0 : decode cX7_drift 0 = .ok (.aload_n 0, 1) := by decide +kernel
theorem dX7_drift_1 : decode cX7_drift 1 = .ok (.getfield 18, 3) := by decide +kernel
theorem dX7_drift_4 : decode cX7_drift 4 = .ok (.iload_n 1, 1) := by decide +kernel
theorem dX7_drift_5 : decode cX7_drift 5 = .ok (.invokevirtual 110, 3) := by decide +kernel
theorem dX7_drift_8 : decode cX7_drift 8 = .ok (.ifnonnull 7, 3) := by decide +kernel
theorem dX7_drift_11 : decode cX7_drift 11 = .ok (.ldc2_w 74, 3) := by decide +kernel
theorem dX7_drift_14 : decode cX7_drift 14 = .ok (.lreturn, 1) := by decide +kernel
theorem dX7_drift_15 : decode cX7_drift 15 = .ok (.iload_n 2, 1) := by decide +kernel
theorem dX7_drift_16 : decode cX7_drift 16 = .ok (.iconst 0, 1) := by decide +kernel
theorem dX7_drift_17 : decode cX7_drift 17 = .ok (.iconst 2, 1) := by decide +kernel
theorem dX7_drift_18 : decode cX7_drift 18 = .ok (.invokestatic 95, 3) := by decide +kernel
theorem dX7_drift_21 : decode cX7_drift 21 = .ok (.ifCond .ne 7, 3) := by decide +kernel
theorem dX7_drift_24 : decode cX7_drift 24 = .ok (.ldc2_w 83, 3) := by decide +kernel
theorem dX7_drift_27 : decode cX7_drift 27 = .ok (.lreturn, 1) := by decide +kernel
theorem dX7_drift_28 : decode cX7_drift 28 = .ok (.aload_n 0, 1) := by decide +kernel
theorem dX7_drift_29 : decode cX7_drift 29 = .ok (.getfield 39, 3) := by decide +kernel
theorem dX7_drift_32 : decode cX7_drift 32 = .ok (.aload_n 0, 1) := by decide +kernel
theorem dX7_drift_33 : decode cX7_drift 33 = .ok (.getfield 18, 3) := by decide +kernel
theorem dX7_drift_36 : decode cX7_drift 36 = .ok (.iload_n 1, 1) := by decide +kernel
theorem dX7_drift_37 : decode cX7_drift 37 = .ok (.invokevirtual 238, 3) := by decide +kernel
theorem dX7_drift_40 : decode cX7_drift 40 = .ok (.aload_n 0, 1) := by decide +kernel
theorem dX7_drift_41 : decode cX7_drift 41 = .ok (.getfield 39, 3) := by decide +kernel
theorem dX7_drift_44 : decode cX7_drift 44 = .ok (.invokevirtual 241, 3) := by decide +kernel
theorem dX7_drift_47 : decode cX7_drift 47 = .ok (.ifCond .ne 7, 3) := by decide +kernel
theorem dX7_drift_50 : decode cX7_drift 50 = .ok (.ldc2_w 133, 3) := by decide +kernel
theorem dX7_drift_53 : decode cX7_drift 53 = .ok (.lreturn, 1) := by decide +kernel
theorem dX7_drift_54 : decode cX7_drift 54 = .ok (.iload_n 2, 1) := by decide +kernel
theorem dX7_drift_55 : decode cX7_drift 55 = .ok (.ifCond .ne 14, 3) := by decide +kernel
theorem dX7_drift_58 : decode cX7_drift 58 = .ok (.aload_n 0, 1) := by decide +kernel
theorem dX7_drift_59 : decode cX7_drift 59 = .ok (.getfield 39, 3) := by decide +kernel
theorem dX7_drift_62 : decode cX7_drift 62 = .ok (.invokevirtual 244, 3) := by decide +kernel
theorem dX7_drift_65 : decode cX7_drift 65 = .ok (.i2l, 1) := by decide +kernel
theorem dX7_drift_66 : decode cX7_drift 66 = .ok (.goto 23, 3) := by decide +kernel
theorem dX7_drift_69 : decode cX7_drift 69 = .ok (.aload_n 0, 1) := by decide +kernel
theorem dX7_drift_70 : decode cX7_drift 70 = .ok (.getfield 39, 3) := by decide +kernel
theorem dX7_drift_73 : decode cX7_drift 73 = .ok (.invokevirtual 247, 3) := by decide +kernel
theorem dX7_drift_76 : decode cX7_drift 76 = .ok (.aload_n 0, 1) := by decide +kernel
theorem dX7_drift_77 : decode cX7_drift 77 = .ok (.getfield 39, 3) := by decide +kernel
theorem dX7_drift_80 : decode cX7_drift 80 = .ok (.invokevirtual 250, 3) := by decide +kernel
theorem dX7_drift_83 : decode cX7_drift 83 = .ok (.iload_n 2, 1) := by decide +kernel
theorem dX7_drift_84 : decode cX7_drift 84 = .ok (.iconst 1, 1) := by decide +kernel
theorem dX7_drift_85 : decode cX7_drift 85 = .ok (.isub, 1) := by decide +kernel
theorem dX7_drift_86 : decode cX7_drift 86 = .ok (.invokestatic 181, 3) := by decide +kernel
theorem dX7_drift_89 : decode cX7_drift 89 = .ok (.lreturn, 1) := by decide +kernel
theorem dX7_mend_0 : decode cX7_mend 0 = .ok (.aload_n 0, 1) := by decide +kernel
theorem dX7_mend_1 : decode cX7_mend 1 = .ok (.getfield 18, 3) := by decide +kernel
theorem dX7_mend_4 : decode cX7_mend 4 = .ok (.iload_n 1, 1) := by decide +kernel
theorem dX7_mend_5 : decode cX7_mend 5 = .ok (.invokevirtual 110, 3) := by decide +kernel
theorem dX7_mend_8 : decode cX7_mend 8 = .ok (.astore_n 2, 1) := by decide +kernel
theorem dX7_mend_9 : decode cX7_mend 9 = .ok (.aload_n 2, 1) := by decide +kernel
theorem dX7_mend_10 : decode cX7_mend 10 = .ok (.ifnonnull 7, 3) := by decide +kernel
theorem dX7_mend_13 : decode cX7_mend 13 = .ok (.ldc2_w 74, 3) := by decide +kernel
theorem dX7_mend_16 : decode cX7_mend 16 = .ok (.lreturn, 1) := by decide +kernel
theorem dX7_mend_17 : decode cX7_mend 17 = .ok (.aload_n 2, 1) := by decide +kernel
theorem dX7_mend_18 : decode cX7_mend 18 = .ok (.invokevirtual 251, 3) := by decide +kernel
theorem dX7_mend_21 : decode cX7_mend 21 = .ok (.iconst 3, 1) := by decide +kernel
theorem dX7_mend_22 : decode cX7_mend 22 = .ok (.if_icmp .lt 7, 3) := by decide +kernel
theorem dX7_mend_25 : decode cX7_mend 25 = .ok (.ldc2_w 254, 3) := by decide +kernel
theorem dX7_mend_28 : decode cX7_mend 28 = .ok (.lreturn, 1) := by decide +kernel
theorem dX7_mend_29 : decode cX7_mend 29 = .ok (.aload_n 0, 1) := by decide +kernel
theorem dX7_mend_30 : decode cX7_mend 30 = .ok (.getfield 39, 3) := by decide +kernel
theorem dX7_mend_33 : decode cX7_mend 33 = .ok (.aload_n 0, 1) := by decide +kernel
theorem dX7_mend_34 : decode cX7_mend 34 = .ok (.getfield 18, 3) := by decide +kernel
theorem dX7_mend_37 : decode cX7_mend 37 = .ok (.iload_n 1, 1) := by decide +kernel
theorem dX7_mend_38 : decode cX7_mend 38 = .ok (.invokevirtual 238, 3) := by decide +kernel
theorem dX7_mend_41 : decode cX7_mend 41 = .ok (.aload_n 0, 1) := by decide +kernel
theorem dX7_mend_42 : decode cX7_mend 42 = .ok (.getfield 39, 3) := by decide +kernel
theorem dX7_mend_45 : decode cX7_mend 45 = .ok (.invokevirtual 241, 3) := by decide +kernel
theorem dX7_mend_48 : decode cX7_mend 48 = .ok (.ifCond .ne 7, 3) := by decide +kernel
theorem dX7_mend_51 : decode cX7_mend 51 = .ok (.ldc2_w 133, 3) := by decide +kernel
theorem dX7_mend_54 : decode cX7_mend 54 = .ok (.lreturn, 1) := by decide +kernel
theorem dX7_mend_55 : decode cX7_mend 55 = .ok (.aload_n 0, 1) := by decide +kernel
theorem dX7_mend_56 : decode cX7_mend 56 = .ok (.getfield 39, 3) := by decide +kernel
theorem dX7_mend_59 : decode cX7_mend 59 = .ok (.invokevirtual 247, 3) := by decide +kernel
theorem dX7_mend_62 : decode cX7_mend 62 = .ok (.aload_n 0, 1) := by decide +kernel
theorem dX7_mend_63 : decode cX7_mend 63 = .ok (.getfield 39, 3) := by decide +kernel
theorem dX7_mend_66 : decode cX7_mend 66 = .ok (.invokevirtual 250, 3) := by decide +kernel
theorem dX7_mend_69 : decode cX7_mend 69 = .ok (.invokestatic 256, 3) := by decide +kernel
theorem dX7_mend_72 : decode cX7_mend 72 = .ok (.lstore_n 3, 1) := by decide +kernel
theorem dX7_mend_73 : decode cX7_mend 73 = .ok (.aload_n 2, 1) := by decide +kernel
theorem dX7_mend_74 : decode cX7_mend 74 = .ok (.aload_n 0, 1) := by decide +kernel
theorem dX7_mend_75 : decode cX7_mend 75 = .ok (.getfield 39, 3) := by decide +kernel
theorem dX7_mend_78 : decode cX7_mend 78 = .ok (.invokevirtual 244, 3) := by decide +kernel
theorem dX7_mend_81 : decode cX7_mend 81 = .ok (.lload_n 3, 1) := by decide +kernel
theorem dX7_mend_82 : decode cX7_mend 82 = .ok (.invokevirtual 260, 3) := by decide +kernel
theorem dX7_mend_85 : decode cX7_mend 85 = .ok (.lload_n 3, 1) := by decide +kernel
theorem dX7_mend_86 : decode cX7_mend 86 = .ok (.lreturn, 1) := by decide +kernel
theorem dX7_told_0 : decode cX7_told 0 = .ok (.iload_n 1, 1) := by decide +kernel
theorem dX7_told_1 : decode cX7_told 1 = .ok (.tableswitch 75 0 4 #[35, 43, 51, 59, 67], 35) := by decide +kernel
theorem dX7_told_36 : decode cX7_told 36 = .ok (.aload_n 0, 1) := by decide +kernel
theorem dX7_told_37 : decode cX7_told 37 = .ok (.getfield 18, 3) := by decide +kernel
theorem dX7_told_40 : decode cX7_told 40 = .ok (.invokevirtual 264, 3) := by decide +kernel
theorem dX7_told_43 : decode cX7_told 43 = .ok (.ireturn, 1) := by decide +kernel
theorem dX7_told_44 : decode cX7_told 44 = .ok (.aload_n 0, 1) := by decide +kernel
theorem dX7_told_45 : decode cX7_told 45 = .ok (.getfield 18, 3) := by decide +kernel
theorem dX7_told_48 : decode cX7_told 48 = .ok (.invokevirtual 267, 3) := by decide +kernel
theorem dX7_told_51 : decode cX7_told 51 = .ok (.ireturn, 1) := by decide +kernel
theorem dX7_told_52 : decode cX7_told 52 = .ok (.aload_n 0, 1) := by decide +kernel
theorem dX7_told_53 : decode cX7_told 53 = .ok (.getfield 32, 3) := by decide +kernel
theorem dX7_told_56 : decode cX7_told 56 = .ok (.invokevirtual 154, 3) := by decide +kernel
theorem dX7_told_59 : decode cX7_told 59 = .ok (.ireturn, 1) := by decide +kernel
theorem dX7_told_60 : decode cX7_told 60 = .ok (.aload_n 0, 1) := by decide +kernel
theorem dX7_told_61 : decode cX7_told 61 = .ok (.getfield 32, 3) := by decide +kernel
theorem dX7_told_64 : decode cX7_told 64 = .ok (.invokevirtual 193, 3) := by decide +kernel
theorem dX7_told_67 : decode cX7_told 67 = .ok (.ireturn, 1) := by decide +kernel
theorem dX7_told_68 : decode cX7_told 68 = .ok (.aload_n 0, 1) := by decide +kernel
theorem dX7_told_69 : decode cX7_told 69 = .ok (.getfield 18, 3) := by decide +kernel
theorem dX7_told_72 : decode cX7_told 72 = .ok (.invokevirtual 270, 3) := by decide +kernel
theorem dX7_told_75 : decode cX7_told 75 = .ok (.ireturn, 1) := by decide +kernel
theorem dX7_told_76 : decode cX7_told 76 = .ok (.bipush (-2), 2) := by decide +kernel
theorem dX7_told_78 : decode cX7_told 78 = .ok (.ireturn, 1) := by decide +kernel
theorem dX7_findGlass_0 : decode cX7_findGlass 0 = .ok (.iload_n 1, 1) := by decide +kernel
theorem dX7_findGlass_1 : decode cX7_findGlass 1 = .ok (.iconst 0, 1) := by decide +kernel
theorem dX7_findGlass_2 : decode cX7_findGlass 2 = .ok (.iconst 5, 1) := by decide +kernel
theorem dX7_findGlass_3 : decode cX7_findGlass 3 = .ok (.invokestatic 95, 3) := by decide +kernel
theorem dX7_findGlass_6 : decode cX7_findGlass 6 = .ok (.ifCond .eq 12, 3) := by decide +kernel
theorem dX7_findGlass_9 : decode cX7_findGlass 9 = .ok (.aload_n 0, 1) := by decide +kernel
theorem dX7_findGlass_10 : decode cX7_findGlass 10 = .ok (.getfield 11, 3) := by decide +kernel
theorem dX7_findGlass_13 : decode cX7_findGlass 13 = .ok (.iload_n 1, 1) := by decide +kernel
theorem dX7_findGlass_14 : decode cX7_findGlass 14 = .ok (.aaload, 1) := by decide +kernel
theorem dX7_findGlass_15 : decode cX7_findGlass 15 = .ok (.goto 4, 3) := by decide +kernel
theorem dX7_findGlass_18 : decode cX7_findGlass 18 = .ok (.aconst_null, 1) := by decide +kernel
theorem dX7_findGlass_19 : decode cX7_findGlass 19 = .ok (.areturn, 1) := by decide +kernel
theorem dX7_isWithin_0 : decode cX7_isWithin 0 = .ok (.iload_n 0, 1) := by decide +kernel
theorem dX7_isWithin_1 : decode cX7_isWithin 1 = .ok (.iload_n 1, 1) := by decide +kernel
theorem dX7_isWithin_2 : decode cX7_isWithin 2 = .ok (.if_icmp .lt 12, 3) := by decide +kernel
theorem dX7_isWithin_5 : decode cX7_isWithin 5 = .ok (.iload_n 0, 1) := by decide +kernel
theorem dX7_isWithin_6 : decode cX7_isWithin 6 = .ok (.iload_n 2, 1) := by decide +kernel
theorem dX7_isWithin_7 : decode cX7_isWithin 7 = .ok (.if_icmp .gt 7, 3) := by decide +kernel
theorem dX7_isWithin_10 : decode cX7_isWithin 10 = .ok (.iconst 1, 1) := by decide +kernel
theorem dX7_isWithin_11 : decode cX7_isWithin 11 = .ok (.goto 4, 3) := by decide +kernel
theorem dX7_isWithin_14 : decode cX7_isWithin 14 = .ok (.iconst 0, 1) := by decide +kernel
theorem dX7_isWithin_15 : decode cX7_isWithin 15 = .ok (.ireturn, 1) := by decide +kernel
theorem dX7_isReading_0 : decode cX7_isReading 0 = .ok (.iload_n 0, 1) := by decide +kernel
theorem dX7_isReading_1 : decode cX7_isReading 1 = .ok (.iconst 1, 1) := by decide +kernel
theorem dX7_isReading_2 : decode cX7_isReading 2 = .ok (.sipush 12000, 3) := by decide +kernel
theorem dX7_isReading_5 : decode cX7_isReading 5 = .ok (.invokestatic 95, 3) := by decide +kernel
theorem dX7_isReading_8 : decode cX7_isReading 8 = .ok (.ireturn, 1) := by decide +kernel
theorem dX7_isRoom_0 : decode cX7_isRoom 0 = .ok (.iload_n 0, 1) := by decide +kernel
theorem dX7_isRoom_1 : decode cX7_isRoom 1 = .ok (.iconst 1, 1) := by decide +kernel
theorem dX7_isRoom_2 : decode cX7_isRoom 2 = .ok (.sipush 4000, 3) := by decide +kernel
theorem dX7_isRoom_5 : decode cX7_isRoom 5 = .ok (.invokestatic 95, 3) := by decide +kernel
theorem dX7_isRoom_8 : decode cX7_isRoom 8 = .ok (.ireturn, 1) := by decide +kernel
theorem dX7_isWarmth_0 : decode cX7_isWarmth 0 = .ok (.iload_n 0, 1) := by decide +kernel
theorem dX7_isWarmth_1 : decode cX7_isWarmth 1 = .ok (.bipush (-30), 2) := by decide +kernel
theorem dX7_isWarmth_3 : decode cX7_isWarmth 3 = .ok (.bipush 50, 2) := by decide +kernel
theorem dX7_isWarmth_5 : decode cX7_isWarmth 5 = .ok (.invokestatic 95, 3) := by decide +kernel
theorem dX7_isWarmth_8 : decode cX7_isWarmth 8 = .ok (.ireturn, 1) := by decide +kernel
theorem dX7_isHour_0 : decode cX7_isHour 0 = .ok (.iload_n 0, 1) := by decide +kernel
theorem dX7_isHour_1 : decode cX7_isHour 1 = .ok (.iconst 0, 1) := by decide +kernel
theorem dX7_isHour_2 : decode cX7_isHour 2 = .ok (.bipush 47, 2) := by decide +kernel
theorem dX7_isHour_4 : decode cX7_isHour 4 = .ok (.invokestatic 95, 3) := by decide +kernel
theorem dX7_isHour_7 : decode cX7_isHour 7 = .ok (.ireturn, 1) := by decide +kernel
theorem dX7_isOnMap_0 : decode cX7_isOnMap 0 = .ok (.iload_n 0, 1) := by decide +kernel
theorem dX7_isOnMap_1 : decode cX7_isOnMap 1 = .ok (.iconst 0, 1) := by decide +kernel
theorem dX7_isOnMap_2 : decode cX7_isOnMap 2 = .ok (.bipush 7, 2) := by decide +kernel
theorem dX7_isOnMap_4 : decode cX7_isOnMap 4 = .ok (.invokestatic 95, 3) := by decide +kernel
theorem dX7_isOnMap_7 : decode cX7_isOnMap 7 = .ok (.ireturn, 1) := by decide +kernel
theorem dX7_isPart_0 : decode cX7_isPart 0 = .ok (.iload_n 0, 1) := by decide +kernel
theorem dX7_isPart_1 : decode cX7_isPart 1 = .ok (.ifCond .eq 8, 3) := by decide +kernel
theorem dX7_isPart_4 : decode cX7_isPart 4 = .ok (.iload_n 0, 1) := by decide +kernel
theorem dX7_isPart_5 : decode cX7_isPart 5 = .ok (.iconst 1, 1) := by decide +kernel
theorem dX7_isPart_6 : decode cX7_isPart 6 = .ok (.if_icmp .ne 7, 3) := by decide +kernel
theorem dX7_isPart_9 : decode cX7_isPart 9 = .ok (.iconst 1, 1) := by decide +kernel
theorem dX7_isPart_10 : decode cX7_isPart 10 = .ok (.goto 4, 3) := by decide +kernel
theorem dX7_isPart_13 : decode cX7_isPart 13 = .ok (.iconst 0, 1) := by decide +kernel
theorem dX7_isPart_14 : decode cX7_isPart 14 = .ok (.ireturn, 1) := by decide +kernel
theorem dX7_cut_0 : decode cX7_cut 0 = .ok (.lload_n 2, 1) := by decide +kernel
theorem dX7_cut_1 : decode cX7_cut 1 = .ok (.lconst 0, 1) := by decide +kernel
theorem dX7_cut_2 : decode cX7_cut 2 = .ok (.lcmp, 1) := by decide +kernel
theorem dX7_cut_3 : decode cX7_cut 3 = .ok (.ifCond .ne 7, 3) := by decide +kernel
theorem dX7_cut_6 : decode cX7_cut 6 = .ok (.lconst 0, 1) := by decide +kernel
theorem dX7_cut_7 : decode cX7_cut 7 = .ok (.goto 6, 3) := by decide +kernel
theorem dX7_cut_10 : decode cX7_cut 10 = .ok (.lload_n 0, 1) := by decide +kernel
theorem dX7_cut_11 : decode cX7_cut 11 = .ok (.lload_n 2, 1) := by decide +kernel
theorem dX7_cut_12 : decode cX7_cut 12 = .ok (.ldiv, 1) := by decide +kernel
theorem dX7_cut_13 : decode cX7_cut 13 = .ok (.lreturn, 1) := by decide +kernel
theorem dX7_fractionPart_0 : decode cX7_fractionPart 0 = .ok (.lload_n 0, 1) := by decide +kernel
theorem dX7_fractionPart_1 : decode cX7_fractionPart 1 = .ok (.invokestatic 273, 3) := by decide +kernel
theorem dX7_fractionPart_4 : decode cX7_fractionPart 4 = .ok (.lload_n 2, 1) := by decide +kernel
theorem dX7_fractionPart_5 : decode cX7_fractionPart 5 = .ok (.invokestatic 279, 3) := by decide +kernel
theorem dX7_fractionPart_8 : decode cX7_fractionPart 8 = .ok (.lstore 5, 2) := by decide +kernel
theorem dX7_fractionPart_10 : decode cX7_fractionPart 10 = .ok (.iload 4, 2) := by decide +kernel
theorem dX7_fractionPart_12 : decode cX7_fractionPart 12 = .ok (.ifCond .ne 7, 3) := by decide +kernel
theorem dX7_fractionPart_15 : decode cX7_fractionPart 15 = .ok (.lload_n 0, 1) := by decide +kernel
theorem dX7_fractionPart_16 : decode cX7_fractionPart 16 = .ok (.goto 4, 3) := by decide +kernel
theorem dX7_fractionPart_19 : decode cX7_fractionPart 19 = .ok (.lload_n 2, 1) := by decide +kernel
theorem dX7_fractionPart_20 : decode cX7_fractionPart 20 = .ok (.lload 5, 2) := by decide +kernel
theorem dX7_fractionPart_22 : decode cX7_fractionPart 22 = .ok (.invokestatic 256, 3) := by decide +kernel
theorem dX7_fractionPart_25 : decode cX7_fractionPart 25 = .ok (.lreturn, 1) := by decide +kernel
theorem dX7_commonMeasure_0 : decode cX7_commonMeasure 0 = .ok (.iconst 0, 1) := by decide +kernel
theorem dX7_commonMeasure_1 : decode cX7_commonMeasure 1 = .ok (.istore 4, 2) := by decide +kernel
theorem dX7_commonMeasure_3 : decode cX7_commonMeasure 3 = .ok (.iload 4, 2) := by decide +kernel
theorem dX7_commonMeasure_5 : decode cX7_commonMeasure 5 = .ok (.bipush 100, 2) := by decide +kernel
theorem dX7_commonMeasure_7 : decode cX7_commonMeasure 7 = .ok (.if_icmp .ge 25, 3) := by decide +kernel
theorem dX7_commonMeasure_10 : decode cX7_commonMeasure 10 = .ok (.lload_n 2, 1) := by decide +kernel
theorem dX7_commonMeasure_11 : decode cX7_commonMeasure 11 = .ok (.lconst 0, 1) := by decide +kernel
theorem dX7_commonMeasure_12 : decode cX7_commonMeasure 12 = .ok (.lcmp, 1) := by decide +kernel
theorem dX7_commonMeasure_13 : decode cX7_commonMeasure 13 = .ok (.ifCond .eq 19, 3) := by decide +kernel
theorem dX7_commonMeasure_16 : decode cX7_commonMeasure 16 = .ok (.lload_n 0, 1) := by decide +kernel
theorem dX7_commonMeasure_17 : decode cX7_commonMeasure 17 = .ok (.lload_n 2, 1) := by decide +kernel
theorem dX7_commonMeasure_18 : decode cX7_commonMeasure 18 = .ok (.lrem, 1) := by decide +kernel
theorem dX7_commonMeasure_19 : decode cX7_commonMeasure 19 = .ok (.lstore 5, 2) := by decide +kernel
theorem dX7_commonMeasure_21 : decode cX7_commonMeasure 21 = .ok (.lload_n 2, 1) := by decide +kernel
theorem dX7_commonMeasure_22 : decode cX7_commonMeasure 22 = .ok (.lstore_n 0, 1) := by decide +kernel
theorem dX7_commonMeasure_23 : decode cX7_commonMeasure 23 = .ok (.lload 5, 2) := by decide +kernel
theorem dX7_commonMeasure_25 : decode cX7_commonMeasure 25 = .ok (.lstore_n 2, 1) := by decide +kernel
theorem dX7_commonMeasure_26 : decode cX7_commonMeasure 26 = .ok (.iinc 4 1, 3) := by decide +kernel
theorem dX7_commonMeasure_29 : decode cX7_commonMeasure 29 = .ok (.goto (-26), 3) := by decide +kernel
theorem dX7_commonMeasure_32 : decode cX7_commonMeasure 32 = .ok (.lload_n 0, 1) := by decide +kernel
theorem dX7_commonMeasure_33 : decode cX7_commonMeasure 33 = .ok (.lreturn, 1) := by decide +kernel
theorem dX7_squareBetween_0 : decode cX7_squareBetween 0 = .ok (.iload_n 0, 1) := by decide +kernel
theorem dX7_squareBetween_1 : decode cX7_squareBetween 1 = .ok (.iload_n 2, 1) := by decide +kernel
theorem dX7_squareBetween_2 : decode cX7_squareBetween 2 = .ok (.isub, 1) := by decide +kernel
theorem dX7_squareBetween_3 : decode cX7_squareBetween 3 = .ok (.iload_n 0, 1) := by decide +kernel
theorem dX7_squareBetween_4 : decode cX7_squareBetween 4 = .ok (.iload_n 2, 1) := by decide +kernel
theorem dX7_squareBetween_5 : decode cX7_squareBetween 5 = .ok (.isub, 1) := by decide +kernel
theorem dX7_squareBetween_6 : decode cX7_squareBetween 6 = .ok (.imul, 1) := by decide +kernel
theorem dX7_squareBetween_7 : decode cX7_squareBetween 7 = .ok (.iload_n 1, 1) := by decide +kernel
theorem dX7_squareBetween_8 : decode cX7_squareBetween 8 = .ok (.iload_n 3, 1) := by decide +kernel
theorem dX7_squareBetween_9 : decode cX7_squareBetween 9 = .ok (.isub, 1) := by decide +kernel
theorem dX7_squareBetween_10 : decode cX7_squareBetween 10 = .ok (.iload_n 1, 1) := by decide +kernel
theorem dX7_squareBetween_11 : decode cX7_squareBetween 11 = .ok (.iload_n 3, 1) := by decide +kernel
theorem dX7_squareBetween_12 : decode cX7_squareBetween 12 = .ok (.isub, 1) := by decide +kernel
theorem dX7_squareBetween_13 : decode cX7_squareBetween 13 = .ok (.imul, 1) := by decide +kernel
theorem dX7_squareBetween_14 : decode cX7_squareBetween 14 = .ok (.iadd, 1) := by decide +kernel
theorem dX7_squareBetween_15 : decode cX7_squareBetween 15 = .ok (.ireturn, 1) := by decide +kernel
theorem dX8_init_0 : decode cX8_init 0 = .ok (.aload_n 0, 1) := by decide +kernel
theorem dX8_init_1 : decode cX8_init 1 = .ok (.invokespecial 1, 3) := by decide +kernel
theorem dX8_init_4 : decode cX8_init 4 = .ok (.aload_n 0, 1) := by decide +kernel
theorem dX8_init_5 : decode cX8_init 5 = .ok (.sipush 20001, 3) := by decide +kernel
theorem dX8_init_8 : decode cX8_init 8 = .ok (.newarray .int, 2) := by decide +kernel
theorem dX8_init_10 : decode cX8_init 10 = .ok (.putfield 7, 3) := by decide +kernel
theorem dX8_init_13 : decode cX8_init 13 = .ok (.aload_n 0, 1) := by decide +kernel
theorem dX8_init_14 : decode cX8_init 14 = .ok (.bipush 36, 2) := by decide +kernel
theorem dX8_init_16 : decode cX8_init 16 = .ok (.newarray .int, 2) := by decide +kernel
theorem dX8_init_18 : decode cX8_init 18 = .ok (.putfield 13, 3) := by decide +kernel
theorem dX8_init_21 : decode cX8_init 21 = .ok (.aload_n 0, 1) := by decide +kernel
theorem dX8_init_22 : decode cX8_init 22 = .ok (.bipush 6, 2) := by decide +kernel
theorem dX8_init_24 : decode cX8_init 24 = .ok (.newarray .long, 2) := by decide +kernel
theorem dX8_init_26 : decode cX8_init 26 = .ok (.putfield 16, 3) := by decide +kernel
theorem dX8_init_29 : decode cX8_init 29 = .ok (.aload_n 0, 1) := by decide +kernel
theorem dX8_init_30 : decode cX8_init 30 = .ok (.bipush 6, 2) := by decide +kernel
theorem dX8_init_32 : decode cX8_init 32 = .ok (.newarray .long, 2) := by decide +kernel
theorem dX8_init_34 : decode cX8_init 34 = .ok (.putfield 20, 3) := by decide +kernel
theorem dX8_init_37 : decode cX8_init 37 = .ok (.aload_n 0, 1) := by decide +kernel
theorem dX8_init_38 : decode cX8_init 38 = .ok (.bipush 8, 2) := by decide +kernel
theorem dX8_init_40 : decode cX8_init 40 = .ok (.newarray .int, 2) := by decide +kernel
theorem dX8_init_42 : decode cX8_init 42 = .ok (.putfield 23, 3) := by decide +kernel
theorem dX8_init_45 : decode cX8_init 45 = .ok (.aload_n 0, 1) := by decide +kernel
theorem dX8_init_46 : decode cX8_init 46 = .ok (.bipush 8, 2) := by decide +kernel
theorem dX8_init_48 : decode cX8_init 48 = .ok (.newarray .int, 2) := by decide +kernel
theorem dX8_init_50 : decode cX8_init 50 = .ok (.putfield 26, 3) := by decide +kernel
theorem dX8_init_53 : decode cX8_init 53 = .ok (.aload_n 0, 1) := by decide +kernel
theorem dX8_init_54 : decode cX8_init 54 = .ok (.bipush 8, 2) := by decide +kernel
theorem dX8_init_56 : decode cX8_init 56 = .ok (.newarray .int, 2) := by decide +kernel
theorem dX8_init_58 : decode cX8_init 58 = .ok (.putfield 29, 3) := by decide +kernel
theorem dX8_init_61 : decode cX8_init 61 = .ok (.aload_n 0, 1) := by decide +kernel
theorem dX8_init_62 : decode cX8_init 62 = .ok (.bipush 8, 2) := by decide +kernel
theorem dX8_init_64 : decode cX8_init 64 = .ok (.newarray .int, 2) := by decide +kernel
theorem dX8_init_66 : decode cX8_init 66 = .ok (.putfield 32, 3) := by decide +kernel
theorem dX8_init_69 : decode cX8_init 69 = .ok (.aload_n 0, 1) := by decide +kernel
theorem dX8_init_70 : decode cX8_init 70 = .ok (.sipush 384, 3) := by decide +kernel
theorem dX8_init_73 : decode cX8_init 73 = .ok (.newarray .int, 2) := by decide +kernel
theorem dX8_init_75 : decode cX8_init 75 = .ok (.putfield 35, 3) := by decide +kernel
theorem dX8_init_78 : decode cX8_init 78 = .ok (.aload_n 0, 1) := by decide +kernel
theorem dX8_init_79 : decode cX8_init 79 = .ok (.sipush 384, 3) := by decide +kernel
theorem dX8_init_82 : decode cX8_init 82 = .ok (.newarray .int, 2) := by decide +kernel
theorem dX8_init_84 : decode cX8_init 84 = .ok (.putfield 38, 3) := by decide +kernel
theorem dX8_init_87 : decode cX8_init 87 = .ok (.aload_n 0, 1) := by decide +kernel
theorem dX8_init_88 : decode cX8_init 88 = .ok (.bipush 24, 2) := by decide +kernel
theorem dX8_init_90 : decode cX8_init 90 = .ok (.newarray .int, 2) := by decide +kernel
theorem dX8_init_92 : decode cX8_init 92 = .ok (.putfield 41, 3) := by decide +kernel
theorem dX8_init_95 : decode cX8_init 95 = .ok (.aload_n 0, 1) := by decide +kernel
theorem dX8_init_96 : decode cX8_init 96 = .ok (.bipush 24, 2) := by decide +kernel
theorem dX8_init_98 : decode cX8_init 98 = .ok (.newarray .long, 2) := by decide +kernel
theorem dX8_init_100 : decode cX8_init 100 = .ok (.putfield 44, 3) := by decide +kernel
theorem dX8_init_103 : decode cX8_init 103 = .ok (.aload_n 0, 1) := by decide +kernel
theorem dX8_init_104 : decode cX8_init 104 = .ok (.bipush 8, 2) := by decide +kernel
theorem dX8_init_106 : decode cX8_init 106 = .ok (.newarray .int, 2) := by decide +kernel
theorem dX8_init_108 : decode cX8_init 108 = .ok (.putfield 47, 3) := by decide +kernel
theorem dX8_init_111 : decode cX8_init 111 = .ok (.aload_n 0, 1) := by decide +kernel
theorem dX8_init_112 : decode cX8_init 112 = .ok (.iconst 3, 1) := by decide +kernel
theorem dX8_init_113 : decode cX8_init 113 = .ok (.putfield 50, 3) := by decide +kernel
theorem dX8_init_116 : decode cX8_init 116 = .ok (.aload_n 0, 1) := by decide +kernel
theorem dX8_init_117 : decode cX8_init 117 = .ok (.bipush 12, 2) := by decide +kernel
theorem dX8_init_119 : decode cX8_init 119 = .ok (.newarray .int, 2) := by decide +kernel
theorem dX8_init_121 : decode cX8_init 121 = .ok (.putfield 54, 3) := by decide +kernel
theorem dX8_init_124 : decode cX8_init 124 = .ok (.aload_n 0, 1) := by decide +kernel
theorem dX8_init_125 : decode cX8_init 125 = .ok (.bipush 12, 2) := by decide +kernel
theorem dX8_init_127 : decode cX8_init 127 = .ok (.newarray .int, 2) := by decide +kernel
theorem dX8_init_129 : decode cX8_init 129 = .ok (.putfield 57, 3) := by decide +kernel
theorem dX8_init_132 : decode cX8_init 132 = .ok (.aload_n 0, 1) := by decide +kernel
theorem dX8_init_133 : decode cX8_init 133 = .ok (.bipush 12, 2) := by decide +kernel
theorem dX8_init_135 : decode cX8_init 135 = .ok (.newarray .int, 2) := by decide +kernel
theorem dX8_init_137 : decode cX8_init 137 = .ok (.putfield 60, 3) := by decide +kernel
theorem dX8_init_140 : decode cX8_init 140 = .ok (.aload_n 0, 1) := by decide +kernel
theorem dX8_init_141 : decode cX8_init 141 = .ok (.bipush 12, 2) := by decide +kernel
theorem dX8_init_143 : decode cX8_init 143 = .ok (.newarray .int, 2) := by decide +kernel
theorem dX8_init_145 : decode cX8_init 145 = .ok (.putfield 63, 3) := by decide +kernel
theorem dX8_init_148 : decode cX8_init 148 = .ok (.aload_n 0, 1) := by decide +kernel
theorem dX8_init_149 : decode cX8_init 149 = .ok (.bipush 25, 2) := by decide +kernel
theorem dX8_init_151 : decode cX8_init 151 = .ok (.newarray .long, 2) := by decide +kernel
theorem dX8_init_153 : decode cX8_init 153 = .ok (.putfield 66, 3) := by decide +kernel
theorem dX8_init_156 : decode cX8_init 156 = .ok (.aload_n 0, 1) := by decide +kernel
theorem dX8_init_157 : decode cX8_init 157 = .ok (.bipush 6, 2) := by decide +kernel
theorem dX8_init_159 : decode cX8_init 159 = .ok (.newarray .long, 2) := by decide +kernel
theorem dX8_init_161 : decode cX8_init 161 = .ok (.putfield 69, 3) := by decide +kernel
theorem dX8_init_164 : decode cX8_init 164 = .ok (.aload_n 0, 1) := by decide +kernel
theorem dX8_init_165 : decode cX8_init 165 = .ok (.bipush 8, 2) := by decide +kernel
theorem dX8_init_167 : decode cX8_init 167 = .ok (.newarray .int, 2) := by decide +kernel
theorem dX8_init_169 : decode cX8_init 169 = .ok (.putfield 72, 3) := by decide +kernel
theorem dX8_init_172 : decode cX8_init 172 = .ok (.aload_n 0, 1) := by decide +kernel
theorem dX8_init_173 : decode cX8_init 173 = .ok (.bipush 64, 2) := by decide +kernel
theorem dX8_init_175 : decode cX8_init 175 = .ok (.newarray .long, 2) := by decide +kernel
theorem dX8_init_177 : decode cX8_init 177 = .ok (.putfield 75, 3) := by decide +kernel
theorem dX8_init_180 : decode cX8_init 180 = .ok (.aload_n 0, 1) := by decide +kernel
theorem dX8_init_181 : decode cX8_init 181 = .ok (.sipush 128, 3) := by decide +kernel
theorem dX8_init_184 : decode cX8_init 184 = .ok (.newarray .int, 2) := by decide +kernel
theorem dX8_init_186 : decode cX8_init 186 = .ok (.putfield 78, 3) := by decide +kernel
theorem dX8_init_189 : decode cX8_init 189 = .ok (.aload_n 0, 1) := by decide +kernel
theorem dX8_init_190 : decode cX8_init 190 = .ok (.sipush 128, 3) := by decide +kernel
theorem dX8_init_193 : decode cX8_init 193 = .ok (.newarray .int, 2) := by decide +kernel
theorem dX8_init_195 : decode cX8_init 195 = .ok (.putfield 81, 3) := by decide +kernel
theorem dX8_init_198 : decode cX8_init 198 = .ok (.aload_n 0, 1) := by decide +kernel
theorem dX8_init_199 : decode cX8_init 199 = .ok (.bipush 48, 2) := by decide +kernel
theorem dX8_init_201 : decode cX8_init 201 = .ok (.newarray .long, 2) := by decide +kernel
theorem dX8_init_203 : decode cX8_init 203 = .ok (.putfield 84, 3) := by decide +kernel
theorem dX8_init_206 : decode cX8_init 206 = .ok (.aload_n 0, 1) := by decide +kernel
theorem dX8_init_207 : decode cX8_init 207 = .ok (.bipush 48, 2) := by decide +kernel
theorem dX8_init_209 : decode cX8_init 209 = .ok (.newarray .boolean, 2) := by decide +kernel
theorem dX8_init_211 : decode cX8_init 211 = .ok (.putfield 87, 3) := by decide +kernel
theorem dX8_init_214 : decode cX8_init 214 = .ok (.iconst 1, 1) := by decide +kernel
theorem dX8_init_215 : decode cX8_init 215 = .ok (.istore_n 1, 1) := by decide +kernel
theorem dX8_init_216 : decode cX8_init 216 = .ok (.iload_n 1, 1) := by decide +kernel
theorem dX8_init_217 : decode cX8_init 217 = .ok (.sipush 20000, 3) := by decide +kernel
theorem dX8_init_220 : decode cX8_init 220 = .ok (.if_icmp .gt 28, 3) := by decide +kernel
theorem dX8_init_223 : decode cX8_init 223 = .ok (.aload_n 0, 1) := by decide +kernel
theorem dX8_init_224 : decode cX8_init 224 = .ok (.getfield 7, 3) := by decide +kernel
theorem dX8_init_227 : decode cX8_init 227 = .ok (.iload_n 1, 1) := by decide +kernel
theorem dX8_init_228 : decode cX8_init 228 = .ok (.aload_n 0, 1) := by decide +kernel
theorem dX8_init_229 : decode cX8_init 229 = .ok (.getfield 7, 3) := by decide +kernel
theorem dX8_init_232 : decode cX8_init 232 = .ok (.iload_n 1, 1) := by decide +kernel
theorem dX8_init_233 : decode cX8_init 233 = .ok (.iconst 1, 1) := by decide +kernel
theorem dX8_init_234 : decode cX8_init 234 = .ok (.isub, 1) := by decide +kernel
theorem dX8_init_235 : decode cX8_init 235 = .ok (.iaload, 1) := by decide +kernel
theorem dX8_init_236 : decode cX8_init 236 = .ok (.ldc 91, 2) := by decide +kernel
theorem dX8_init_238 : decode cX8_init 238 = .ok (.iload_n 1, 1) := by decide +kernel
theorem dX8_init_239 : decode cX8_init 239 = .ok (.idiv, 1) := by decide +kernel
theorem dX8_init_240 : decode cX8_init 240 = .ok (.iadd, 1) := by decide +kernel
theorem dX8_init_241 : decode cX8_init 241 = .ok (.iastore, 1) := by decide +kernel
theorem dX8_init_242 : decode cX8_init 242 = .ok (.iinc 1 1, 3) := by decide +kernel
theorem dX8_init_245 : decode cX8_init 245 = .ok (.goto (-29), 3) := by decide +kernel
theorem dX8_init_248 : decode cX8_init 248 = .ok (.iconst 0, 1) := by decide +kernel
theorem dX8_init_249 : decode cX8_init 249 = .ok (.istore_n 1, 1) := by decide +kernel
theorem dX8_init_250 : decode cX8_init 250 = .ok (.iload_n 1, 1) := by decide +kernel
theorem dX8_init_251 : decode cX8_init 251 = .ok (.bipush 6, 2) := by decide +kernel
theorem dX8_init_253 : decode cX8_init 253 = .ok (.if_icmp .ge 91, 3) := by decide +kernel
theorem dX8_init_256 : decode cX8_init 256 = .ok (.aload_n 0, 1) := by decide +kernel
theorem dX8_init_257 : decode cX8_init 257 = .ok (.getfield 13, 3) := by decide +kernel
theorem dX8_init_260 : decode cX8_init 260 = .ok (.bipush 6, 2) := by decide +kernel
theorem dX8_init_262 : decode cX8_init 262 = .ok (.iload_n 1, 1) := by decide +kernel
theorem dX8_init_263 : decode cX8_init 263 = .ok (.imul, 1) := by decide +kernel
theorem dX8_init_264 : decode cX8_init 264 = .ok (.iconst 0, 1) := by decide +kernel
theorem dX8_init_265 : decode cX8_init 265 = .ok (.iastore, 1) := by decide +kernel
theorem dX8_init_266 : decode cX8_init 266 = .ok (.aload_n 0, 1) := by decide +kernel
theorem dX8_init_267 : decode cX8_init 267 = .ok (.getfield 13, 3) := by decide +kernel
theorem dX8_init_270 : decode cX8_init 270 = .ok (.bipush 6, 2) := by decide +kernel
theorem dX8_init_272 : decode cX8_init 272 = .ok (.iload_n 1, 1) := by decide +kernel
theorem dX8_init_273 : decode cX8_init 273 = .ok (.imul, 1) := by decide +kernel
theorem dX8_init_274 : decode cX8_init 274 = .ok (.iconst 1, 1) := by decide +kernel
theorem dX8_init_275 : decode cX8_init 275 = .ok (.iadd, 1) := by decide +kernel
theorem dX8_init_276 : decode cX8_init 276 = .ok (.bipush 100, 2) := by decide +kernel
theorem dX8_init_278 : decode cX8_init 278 = .ok (.iastore, 1) := by decide +kernel
theorem dX8_init_279 : decode cX8_init 279 = .ok (.aload_n 0, 1) := by decide +kernel
theorem dX8_init_280 : decode cX8_init 280 = .ok (.getfield 13, 3) := by decide +kernel
theorem dX8_init_283 : decode cX8_init 283 = .ok (.bipush 6, 2) := by decide +kernel
theorem dX8_init_285 : decode cX8_init 285 = .ok (.iload_n 1, 1) := by decide +kernel
theorem dX8_init_286 : decode cX8_init 286 = .ok (.imul, 1) := by decide +kernel
theorem dX8_init_287 : decode cX8_init 287 = .ok (.iconst 2, 1) := by decide +kernel
theorem dX8_init_288 : decode cX8_init 288 = .ok (.iadd, 1) := by decide +kernel
theorem dX8_init_289 : decode cX8_init 289 = .ok (.sipush 7600, 3) := by decide +kernel
theorem dX8_init_292 : decode cX8_init 292 = .ok (.iastore, 1) := by decide +kernel
theorem dX8_init_293 : decode cX8_init 293 = .ok (.aload_n 0, 1) := by decide +kernel
theorem dX8_init_294 : decode cX8_init 294 = .ok (.getfield 13, 3) := by decide +kernel
theorem dX8_init_297 : decode cX8_init 297 = .ok (.bipush 6, 2) := by decide +kernel
theorem dX8_init_299 : decode cX8_init 299 = .ok (.iload_n 1, 1) := by decide +kernel
theorem dX8_init_300 : decode cX8_init 300 = .ok (.imul, 1) := by decide +kernel
theorem dX8_init_301 : decode cX8_init 301 = .ok (.iconst 3, 1) := by decide +kernel
theorem dX8_init_302 : decode cX8_init 302 = .ok (.iadd, 1) := by decide +kernel
theorem dX8_init_303 : decode cX8_init 303 = .ok (.iconst 5, 1) := by decide +kernel
theorem dX8_init_304 : decode cX8_init 304 = .ok (.iastore, 1) := by decide +kernel
theorem dX8_init_305 : decode cX8_init 305 = .ok (.aload_n 0, 1) := by decide +kernel
theorem dX8_init_306 : decode cX8_init 306 = .ok (.getfield 13, 3) := by decide +kernel
theorem dX8_init_309 : decode cX8_init 309 = .ok (.bipush 6, 2) := by decide +kernel
theorem dX8_init_311 : decode cX8_init 311 = .ok (.iload_n 1, 1) := by decide +kernel
theorem dX8_init_312 : decode cX8_init 312 = .ok (.imul, 1) := by decide +kernel
theorem dX8_init_313 : decode cX8_init 313 = .ok (.iconst 4, 1) := by decide +kernel
theorem dX8_init_314 : decode cX8_init 314 = .ok (.iadd, 1) := by decide +kernel
theorem dX8_init_315 : decode cX8_init 315 = .ok (.iconst 2, 1) := by decide +kernel
theorem dX8_init_316 : decode cX8_init 316 = .ok (.iastore, 1) := by decide +kernel
theorem dX8_init_317 : decode cX8_init 317 = .ok (.aload_n 0, 1) := by decide +kernel
theorem dX8_init_318 : decode cX8_init 318 = .ok (.getfield 13, 3) := by decide +kernel
theorem dX8_init_321 : decode cX8_init 321 = .ok (.bipush 6, 2) := by decide +kernel
theorem dX8_init_323 : decode cX8_init 323 = .ok (.iload_n 1, 1) := by decide +kernel
theorem dX8_init_324 : decode cX8_init 324 = .ok (.imul, 1) := by decide +kernel
theorem dX8_init_325 : decode cX8_init 325 = .ok (.iconst 5, 1) := by decide +kernel
theorem dX8_init_326 : decode cX8_init 326 = .ok (.iadd, 1) := by decide +kernel
theorem dX8_init_327 : decode cX8_init 327 = .ok (.sipush 8500, 3) := by decide +kernel
theorem dX8_init_330 : decode cX8_init 330 = .ok (.iastore, 1) := by decide +kernel
theorem dX8_init_331 : decode cX8_init 331 = .ok (.aload_n 0, 1) := by decide +kernel
theorem dX8_init_332 : decode cX8_init 332 = .ok (.getfield 20, 3) := by decide +kernel
theorem dX8_init_335 : decode cX8_init 335 = .ok (.iload_n 1, 1) := by decide +kernel
theorem dX8_init_336 : decode cX8_init 336 = .ok (.lconst 1, 1) := by decide +kernel
theorem dX8_init_337 : decode cX8_init 337 = .ok (.lastore, 1) := by decide +kernel
theorem dX8_init_338 : decode cX8_init 338 = .ok (.iinc 1 1, 3) := by decide +kernel
theorem dX8_init_341 : decode cX8_init 341 = .ok (.goto (-91), 3) := by decide +kernel
theorem dX8_init_344 : decode cX8_init 344 = .ok (.return_, 1) := by decide +kernel
theorem dX8_in_0 : decode cX8_in 0 = .ok (.lload_n 0, 1) := by decide +kernel
theorem dX8_in_1 : decode cX8_in 1 = .ok (.lload_n 2, 1) := by decide +kernel
theorem dX8_in_2 : decode cX8_in 2 = .ok (.lcmp, 1) := by decide +kernel
theorem dX8_in_3 : decode cX8_in 3 = .ok (.ifCond .lt 14, 3) := by decide +kernel
theorem dX8_in_6 : decode cX8_in 6 = .ok (.lload_n 0, 1) := by decide +kernel
theorem dX8_in_7 : decode cX8_in 7 = .ok (.lload 4, 2) := by decide +kernel
theorem dX8_in_9 : decode cX8_in 9 = .ok (.lcmp, 1) := by decide +kernel
theorem dX8_in_10 : decode cX8_in 10 = .ok (.ifCond .gt 7, 3) := by decide +kernel
theorem dX8_in_13 : decode cX8_in 13 = .ok (.iconst 1, 1) := by decide +kernel
theorem dX8_in_14 : decode cX8_in 14 = .ok (.goto 4, 3) := by decide +kernel
theorem dX8_in_17 : decode cX8_in 17 = .ok (.iconst 0, 1) := by decide +kernel
theorem dX8_in_18 : decode cX8_in 18 = .ok (.ireturn, 1) := by decide +kernel
theorem dX8_size_0 : decode cX8_size 0 = .ok (.lload_n 0, 1) := by decide +kernel
theorem dX8_size_1 : decode cX8_size 1 = .ok (.lconst 0, 1) := by decide +kernel
theorem dX8_size_2 : decode cX8_size 2 = .ok (.lcmp, 1) := by decide +kernel
theorem dX8_size_3 : decode cX8_size 3 = .ok (.ifCond .ge 8, 3) := by decide +kernel
theorem dX8_size_6 : decode cX8_size 6 = .ok (.lload_n 0, 1) := by decide +kernel
theorem dX8_size_7 : decode cX8_size 7 = .ok (.lneg, 1) := by decide +kernel
theorem dX8_size_8 : decode cX8_size 8 = .ok (.goto 4, 3) := by decide +kernel
theorem dX8_size_11 : decode cX8_size 11 = .ok (.lload_n 0, 1) := by decide +kernel
theorem dX8_size_12 : decode cX8_size 12 = .ok (.lreturn, 1) := by decide +kernel
theorem dX8_common_0 : decode cX8_common 0 = .ok (.lload_n 0, 1) := by decide +kernel
theorem dX8_common_1 : decode cX8_common 1 = .ok (.invokestatic 92, 3) := by decide +kernel
theorem dX8_common_4 : decode cX8_common 4 = .ok (.lstore 4, 2) := by decide +kernel
theorem dX8_common_6 : decode cX8_common 6 = .ok (.lload_n 2, 1) := by decide +kernel
theorem dX8_common_7 : decode cX8_common 7 = .ok (.invokestatic 92, 3) := by decide +kernel
theorem dX8_common_10 : decode cX8_common 10 = .ok (.lstore 6, 2) := by decide +kernel
theorem dX8_common_12 : decode cX8_common 12 = .ok (.lload 6, 2) := by decide +kernel
theorem dX8_common_14 : decode cX8_common 14 = .ok (.lconst 0, 1) := by decide +kernel
theorem dX8_common_15 : decode cX8_common 15 = .ok (.lcmp, 1) := by decide +kernel
theorem dX8_common_16 : decode cX8_common 16 = .ok (.ifCond .eq 21, 3) := by decide +kernel
theorem dX8_common_19 : decode cX8_common 19 = .ok (.lload 4, 2) := by decide +kernel
theorem dX8_common_21 : decode cX8_common 21 = .ok (.lload 6, 2) := by decide +kernel
theorem dX8_common_23 : decode cX8_common 23 = .ok (.lrem, 1) := by decide +kernel
theorem dX8_common_24 : decode cX8_common 24 = .ok (.lstore 8, 2) := by decide +kernel
theorem dX8_common_26 : decode cX8_common 26 = .ok (.lload 6, 2) := by decide +kernel
theorem dX8_common_28 : decode cX8_common 28 = .ok (.lstore 4, 2) := by decide +kernel
theorem dX8_common_30 : decode cX8_common 30 = .ok (.lload 8, 2) := by decide +kernel
theorem dX8_common_32 : decode cX8_common 32 = .ok (.lstore 6, 2) := by decide +kernel
theorem dX8_common_34 : decode cX8_common 34 = .ok (.goto (-22), 3) := by decide +kernel
theorem dX8_common_37 : decode cX8_common 37 = .ok (.lload 4, 2) := by decide +kernel
theorem dX8_common_39 : decode cX8_common 39 = .ok (.lreturn, 1) := by decide +kernel
theorem dX8_lowest_0 : decode cX8_lowest 0 = .ok (.lload_n 0, 1) := by decide +kernel
theorem dX8_lowest_1 : decode cX8_lowest 1 = .ok (.lload_n 2, 1) := by decide +kernel
theorem dX8_lowest_2 : decode cX8_lowest 2 = .ok (.invokestatic 96, 3) := by decide +kernel
theorem dX8_lowest_5 : decode cX8_lowest 5 = .ok (.lstore 5, 2) := by decide +kernel
theorem dX8_lowest_7 : decode cX8_lowest 7 = .ok (.iload 4, 2) := by decide +kernel
theorem dX8_lowest_9 : decode cX8_lowest 9 = .ok (.ifCond .ne 10, 3) := by decide +kernel
theorem dX8_lowest_12 : decode cX8_lowest 12 = .ok (.lload_n 0, 1) := by decide +kernel
theorem dX8_lowest_13 : decode cX8_lowest 13 = .ok (.lload 5, 2) := by decide +kernel
theorem dX8_lowest_15 : decode cX8_lowest 15 = .ok (.ldiv, 1) := by decide +kernel
theorem dX8_lowest_16 : decode cX8_lowest 16 = .ok (.goto 7, 3) := by decide +kernel
theorem dX8_lowest_19 : decode cX8_lowest 19 = .ok (.lload_n 2, 1) := by decide +kernel
theorem dX8_lowest_20 : decode cX8_lowest 20 = .ok (.lload 5, 2) := by decide +kernel
theorem dX8_lowest_22 : decode cX8_lowest 22 = .ok (.ldiv, 1) := by decide +kernel
theorem dX8_lowest_23 : decode cX8_lowest 23 = .ok (.lreturn, 1) := by decide +kernel
theorem dX8_isGlass_0 : decode cX8_isGlass 0 = .ok (.iload_n 0, 1) := by decide +kernel
theorem dX8_isGlass_1 : decode cX8_isGlass 1 = .ok (.i2l, 1) := by decide +kernel
theorem dX8_isGlass_2 : decode cX8_isGlass 2 = .ok (.lconst 0, 1) := by decide +kernel
theorem dX8_isGlass_3 : decode cX8_isGlass 3 = .ok (.ldc2_w 100, 3) := by decide +kernel
theorem dX8_isGlass_6 : decode cX8_isGlass 6 = .ok (.invokestatic 102, 3) := by decide +kernel
theorem dX8_isGlass_9 : decode cX8_isGlass 9 = .ok (.ireturn, 1) := by decide +kernel
theorem dX8_mayBe_0 : decode cX8_mayBe 0 = .ok (.iload_n 0, 1) := by decide +kernel
theorem dX8_mayBe_1 : decode cX8_mayBe 1 = .ok (.tableswitch 91 0 4 #[35, 47, 59, 71, 81], 35) := by decide +kernel
theorem dX8_mayBe_36 : decode cX8_mayBe 36 = .ok (.iload_n 1, 1) := by decide +kernel
theorem dX8_mayBe_37 : decode cX8_mayBe 37 = .ok (.i2l, 1) := by decide +kernel
theorem dX8_mayBe_38 : decode cX8_mayBe 38 = .ok (.ldc2_w 106, 3) := by decide +kernel
theorem dX8_mayBe_41 : decode cX8_mayBe 41 = .ok (.ldc2_w 108, 3) := by decide +kernel
theorem dX8_mayBe_44 : decode cX8_mayBe 44 = .ok (.invokestatic 102, 3) := by decide +kernel
theorem dX8_mayBe_47 : decode cX8_mayBe 47 = .ok (.ireturn, 1) := by decide +kernel
theorem dX8_mayBe_48 : decode cX8_mayBe 48 = .ok (.iload_n 1, 1) := by decide +kernel
theorem dX8_mayBe_49 : decode cX8_mayBe 49 = .ok (.i2l, 1) := by decide +kernel
theorem dX8_mayBe_50 : decode cX8_mayBe 50 = .ok (.ldc2_w 110, 3) := by decide +kernel
theorem dX8_mayBe_53 : decode cX8_mayBe 53 = .ok (.ldc2_w 112, 3) := by decide +kernel
theorem dX8_mayBe_56 : decode cX8_mayBe 56 = .ok (.invokestatic 102, 3) := by decide +kernel
theorem dX8_mayBe_59 : decode cX8_mayBe 59 = .ok (.ireturn, 1) := by decide +kernel
theorem dX8_mayBe_60 : decode cX8_mayBe 60 = .ok (.iload_n 1, 1) := by decide +kernel
theorem dX8_mayBe_61 : decode cX8_mayBe 61 = .ok (.i2l, 1) := by decide +kernel
theorem dX8_mayBe_62 : decode cX8_mayBe 62 = .ok (.ldc2_w 114, 3) := by decide +kernel
theorem dX8_mayBe_65 : decode cX8_mayBe 65 = .ok (.ldc2_w 116, 3) := by decide +kernel
theorem dX8_mayBe_68 : decode cX8_mayBe 68 = .ok (.invokestatic 102, 3) := by decide +kernel
theorem dX8_mayBe_71 : decode cX8_mayBe 71 = .ok (.ireturn, 1) := by decide +kernel
theorem dX8_mayBe_72 : decode cX8_mayBe 72 = .ok (.iload_n 1, 1) := by decide +kernel
theorem dX8_mayBe_73 : decode cX8_mayBe 73 = .ok (.i2l, 1) := by decide +kernel
theorem dX8_mayBe_74 : decode cX8_mayBe 74 = .ok (.lconst 1, 1) := by decide +kernel
theorem dX8_mayBe_75 : decode cX8_mayBe 75 = .ok (.ldc2_w 110, 3) := by decide +kernel
theorem dX8_mayBe_78 : decode cX8_mayBe 78 = .ok (.invokestatic 102, 3) := by decide +kernel
theorem dX8_mayBe_81 : decode cX8_mayBe 81 = .ok (.ireturn, 1) := by decide +kernel
theorem dX8_mayBe_82 : decode cX8_mayBe 82 = .ok (.iload_n 1, 1) := by decide +kernel
theorem dX8_mayBe_83 : decode cX8_mayBe 83 = .ok (.i2l, 1) := by decide +kernel
theorem dX8_mayBe_84 : decode cX8_mayBe 84 = .ok (.lconst 0, 1) := by decide +kernel
theorem dX8_mayBe_85 : decode cX8_mayBe 85 = .ok (.ldc2_w 118, 3) := by decide +kernel
theorem dX8_mayBe_88 : decode cX8_mayBe 88 = .ok (.invokestatic 102, 3) := by decide +kernel
theorem dX8_mayBe_91 : decode cX8_mayBe 91 = .ok (.ireturn, 1) := by decide +kernel
theorem dX8_mayBe_92 : decode cX8_mayBe 92 = .ok (.iload_n 1, 1) := by decide +kernel
theorem dX8_mayBe_93 : decode cX8_mayBe 93 = .ok (.i2l, 1) := by decide +kernel
theorem dX8_mayBe_94 : decode cX8_mayBe 94 = .ok (.ldc2_w 116, 3) := by decide +kernel
theorem dX8_mayBe_97 : decode cX8_mayBe 97 = .ok (.ldc2_w 120, 3) := by decide +kernel
theorem dX8_mayBe_100 : decode cX8_mayBe 100 = .ok (.invokestatic 102, 3) := by decide +kernel
theorem dX8_mayBe_103 : decode cX8_mayBe 103 = .ok (.ireturn, 1) := by decide +kernel
theorem dX8_set_0 : decode cX8_set 0 = .ok (.iload_n 1, 1) := by decide +kernel
theorem dX8_set_1 : decode cX8_set 1 = .ok (.invokestatic 122, 3) := by decide +kernel
theorem dX8_set_4 : decode cX8_set 4 = .ok (.ifCond .ne 6, 3) := by decide +kernel
theorem dX8_set_7 : decode cX8_set 7 = .ok (.bipush (-101), 2) := by decide +kernel
theorem dX8_set_9 : decode cX8_set 9 = .ok (.ireturn, 1) := by decide +kernel
theorem dX8_set_10 : decode cX8_set 10 = .ok (.iload_n 2, 1) := by decide +kernel
theorem dX8_set_11 : decode cX8_set 11 = .ok (.i2l, 1) := by decide +kernel
theorem dX8_set_12 : decode cX8_set 12 = .ok (.lconst 0, 1) := by decide +kernel
theorem dX8_set_13 : decode cX8_set 13 = .ok (.ldc2_w 100, 3) := by decide +kernel
theorem dX8_set_16 : decode cX8_set 16 = .ok (.invokestatic 102, 3) := by decide +kernel
theorem dX8_set_19 : decode cX8_set 19 = .ok (.ifCond .eq 11, 3) := by decide +kernel
theorem dX8_set_22 : decode cX8_set 22 = .ok (.iload_n 2, 1) := by decide +kernel
theorem dX8_set_23 : decode cX8_set 23 = .ok (.iload_n 3, 1) := by decide +kernel
theorem dX8_set_24 : decode cX8_set 24 = .ok (.invokestatic 126, 3) := by decide +kernel
theorem dX8_set_27 : decode cX8_set 27 = .ok (.ifCond .ne 6, 3) := by decide +kernel
theorem dX8_set_30 : decode cX8_set 30 = .ok (.bipush (-102), 2) := by decide +kernel
theorem dX8_set_32 : decode cX8_set 32 = .ok (.ireturn, 1) := by decide +kernel
theorem dX8_set_33 : decode cX8_set 33 = .ok (.aload_n 0, 1) := by decide +kernel
theorem dX8_set_34 : decode cX8_set 34 = .ok (.getfield 13, 3) := by decide +kernel
theorem dX8_set_37 : decode cX8_set 37 = .ok (.bipush 6, 2) := by decide +kernel
theorem dX8_set_39 : decode cX8_set 39 = .ok (.iload_n 1, 1) := by decide +kernel
theorem dX8_set_40 : decode cX8_set 40 = .ok (.imul, 1) := by decide +kernel
theorem dX8_set_41 : decode cX8_set 41 = .ok (.iload_n 2, 1) := by decide +kernel
theorem dX8_set_42 : decode cX8_set 42 = .ok (.iadd, 1) := by decide +kernel
theorem dX8_set_43 : decode cX8_set 43 = .ok (.iaload, 1) := by decide +kernel
theorem dX8_set_44 : decode cX8_set 44 = .ok (.istore 4, 2) := by decide +kernel
theorem dX8_set_46 : decode cX8_set 46 = .ok (.aload_n 0, 1) := by decide +kernel
theorem dX8_set_47 : decode cX8_set 47 = .ok (.getfield 13, 3) := by decide +kernel
theorem dX8_set_50 : decode cX8_set 50 = .ok (.bipush 6, 2) := by decide +kernel
theorem dX8_set_52 : decode cX8_set 52 = .ok (.iload_n 1, 1) := by decide +kernel
theorem dX8_set_53 : decode cX8_set 53 = .ok (.imul, 1) := by decide +kernel
theorem dX8_set_54 : decode cX8_set 54 = .ok (.iload_n 2, 1) := by decide +kernel
theorem dX8_set_55 : decode cX8_set 55 = .ok (.iadd, 1) := by decide +kernel
theorem dX8_set_56 : decode cX8_set 56 = .ok (.iload_n 3, 1) := by decide +kernel
theorem dX8_set_57 : decode cX8_set 57 = .ok (.iastore, 1) := by decide +kernel
theorem dX8_set_58 : decode cX8_set 58 = .ok (.iload 4, 2) := by decide +kernel
theorem dX8_set_60 : decode cX8_set 60 = .ok (.ireturn, 1) := by decide +kernel
theorem dX8_glass_0 : decode cX8_glass 0 = .ok (.iload_n 1, 1) := by decide +kernel
theorem dX8_glass_1 : decode cX8_glass 1 = .ok (.invokestatic 122, 3) := by decide +kernel
theorem dX8_glass_4 : decode cX8_glass 4 = .ok (.ifCond .ne 6, 3) := by decide +kernel
theorem dX8_glass_7 : decode cX8_glass 7 = .ok (.bipush (-101), 2) := by decide +kernel
theorem dX8_glass_9 : decode cX8_glass 9 = .ok (.ireturn, 1) := by decide +kernel
theorem dX8_glass_10 : decode cX8_glass 10 = .ok (.iload_n 2, 1) := by decide +kernel
theorem dX8_glass_11 : decode cX8_glass 11 = .ok (.i2l, 1) := by decide +kernel
theorem dX8_glass_12 : decode cX8_glass 12 = .ok (.lconst 0, 1) := by decide +kernel
theorem dX8_glass_13 : decode cX8_glass 13 = .ok (.ldc2_w 100, 3) := by decide +kernel
theorem dX8_glass_16 : decode cX8_glass 16 = .ok (.invokestatic 102, 3) := by decide +kernel
theorem dX8_glass_19 : decode cX8_glass 19 = .ok (.ifCond .eq 17, 3) := by decide +kernel
theorem dX8_glass_22 : decode cX8_glass 22 = .ok (.aload_n 0, 1) := by decide +kernel
theorem dX8_glass_23 : decode cX8_glass 23 = .ok (.getfield 13, 3) := by decide +kernel
theorem dX8_glass_26 : decode cX8_glass 26 = .ok (.bipush 6, 2) := by decide +kernel
theorem dX8_glass_28 : decode cX8_glass 28 = .ok (.iload_n 1, 1) := by decide +kernel
theorem dX8_glass_29 : decode cX8_glass 29 = .ok (.imul, 1) := by decide +kernel
theorem dX8_glass_30 : decode cX8_glass 30 = .ok (.iload_n 2, 1) := by decide +kernel
theorem dX8_glass_31 : decode cX8_glass 31 = .ok (.iadd, 1) := by decide +kernel
theorem dX8_glass_32 : decode cX8_glass 32 = .ok (.iaload, 1) := by decide +kernel
theorem dX8_glass_33 : decode cX8_glass 33 = .ok (.goto 5, 3) := by decide +kernel
theorem dX8_glass_36 : decode cX8_glass 36 = .ok (.bipush (-102), 2) := by decide +kernel
theorem dX8_glass_38 : decode cX8_glass 38 = .ok (.ireturn, 1) := by decide +kernel
theorem dX8_seal_0 : decode cX8_seal 0 = .ok (.iload_n 1, 1) := by decide +kernel
theorem dX8_seal_1 : decode cX8_seal 1 = .ok (.invokestatic 122, 3) := by decide +kernel
theorem dX8_seal_4 : decode cX8_seal 4 = .ok (.ifCond .ne 5, 3) := by decide +kernel
theorem dX8_seal_7 : decode cX8_seal 7 = .ok (.iconst (-1), 1) := by decide +kernel
theorem dX8_seal_8 : decode cX8_seal 8 = .ok (.ireturn, 1) := by decide +kernel
theorem dX8_seal_9 : decode cX8_seal 9 = .ok (.iload_n 2, 1) := by decide +kernel
theorem dX8_seal_10 : decode cX8_seal 10 = .ok (.i2l, 1) := by decide +kernel
theorem dX8_seal_11 : decode cX8_seal 11 = .ok (.lconst 1, 1) := by decide +kernel
theorem dX8_seal_12 : decode cX8_seal 12 = .ok (.ldc2_w 120, 3) := by decide +kernel
theorem dX8_seal_15 : decode cX8_seal 15 = .ok (.invokestatic 102, 3) := by decide +kernel
theorem dX8_seal_18 : decode cX8_seal 18 = .ok (.ifCond .eq 47, 3) := by decide +kernel
theorem dX8_seal_21 : decode cX8_seal 21 = .ok (.iload 4, 2) := by decide +kernel
theorem dX8_seal_23 : decode cX8_seal 23 = .ok (.i2l, 1) := by decide +kernel
theorem dX8_seal_24 : decode cX8_seal 24 = .ok (.lconst 1, 1) := by decide +kernel
theorem dX8_seal_25 : decode cX8_seal 25 = .ok (.ldc2_w 120, 3) := by decide +kernel
theorem dX8_seal_28 : decode cX8_seal 28 = .ok (.invokestatic 102, 3) := by decide +kernel
theorem dX8_seal_31 : decode cX8_seal 31 = .ok (.ifCond .eq 34, 3) := by decide +kernel
theorem dX8_seal_34 : decode cX8_seal 34 = .ok (.iload_n 3, 1) := by decide +kernel
theorem dX8_seal_35 : decode cX8_seal 35 = .ok (.i2l, 1) := by decide +kernel
theorem dX8_seal_36 : decode cX8_seal 36 = .ok (.lconst 1, 1) := by decide +kernel
theorem dX8_seal_37 : decode cX8_seal 37 = .ok (.ldc2_w 130, 3) := by decide +kernel
theorem dX8_seal_40 : decode cX8_seal 40 = .ok (.invokestatic 102, 3) := by decide +kernel
theorem dX8_seal_43 : decode cX8_seal 43 = .ok (.ifCond .eq 22, 3) := by decide +kernel
theorem dX8_seal_46 : decode cX8_seal 46 = .ok (.iload 5, 2) := by decide +kernel
theorem dX8_seal_48 : decode cX8_seal 48 = .ok (.i2l, 1) := by decide +kernel
theorem dX8_seal_49 : decode cX8_seal 49 = .ok (.lconst 1, 1) := by decide +kernel
theorem dX8_seal_50 : decode cX8_seal 50 = .ok (.ldc2_w 130, 3) := by decide +kernel
theorem dX8_seal_53 : decode cX8_seal 53 = .ok (.invokestatic 102, 3) := by decide +kernel
theorem dX8_seal_56 : decode cX8_seal 56 = .ok (.ifCond .eq 9, 3) := by decide +kernel
theorem dX8_seal_59 : decode cX8_seal 59 = .ok (.iload_n 3, 1) := by decide +kernel
theorem dX8_seal_60 : decode cX8_seal 60 = .ok (.iload 5, 2) := by decide +kernel
theorem dX8_seal_62 : decode cX8_seal 62 = .ok (.if_icmp .ne 6, 3) := by decide +kernel
theorem dX8_seal_65 : decode cX8_seal 65 = .ok (.bipush (-2), 2) := by decide +kernel
theorem dX8_seal_67 : decode cX8_seal 67 = .ok (.ireturn, 1) := by decide +kernel
theorem dX8_seal_68 : decode cX8_seal 68 = .ok (.iload_n 2, 1) := by decide +kernel
theorem dX8_seal_69 : decode cX8_seal 69 = .ok (.iload 4, 2) := by decide +kernel
theorem dX8_seal_71 : decode cX8_seal 71 = .ok (.isub, 1) := by decide +kernel
theorem dX8_seal_72 : decode cX8_seal 72 = .ok (.i2l, 1) := by decide +kernel
theorem dX8_seal_73 : decode cX8_seal 73 = .ok (.iload_n 3, 1) := by decide +kernel
theorem dX8_seal_74 : decode cX8_seal 74 = .ok (.i2l, 1) := by decide +kernel
theorem dX8_seal_75 : decode cX8_seal 75 = .ok (.lmul, 1) := by decide +kernel
theorem dX8_seal_76 : decode cX8_seal 76 = .ok (.iload 5, 2) := by decide +kernel
theorem dX8_seal_78 : decode cX8_seal 78 = .ok (.i2l, 1) := by decide +kernel
theorem dX8_seal_79 : decode cX8_seal 79 = .ok (.lmul, 1) := by decide +kernel
theorem dX8_seal_80 : decode cX8_seal 80 = .ok (.lstore 6, 2) := by decide +kernel
theorem dX8_seal_82 : decode cX8_seal 82 = .ok (.iload_n 3, 1) := by decide +kernel
