theorem dX2_crossSquare_49 : decode cX2_crossSquare 49 = .ok (.ifCond .eq 123, 3) := by decide +kernel
theorem dX2_crossSquare_52 : decode cX2_crossSquare 52 = .ok (.aload_n 0, 1) := by decide +kernel
theorem dX2_crossSquare_53 : decode cX2_crossSquare 53 = .ok (.iload 8, 2) := by decide +kernel
theorem dX2_crossSquare_55 : decode cX2_crossSquare 55 = .ok (.invokevirtual 68, 3) := by decide +kernel
theorem dX2_crossSquare_58 : decode cX2_crossSquare 58 = .ok (.ifCond .eq 114, 3) := by decide +kernel
theorem dX2_crossSquare_61 : decode cX2_crossSquare 61 = .ok (.aload_n 0, 1) := by decide +kernel
theorem dX2_crossSquare_62 : decode cX2_crossSquare 62 = .ok (.iload 9, 2) := by decide +kernel
theorem dX2_crossSquare_64 : decode cX2_crossSquare 64 = .ok (.invokevirtual 68, 3) := by decide +kernel
theorem dX2_crossSquare_67 : decode cX2_crossSquare 67 = .ok (.ifCond .eq 105, 3) := by decide +kernel
theorem dX2_crossSquare_70 : decode cX2_crossSquare 70 = .ok (.aload_n 1, 1) := by decide +kernel
theorem dX2_crossSquare_71 : decode cX2_crossSquare 71 = .ok (.iload 5, 2) := by decide +kernel
theorem dX2_crossSquare_73 : decode cX2_crossSquare 73 = .ok (.invokevirtual 62, 3) := by decide +kernel
theorem dX2_crossSquare_76 : decode cX2_crossSquare 76 = .ok (.aload_n 1, 1) := by decide +kernel
theorem dX2_crossSquare_77 : decode cX2_crossSquare 77 = .ok (.iload 5, 2) := by decide +kernel
theorem dX2_crossSquare_79 : decode cX2_crossSquare 79 = .ok (.iconst 1, 1) := by decide +kernel
theorem dX2_crossSquare_80 : decode cX2_crossSquare 80 = .ok (.iadd, 1) := by decide +kernel
theorem dX2_crossSquare_81 : decode cX2_crossSquare 81 = .ok (.invokevirtual 62, 3) := by decide +kernel
theorem dX2_crossSquare_84 : decode cX2_crossSquare 84 = .ok (.iadd, 1) := by decide +kernel
theorem dX2_crossSquare_85 : decode cX2_crossSquare 85 = .ok (.aload_n 1, 1) := by decide +kernel
theorem dX2_crossSquare_86 : decode cX2_crossSquare 86 = .ok (.iload 5, 2) := by decide +kernel
theorem dX2_crossSquare_88 : decode cX2_crossSquare 88 = .ok (.bipush 8, 2) := by decide +kernel
theorem dX2_crossSquare_90 : decode cX2_crossSquare 90 = .ok (.iadd, 1) := by decide +kernel
theorem dX2_crossSquare_91 : decode cX2_crossSquare 91 = .ok (.invokevirtual 62, 3) := by decide +kernel
theorem dX2_crossSquare_94 : decode cX2_crossSquare 94 = .ok (.iadd, 1) := by decide +kernel
theorem dX2_crossSquare_95 : decode cX2_crossSquare 95 = .ok (.aload_n 1, 1) := by decide +kernel
theorem dX2_crossSquare_96 : decode cX2_crossSquare 96 = .ok (.iload 5, 2) := by decide +kernel
theorem dX2_crossSquare_98 : decode cX2_crossSquare 98 = .ok (.bipush 8, 2) := by decide +kernel
theorem dX2_crossSquare_100 : decode cX2_crossSquare 100 = .ok (.iadd, 1) := by decide +kernel
theorem dX2_crossSquare_101 : decode cX2_crossSquare 101 = .ok (.iconst 1, 1) := by decide +kernel
theorem dX2_crossSquare_102 : decode cX2_crossSquare 102 = .ok (.iadd, 1) := by decide +kernel
theorem dX2_crossSquare_103 : decode cX2_crossSquare 103 = .ok (.invokevirtual 62, 3) := by decide +kernel
theorem dX2_crossSquare_106 : decode cX2_crossSquare 106 = .ok (.iadd, 1) := by decide +kernel
theorem dX2_crossSquare_107 : decode cX2_crossSquare 107 = .ok (.istore 10, 2) := by decide +kernel
theorem dX2_crossSquare_109 : decode cX2_crossSquare 109 = .ok (.iload 10, 2) := by decide +kernel
theorem dX2_crossSquare_111 : decode cX2_crossSquare 111 = .ok (.iconst 4, 1) := by decide +kernel
theorem dX2_crossSquare_112 : decode cX2_crossSquare 112 = .ok (.iload_n 2, 1) := by decide +kernel
theorem dX2_crossSquare_113 : decode cX2_crossSquare 113 = .ok (.imul, 1) := by decide +kernel
theorem dX2_crossSquare_114 : decode cX2_crossSquare 114 = .ok (.if_icmp .ge 7, 3) := by decide +kernel
theorem dX2_crossSquare_117 : decode cX2_crossSquare 117 = .ok (.iconst 1, 1) := by decide +kernel
theorem dX2_crossSquare_118 : decode cX2_crossSquare 118 = .ok (.goto 4, 3) := by decide +kernel
theorem dX2_crossSquare_121 : decode cX2_crossSquare 121 = .ok (.iconst 0, 1) := by decide +kernel
theorem dX2_crossSquare_122 : decode cX2_crossSquare 122 = .ok (.istore 11, 2) := by decide +kernel
theorem dX2_crossSquare_124 : decode cX2_crossSquare 124 = .ok (.aload_n 0, 1) := by decide +kernel
theorem dX2_crossSquare_125 : decode cX2_crossSquare 125 = .ok (.getfield 9, 3) := by decide +kernel
theorem dX2_crossSquare_128 : decode cX2_crossSquare 128 = .ok (.iload 5, 2) := by decide +kernel
theorem dX2_crossSquare_130 : decode cX2_crossSquare 130 = .ok (.baload, 1) := by decide +kernel
theorem dX2_crossSquare_131 : decode cX2_crossSquare 131 = .ok (.iload 11, 2) := by decide +kernel
theorem dX2_crossSquare_133 : decode cX2_crossSquare 133 = .ok (.if_icmp .ne 22, 3) := by decide +kernel
theorem dX2_crossSquare_136 : decode cX2_crossSquare 136 = .ok (.aload_n 0, 1) := by decide +kernel
theorem dX2_crossSquare_137 : decode cX2_crossSquare 137 = .ok (.iload 6, 2) := by decide +kernel
theorem dX2_crossSquare_139 : decode cX2_crossSquare 139 = .ok (.iload 7, 2) := by decide +kernel
theorem dX2_crossSquare_141 : decode cX2_crossSquare 141 = .ok (.invokevirtual 72, 3) := by decide +kernel
theorem dX2_crossSquare_144 : decode cX2_crossSquare 144 = .ok (.aload_n 0, 1) := by decide +kernel
theorem dX2_crossSquare_145 : decode cX2_crossSquare 145 = .ok (.iload 8, 2) := by decide +kernel
theorem dX2_crossSquare_147 : decode cX2_crossSquare 147 = .ok (.iload 9, 2) := by decide +kernel
theorem dX2_crossSquare_149 : decode cX2_crossSquare 149 = .ok (.invokevirtual 72, 3) := by decide +kernel
theorem dX2_crossSquare_152 : decode cX2_crossSquare 152 = .ok (.goto 19, 3) := by decide +kernel
theorem dX2_crossSquare_155 : decode cX2_crossSquare 155 = .ok (.aload_n 0, 1) := by decide +kernel
theorem dX2_crossSquare_156 : decode cX2_crossSquare 156 = .ok (.iload 6, 2) := by decide +kernel
theorem dX2_crossSquare_158 : decode cX2_crossSquare 158 = .ok (.iload 8, 2) := by decide +kernel
theorem dX2_crossSquare_160 : decode cX2_crossSquare 160 = .ok (.invokevirtual 72, 3) := by decide +kernel
theorem dX2_crossSquare_163 : decode cX2_crossSquare 163 = .ok (.aload_n 0, 1) := by decide +kernel
theorem dX2_crossSquare_164 : decode cX2_crossSquare 164 = .ok (.iload 7, 2) := by decide +kernel
theorem dX2_crossSquare_166 : decode cX2_crossSquare 166 = .ok (.iload 9, 2) := by decide +kernel
theorem dX2_crossSquare_168 : decode cX2_crossSquare 168 = .ok (.invokevirtual 72, 3) := by decide +kernel
theorem dX2_crossSquare_171 : decode cX2_crossSquare 171 = .ok (.return_, 1) := by decide +kernel
theorem dX2_crossSquare_172 : decode cX2_crossSquare 172 = .ok (.aload_n 0, 1) := by decide +kernel
theorem dX2_crossSquare_173 : decode cX2_crossSquare 173 = .ok (.iload 6, 2) := by decide +kernel
theorem dX2_crossSquare_175 : decode cX2_crossSquare 175 = .ok (.iload 7, 2) := by decide +kernel
theorem dX2_crossSquare_177 : decode cX2_crossSquare 177 = .ok (.invokevirtual 72, 3) := by decide +kernel
theorem dX2_crossSquare_180 : decode cX2_crossSquare 180 = .ok (.aload_n 0, 1) := by decide +kernel
theorem dX2_crossSquare_181 : decode cX2_crossSquare 181 = .ok (.iload 6, 2) := by decide +kernel
theorem dX2_crossSquare_183 : decode cX2_crossSquare 183 = .ok (.iload 8, 2) := by decide +kernel
theorem dX2_crossSquare_185 : decode cX2_crossSquare 185 = .ok (.invokevirtual 72, 3) := by decide +kernel
theorem dX2_crossSquare_188 : decode cX2_crossSquare 188 = .ok (.aload_n 0, 1) := by decide +kernel
theorem dX2_crossSquare_189 : decode cX2_crossSquare 189 = .ok (.iload 6, 2) := by decide +kernel
theorem dX2_crossSquare_191 : decode cX2_crossSquare 191 = .ok (.iload 9, 2) := by decide +kernel
theorem dX2_crossSquare_193 : decode cX2_crossSquare 193 = .ok (.invokevirtual 72, 3) := by decide +kernel
theorem dX2_crossSquare_196 : decode cX2_crossSquare 196 = .ok (.aload_n 0, 1) := by decide +kernel
theorem dX2_crossSquare_197 : decode cX2_crossSquare 197 = .ok (.iload 7, 2) := by decide +kernel
theorem dX2_crossSquare_199 : decode cX2_crossSquare 199 = .ok (.iload 8, 2) := by decide +kernel
theorem dX2_crossSquare_201 : decode cX2_crossSquare 201 = .ok (.invokevirtual 72, 3) := by decide +kernel
theorem dX2_crossSquare_204 : decode cX2_crossSquare 204 = .ok (.aload_n 0, 1) := by decide +kernel
theorem dX2_crossSquare_205 : decode cX2_crossSquare 205 = .ok (.iload 7, 2) := by decide +kernel
theorem dX2_crossSquare_207 : decode cX2_crossSquare 207 = .ok (.iload 9, 2) := by decide +kernel
theorem dX2_crossSquare_209 : decode cX2_crossSquare 209 = .ok (.invokevirtual 72, 3) := by decide +kernel
theorem dX2_crossSquare_212 : decode cX2_crossSquare 212 = .ok (.aload_n 0, 1) := by decide +kernel
theorem dX2_crossSquare_213 : decode cX2_crossSquare 213 = .ok (.iload 8, 2) := by decide +kernel
theorem dX2_crossSquare_215 : decode cX2_crossSquare 215 = .ok (.iload 9, 2) := by decide +kernel
theorem dX2_crossSquare_217 : decode cX2_crossSquare 217 = .ok (.invokevirtual 72, 3) := by decide +kernel
theorem dX2_crossSquare_220 : decode cX2_crossSquare 220 = .ok (.return_, 1) := by decide +kernel
theorem dX2_isCut_0 : decode cX2_isCut 0 = .ok (.aload_n 0, 1) := by decide +kernel
theorem dX2_isCut_1 : decode cX2_isCut 1 = .ok (.getfield 15, 3) := by decide +kernel
theorem dX2_isCut_4 : decode cX2_isCut 4 = .ok (.iload_n 1, 1) := by decide +kernel
theorem dX2_isCut_5 : decode cX2_isCut 5 = .ok (.iaload, 1) := by decide +kernel
theorem dX2_isCut_6 : decode cX2_isCut 6 = .ok (.bipush (-6), 2) := by decide +kernel
theorem dX2_isCut_8 : decode cX2_isCut 8 = .ok (.if_icmp .eq 7, 3) := by decide +kernel
theorem dX2_isCut_11 : decode cX2_isCut 11 = .ok (.iconst 1, 1) := by decide +kernel
theorem dX2_isCut_12 : decode cX2_isCut 12 = .ok (.goto 4, 3) := by decide +kernel
theorem dX2_isCut_15 : decode cX2_isCut 15 = .ok (.iconst 0, 1) := by decide +kernel
theorem dX2_isCut_16 : decode cX2_isCut 16 = .ok (.ireturn, 1) := by decide +kernel
theorem dX2_join_0 : decode cX2_join 0 = .ok (.aload_n 0, 1) := by decide +kernel
theorem dX2_join_1 : decode cX2_join 1 = .ok (.iload_n 1, 1) := by decide +kernel
theorem dX2_join_2 : decode cX2_join 2 = .ok (.invokevirtual 68, 3) := by decide +kernel
theorem dX2_join_5 : decode cX2_join 5 = .ok (.ifCond .eq 41, 3) := by decide +kernel
theorem dX2_join_8 : decode cX2_join 8 = .ok (.aload_n 0, 1) := by decide +kernel
theorem dX2_join_9 : decode cX2_join 9 = .ok (.iload_n 2, 1) := by decide +kernel
theorem dX2_join_10 : decode cX2_join 10 = .ok (.invokevirtual 68, 3) := by decide +kernel
theorem dX2_join_13 : decode cX2_join 13 = .ok (.ifCond .eq 33, 3) := by decide +kernel
theorem dX2_join_16 : decode cX2_join 16 = .ok (.aload_n 0, 1) := by decide +kernel
theorem dX2_join_17 : decode cX2_join 17 = .ok (.iload_n 1, 1) := by decide +kernel
theorem dX2_join_18 : decode cX2_join 18 = .ok (.invokevirtual 76, 3) := by decide +kernel
theorem dX2_join_21 : decode cX2_join 21 = .ok (.istore_n 3, 1) := by decide +kernel
theorem dX2_join_22 : decode cX2_join 22 = .ok (.aload_n 0, 1) := by decide +kernel
theorem dX2_join_23 : decode cX2_join 23 = .ok (.iload_n 2, 1) := by decide +kernel
theorem dX2_join_24 : decode cX2_join 24 = .ok (.invokevirtual 76, 3) := by decide +kernel
theorem dX2_join_27 : decode cX2_join 27 = .ok (.istore 4, 2) := by decide +kernel
theorem dX2_join_29 : decode cX2_join 29 = .ok (.aload_n 0, 1) := by decide +kernel
theorem dX2_join_30 : decode cX2_join 30 = .ok (.getfield 15, 3) := by decide +kernel
theorem dX2_join_33 : decode cX2_join 33 = .ok (.iload_n 3, 1) := by decide +kernel
theorem dX2_join_34 : decode cX2_join 34 = .ok (.iload 4, 2) := by decide +kernel
theorem dX2_join_36 : decode cX2_join 36 = .ok (.invokestatic 79, 3) := by decide +kernel
theorem dX2_join_39 : decode cX2_join 39 = .ok (.iload_n 3, 1) := by decide +kernel
theorem dX2_join_40 : decode cX2_join 40 = .ok (.iload 4, 2) := by decide +kernel
theorem dX2_join_42 : decode cX2_join 42 = .ok (.invokestatic 85, 3) := by decide +kernel
theorem dX2_join_45 : decode cX2_join 45 = .ok (.iastore, 1) := by decide +kernel
theorem dX2_join_46 : decode cX2_join 46 = .ok (.return_, 1) := by decide +kernel
theorem dX2_leastOf_0 : decode cX2_leastOf 0 = .ok (.iload_n 1, 1) := by decide +kernel
theorem dX2_leastOf_1 : decode cX2_leastOf 1 = .ok (.istore_n 2, 1) := by decide +kernel
theorem dX2_leastOf_2 : decode cX2_leastOf 2 = .ok (.iconst 0, 1) := by decide +kernel
theorem dX2_leastOf_3 : decode cX2_leastOf 3 = .ok (.istore_n 3, 1) := by decide +kernel
theorem dX2_leastOf_4 : decode cX2_leastOf 4 = .ok (.iload_n 3, 1) := by decide +kernel
theorem dX2_leastOf_5 : decode cX2_leastOf 5 = .ok (.sipush 128, 3) := by decide +kernel
theorem dX2_leastOf_8 : decode cX2_leastOf 8 = .ok (.if_icmp .ge 26, 3) := by decide +kernel
theorem dX2_leastOf_11 : decode cX2_leastOf 11 = .ok (.aload_n 0, 1) := by decide +kernel
theorem dX2_leastOf_12 : decode cX2_leastOf 12 = .ok (.getfield 15, 3) := by decide +kernel
theorem dX2_leastOf_15 : decode cX2_leastOf 15 = .ok (.iload_n 2, 1) := by decide +kernel
theorem dX2_leastOf_16 : decode cX2_leastOf 16 = .ok (.iaload, 1) := by decide +kernel
theorem dX2_leastOf_17 : decode cX2_leastOf 17 = .ok (.iload_n 2, 1) := by decide +kernel
theorem dX2_leastOf_18 : decode cX2_leastOf 18 = .ok (.if_icmp .eq 16, 3) := by decide +kernel
theorem dX2_leastOf_21 : decode cX2_leastOf 21 = .ok (.aload_n 0, 1) := by decide +kernel
theorem dX2_leastOf_22 : decode cX2_leastOf 22 = .ok (.getfield 15, 3) := by decide +kernel
theorem dX2_leastOf_25 : decode cX2_leastOf 25 = .ok (.iload_n 2, 1) := by decide +kernel
theorem dX2_leastOf_26 : decode cX2_leastOf 26 = .ok (.iaload, 1) := by decide +kernel
theorem dX2_leastOf_27 : decode cX2_leastOf 27 = .ok (.istore_n 2, 1) := by decide +kernel
theorem dX2_leastOf_28 : decode cX2_leastOf 28 = .ok (.iinc 3 1, 3) := by decide +kernel
theorem dX2_leastOf_31 : decode cX2_leastOf 31 = .ok (.goto (-27), 3) := by decide +kernel
theorem dX2_leastOf_34 : decode cX2_leastOf 34 = .ok (.iload_n 2, 1) := by decide +kernel
theorem dX2_leastOf_35 : decode cX2_leastOf 35 = .ok (.ireturn, 1) := by decide +kernel
theorem dX2_gatherLines_0 : decode cX2_gatherLines 0 = .ok (.aload_n 0, 1) := by decide +kernel
theorem dX2_gatherLines_1 : decode cX2_gatherLines 1 = .ok (.iconst 0, 1) := by decide +kernel
theorem dX2_gatherLines_2 : decode cX2_gatherLines 2 = .ok (.putfield 31, 3) := by decide +kernel
theorem dX2_gatherLines_5 : decode cX2_gatherLines 5 = .ok (.aload_n 0, 1) := by decide +kernel
theorem dX2_gatherLines_6 : decode cX2_gatherLines 6 = .ok (.iconst 0, 1) := by decide +kernel
theorem dX2_gatherLines_7 : decode cX2_gatherLines 7 = .ok (.putfield 38, 3) := by decide +kernel
theorem dX2_gatherLines_10 : decode cX2_gatherLines 10 = .ok (.aload_n 0, 1) := by decide +kernel
theorem dX2_gatherLines_11 : decode cX2_gatherLines 11 = .ok (.iconst 0, 1) := by decide +kernel
theorem dX2_gatherLines_12 : decode cX2_gatherLines 12 = .ok (.putfield 35, 3) := by decide +kernel
theorem dX2_gatherLines_15 : decode cX2_gatherLines 15 = .ok (.iconst 0, 1) := by decide +kernel
theorem dX2_gatherLines_16 : decode cX2_gatherLines 16 = .ok (.istore_n 1, 1) := by decide +kernel
theorem dX2_gatherLines_17 : decode cX2_gatherLines 17 = .ok (.iload_n 1, 1) := by decide +kernel
theorem dX2_gatherLines_18 : decode cX2_gatherLines 18 = .ok (.sipush 128, 3) := by decide +kernel
theorem dX2_gatherLines_21 : decode cX2_gatherLines 21 = .ok (.if_icmp .ge 37, 3) := by decide +kernel
theorem dX2_gatherLines_24 : decode cX2_gatherLines 24 = .ok (.aload_n 0, 1) := by decide +kernel
theorem dX2_gatherLines_25 : decode cX2_gatherLines 25 = .ok (.iload_n 1, 1) := by decide +kernel
theorem dX2_gatherLines_26 : decode cX2_gatherLines 26 = .ok (.invokevirtual 68, 3) := by decide +kernel
theorem dX2_gatherLines_29 : decode cX2_gatherLines 29 = .ok (.ifCond .eq 23, 3) := by decide +kernel
theorem dX2_gatherLines_32 : decode cX2_gatherLines 32 = .ok (.aload_n 0, 1) := by decide +kernel
theorem dX2_gatherLines_33 : decode cX2_gatherLines 33 = .ok (.aload_n 0, 1) := by decide +kernel
theorem dX2_gatherLines_34 : decode cX2_gatherLines 34 = .ok (.iload_n 1, 1) := by decide +kernel
theorem dX2_gatherLines_35 : decode cX2_gatherLines 35 = .ok (.invokevirtual 76, 3) := by decide +kernel
theorem dX2_gatherLines_38 : decode cX2_gatherLines 38 = .ok (.iload_n 1, 1) := by decide +kernel
theorem dX2_gatherLines_39 : decode cX2_gatherLines 39 = .ok (.invokevirtual 88, 3) := by decide +kernel
theorem dX2_gatherLines_42 : decode cX2_gatherLines 42 = .ok (.aload_n 0, 1) := by decide +kernel
theorem dX2_gatherLines_43 : decode cX2_gatherLines 43 = .ok (.dup, 1) := by decide +kernel
theorem dX2_gatherLines_44 : decode cX2_gatherLines 44 = .ok (.getfield 38, 3) := by decide +kernel
theorem dX2_gatherLines_47 : decode cX2_gatherLines 47 = .ok (.iconst 1, 1) := by decide +kernel
theorem dX2_gatherLines_48 : decode cX2_gatherLines 48 = .ok (.iadd, 1) := by decide +kernel
theorem dX2_gatherLines_49 : decode cX2_gatherLines 49 = .ok (.putfield 38, 3) := by decide +kernel
theorem dX2_gatherLines_52 : decode cX2_gatherLines 52 = .ok (.iinc 1 1, 3) := by decide +kernel
theorem dX2_gatherLines_55 : decode cX2_gatherLines 55 = .ok (.goto (-38), 3) := by decide +kernel
theorem dX2_gatherLines_58 : decode cX2_gatherLines 58 = .ok (.iconst 0, 1) := by decide +kernel
theorem dX2_gatherLines_59 : decode cX2_gatherLines 59 = .ok (.istore_n 1, 1) := by decide +kernel
theorem dX2_gatherLines_60 : decode cX2_gatherLines 60 = .ok (.iload_n 1, 1) := by decide +kernel
theorem dX2_gatherLines_61 : decode cX2_gatherLines 61 = .ok (.aload_n 0, 1) := by decide +kernel
theorem dX2_gatherLines_62 : decode cX2_gatherLines 62 = .ok (.getfield 31, 3) := by decide +kernel
theorem dX2_gatherLines_65 : decode cX2_gatherLines 65 = .ok (.if_icmp .ge 33, 3) := by decide +kernel
theorem dX2_gatherLines_68 : decode cX2_gatherLines 68 = .ok (.aload_n 0, 1) := by decide +kernel
theorem dX2_gatherLines_69 : decode cX2_gatherLines 69 = .ok (.getfield 25, 3) := by decide +kernel
theorem dX2_gatherLines_72 : decode cX2_gatherLines 72 = .ok (.aload_n 0, 1) := by decide +kernel
theorem dX2_gatherLines_73 : decode cX2_gatherLines 73 = .ok (.getfield 28, 3) := by decide +kernel
theorem dX2_gatherLines_76 : decode cX2_gatherLines 76 = .ok (.iload_n 1, 1) := by decide +kernel
theorem dX2_gatherLines_77 : decode cX2_gatherLines 77 = .ok (.iaload, 1) := by decide +kernel
theorem dX2_gatherLines_78 : decode cX2_gatherLines 78 = .ok (.baload, 1) := by decide +kernel
theorem dX2_gatherLines_79 : decode cX2_gatherLines 79 = .ok (.ifCond .eq 13, 3) := by decide +kernel
theorem dX2_gatherLines_82 : decode cX2_gatherLines 82 = .ok (.aload_n 0, 1) := by decide +kernel
theorem dX2_gatherLines_83 : decode cX2_gatherLines 83 = .ok (.dup, 1) := by decide +kernel
theorem dX2_gatherLines_84 : decode cX2_gatherLines 84 = .ok (.getfield 35, 3) := by decide +kernel
theorem dX2_gatherLines_87 : decode cX2_gatherLines 87 = .ok (.iconst 1, 1) := by decide +kernel
theorem dX2_gatherLines_88 : decode cX2_gatherLines 88 = .ok (.iadd, 1) := by decide +kernel
theorem dX2_gatherLines_89 : decode cX2_gatherLines 89 = .ok (.putfield 35, 3) := by decide +kernel
theorem dX2_gatherLines_92 : decode cX2_gatherLines 92 = .ok (.iinc 1 1, 3) := by decide +kernel
theorem dX2_gatherLines_95 : decode cX2_gatherLines 95 = .ok (.goto (-35), 3) := by decide +kernel
theorem dX2_gatherLines_98 : decode cX2_gatherLines 98 = .ok (.return_, 1) := by decide +kernel
theorem dX2_addToLine_0 : decode cX2_addToLine 0 = .ok (.iload_n 2, 1) := by decide +kernel
theorem dX2_addToLine_1 : decode cX2_addToLine 1 = .ok (.iload_n 1, 1) := by decide +kernel
theorem dX2_addToLine_2 : decode cX2_addToLine 2 = .ok (.if_icmp .ne 34, 3) := by decide +kernel
theorem dX2_addToLine_5 : decode cX2_addToLine 5 = .ok (.aload_n 0, 1) := by decide +kernel
theorem dX2_addToLine_6 : decode cX2_addToLine 6 = .ok (.getfield 28, 3) := by decide +kernel
theorem dX2_addToLine_9 : decode cX2_addToLine 9 = .ok (.aload_n 0, 1) := by decide +kernel
theorem dX2_addToLine_10 : decode cX2_addToLine 10 = .ok (.dup, 1) := by decide +kernel
theorem dX2_addToLine_11 : decode cX2_addToLine 11 = .ok (.getfield 31, 3) := by decide +kernel
theorem dX2_addToLine_14 : decode cX2_addToLine 14 = .ok (.dup_x1, 1) := by decide +kernel
theorem dX2_addToLine_15 : decode cX2_addToLine 15 = .ok (.iconst 1, 1) := by decide +kernel
theorem dX2_addToLine_16 : decode cX2_addToLine 16 = .ok (.iadd, 1) := by decide +kernel
theorem dX2_addToLine_17 : decode cX2_addToLine 17 = .ok (.putfield 31, 3) := by decide +kernel
theorem dX2_addToLine_20 : decode cX2_addToLine 20 = .ok (.iload_n 1, 1) := by decide +kernel
theorem dX2_addToLine_21 : decode cX2_addToLine 21 = .ok (.iastore, 1) := by decide +kernel
theorem dX2_addToLine_22 : decode cX2_addToLine 22 = .ok (.aload_n 0, 1) := by decide +kernel
theorem dX2_addToLine_23 : decode cX2_addToLine 23 = .ok (.getfield 19, 3) := by decide +kernel
theorem dX2_addToLine_26 : decode cX2_addToLine 26 = .ok (.iload_n 1, 1) := by decide +kernel
theorem dX2_addToLine_27 : decode cX2_addToLine 27 = .ok (.iconst 0, 1) := by decide +kernel
theorem dX2_addToLine_28 : decode cX2_addToLine 28 = .ok (.iastore, 1) := by decide +kernel
theorem dX2_addToLine_29 : decode cX2_addToLine 29 = .ok (.aload_n 0, 1) := by decide +kernel
theorem dX2_addToLine_30 : decode cX2_addToLine 30 = .ok (.getfield 25, 3) := by decide +kernel
theorem dX2_addToLine_33 : decode cX2_addToLine 33 = .ok (.iload_n 1, 1) := by decide +kernel
theorem dX2_addToLine_34 : decode cX2_addToLine 34 = .ok (.iconst 1, 1) := by decide +kernel
theorem dX2_addToLine_35 : decode cX2_addToLine 35 = .ok (.bastore, 1) := by decide +kernel
theorem dX2_addToLine_36 : decode cX2_addToLine 36 = .ok (.aload_n 0, 1) := by decide +kernel
theorem dX2_addToLine_37 : decode cX2_addToLine 37 = .ok (.getfield 19, 3) := by decide +kernel
theorem dX2_addToLine_40 : decode cX2_addToLine 40 = .ok (.iload_n 1, 1) := by decide +kernel
theorem dX2_addToLine_41 : decode cX2_addToLine 41 = .ok (.dup2, 1) := by decide +kernel
theorem dX2_addToLine_42 : decode cX2_addToLine 42 = .ok (.iaload, 1) := by decide +kernel
theorem dX2_addToLine_43 : decode cX2_addToLine 43 = .ok (.iconst 1, 1) := by decide +kernel
theorem dX2_addToLine_44 : decode cX2_addToLine 44 = .ok (.iadd, 1) := by decide +kernel
theorem dX2_addToLine_45 : decode cX2_addToLine 45 = .ok (.iastore, 1) := by decide +kernel
theorem dX2_addToLine_46 : decode cX2_addToLine 46 = .ok (.aload_n 0, 1) := by decide +kernel
theorem dX2_addToLine_47 : decode cX2_addToLine 47 = .ok (.getfield 22, 3) := by decide +kernel
theorem dX2_addToLine_50 : decode cX2_addToLine 50 = .ok (.iload_n 1, 1) := by decide +kernel
theorem dX2_addToLine_51 : decode cX2_addToLine 51 = .ok (.iload_n 2, 1) := by decide +kernel
theorem dX2_addToLine_52 : decode cX2_addToLine 52 = .ok (.iastore, 1) := by decide +kernel
theorem dX2_addToLine_53 : decode cX2_addToLine 53 = .ok (.iload_n 2, 1) := by decide +kernel
theorem dX2_addToLine_54 : decode cX2_addToLine 54 = .ok (.invokestatic 91, 3) := by decide +kernel
theorem dX2_addToLine_57 : decode cX2_addToLine 57 = .ok (.ifCond .eq 10, 3) := by decide +kernel
theorem dX2_addToLine_60 : decode cX2_addToLine 60 = .ok (.aload_n 0, 1) := by decide +kernel
theorem dX2_addToLine_61 : decode cX2_addToLine 61 = .ok (.getfield 25, 3) := by decide +kernel
theorem dX2_addToLine_64 : decode cX2_addToLine 64 = .ok (.iload_n 1, 1) := by decide +kernel
theorem dX2_addToLine_65 : decode cX2_addToLine 65 = .ok (.iconst 0, 1) := by decide +kernel
theorem dX2_addToLine_66 : decode cX2_addToLine 66 = .ok (.bastore, 1) := by decide +kernel
theorem dX2_addToLine_67 : decode cX2_addToLine 67 = .ok (.return_, 1) := by decide +kernel
theorem dX2_isAtBorder_0 : decode cX2_isAtBorder 0 = .ok (.iload_n 0, 1) := by decide +kernel
theorem dX2_isAtBorder_1 : decode cX2_isAtBorder 1 = .ok (.iconst 2, 1) := by decide +kernel
theorem dX2_isAtBorder_2 : decode cX2_isAtBorder 2 = .ok (.irem, 1) := by decide +kernel
theorem dX2_isAtBorder_3 : decode cX2_isAtBorder 3 = .ok (.ifCond .ne 12, 3) := by decide +kernel
theorem dX2_isAtBorder_6 : decode cX2_isAtBorder 6 = .ok (.iload_n 0, 1) := by decide +kernel
theorem dX2_isAtBorder_7 : decode cX2_isAtBorder 7 = .ok (.iconst 2, 1) := by decide +kernel
theorem dX2_isAtBorder_8 : decode cX2_isAtBorder 8 = .ok (.idiv, 1) := by decide +kernel
theorem dX2_isAtBorder_9 : decode cX2_isAtBorder 9 = .ok (.bipush 8, 2) := by decide +kernel
theorem dX2_isAtBorder_11 : decode cX2_isAtBorder 11 = .ok (.idiv, 1) := by decide +kernel
theorem dX2_isAtBorder_12 : decode cX2_isAtBorder 12 = .ok (.goto 9, 3) := by decide +kernel
theorem dX2_isAtBorder_15 : decode cX2_isAtBorder 15 = .ok (.iload_n 0, 1) := by decide +kernel
theorem dX2_isAtBorder_16 : decode cX2_isAtBorder 16 = .ok (.iconst 2, 1) := by decide +kernel
theorem dX2_isAtBorder_17 : decode cX2_isAtBorder 17 = .ok (.idiv, 1) := by decide +kernel
theorem dX2_isAtBorder_18 : decode cX2_isAtBorder 18 = .ok (.bipush 8, 2) := by decide +kernel
theorem dX2_isAtBorder_20 : decode cX2_isAtBorder 20 = .ok (.irem, 1) := by decide +kernel
theorem dX2_isAtBorder_21 : decode cX2_isAtBorder 21 = .ok (.istore_n 1, 1) := by decide +kernel
theorem dX2_isAtBorder_22 : decode cX2_isAtBorder 22 = .ok (.iload_n 1, 1) := by decide +kernel
theorem dX2_isAtBorder_23 : decode cX2_isAtBorder 23 = .ok (.ifCond .eq 9, 3) := by decide +kernel
theorem dX2_isAtBorder_26 : decode cX2_isAtBorder 26 = .ok (.iload_n 1, 1) := by decide +kernel
theorem dX2_isAtBorder_27 : decode cX2_isAtBorder 27 = .ok (.bipush 7, 2) := by decide +kernel
theorem dX2_isAtBorder_29 : decode cX2_isAtBorder 29 = .ok (.if_icmp .ne 7, 3) := by decide +kernel
theorem dX2_isAtBorder_32 : decode cX2_isAtBorder 32 = .ok (.iconst 1, 1) := by decide +kernel
theorem dX2_isAtBorder_33 : decode cX2_isAtBorder 33 = .ok (.goto 4, 3) := by decide +kernel
theorem dX2_isAtBorder_36 : decode cX2_isAtBorder 36 = .ok (.iconst 0, 1) := by decide +kernel
theorem dX2_isAtBorder_37 : decode cX2_isAtBorder 37 = .ok (.ireturn, 1) := by decide +kernel
theorem dX3_init_0 : decode cX3_init 0 = .ok (.aload_n 0, 1) := by decide +kernel
theorem dX3_init_1 : decode cX3_init 1 = .ok (.invokespecial 3, 3) := by decide +kernel
theorem dX3_init_4 : decode cX3_init 4 = .ok (.aload_n 0, 1) := by decide +kernel
theorem dX3_init_5 : decode cX3_init 5 = .ok (.bipush 48, 2) := by decide +kernel
theorem dX3_init_7 : decode cX3_init 7 = .ok (.newarray .int, 2) := by decide +kernel
theorem dX3_init_9 : decode cX3_init 9 = .ok (.putfield 9, 3) := by decide +kernel
theorem dX3_init_12 : decode cX3_init 12 = .ok (.aload_n 0, 1) := by decide +kernel
theorem dX3_init_13 : decode cX3_init 13 = .ok (.bipush 48, 2) := by decide +kernel
theorem dX3_init_15 : decode cX3_init 15 = .ok (.newarray .int, 2) := by decide +kernel
theorem dX3_init_17 : decode cX3_init 17 = .ok (.putfield 15, 3) := by decide +kernel
theorem dX3_init_20 : decode cX3_init 20 = .ok (.aload_n 0, 1) := by decide +kernel
theorem dX3_init_21 : decode cX3_init 21 = .ok (.iconst 0, 1) := by decide +kernel
theorem dX3_init_22 : decode cX3_init 22 = .ok (.putfield 18, 3) := by decide +kernel
theorem dX3_init_25 : decode cX3_init 25 = .ok (.aload_n 0, 1) := by decide +kernel
theorem dX3_init_26 : decode cX3_init 26 = .ok (.iconst 0, 1) := by decide +kernel
theorem dX3_init_27 : decode cX3_init 27 = .ok (.putfield 22, 3) := by decide +kernel
theorem dX3_init_30 : decode cX3_init 30 = .ok (.aload_n 0, 1) := by decide +kernel
theorem dX3_init_31 : decode cX3_init 31 = .ok (.lconst 0, 1) := by decide +kernel
theorem dX3_init_32 : decode cX3_init 32 = .ok (.putfield 25, 3) := by decide +kernel
theorem dX3_init_35 : decode cX3_init 35 = .ok (.aload_n 0, 1) := by decide +kernel
theorem dX3_init_36 : decode cX3_init 36 = .ok (.lconst 1, 1) := by decide +kernel
theorem dX3_init_37 : decode cX3_init 37 = .ok (.putfield 29, 3) := by decide +kernel
theorem dX3_init_40 : decode cX3_init 40 = .ok (.return_, 1) := by decide +kernel
theorem dX3_hour_0 : decode cX3_hour 0 = .ok (.aload_n 0, 1) := by decide +kernel
theorem dX3_hour_1 : decode cX3_hour 1 = .ok (.getfield 22, 3) := by decide +kernel
theorem dX3_hour_4 : decode cX3_hour 4 = .ok (.ireturn, 1) := by decide +kernel
theorem dX3_top_0 : decode cX3_top 0 = .ok (.aload_n 0, 1) := by decide +kernel
theorem dX3_top_1 : decode cX3_top 1 = .ok (.getfield 25, 3) := by decide +kernel
theorem dX3_top_4 : decode cX3_top 4 = .ok (.lreturn, 1) := by decide +kernel
theorem dX3_bottom_0 : decode cX3_bottom 0 = .ok (.aload_n 0, 1) := by decide +kernel
theorem dX3_bottom_1 : decode cX3_bottom 1 = .ok (.getfield 29, 3) := by decide +kernel
theorem dX3_bottom_4 : decode cX3_bottom 4 = .ok (.lreturn, 1) := by decide +kernel
theorem dX3_compare_0 : decode cX3_compare 0 = .ok (.aload_n 0, 1) := by decide +kernel
theorem dX3_compare_1 : decode cX3_compare 1 = .ok (.iconst 0, 1) := by decide +kernel
theorem dX3_compare_2 : decode cX3_compare 2 = .ok (.putfield 18, 3) := by decide +kernel
theorem dX3_compare_5 : decode cX3_compare 5 = .ok (.iconst 0, 1) := by decide +kernel
theorem dX3_compare_6 : decode cX3_compare 6 = .ok (.istore_n 3, 1) := by decide +kernel
theorem dX3_compare_7 : decode cX3_compare 7 = .ok (.iload_n 3, 1) := by decide +kernel
theorem dX3_compare_8 : decode cX3_compare 8 = .ok (.bipush 48, 2) := by decide +kernel
theorem dX3_compare_10 : decode cX3_compare 10 = .ok (.if_icmp .ge 60, 3) := by decide +kernel
theorem dX3_compare_13 : decode cX3_compare 13 = .ok (.aload_n 1, 1) := by decide +kernel
theorem dX3_compare_14 : decode cX3_compare 14 = .ok (.iload_n 3, 1) := by decide +kernel
theorem dX3_compare_15 : decode cX3_compare 15 = .ok (.invokevirtual 32, 3) := by decide +kernel
theorem dX3_compare_18 : decode cX3_compare 18 = .ok (.pop, 1) := by decide +kernel
theorem dX3_compare_19 : decode cX3_compare 19 = .ok (.aload_n 1, 1) := by decide +kernel
theorem dX3_compare_20 : decode cX3_compare 20 = .ok (.iload_n 2, 1) := by decide +kernel
theorem dX3_compare_21 : decode cX3_compare 21 = .ok (.invokevirtual 38, 3) := by decide +kernel
theorem dX3_compare_24 : decode cX3_compare 24 = .ok (.istore 4, 2) := by decide +kernel
theorem dX3_compare_26 : decode cX3_compare 26 = .ok (.iload 4, 2) := by decide +kernel
theorem dX3_compare_28 : decode cX3_compare 28 = .ok (.ldc 42, 2) := by decide +kernel
theorem dX3_compare_30 : decode cX3_compare 30 = .ok (.if_icmp .eq 34, 3) := by decide +kernel
theorem dX3_compare_33 : decode cX3_compare 33 = .ok (.aload_n 0, 1) := by decide +kernel
theorem dX3_compare_34 : decode cX3_compare 34 = .ok (.getfield 9, 3) := by decide +kernel
theorem dX3_compare_37 : decode cX3_compare 37 = .ok (.aload_n 0, 1) := by decide +kernel
theorem dX3_compare_38 : decode cX3_compare 38 = .ok (.getfield 18, 3) := by decide +kernel
theorem dX3_compare_41 : decode cX3_compare 41 = .ok (.iload_n 3, 1) := by decide +kernel
theorem dX3_compare_42 : decode cX3_compare 42 = .ok (.iastore, 1) := by decide +kernel
theorem dX3_compare_43 : decode cX3_compare 43 = .ok (.aload_n 0, 1) := by decide +kernel
theorem dX3_compare_44 : decode cX3_compare 44 = .ok (.getfield 15, 3) := by decide +kernel
theorem dX3_compare_47 : decode cX3_compare 47 = .ok (.aload_n 0, 1) := by decide +kernel
theorem dX3_compare_48 : decode cX3_compare 48 = .ok (.getfield 18, 3) := by decide +kernel
theorem dX3_compare_51 : decode cX3_compare 51 = .ok (.iload 4, 2) := by decide +kernel
theorem dX3_compare_53 : decode cX3_compare 53 = .ok (.iastore, 1) := by decide +kernel
theorem dX3_compare_54 : decode cX3_compare 54 = .ok (.aload_n 0, 1) := by decide +kernel
theorem dX3_compare_55 : decode cX3_compare 55 = .ok (.dup, 1) := by decide +kernel
theorem dX3_compare_56 : decode cX3_compare 56 = .ok (.getfield 18, 3) := by decide +kernel
theorem dX3_compare_59 : decode cX3_compare 59 = .ok (.iconst 1, 1) := by decide +kernel
theorem dX3_compare_60 : decode cX3_compare 60 = .ok (.iadd, 1) := by decide +kernel
theorem dX3_compare_61 : decode cX3_compare 61 = .ok (.putfield 18, 3) := by decide +kernel
theorem dX3_compare_64 : decode cX3_compare 64 = .ok (.iinc 3 1, 3) := by decide +kernel
theorem dX3_compare_67 : decode cX3_compare 67 = .ok (.goto (-60), 3) := by decide +kernel
theorem dX3_compare_70 : decode cX3_compare 70 = .ok (.return_, 1) := by decide +kernel
theorem dX3_search_0 : decode cX3_search 0 = .ok (.lconst 0, 1) := by decide +kernel
theorem dX3_search_1 : decode cX3_search 1 = .ok (.lstore_n 1, 1) := by decide +kernel
theorem dX3_search_2 : decode cX3_search 2 = .ok (.iconst 0, 1) := by decide +kernel
theorem dX3_search_3 : decode cX3_search 3 = .ok (.istore_n 3, 1) := by decide +kernel
theorem dX3_search_4 : decode cX3_search 4 = .ok (.iload_n 3, 1) := by decide +kernel
theorem dX3_search_5 : decode cX3_search 5 = .ok (.aload_n 0, 1) := by decide +kernel
theorem dX3_search_6 : decode cX3_search 6 = .ok (.getfield 18, 3) := by decide +kernel
theorem dX3_search_9 : decode cX3_search 9 = .ok (.if_icmp .ge 19, 3) := by decide +kernel
theorem dX3_search_12 : decode cX3_search 12 = .ok (.lload_n 1, 1) := by decide +kernel
theorem dX3_search_13 : decode cX3_search 13 = .ok (.aload_n 0, 1) := by decide +kernel
theorem dX3_search_14 : decode cX3_search 14 = .ok (.getfield 15, 3) := by decide +kernel
theorem dX3_search_17 : decode cX3_search 17 = .ok (.iload_n 3, 1) := by decide +kernel
theorem dX3_search_18 : decode cX3_search 18 = .ok (.iaload, 1) := by decide +kernel
theorem dX3_search_19 : decode cX3_search 19 = .ok (.i2l, 1) := by decide +kernel
theorem dX3_search_20 : decode cX3_search 20 = .ok (.ladd, 1) := by decide +kernel
theorem dX3_search_21 : decode cX3_search 21 = .ok (.lstore_n 1, 1) := by decide +kernel
theorem dX3_search_22 : decode cX3_search 22 = .ok (.iinc 3 1, 3) := by decide +kernel
theorem dX3_search_25 : decode cX3_search 25 = .ok (.goto (-21), 3) := by decide +kernel
theorem dX3_search_28 : decode cX3_search 28 = .ok (.lconst 0, 1) := by decide +kernel
theorem dX3_search_29 : decode cX3_search 29 = .ok (.lstore_n 3, 1) := by decide +kernel
theorem dX3_search_30 : decode cX3_search 30 = .ok (.iconst 0, 1) := by decide +kernel
theorem dX3_search_31 : decode cX3_search 31 = .ok (.istore 5, 2) := by decide +kernel
theorem dX3_search_33 : decode cX3_search 33 = .ok (.iconst 0, 1) := by decide +kernel
theorem dX3_search_34 : decode cX3_search 34 = .ok (.istore 6, 2) := by decide +kernel
theorem dX3_search_36 : decode cX3_search 36 = .ok (.iload 6, 2) := by decide +kernel
theorem dX3_search_38 : decode cX3_search 38 = .ok (.aload_n 0, 1) := by decide +kernel
theorem dX3_search_39 : decode cX3_search 39 = .ok (.getfield 18, 3) := by decide +kernel
theorem dX3_search_42 : decode cX3_search 42 = .ok (.if_icmp .ge 92, 3) := by decide +kernel
theorem dX3_search_45 : decode cX3_search 45 = .ok (.iload 6, 2) := by decide +kernel
theorem dX3_search_47 : decode cX3_search 47 = .ok (.iconst 2, 1) := by decide +kernel
theorem dX3_search_48 : decode cX3_search 48 = .ok (.if_icmp .lt 58, 3) := by decide +kernel
theorem dX3_search_51 : decode cX3_search 51 = .ok (.aload_n 0, 1) := by decide +kernel
theorem dX3_search_52 : decode cX3_search 52 = .ok (.getfield 18, 3) := by decide +kernel
theorem dX3_search_55 : decode cX3_search 55 = .ok (.iload 6, 2) := by decide +kernel
theorem dX3_search_57 : decode cX3_search 57 = .ok (.isub, 1) := by decide +kernel
theorem dX3_search_58 : decode cX3_search 58 = .ok (.iconst 2, 1) := by decide +kernel
theorem dX3_search_59 : decode cX3_search 59 = .ok (.if_icmp .lt 47, 3) := by decide +kernel
theorem dX3_search_62 : decode cX3_search 62 = .ok (.aload_n 0, 1) := by decide +kernel
theorem dX3_search_63 : decode cX3_search 63 = .ok (.iload 5, 2) := by decide +kernel
theorem dX3_search_65 : decode cX3_search 65 = .ok (.aload_n 0, 1) := by decide +kernel
theorem dX3_search_66 : decode cX3_search 66 = .ok (.getfield 9, 3) := by decide +kernel
theorem dX3_search_69 : decode cX3_search 69 = .ok (.iload 6, 2) := by decide +kernel
theorem dX3_search_71 : decode cX3_search 71 = .ok (.iaload, 1) := by decide +kernel
theorem dX3_search_72 : decode cX3_search 72 = .ok (.lload_n 1, 1) := by decide +kernel
theorem dX3_search_73 : decode cX3_search 73 = .ok (.iload 6, 2) := by decide +kernel
theorem dX3_search_75 : decode cX3_search 75 = .ok (.i2l, 1) := by decide +kernel
theorem dX3_search_76 : decode cX3_search 76 = .ok (.lmul, 1) := by decide +kernel
theorem dX3_search_77 : decode cX3_search 77 = .ok (.lload_n 3, 1) := by decide +kernel
theorem dX3_search_78 : decode cX3_search 78 = .ok (.aload_n 0, 1) := by decide +kernel
theorem dX3_search_79 : decode cX3_search 79 = .ok (.getfield 18, 3) := by decide +kernel
theorem dX3_search_82 : decode cX3_search 82 = .ok (.iload 6, 2) := by decide +kernel
theorem dX3_search_84 : decode cX3_search 84 = .ok (.isub, 1) := by decide +kernel
theorem dX3_search_85 : decode cX3_search 85 = .ok (.i2l, 1) := by decide +kernel
theorem dX3_search_86 : decode cX3_search 86 = .ok (.lmul, 1) := by decide +kernel
theorem dX3_search_87 : decode cX3_search 87 = .ok (.lsub, 1) := by decide +kernel
theorem dX3_search_88 : decode cX3_search 88 = .ok (.iload 6, 2) := by decide +kernel
theorem dX3_search_90 : decode cX3_search 90 = .ok (.i2l, 1) := by decide +kernel
theorem dX3_search_91 : decode cX3_search 91 = .ok (.aload_n 0, 1) := by decide +kernel
theorem dX3_search_92 : decode cX3_search 92 = .ok (.getfield 18, 3) := by decide +kernel
theorem dX3_search_95 : decode cX3_search 95 = .ok (.iload 6, 2) := by decide +kernel
theorem dX3_search_97 : decode cX3_search 97 = .ok (.isub, 1) := by decide +kernel
theorem dX3_search_98 : decode cX3_search 98 = .ok (.i2l, 1) := by decide +kernel
theorem dX3_search_99 : decode cX3_search 99 = .ok (.lmul, 1) := by decide +kernel
theorem dX3_search_100 : decode cX3_search 100 = .ok (.invokevirtual 43, 3) := by decide +kernel
theorem dX3_search_103 : decode cX3_search 103 = .ok (.iconst 1, 1) := by decide +kernel
theorem dX3_search_104 : decode cX3_search 104 = .ok (.istore 5, 2) := by decide +kernel
theorem dX3_search_106 : decode cX3_search 106 = .ok (.lload_n 3, 1) := by decide +kernel
theorem dX3_search_107 : decode cX3_search 107 = .ok (.aload_n 0, 1) := by decide +kernel
theorem dX3_search_108 : decode cX3_search 108 = .ok (.getfield 15, 3) := by decide +kernel
theorem dX3_search_111 : decode cX3_search 111 = .ok (.iload 6, 2) := by decide +kernel
theorem dX3_search_113 : decode cX3_search 113 = .ok (.iaload, 1) := by decide +kernel
theorem dX3_search_114 : decode cX3_search 114 = .ok (.i2l, 1) := by decide +kernel
theorem dX3_search_115 : decode cX3_search 115 = .ok (.ladd, 1) := by decide +kernel
theorem dX3_search_116 : decode cX3_search 116 = .ok (.lstore_n 3, 1) := by decide +kernel
theorem dX3_search_117 : decode cX3_search 117 = .ok (.lload_n 1, 1) := by decide +kernel
theorem dX3_search_118 : decode cX3_search 118 = .ok (.aload_n 0, 1) := by decide +kernel
theorem dX3_search_119 : decode cX3_search 119 = .ok (.getfield 15, 3) := by decide +kernel
theorem dX3_search_122 : decode cX3_search 122 = .ok (.iload 6, 2) := by decide +kernel
theorem dX3_search_124 : decode cX3_search 124 = .ok (.iaload, 1) := by decide +kernel
theorem dX3_search_125 : decode cX3_search 125 = .ok (.i2l, 1) := by decide +kernel
theorem dX3_search_126 : decode cX3_search 126 = .ok (.lsub, 1) := by decide +kernel
theorem dX3_search_127 : decode cX3_search 127 = .ok (.lstore_n 1, 1) := by decide +kernel
theorem dX3_search_128 : decode cX3_search 128 = .ok (.iinc 6 1, 3) := by decide +kernel
theorem dX3_search_131 : decode cX3_search 131 = .ok (.goto (-95), 3) := by decide +kernel
theorem dX3_search_134 : decode cX3_search 134 = .ok (.iload 5, 2) := by decide +kernel
theorem dX3_search_136 : decode cX3_search 136 = .ok (.ireturn, 1) := by decide +kernel
theorem dX3_take_0 : decode cX3_take 0 = .ok (.iload_n 1, 1) := by decide +kernel
theorem dX3_take_1 : decode cX3_take 1 = .ok (.ifCond .eq 26, 3) := by decide +kernel
theorem dX3_take_4 : decode cX3_take 4 = .ok (.lload_n 3, 1) := by decide +kernel
theorem dX3_take_5 : decode cX3_take 5 = .ok (.invokestatic 47, 3) := by decide +kernel
theorem dX3_take_8 : decode cX3_take 8 = .ok (.aload_n 0, 1) := by decide +kernel
theorem dX3_take_9 : decode cX3_take 9 = .ok (.getfield 29, 3) := by decide +kernel
theorem dX3_take_12 : decode cX3_take 12 = .ok (.lmul, 1) := by decide +kernel
theorem dX3_take_13 : decode cX3_take 13 = .ok (.aload_n 0, 1) := by decide +kernel
theorem dX3_take_14 : decode cX3_take 14 = .ok (.getfield 25, 3) := by decide +kernel
theorem dX3_take_17 : decode cX3_take 17 = .ok (.invokestatic 47, 3) := by decide +kernel
theorem dX3_take_20 : decode cX3_take 20 = .ok (.lload 5, 2) := by decide +kernel
theorem dX3_take_22 : decode cX3_take 22 = .ok (.lmul, 1) := by decide +kernel
theorem dX3_take_23 : decode cX3_take 23 = .ok (.lcmp, 1) := by decide +kernel
theorem dX3_take_24 : decode cX3_take 24 = .ok (.ifCond .le 19, 3) := by decide +kernel
theorem dX3_take_27 : decode cX3_take 27 = .ok (.aload_n 0, 1) := by decide +kernel
theorem dX3_take_28 : decode cX3_take 28 = .ok (.iload_n 2, 1) := by decide +kernel
theorem dX3_take_29 : decode cX3_take 29 = .ok (.putfield 22, 3) := by decide +kernel
theorem dX3_take_32 : decode cX3_take 32 = .ok (.aload_n 0, 1) := by decide +kernel
theorem dX3_take_33 : decode cX3_take 33 = .ok (.lload_n 3, 1) := by decide +kernel
theorem dX3_take_34 : decode cX3_take 34 = .ok (.putfield 25, 3) := by decide +kernel
theorem dX3_take_37 : decode cX3_take 37 = .ok (.aload_n 0, 1) := by decide +kernel
theorem dX3_take_38 : decode cX3_take 38 = .ok (.lload 5, 2) := by decide +kernel
theorem dX3_take_40 : decode cX3_take 40 = .ok (.putfield 29, 3) := by decide +kernel
theorem dX3_take_43 : decode cX3_take 43 = .ok (.return_, 1) := by decide +kernel
theorem dX4_init_0 : decode cX4_init 0 = .ok (.aload_n 0, 1) := by decide +kernel
theorem dX4_init_1 : decode cX4_init 1 = .ok (.invokespecial 3, 3) := by decide +kernel
theorem dX4_init_4 : decode cX4_init 4 = .ok (.aload_n 0, 1) := by decide +kernel
theorem dX4_init_5 : decode cX4_init 5 = .ok (.getstatic 9, 3) := by decide +kernel
theorem dX4_init_8 : decode cX4_init 8 = .ok (.invokevirtual 15, 3) := by decide +kernel
theorem dX4_init_11 : decode cX4_init 11 = .ok (.checkcast 16, 3) := by decide +kernel
theorem dX4_init_14 : decode cX4_init 14 = .ok (.putfield 20, 3) := by decide +kernel
theorem dX4_init_17 : decode cX4_init 17 = .ok (.aload_n 0, 1) := by decide +kernel
theorem dX4_init_18 : decode cX4_init 18 = .ok (.lconst 0, 1) := by decide +kernel
theorem dX4_init_19 : decode cX4_init 19 = .ok (.putfield 23, 3) := by decide +kernel
theorem dX4_init_22 : decode cX4_init 22 = .ok (.aload_n 0, 1) := by decide +kernel
theorem dX4_init_23 : decode cX4_init 23 = .ok (.lconst 1, 1) := by decide +kernel
theorem dX4_init_24 : decode cX4_init 24 = .ok (.putfield 27, 3) := by decide +kernel
theorem dX4_init_27 : decode cX4_init 27 = .ok (.return_, 1) := by decide +kernel
theorem dX4_hasNumber_0 : decode cX4_hasNumber 0 = .ok (.iload_n 0, 1) := by decide +kernel
theorem dX4_hasNumber_1 : decode cX4_hasNumber 1 = .ok (.iconst 0, 1) := by decide +kernel
theorem dX4_hasNumber_2 : decode cX4_hasNumber 2 = .ok (.getstatic 9, 3) := by decide +kernel
theorem dX4_hasNumber_5 : decode cX4_hasNumber 5 = .ok (.arraylength, 1) := by decide +kernel
theorem dX4_hasNumber_6 : decode cX4_hasNumber 6 = .ok (.iconst 1, 1) := by decide +kernel
theorem dX4_hasNumber_7 : decode cX4_hasNumber 7 = .ok (.isub, 1) := by decide +kernel
theorem dX4_hasNumber_8 : decode cX4_hasNumber 8 = .ok (.invokestatic 30, 3) := by decide +kernel
theorem dX4_hasNumber_11 : decode cX4_hasNumber 11 = .ok (.ireturn, 1) := by decide +kernel
theorem dX4_allows_0 : decode cX4_allows 0 = .ok (.iload_n 1, 1) := by decide +kernel
theorem dX4_allows_1 : decode cX4_allows 1 = .ok (.getstatic 34, 3) := by decide +kernel
theorem dX4_allows_4 : decode cX4_allows 4 = .ok (.iload_n 0, 1) := by decide +kernel
theorem dX4_allows_5 : decode cX4_allows 5 = .ok (.iaload, 1) := by decide +kernel
theorem dX4_allows_6 : decode cX4_allows 6 = .ok (.getstatic 37, 3) := by decide +kernel
theorem dX4_allows_9 : decode cX4_allows 9 = .ok (.iload_n 0, 1) := by decide +kernel
theorem dX4_allows_10 : decode cX4_allows 10 = .ok (.iaload, 1) := by decide +kernel
theorem dX4_allows_11 : decode cX4_allows 11 = .ok (.invokestatic 30, 3) := by decide +kernel
theorem dX4_allows_14 : decode cX4_allows 14 = .ok (.ireturn, 1) := by decide +kernel
theorem dX4_number_0 : decode cX4_number 0 = .ok (.aload_n 0, 1) := by decide +kernel
theorem dX4_number_1 : decode cX4_number 1 = .ok (.getfield 20, 3) := by decide +kernel
theorem dX4_number_4 : decode cX4_number 4 = .ok (.iload_n 1, 1) := by decide +kernel
theorem dX4_number_5 : decode cX4_number 5 = .ok (.iaload, 1) := by decide +kernel
theorem dX4_number_6 : decode cX4_number 6 = .ok (.ireturn, 1) := by decide +kernel
theorem dX4_putNumber_0 : decode cX4_putNumber 0 = .ok (.aload_n 0, 1) := by decide +kernel
theorem dX4_putNumber_1 : decode cX4_putNumber 1 = .ok (.getfield 20, 3) := by decide +kernel
theorem dX4_putNumber_4 : decode cX4_putNumber 4 = .ok (.iload_n 1, 1) := by decide +kernel
theorem dX4_putNumber_5 : decode cX4_putNumber 5 = .ok (.iload_n 2, 1) := by decide +kernel
theorem dX4_putNumber_6 : decode cX4_putNumber 6 = .ok (.iastore, 1) := by decide +kernel
theorem dX4_putNumber_7 : decode cX4_putNumber 7 = .ok (.return_, 1) := by decide +kernel
theorem dX4_findAir_0 : decode cX4_findAir 0 = .ok (.iload_n 1, 1) := by decide +kernel
theorem dX4_findAir_1 : decode cX4_findAir 1 = .ok (.iload_n 3, 1) := by decide +kernel
theorem dX4_findAir_2 : decode cX4_findAir 2 = .ok (.isub, 1) := by decide +kernel
theorem dX4_findAir_3 : decode cX4_findAir 3 = .ok (.i2l, 1) := by decide +kernel
theorem dX4_findAir_4 : decode cX4_findAir 4 = .ok (.iload_n 2, 1) := by decide +kernel
theorem dX4_findAir_5 : decode cX4_findAir 5 = .ok (.i2l, 1) := by decide +kernel
theorem dX4_findAir_6 : decode cX4_findAir 6 = .ok (.lmul, 1) := by decide +kernel
theorem dX4_findAir_7 : decode cX4_findAir 7 = .ok (.iload 4, 2) := by decide +kernel
theorem dX4_findAir_9 : decode cX4_findAir 9 = .ok (.i2l, 1) := by decide +kernel
theorem dX4_findAir_10 : decode cX4_findAir 10 = .ok (.lmul, 1) := by decide +kernel
theorem dX4_findAir_11 : decode cX4_findAir 11 = .ok (.lstore 5, 2) := by decide +kernel
theorem dX4_findAir_13 : decode cX4_findAir 13 = .ok (.iload_n 2, 1) := by decide +kernel
theorem dX4_findAir_14 : decode cX4_findAir 14 = .ok (.iload 4, 2) := by decide +kernel
theorem dX4_findAir_16 : decode cX4_findAir 16 = .ok (.if_icmp .ge 8, 3) := by decide +kernel
theorem dX4_findAir_19 : decode cX4_findAir 19 = .ok (.lload 5, 2) := by decide +kernel
theorem dX4_findAir_21 : decode cX4_findAir 21 = .ok (.lneg, 1) := by decide +kernel
theorem dX4_findAir_22 : decode cX4_findAir 22 = .ok (.lstore 5, 2) := by decide +kernel
theorem dX4_findAir_24 : decode cX4_findAir 24 = .ok (.lload 5, 2) := by decide +kernel
theorem dX4_findAir_26 : decode cX4_findAir 26 = .ok (.lconst 0, 1) := by decide +kernel
theorem dX4_findAir_27 : decode cX4_findAir 27 = .ok (.lcmp, 1) := by decide +kernel
theorem dX4_findAir_28 : decode cX4_findAir 28 = .ok (.ifCond .ge 6, 3) := by decide +kernel
theorem dX4_findAir_31 : decode cX4_findAir 31 = .ok (.bipush (-5), 2) := by decide +kernel
theorem dX4_findAir_33 : decode cX4_findAir 33 = .ok (.ireturn, 1) := by decide +kernel
theorem dX4_findAir_34 : decode cX4_findAir 34 = .ok (.aload_n 0, 1) := by decide +kernel
theorem dX4_findAir_35 : decode cX4_findAir 35 = .ok (.lload 5, 2) := by decide +kernel
theorem dX4_findAir_37 : decode cX4_findAir 37 = .ok (.putfield 23, 3) := by decide +kernel
theorem dX4_findAir_40 : decode cX4_findAir 40 = .ok (.aload_n 0, 1) := by decide +kernel
theorem dX4_findAir_41 : decode cX4_findAir 41 = .ok (.iload_n 2, 1) := by decide +kernel
theorem dX4_findAir_42 : decode cX4_findAir 42 = .ok (.iload 4, 2) := by decide +kernel
theorem dX4_findAir_44 : decode cX4_findAir 44 = .ok (.isub, 1) := by decide +kernel
theorem dX4_findAir_45 : decode cX4_findAir 45 = .ok (.invokestatic 40, 3) := by decide +kernel
theorem dX4_findAir_48 : decode cX4_findAir 48 = .ok (.i2l, 1) := by decide +kernel
theorem dX4_findAir_49 : decode cX4_findAir 49 = .ok (.putfield 27, 3) := by decide +kernel
theorem dX4_findAir_52 : decode cX4_findAir 52 = .ok (.lload 5, 2) := by decide +kernel
theorem dX4_findAir_54 : decode cX4_findAir 54 = .ok (.lconst 0, 1) := by decide +kernel
theorem dX4_findAir_55 : decode cX4_findAir 55 = .ok (.lcmp, 1) := by decide +kernel
theorem dX4_findAir_56 : decode cX4_findAir 56 = .ok (.ifCond .le 7, 3) := by decide +kernel
theorem dX4_findAir_59 : decode cX4_findAir 59 = .ok (.iconst 1, 1) := by decide +kernel
theorem dX4_findAir_60 : decode cX4_findAir 60 = .ok (.goto 4, 3) := by decide +kernel
theorem dX4_findAir_63 : decode cX4_findAir 63 = .ok (.iconst 0, 1) := by decide +kernel
theorem dX4_findAir_64 : decode cX4_findAir 64 = .ok (.ireturn, 1) := by decide +kernel
theorem dX4_airPart_0 : decode cX4_airPart 0 = .ok (.aload_n 0, 1) := by decide +kernel
theorem dX4_airPart_1 : decode cX4_airPart 1 = .ok (.getfield 23, 3) := by decide +kernel
theorem dX4_airPart_4 : decode cX4_airPart 4 = .ok (.aload_n 0, 1) := by decide +kernel
theorem dX4_airPart_5 : decode cX4_airPart 5 = .ok (.getfield 27, 3) := by decide +kernel
theorem dX4_airPart_8 : decode cX4_airPart 8 = .ok (.iload_n 1, 1) := by decide +kernel
theorem dX4_airPart_9 : decode cX4_airPart 9 = .ok (.invokestatic 46, 3) := by decide +kernel
theorem dX4_airPart_12 : decode cX4_airPart 12 = .ok (.lreturn, 1) := by decide +kernel
theorem dX4_corrected_0 : decode cX4_corrected 0 = .ok (.iload_n 1, 1) := by decide +kernel
theorem dX4_corrected_1 : decode cX4_corrected 1 = .ok (.aload_n 0, 1) := by decide +kernel
theorem dX4_corrected_2 : decode cX4_corrected 2 = .ok (.getfield 20, 3) := by decide +kernel
theorem dX4_corrected_5 : decode cX4_corrected 5 = .ok (.iconst 0, 1) := by decide +kernel
theorem dX4_corrected_6 : decode cX4_corrected 6 = .ok (.iaload, 1) := by decide +kernel
theorem dX4_corrected_7 : decode cX4_corrected 7 = .ok (.iadd, 1) := by decide +kernel
theorem dX4_corrected_8 : decode cX4_corrected 8 = .ok (.i2l, 1) := by decide +kernel
theorem dX4_corrected_9 : decode cX4_corrected 9 = .ok (.lstore_n 3, 1) := by decide +kernel
theorem dX4_corrected_10 : decode cX4_corrected 10 = .ok (.lload_n 3, 1) := by decide +kernel
theorem dX4_corrected_11 : decode cX4_corrected 11 = .ok (.lload_n 3, 1) := by decide +kernel
theorem dX4_corrected_12 : decode cX4_corrected 12 = .ok (.aload_n 0, 1) := by decide +kernel
theorem dX4_corrected_13 : decode cX4_corrected 13 = .ok (.getfield 20, 3) := by decide +kernel
theorem dX4_corrected_16 : decode cX4_corrected 16 = .ok (.iconst 2, 1) := by decide +kernel
theorem dX4_corrected_17 : decode cX4_corrected 17 = .ok (.iaload, 1) := by decide +kernel
theorem dX4_corrected_18 : decode cX4_corrected 18 = .ok (.i2l, 1) := by decide +kernel
theorem dX4_corrected_19 : decode cX4_corrected 19 = .ok (.lsub, 1) := by decide +kernel
theorem dX4_corrected_20 : decode cX4_corrected 20 = .ok (.aload_n 0, 1) := by decide +kernel
theorem dX4_corrected_21 : decode cX4_corrected 21 = .ok (.getfield 20, 3) := by decide +kernel
theorem dX4_corrected_24 : decode cX4_corrected 24 = .ok (.iconst 1, 1) := by decide +kernel
theorem dX4_corrected_25 : decode cX4_corrected 25 = .ok (.iaload, 1) := by decide +kernel
theorem dX4_corrected_26 : decode cX4_corrected 26 = .ok (.i2l, 1) := by decide +kernel
theorem dX4_corrected_27 : decode cX4_corrected 27 = .ok (.invokestatic 50, 3) := by decide +kernel
theorem dX4_corrected_30 : decode cX4_corrected 30 = .ok (.ladd, 1) := by decide +kernel
theorem dX4_corrected_31 : decode cX4_corrected 31 = .ok (.lstore 5, 2) := by decide +kernel
theorem dX4_corrected_33 : decode cX4_corrected 33 = .ok (.lload 5, 2) := by decide +kernel
theorem dX4_corrected_35 : decode cX4_corrected 35 = .ok (.getstatic 54, 3) := by decide +kernel
theorem dX4_corrected_38 : decode cX4_corrected 38 = .ok (.aload_n 0, 1) := by decide +kernel
theorem dX4_corrected_39 : decode cX4_corrected 39 = .ok (.getfield 20, 3) := by decide +kernel
theorem dX4_corrected_42 : decode cX4_corrected 42 = .ok (.iconst 3, 1) := by decide +kernel
theorem dX4_corrected_43 : decode cX4_corrected 43 = .ok (.iaload, 1) := by decide +kernel
theorem dX4_corrected_44 : decode cX4_corrected 44 = .ok (.iconst 1, 1) := by decide +kernel
theorem dX4_corrected_45 : decode cX4_corrected 45 = .ok (.isub, 1) := by decide +kernel
theorem dX4_corrected_46 : decode cX4_corrected 46 = .ok (.iaload, 1) := by decide +kernel
theorem dX4_corrected_47 : decode cX4_corrected 47 = .ok (.i2l, 1) := by decide +kernel
theorem dX4_corrected_48 : decode cX4_corrected 48 = .ok (.ladd, 1) := by decide +kernel
theorem dX4_corrected_49 : decode cX4_corrected 49 = .ok (.lstore 7, 2) := by decide +kernel
theorem dX4_corrected_51 : decode cX4_corrected 51 = .ok (.lload 7, 2) := by decide +kernel
theorem dX4_corrected_53 : decode cX4_corrected 53 = .ok (.ldc 57, 2) := by decide +kernel
theorem dX4_corrected_55 : decode cX4_corrected 55 = .ok (.aload_n 0, 1) := by decide +kernel
theorem dX4_corrected_56 : decode cX4_corrected 56 = .ok (.getfield 20, 3) := by decide +kernel
theorem dX4_corrected_59 : decode cX4_corrected 59 = .ok (.iconst 4, 1) := by decide +kernel
theorem dX4_corrected_60 : decode cX4_corrected 60 = .ok (.iaload, 1) := by decide +kernel
theorem dX4_corrected_61 : decode cX4_corrected 61 = .ok (.iload_n 2, 1) := by decide +kernel
theorem dX4_corrected_62 : decode cX4_corrected 62 = .ok (.imul, 1) := by decide +kernel
theorem dX4_corrected_63 : decode cX4_corrected 63 = .ok (.iadd, 1) := by decide +kernel
theorem dX4_corrected_64 : decode cX4_corrected 64 = .ok (.i2l, 1) := by decide +kernel
theorem dX4_corrected_65 : decode cX4_corrected 65 = .ok (.lmul, 1) := by decide +kernel
theorem dX4_corrected_66 : decode cX4_corrected 66 = .ok (.ldc 57, 2) := by decide +kernel
theorem dX4_corrected_68 : decode cX4_corrected 68 = .ok (.bipush 18, 2) := by decide +kernel
theorem dX4_corrected_70 : decode cX4_corrected 70 = .ok (.iload_n 2, 1) := by decide +kernel
theorem dX4_corrected_71 : decode cX4_corrected 71 = .ok (.imul, 1) := by decide +kernel
theorem dX4_corrected_72 : decode cX4_corrected 72 = .ok (.iadd, 1) := by decide +kernel
theorem dX4_corrected_73 : decode cX4_corrected 73 = .ok (.i2l, 1) := by decide +kernel
theorem dX4_corrected_74 : decode cX4_corrected 74 = .ok (.invokestatic 50, 3) := by decide +kernel
theorem dX4_corrected_77 : decode cX4_corrected 77 = .ok (.lstore 9, 2) := by decide +kernel
theorem dX4_corrected_79 : decode cX4_corrected 79 = .ok (.aload_n 0, 1) := by decide +kernel
theorem dX4_corrected_80 : decode cX4_corrected 80 = .ok (.getfield 20, 3) := by decide +kernel
theorem dX4_corrected_83 : decode cX4_corrected 83 = .ok (.iconst 5, 1) := by decide +kernel
theorem dX4_corrected_84 : decode cX4_corrected 84 = .ok (.iaload, 1) := by decide +kernel
theorem dX4_corrected_85 : decode cX4_corrected 85 = .ok (.i2l, 1) := by decide +kernel
theorem dX4_corrected_86 : decode cX4_corrected 86 = .ok (.lload 9, 2) := by decide +kernel
theorem dX4_corrected_88 : decode cX4_corrected 88 = .ok (.lsub, 1) := by decide +kernel
theorem dX4_corrected_89 : decode cX4_corrected 89 = .ok (.lstore 11, 2) := by decide +kernel
theorem dX4_corrected_91 : decode cX4_corrected 91 = .ok (.lload 11, 2) := by decide +kernel
theorem dX4_corrected_93 : decode cX4_corrected 93 = .ok (.lconst 0, 1) := by decide +kernel
theorem dX4_corrected_94 : decode cX4_corrected 94 = .ok (.lcmp, 1) := by decide +kernel
theorem dX4_corrected_95 : decode cX4_corrected 95 = .ok (.ifCond .gt 6, 3) := by decide +kernel
theorem dX4_corrected_98 : decode cX4_corrected 98 = .ok (.lload 9, 2) := by decide +kernel
theorem dX4_corrected_100 : decode cX4_corrected 100 = .ok (.lreturn, 1) := by decide +kernel
theorem dX4_corrected_101 : decode cX4_corrected 101 = .ok (.lload 9, 2) := by decide +kernel
theorem dX4_corrected_103 : decode cX4_corrected 103 = .ok (.lload 11, 2) := by decide +kernel
theorem dX4_corrected_105 : decode cX4_corrected 105 = .ok (.lmul, 1) := by decide +kernel
theorem dX4_corrected_106 : decode cX4_corrected 106 = .ok (.aload_n 0, 1) := by decide +kernel
theorem dX4_corrected_107 : decode cX4_corrected 107 = .ok (.getfield 27, 3) := by decide +kernel
theorem dX4_corrected_110 : decode cX4_corrected 110 = .ok (.lmul, 1) := by decide +kernel
theorem dX4_corrected_111 : decode cX4_corrected 111 = .ok (.aload_n 0, 1) := by decide +kernel
theorem dX4_corrected_112 : decode cX4_corrected 112 = .ok (.getfield 23, 3) := by decide +kernel
theorem dX4_corrected_115 : decode cX4_corrected 115 = .ok (.ladd, 1) := by decide +kernel
theorem dX4_corrected_116 : decode cX4_corrected 116 = .ok (.lload 11, 2) := by decide +kernel
theorem dX4_corrected_118 : decode cX4_corrected 118 = .ok (.aload_n 0, 1) := by decide +kernel
theorem dX4_corrected_119 : decode cX4_corrected 119 = .ok (.getfield 27, 3) := by decide +kernel
theorem dX4_corrected_122 : decode cX4_corrected 122 = .ok (.lmul, 1) := by decide +kernel
theorem dX4_corrected_123 : decode cX4_corrected 123 = .ok (.invokestatic 50, 3) := by decide +kernel
theorem dX4_corrected_126 : decode cX4_corrected 126 = .ok (.lreturn, 1) := by decide +kernel
theorem dX5_init_0 : decode cX5_init 0 = .ok (.aload_n 0, 1) := by decide +kernel
theorem dX5_init_1 : decode cX5_init 1 = .ok (.invokespecial 3, 3) := by decide +kernel
theorem dX5_init_4 : decode cX5_init 4 = .ok (.aload_n 0, 1) := by decide +kernel
theorem dX5_init_5 : decode cX5_init 5 = .ok (.bipush 48, 2) := by decide +kernel
theorem dX5_init_7 : decode cX5_init 7 = .ok (.newarray .int, 2) := by decide +kernel
theorem dX5_init_9 : decode cX5_init 9 = .ok (.putfield 9, 3) := by decide +kernel
theorem dX5_init_12 : decode cX5_init 12 = .ok (.aload_n 0, 1) := by decide +kernel
theorem dX5_init_13 : decode cX5_init 13 = .ok (.bipush 48, 2) := by decide +kernel
theorem dX5_init_15 : decode cX5_init 15 = .ok (.newarray .int, 2) := by decide +kernel
theorem dX5_init_17 : decode cX5_init 17 = .ok (.putfield 15, 3) := by decide +kernel
theorem dX5_init_20 : decode cX5_init 20 = .ok (.aload_n 0, 1) := by decide +kernel
theorem dX5_init_21 : decode cX5_init 21 = .ok (.iconst 3, 1) := by decide +kernel
theorem dX5_init_22 : decode cX5_init 22 = .ok (.newarray .int, 2) := by decide +kernel
theorem dX5_init_24 : decode cX5_init 24 = .ok (.putfield 18, 3) := by decide +kernel
theorem dX5_init_27 : decode cX5_init 27 = .ok (.aload_n 0, 1) := by decide +kernel
theorem dX5_init_28 : decode cX5_init 28 = .ok (.iconst 3, 1) := by decide +kernel
theorem dX5_init_29 : decode cX5_init 29 = .ok (.newarray .long, 2) := by decide +kernel
theorem dX5_init_31 : decode cX5_init 31 = .ok (.putfield 21, 3) := by decide +kernel
theorem dX5_init_34 : decode cX5_init 34 = .ok (.aload_n 0, 1) := by decide +kernel
theorem dX5_init_35 : decode cX5_init 35 = .ok (.iconst 0, 1) := by decide +kernel
theorem dX5_init_36 : decode cX5_init 36 = .ok (.putfield 25, 3) := by decide +kernel
theorem dX5_init_39 : decode cX5_init 39 = .ok (.aload_n 0, 1) := by decide +kernel
theorem dX5_init_40 : decode cX5_init 40 = .ok (.iload_n 1, 1) := by decide +kernel
theorem dX5_init_41 : decode cX5_init 41 = .ok (.putfield 29, 3) := by decide +kernel
theorem dX5_init_44 : decode cX5_init 44 = .ok (.aload_n 0, 1) := by decide +kernel
theorem dX5_init_45 : decode cX5_init 45 = .ok (.iload_n 2, 1) := by decide +kernel
theorem dX5_init_46 : decode cX5_init 46 = .ok (.putfield 32, 3) := by decide +kernel
theorem dX5_init_49 : decode cX5_init 49 = .ok (.aload_n 0, 1) := by decide +kernel
theorem dX5_init_50 : decode cX5_init 50 = .ok (.iload_n 3, 1) := by decide +kernel
theorem dX5_init_51 : decode cX5_init 51 = .ok (.putfield 35, 3) := by decide +kernel
theorem dX5_init_54 : decode cX5_init 54 = .ok (.aload_n 0, 1) := by decide +kernel
theorem dX5_init_55 : decode cX5_init 55 = .ok (.aload 4, 2) := by decide +kernel
theorem dX5_init_57 : decode cX5_init 57 = .ok (.putfield 38, 3) := by decide +kernel
theorem dX5_init_60 : decode cX5_init 60 = .ok (.return_, 1) := by decide +kernel
theorem dX5_isAt_0 : decode cX5_isAt 0 = .ok (.aload_n 0, 1) := by decide +kernel
theorem dX5_isAt_1 : decode cX5_isAt 1 = .ok (.getfield 29, 3) := by decide +kernel
theorem dX5_isAt_4 : decode cX5_isAt 4 = .ok (.iload_n 1, 1) := by decide +kernel
theorem dX5_isAt_5 : decode cX5_isAt 5 = .ok (.if_icmp .ne 15, 3) := by decide +kernel
theorem dX5_isAt_8 : decode cX5_isAt 8 = .ok (.aload_n 0, 1) := by decide +kernel
theorem dX5_isAt_9 : decode cX5_isAt 9 = .ok (.getfield 32, 3) := by decide +kernel
theorem dX5_isAt_12 : decode cX5_isAt 12 = .ok (.iload_n 2, 1) := by decide +kernel
theorem dX5_isAt_13 : decode cX5_isAt 13 = .ok (.if_icmp .ne 7, 3) := by decide +kernel
theorem dX5_isAt_16 : decode cX5_isAt 16 = .ok (.iconst 1, 1) := by decide +kernel
theorem dX5_isAt_17 : decode cX5_isAt 17 = .ok (.goto 4, 3) := by decide +kernel
theorem dX5_isAt_20 : decode cX5_isAt 20 = .ok (.iconst 0, 1) := by decide +kernel
theorem dX5_isAt_21 : decode cX5_isAt 21 = .ok (.ireturn, 1) := by decide +kernel
theorem dX5_hasReading_0 : decode cX5_hasReading 0 = .ok (.aload_n 0, 1) := by decide +kernel
theorem dX5_hasReading_1 : decode cX5_hasReading 1 = .ok (.getfield 9, 3) := by decide +kernel
theorem dX5_hasReading_4 : decode cX5_hasReading 4 = .ok (.iload_n 1, 1) := by decide +kernel
theorem dX5_hasReading_5 : decode cX5_hasReading 5 = .ok (.iaload, 1) := by decide +kernel
theorem dX5_hasReading_6 : decode cX5_hasReading 6 = .ok (.ifCond .eq 7, 3) := by decide +kernel
theorem dX5_hasReading_9 : decode cX5_hasReading 9 = .ok (.iconst 1, 1) := by decide +kernel
theorem dX5_hasReading_10 : decode cX5_hasReading 10 = .ok (.goto 4, 3) := by decide +kernel
theorem dX5_hasReading_13 : decode cX5_hasReading 13 = .ok (.iconst 0, 1) := by decide +kernel
theorem dX5_hasReading_14 : decode cX5_hasReading 14 = .ok (.ireturn, 1) := by decide +kernel
theorem dX5_putReading_0 : decode cX5_putReading 0 = .ok (.aload_n 0, 1) := by decide +kernel
theorem dX5_putReading_1 : decode cX5_putReading 1 = .ok (.getfield 9, 3) := by decide +kernel
theorem dX5_putReading_4 : decode cX5_putReading 4 = .ok (.iload_n 1, 1) := by decide +kernel
theorem dX5_putReading_5 : decode cX5_putReading 5 = .ok (.iload_n 2, 1) := by decide +kernel
theorem dX5_putReading_6 : decode cX5_putReading 6 = .ok (.iastore, 1) := by decide +kernel
theorem dX5_putReading_7 : decode cX5_putReading 7 = .ok (.aload_n 0, 1) := by decide +kernel
theorem dX5_putReading_8 : decode cX5_putReading 8 = .ok (.getfield 15, 3) := by decide +kernel
theorem dX5_putReading_11 : decode cX5_putReading 11 = .ok (.iload_n 1, 1) := by decide +kernel
theorem dX5_putReading_12 : decode cX5_putReading 12 = .ok (.iload_n 3, 1) := by decide +kernel
theorem dX5_putReading_13 : decode cX5_putReading 13 = .ok (.iastore, 1) := by decide +kernel
theorem dX5_putReading_14 : decode cX5_putReading 14 = .ok (.return_, 1) := by decide +kernel
theorem dX5_clearReading_0 : decode cX5_clearReading 0 = .ok (.aload_n 0, 1) := by decide +kernel
theorem dX5_clearReading_1 : decode cX5_clearReading 1 = .ok (.getfield 9, 3) := by decide +kernel
theorem dX5_clearReading_4 : decode cX5_clearReading 4 = .ok (.iload_n 1, 1) := by decide +kernel
theorem dX5_clearReading_5 : decode cX5_clearReading 5 = .ok (.iconst 0, 1) := by decide +kernel
theorem dX5_clearReading_6 : decode cX5_clearReading 6 = .ok (.iastore, 1) := by decide +kernel
theorem dX5_clearReading_7 : decode cX5_clearReading 7 = .ok (.return_, 1) := by decide +kernel
theorem dX5_countReadings_0 : decode cX5_countReadings 0 = .ok (.iconst 0, 1) := by decide +kernel
theorem dX5_countReadings_1 : decode cX5_countReadings 1 = .ok (.istore_n 1, 1) := by decide +kernel
theorem dX5_countReadings_2 : decode cX5_countReadings 2 = .ok (.iconst 0, 1) := by decide +kernel
theorem dX5_countReadings_3 : decode cX5_countReadings 3 = .ok (.istore_n 2, 1) := by decide +kernel
theorem dX5_countReadings_4 : decode cX5_countReadings 4 = .ok (.iload_n 2, 1) := by decide +kernel
theorem dX5_countReadings_5 : decode cX5_countReadings 5 = .ok (.bipush 48, 2) := by decide +kernel
theorem dX5_countReadings_7 : decode cX5_countReadings 7 = .ok (.if_icmp .ge 20, 3) := by decide +kernel
theorem dX5_countReadings_10 : decode cX5_countReadings 10 = .ok (.aload_n 0, 1) := by decide +kernel
theorem dX5_countReadings_11 : decode cX5_countReadings 11 = .ok (.iload_n 2, 1) := by decide +kernel
theorem dX5_countReadings_12 : decode cX5_countReadings 12 = .ok (.invokevirtual 42, 3) := by decide +kernel
theorem dX5_countReadings_15 : decode cX5_countReadings 15 = .ok (.ifCond .eq 6, 3) := by decide +kernel
theorem dX5_countReadings_18 : decode cX5_countReadings 18 = .ok (.iinc 1 1, 3) := by decide +kernel
theorem dX5_countReadings_21 : decode cX5_countReadings 21 = .ok (.iinc 2 1, 3) := by decide +kernel
theorem dX5_countReadings_24 : decode cX5_countReadings 24 = .ok (.goto (-20), 3) := by decide +kernel
theorem dX5_countReadings_27 : decode cX5_countReadings 27 = .ok (.iload_n 1, 1) := by decide +kernel
theorem dX5_countReadings_28 : decode cX5_countReadings 28 = .ok (.ireturn, 1) := by decide +kernel
theorem dX5_warmth_0 : decode cX5_warmth 0 = .ok (.aload_n 0, 1) := by decide +kernel
theorem dX5_warmth_1 : decode cX5_warmth 1 = .ok (.getfield 15, 3) := by decide +kernel
theorem dX5_warmth_4 : decode cX5_warmth 4 = .ok (.iload_n 1, 1) := by decide +kernel
theorem dX5_warmth_5 : decode cX5_warmth 5 = .ok (.iaload, 1) := by decide +kernel
theorem dX5_warmth_6 : decode cX5_warmth 6 = .ok (.ireturn, 1) := by decide +kernel
theorem dX5_mendings_0 : decode cX5_mendings 0 = .ok (.aload_n 0, 1) := by decide +kernel
theorem dX5_mendings_1 : decode cX5_mendings 1 = .ok (.getfield 25, 3) := by decide +kernel
theorem dX5_mendings_4 : decode cX5_mendings 4 = .ok (.ireturn, 1) := by decide +kernel
theorem dX5_addMending_0 : decode cX5_addMending 0 = .ok (.aload_n 0, 1) := by decide +kernel
theorem dX5_addMending_1 : decode cX5_addMending 1 = .ok (.getfield 25, 3) := by decide +kernel
theorem dX5_addMending_4 : decode cX5_addMending 4 = .ok (.iconst 3, 1) := by decide +kernel
theorem dX5_addMending_5 : decode cX5_addMending 5 = .ok (.if_icmp .ge 33, 3) := by decide +kernel
theorem dX5_addMending_8 : decode cX5_addMending 8 = .ok (.aload_n 0, 1) := by decide +kernel
theorem dX5_addMending_9 : decode cX5_addMending 9 = .ok (.getfield 18, 3) := by decide +kernel
theorem dX5_addMending_12 : decode cX5_addMending 12 = .ok (.aload_n 0, 1) := by decide +kernel
theorem dX5_addMending_13 : decode cX5_addMending 13 = .ok (.getfield 25, 3) := by decide +kernel
theorem dX5_addMending_16 : decode cX5_addMending 16 = .ok (.iload_n 1, 1) := by decide +kernel
theorem dX5_addMending_17 : decode cX5_addMending 17 = .ok (.iastore, 1) := by decide +kernel
theorem dX5_addMending_18 : decode cX5_addMending 18 = .ok (.aload_n 0, 1) := by decide +kernel
theorem dX5_addMending_19 : decode cX5_addMending 19 = .ok (.getfield 21, 3) := by decide +kernel
theorem dX5_addMending_22 : decode cX5_addMending 22 = .ok (.aload_n 0, 1) := by decide +kernel
theorem dX5_addMending_23 : decode cX5_addMending 23 = .ok (.getfield 25, 3) := by decide +kernel
theorem dX5_addMending_26 : decode cX5_addMending 26 = .ok (.lload_n 2, 1) := by decide +kernel
theorem dX5_addMending_27 : decode cX5_addMending 27 = .ok (.lastore, 1) := by decide +kernel
theorem dX5_addMending_28 : decode cX5_addMending 28 = .ok (.aload_n 0, 1) := by decide +kernel
theorem dX5_addMending_29 : decode cX5_addMending 29 = .ok (.dup, 1) := by decide +kernel
theorem dX5_addMending_30 : decode cX5_addMending 30 = .ok (.getfield 25, 3) := by decide +kernel
theorem dX5_addMending_33 : decode cX5_addMending 33 = .ok (.iconst 1, 1) := by decide +kernel
theorem dX5_addMending_34 : decode cX5_addMending 34 = .ok (.iadd, 1) := by decide +kernel
theorem dX5_addMending_35 : decode cX5_addMending 35 = .ok (.putfield 25, 3) := by decide +kernel
theorem dX5_addMending_38 : decode cX5_addMending 38 = .ok (.return_, 1) := by decide +kernel
theorem dX5_toldOf_0 : decode cX5_toldOf 0 = .ok (.iload_n 2, 1) := by decide +kernel
theorem dX5_toldOf_1 : decode cX5_toldOf 1 = .ok (.tableswitch 73 0 3 #[31, 39, 47, 67], 31) := by decide +kernel
theorem dX5_toldOf_32 : decode cX5_toldOf 32 = .ok (.aload_n 0, 1) := by decide +kernel
theorem dX5_toldOf_33 : decode cX5_toldOf 33 = .ok (.getfield 9, 3) := by decide +kernel
theorem dX5_toldOf_36 : decode cX5_toldOf 36 = .ok (.iload_n 1, 1) := by decide +kernel
theorem dX5_toldOf_37 : decode cX5_toldOf 37 = .ok (.iaload, 1) := by decide +kernel
theorem dX5_toldOf_38 : decode cX5_toldOf 38 = .ok (.i2l, 1) := by decide +kernel
theorem dX5_toldOf_39 : decode cX5_toldOf 39 = .ok (.lreturn, 1) := by decide +kernel
theorem dX5_toldOf_40 : decode cX5_toldOf 40 = .ok (.aload_n 0, 1) := by decide +kernel
theorem dX5_toldOf_41 : decode cX5_toldOf 41 = .ok (.getfield 15, 3) := by decide +kernel
theorem dX5_toldOf_44 : decode cX5_toldOf 44 = .ok (.iload_n 1, 1) := by decide +kernel
theorem dX5_toldOf_45 : decode cX5_toldOf 45 = .ok (.iaload, 1) := by decide +kernel
theorem dX5_toldOf_46 : decode cX5_toldOf 46 = .ok (.i2l, 1) := by decide +kernel
theorem dX5_toldOf_47 : decode cX5_toldOf 47 = .ok (.lreturn, 1) := by decide +kernel
theorem dX5_toldOf_48 : decode cX5_toldOf 48 = .ok (.aload_n 0, 1) := by decide +kernel
theorem dX5_toldOf_49 : decode cX5_toldOf 49 = .ok (.getfield 38, 3) := by decide +kernel
theorem dX5_toldOf_52 : decode cX5_toldOf 52 = .ok (.aload_n 0, 1) := by decide +kernel
theorem dX5_toldOf_53 : decode cX5_toldOf 53 = .ok (.getfield 9, 3) := by decide +kernel
theorem dX5_toldOf_56 : decode cX5_toldOf 56 = .ok (.iload_n 1, 1) := by decide +kernel
theorem dX5_toldOf_57 : decode cX5_toldOf 57 = .ok (.iaload, 1) := by decide +kernel
theorem dX5_toldOf_58 : decode cX5_toldOf 58 = .ok (.aload_n 0, 1) := by decide +kernel
theorem dX5_toldOf_59 : decode cX5_toldOf 59 = .ok (.getfield 15, 3) := by decide +kernel
theorem dX5_toldOf_62 : decode cX5_toldOf 62 = .ok (.iload_n 1, 1) := by decide +kernel
theorem dX5_toldOf_63 : decode cX5_toldOf 63 = .ok (.iaload, 1) := by decide +kernel
theorem dX5_toldOf_64 : decode cX5_toldOf 64 = .ok (.invokevirtual 46, 3) := by decide +kernel
theorem dX5_toldOf_67 : decode cX5_toldOf 67 = .ok (.lreturn, 1) := by decide +kernel
theorem dX5_toldOf_68 : decode cX5_toldOf 68 = .ok (.aload_n 0, 1) := by decide +kernel
theorem dX5_toldOf_69 : decode cX5_toldOf 69 = .ok (.iload_n 1, 1) := by decide +kernel
theorem dX5_toldOf_70 : decode cX5_toldOf 70 = .ok (.invokevirtual 52, 3) := by decide +kernel
theorem dX5_toldOf_73 : decode cX5_toldOf 73 = .ok (.lreturn, 1) := by decide +kernel
theorem dX5_toldOf_74 : decode cX5_toldOf 74 = .ok (.aload_n 0, 1) := by decide +kernel
theorem dX5_toldOf_75 : decode cX5_toldOf 75 = .ok (.iload_n 1, 1) := by decide +kernel
theorem dX5_toldOf_76 : decode cX5_toldOf 76 = .ok (.invokevirtual 56, 3) := by decide +kernel
theorem dX5_toldOf_79 : decode cX5_toldOf 79 = .ok (.i2l, 1) := by decide +kernel
theorem dX5_toldOf_80 : decode cX5_toldOf 80 = .ok (.lreturn, 1) := by decide +kernel
theorem dX5_mended_0 : decode cX5_mended 0 = .ok (.aload_n 0, 1) := by decide +kernel
theorem dX5_mended_1 : decode cX5_mended 1 = .ok (.getfield 38, 3) := by decide +kernel
theorem dX5_mended_4 : decode cX5_mended 4 = .ok (.aload_n 0, 1) := by decide +kernel
theorem dX5_mended_5 : decode cX5_mended 5 = .ok (.getfield 9, 3) := by decide +kernel
theorem dX5_mended_8 : decode cX5_mended 8 = .ok (.iload_n 1, 1) := by decide +kernel
theorem dX5_mended_9 : decode cX5_mended 9 = .ok (.iaload, 1) := by decide +kernel
theorem dX5_mended_10 : decode cX5_mended 10 = .ok (.aload_n 0, 1) := by decide +kernel
theorem dX5_mended_11 : decode cX5_mended 11 = .ok (.getfield 15, 3) := by decide +kernel
theorem dX5_mended_14 : decode cX5_mended 14 = .ok (.iload_n 1, 1) := by decide +kernel
theorem dX5_mended_15 : decode cX5_mended 15 = .ok (.iaload, 1) := by decide +kernel
theorem dX5_mended_16 : decode cX5_mended 16 = .ok (.invokevirtual 46, 3) := by decide +kernel
theorem dX5_mended_19 : decode cX5_mended 19 = .ok (.lstore_n 2, 1) := by decide +kernel
theorem dX5_mended_20 : decode cX5_mended 20 = .ok (.iconst 0, 1) := by decide +kernel
theorem dX5_mended_21 : decode cX5_mended 21 = .ok (.istore 4, 2) := by decide +kernel
theorem dX5_mended_23 : decode cX5_mended 23 = .ok (.iload 4, 2) := by decide +kernel
theorem dX5_mended_25 : decode cX5_mended 25 = .ok (.aload_n 0, 1) := by decide +kernel
theorem dX5_mended_26 : decode cX5_mended 26 = .ok (.getfield 25, 3) := by decide +kernel
theorem dX5_mended_29 : decode cX5_mended 29 = .ok (.if_icmp .ge 30, 3) := by decide +kernel
theorem dX5_mended_32 : decode cX5_mended 32 = .ok (.iload_n 1, 1) := by decide +kernel
theorem dX5_mended_33 : decode cX5_mended 33 = .ok (.aload_n 0, 1) := by decide +kernel
theorem dX5_mended_34 : decode cX5_mended 34 = .ok (.getfield 18, 3) := by decide +kernel
theorem dX5_mended_37 : decode cX5_mended 37 = .ok (.iload 4, 2) := by decide +kernel
theorem dX5_mended_39 : decode cX5_mended 39 = .ok (.iaload, 1) := by decide +kernel
theorem dX5_mended_40 : decode cX5_mended 40 = .ok (.if_icmp .lt 13, 3) := by decide +kernel
theorem dX5_mended_43 : decode cX5_mended 43 = .ok (.lload_n 2, 1) := by decide +kernel
theorem dX5_mended_44 : decode cX5_mended 44 = .ok (.aload_n 0, 1) := by decide +kernel
theorem dX5_mended_45 : decode cX5_mended 45 = .ok (.getfield 21, 3) := by decide +kernel
theorem dX5_mended_48 : decode cX5_mended 48 = .ok (.iload 4, 2) := by decide +kernel
theorem dX5_mended_50 : decode cX5_mended 50 = .ok (.laload, 1) := by decide +kernel
theorem dX5_mended_51 : decode cX5_mended 51 = .ok (.lsub, 1) := by decide +kernel
theorem dX5_mended_52 : decode cX5_mended 52 = .ok (.lstore_n 2, 1) := by decide +kernel
theorem dX5_mended_53 : decode cX5_mended 53 = .ok (.iinc 4 1, 3) := by decide +kernel
theorem dX5_mended_56 : decode cX5_mended 56 = .ok (.goto (-33), 3) := by decide +kernel
theorem dX5_mended_59 : decode cX5_mended 59 = .ok (.lload_n 2, 1) := by decide +kernel
theorem dX5_mended_60 : decode cX5_mended 60 = .ok (.lreturn, 1) := by decide +kernel
theorem dX5_levelAt_0 : decode cX5_levelAt 0 = .ok (.aload_n 0, 1) := by decide +kernel
theorem dX5_levelAt_1 : decode cX5_levelAt 1 = .ok (.iload_n 1, 1) := by decide +kernel
theorem dX5_levelAt_2 : decode cX5_levelAt 2 = .ok (.invokevirtual 52, 3) := by decide +kernel
theorem dX5_levelAt_5 : decode cX5_levelAt 5 = .ok (.invokestatic 60, 3) := by decide +kernel
theorem dX5_levelAt_8 : decode cX5_levelAt 8 = .ok (.aload_n 0, 1) := by decide +kernel
theorem dX5_levelAt_9 : decode cX5_levelAt 9 = .ok (.getfield 35, 3) := by decide +kernel
theorem dX5_levelAt_12 : decode cX5_levelAt 12 = .ok (.aload_n 0, 1) := by decide +kernel
theorem dX5_levelAt_13 : decode cX5_levelAt 13 = .ok (.getfield 15, 3) := by decide +kernel
theorem dX5_levelAt_16 : decode cX5_levelAt 16 = .ok (.iload_n 1, 1) := by decide +kernel
theorem dX5_levelAt_17 : decode cX5_levelAt 17 = .ok (.iaload, 1) := by decide +kernel
theorem dX5_levelAt_18 : decode cX5_levelAt 18 = .ok (.invokestatic 66, 3) := by decide +kernel
theorem dX5_levelAt_21 : decode cX5_levelAt 21 = .ok (.ireturn, 1) := by decide +kernel
theorem dX6_init_0 : decode cX6_init 0 = .ok (.aload_n 0, 1) := by decide +kernel
theorem dX6_init_1 : decode cX6_init 1 = .ok (.invokespecial 3, 3) := by decide +kernel
theorem dX6_init_4 : decode cX6_init 4 = .ok (.aload_n 0, 1) := by decide +kernel
theorem dX6_init_5 : decode cX6_init 5 = .ok (.iconst 3, 1) := by decide +kernel
theorem dX6_init_6 : decode cX6_init 6 = .ok (.putfield 9, 3) := by decide +kernel
theorem dX6_init_9 : decode cX6_init 9 = .ok (.aload_n 0, 1) := by decide +kernel
theorem dX6_init_10 : decode cX6_init 10 = .ok (.iconst 0, 1) := by decide +kernel
theorem dX6_init_11 : decode cX6_init 11 = .ok (.putfield 15, 3) := by decide +kernel
theorem dX6_init_14 : decode cX6_init 14 = .ok (.aload_n 0, 1) := by decide +kernel
theorem dX6_init_15 : decode cX6_init 15 = .ok (.bipush 12, 2) := by decide +kernel
theorem dX6_init_17 : decode cX6_init 17 = .ok (.newarray .int, 2) := by decide +kernel
theorem dX6_init_19 : decode cX6_init 19 = .ok (.putfield 18, 3) := by decide +kernel
theorem dX6_init_22 : decode cX6_init 22 = .ok (.aload_n 0, 1) := by decide +kernel
theorem dX6_init_23 : decode cX6_init 23 = .ok (.bipush 12, 2) := by decide +kernel
theorem dX6_init_25 : decode cX6_init 25 = .ok (.newarray .int, 2) := by decide +kernel
theorem dX6_init_27 : decode cX6_init 27 = .ok (.putfield 22, 3) := by decide +kernel
theorem dX6_init_30 : decode cX6_init 30 = .ok (.aload_n 0, 1) := by decide +kernel
theorem dX6_init_31 : decode cX6_init 31 = .ok (.bipush 12, 2) := by decide +kernel
theorem dX6_init_33 : decode cX6_init 33 = .ok (.newarray .int, 2) := by decide +kernel
theorem dX6_init_35 : decode cX6_init 35 = .ok (.putfield 25, 3) := by decide +kernel
theorem dX6_init_38 : decode cX6_init 38 = .ok (.aload_n 0, 1) := by decide +kernel
theorem dX6_init_39 : decode cX6_init 39 = .ok (.bipush 12, 2) := by decide +kernel
theorem dX6_init_41 : decode cX6_init 41 = .ok (.newarray .int, 2) := by decide +kernel
theorem dX6_init_43 : decode cX6_init 43 = .ok (.putfield 28, 3) := by decide +kernel
theorem dX6_init_46 : decode cX6_init 46 = .ok (.aload_n 0, 1) := by decide +kernel
theorem dX6_init_47 : decode cX6_init 47 = .ok (.iconst 5, 1) := by decide +kernel
theorem dX6_init_48 : decode cX6_init 48 = .ok (.bipush 6, 2) := by decide +kernel
theorem dX6_init_50 : decode cX6_init 50 = .ok (.multianewarray 31 2, 4) := by decide +kernel
theorem dX6_init_54 : decode cX6_init 54 = .ok (.putfield 33, 3) := by decide +kernel
theorem dX6_init_57 : decode cX6_init 57 = .ok (.aload_n 0, 1) := by decide +kernel
theorem dX6_init_58 : decode cX6_init 58 = .ok (.bipush 6, 2) := by decide +kernel
theorem dX6_init_60 : decode cX6_init 60 = .ok (.newarray .long, 2) := by decide +kernel
theorem dX6_init_62 : decode cX6_init 62 = .ok (.putfield 36, 3) := by decide +kernel
theorem dX6_init_65 : decode cX6_init 65 = .ok (.aload_n 0, 1) := by decide +kernel
theorem dX6_init_66 : decode cX6_init 66 = .ok (.lconst 0, 1) := by decide +kernel
theorem dX6_init_67 : decode cX6_init 67 = .ok (.putfield 40, 3) := by decide +kernel
theorem dX6_init_70 : decode cX6_init 70 = .ok (.aload_n 0, 1) := by decide +kernel
theorem dX6_init_71 : decode cX6_init 71 = .ok (.iconst 0, 1) := by decide +kernel
theorem dX6_init_72 : decode cX6_init 72 = .ok (.putfield 44, 3) := by decide +kernel
theorem dX6_init_75 : decode cX6_init 75 = .ok (.return_, 1) := by decide +kernel
theorem dX6_benchCount_0 : decode cX6_benchCount 0 = .ok (.aload_n 0, 1) := by decide +kernel
theorem dX6_benchCount_1 : decode cX6_benchCount 1 = .ok (.getfield 9, 3) := by decide +kernel
theorem dX6_benchCount_4 : decode cX6_benchCount 4 = .ok (.ireturn, 1) := by decide +kernel
theorem dX6_count_0 : decode cX6_count 0 = .ok (.aload_n 0, 1) := by decide +kernel
theorem dX6_count_1 : decode cX6_count 1 = .ok (.getfield 15, 3) := by decide +kernel
theorem dX6_count_4 : decode cX6_count 4 = .ok (.ireturn, 1) := by decide +kernel
theorem dX6_hasBench_0 : decode cX6_hasBench 0 = .ok (.iload_n 1, 1) := by decide +kernel
theorem dX6_hasBench_1 : decode cX6_hasBench 1 = .ok (.iconst 0, 1) := by decide +kernel
theorem dX6_hasBench_2 : decode cX6_hasBench 2 = .ok (.aload_n 0, 1) := by decide +kernel
theorem dX6_hasBench_3 : decode cX6_hasBench 3 = .ok (.getfield 9, 3) := by decide +kernel
theorem dX6_hasBench_6 : decode cX6_hasBench 6 = .ok (.iconst 1, 1) := by decide +kernel
theorem dX6_hasBench_7 : decode cX6_hasBench 7 = .ok (.isub, 1) := by decide +kernel
theorem dX6_hasBench_8 : decode cX6_hasBench 8 = .ok (.invokestatic 48, 3) := by decide +kernel
theorem dX6_hasBench_11 : decode cX6_hasBench 11 = .ok (.ireturn, 1) := by decide +kernel
theorem dX6_hasDifference_0 : decode cX6_hasDifference 0 = .ok (.iload_n 1, 1) := by decide +kernel
theorem dX6_hasDifference_1 : decode cX6_hasDifference 1 = .ok (.iconst 0, 1) := by decide +kernel
theorem dX6_hasDifference_2 : decode cX6_hasDifference 2 = .ok (.aload_n 0, 1) := by decide +kernel
theorem dX6_hasDifference_3 : decode cX6_hasDifference 3 = .ok (.getfield 15, 3) := by decide +kernel
theorem dX6_hasDifference_6 : decode cX6_hasDifference 6 = .ok (.iconst 1, 1) := by decide +kernel
theorem dX6_hasDifference_7 : decode cX6_hasDifference 7 = .ok (.isub, 1) := by decide +kernel
theorem dX6_hasDifference_8 : decode cX6_hasDifference 8 = .ok (.invokestatic 48, 3) := by decide +kernel
theorem dX6_hasDifference_11 : decode cX6_hasDifference 11 = .ok (.ireturn, 1) := by decide +kernel
theorem dX6_startAnew_0 : decode cX6_startAnew 0 = .ok (.aload_n 0, 1) := by decide +kernel
theorem dX6_startAnew_1 : decode cX6_startAnew 1 = .ok (.iload_n 1, 1) := by decide +kernel
theorem dX6_startAnew_2 : decode cX6_startAnew 2 = .ok (.putfield 9, 3) := by decide +kernel
theorem dX6_startAnew_5 : decode cX6_startAnew 5 = .ok (.aload_n 0, 1) := by decide +kernel
theorem dX6_startAnew_6 : decode cX6_startAnew 6 = .ok (.iconst 0, 1) := by decide +kernel
theorem dX6_startAnew_7 : decode cX6_startAnew 7 = .ok (.putfield 15, 3) := by decide +kernel
