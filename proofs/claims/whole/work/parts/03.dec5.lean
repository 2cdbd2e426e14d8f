theorem dX8_difference_116 : decode cX8_difference 116 = .ok (.aload_n 0, 1) := by decide +kernel
theorem dX8_difference_117 : decode cX8_difference 117 = .ok (.getfield 206, 3) := by decide +kernel
theorem dX8_difference_120 : decode cX8_difference 120 = .ok (.iconst 1, 1) := by decide +kernel
theorem dX8_difference_121 : decode cX8_difference 121 = .ok (.isub, 1) := by decide +kernel
theorem dX8_difference_122 : decode cX8_difference 122 = .ok (.ireturn, 1) := by decide +kernel
theorem dX8_drop_0 : decode cX8_drop 0 = .ok (.aload_n 0, 1) := by decide +kernel
theorem dX8_drop_1 : decode cX8_drop 1 = .ok (.getfield 206, 3) := by decide +kernel
theorem dX8_drop_4 : decode cX8_drop 4 = .ok (.ifCond .ne 5, 3) := by decide +kernel
theorem dX8_drop_7 : decode cX8_drop 7 = .ok (.iconst (-1), 1) := by decide +kernel
theorem dX8_drop_8 : decode cX8_drop 8 = .ok (.ireturn, 1) := by decide +kernel
theorem dX8_drop_9 : decode cX8_drop 9 = .ok (.aload_n 0, 1) := by decide +kernel
theorem dX8_drop_10 : decode cX8_drop 10 = .ok (.dup, 1) := by decide +kernel
theorem dX8_drop_11 : decode cX8_drop 11 = .ok (.getfield 206, 3) := by decide +kernel
theorem dX8_drop_14 : decode cX8_drop 14 = .ok (.iconst 1, 1) := by decide +kernel
theorem dX8_drop_15 : decode cX8_drop 15 = .ok (.isub, 1) := by decide +kernel
theorem dX8_drop_16 : decode cX8_drop 16 = .ok (.putfield 206, 3) := by decide +kernel
theorem dX8_drop_19 : decode cX8_drop 19 = .ok (.aload_n 0, 1) := by decide +kernel
theorem dX8_drop_20 : decode cX8_drop 20 = .ok (.getfield 206, 3) := by decide +kernel
theorem dX8_drop_23 : decode cX8_drop 23 = .ok (.ireturn, 1) := by decide +kernel
theorem dX8_areJoined_0 : decode cX8_areJoined 0 = .ok (.iconst 1, 1) := by decide +kernel
theorem dX8_areJoined_1 : decode cX8_areJoined 1 = .ok (.istore_n 1, 1) := by decide +kernel
theorem dX8_areJoined_2 : decode cX8_areJoined 2 = .ok (.iconst 0, 1) := by decide +kernel
theorem dX8_areJoined_3 : decode cX8_areJoined 3 = .ok (.istore_n 2, 1) := by decide +kernel
theorem dX8_areJoined_4 : decode cX8_areJoined 4 = .ok (.iload_n 2, 1) := by decide +kernel
theorem dX8_areJoined_5 : decode cX8_areJoined 5 = .ok (.aload_n 0, 1) := by decide +kernel
theorem dX8_areJoined_6 : decode cX8_areJoined 6 = .ok (.getfield 50, 3) := by decide +kernel
theorem dX8_areJoined_9 : decode cX8_areJoined 9 = .ok (.if_icmp .ge 89, 3) := by decide +kernel
theorem dX8_areJoined_12 : decode cX8_areJoined 12 = .ok (.iconst 0, 1) := by decide +kernel
theorem dX8_areJoined_13 : decode cX8_areJoined 13 = .ok (.istore_n 3, 1) := by decide +kernel
theorem dX8_areJoined_14 : decode cX8_areJoined 14 = .ok (.iload_n 3, 1) := by decide +kernel
theorem dX8_areJoined_15 : decode cX8_areJoined 15 = .ok (.aload_n 0, 1) := by decide +kernel
theorem dX8_areJoined_16 : decode cX8_areJoined 16 = .ok (.getfield 206, 3) := by decide +kernel
theorem dX8_areJoined_19 : decode cX8_areJoined 19 = .ok (.if_icmp .ge 73, 3) := by decide +kernel
theorem dX8_areJoined_22 : decode cX8_areJoined 22 = .ok (.iload_n 1, 1) := by decide +kernel
theorem dX8_areJoined_23 : decode cX8_areJoined 23 = .ok (.aload_n 0, 1) := by decide +kernel
theorem dX8_areJoined_24 : decode cX8_areJoined 24 = .ok (.getfield 54, 3) := by decide +kernel
theorem dX8_areJoined_27 : decode cX8_areJoined 27 = .ok (.iload_n 3, 1) := by decide +kernel
theorem dX8_areJoined_28 : decode cX8_areJoined 28 = .ok (.iaload, 1) := by decide +kernel
theorem dX8_areJoined_29 : decode cX8_areJoined 29 = .ok (.ishr, 1) := by decide +kernel
theorem dX8_areJoined_30 : decode cX8_areJoined 30 = .ok (.iconst 1, 1) := by decide +kernel
theorem dX8_areJoined_31 : decode cX8_areJoined 31 = .ok (.iand, 1) := by decide +kernel
theorem dX8_areJoined_32 : decode cX8_areJoined 32 = .ok (.iconst 1, 1) := by decide +kernel
theorem dX8_areJoined_33 : decode cX8_areJoined 33 = .ok (.if_icmp .eq 17, 3) := by decide +kernel
theorem dX8_areJoined_36 : decode cX8_areJoined 36 = .ok (.iload_n 1, 1) := by decide +kernel
theorem dX8_areJoined_37 : decode cX8_areJoined 37 = .ok (.aload_n 0, 1) := by decide +kernel
theorem dX8_areJoined_38 : decode cX8_areJoined 38 = .ok (.getfield 57, 3) := by decide +kernel
theorem dX8_areJoined_41 : decode cX8_areJoined 41 = .ok (.iload_n 3, 1) := by decide +kernel
theorem dX8_areJoined_42 : decode cX8_areJoined 42 = .ok (.iaload, 1) := by decide +kernel
theorem dX8_areJoined_43 : decode cX8_areJoined 43 = .ok (.ishr, 1) := by decide +kernel
theorem dX8_areJoined_44 : decode cX8_areJoined 44 = .ok (.iconst 1, 1) := by decide +kernel
theorem dX8_areJoined_45 : decode cX8_areJoined 45 = .ok (.iand, 1) := by decide +kernel
theorem dX8_areJoined_46 : decode cX8_areJoined 46 = .ok (.iconst 1, 1) := by decide +kernel
theorem dX8_areJoined_47 : decode cX8_areJoined 47 = .ok (.if_icmp .ne 7, 3) := by decide +kernel
theorem dX8_areJoined_50 : decode cX8_areJoined 50 = .ok (.iconst 1, 1) := by decide +kernel
theorem dX8_areJoined_51 : decode cX8_areJoined 51 = .ok (.goto 4, 3) := by decide +kernel
theorem dX8_areJoined_54 : decode cX8_areJoined 54 = .ok (.iconst 0, 1) := by decide +kernel
theorem dX8_areJoined_55 : decode cX8_areJoined 55 = .ok (.istore 4, 2) := by decide +kernel
theorem dX8_areJoined_57 : decode cX8_areJoined 57 = .ok (.iload_n 1, 1) := by decide +kernel
theorem dX8_areJoined_58 : decode cX8_areJoined 58 = .ok (.iload 4, 2) := by decide +kernel
theorem dX8_areJoined_60 : decode cX8_areJoined 60 = .ok (.ifCond .eq 23, 3) := by decide +kernel
theorem dX8_areJoined_63 : decode cX8_areJoined 63 = .ok (.iconst 1, 1) := by decide +kernel
theorem dX8_areJoined_64 : decode cX8_areJoined 64 = .ok (.aload_n 0, 1) := by decide +kernel
theorem dX8_areJoined_65 : decode cX8_areJoined 65 = .ok (.getfield 54, 3) := by decide +kernel
theorem dX8_areJoined_68 : decode cX8_areJoined 68 = .ok (.iload_n 3, 1) := by decide +kernel
theorem dX8_areJoined_69 : decode cX8_areJoined 69 = .ok (.iaload, 1) := by decide +kernel
theorem dX8_areJoined_70 : decode cX8_areJoined 70 = .ok (.ishl, 1) := by decide +kernel
theorem dX8_areJoined_71 : decode cX8_areJoined 71 = .ok (.iconst 1, 1) := by decide +kernel
theorem dX8_areJoined_72 : decode cX8_areJoined 72 = .ok (.aload_n 0, 1) := by decide +kernel
theorem dX8_areJoined_73 : decode cX8_areJoined 73 = .ok (.getfield 57, 3) := by decide +kernel
theorem dX8_areJoined_76 : decode cX8_areJoined 76 = .ok (.iload_n 3, 1) := by decide +kernel
theorem dX8_areJoined_77 : decode cX8_areJoined 77 = .ok (.iaload, 1) := by decide +kernel
theorem dX8_areJoined_78 : decode cX8_areJoined 78 = .ok (.ishl, 1) := by decide +kernel
theorem dX8_areJoined_79 : decode cX8_areJoined 79 = .ok (.ior, 1) := by decide +kernel
theorem dX8_areJoined_80 : decode cX8_areJoined 80 = .ok (.goto 4, 3) := by decide +kernel
theorem dX8_areJoined_83 : decode cX8_areJoined 83 = .ok (.iconst 0, 1) := by decide +kernel
theorem dX8_areJoined_84 : decode cX8_areJoined 84 = .ok (.ior, 1) := by decide +kernel
theorem dX8_areJoined_85 : decode cX8_areJoined 85 = .ok (.istore_n 1, 1) := by decide +kernel
theorem dX8_areJoined_86 : decode cX8_areJoined 86 = .ok (.iinc 3 1, 3) := by decide +kernel
theorem dX8_areJoined_89 : decode cX8_areJoined 89 = .ok (.goto (-75), 3) := by decide +kernel
theorem dX8_areJoined_92 : decode cX8_areJoined 92 = .ok (.iinc 2 1, 3) := by decide +kernel
theorem dX8_areJoined_95 : decode cX8_areJoined 95 = .ok (.goto (-91), 3) := by decide +kernel
theorem dX8_areJoined_98 : decode cX8_areJoined 98 = .ok (.iload_n 1, 1) := by decide +kernel
theorem dX8_areJoined_99 : decode cX8_areJoined 99 = .ok (.iconst 1, 1) := by decide +kernel
theorem dX8_areJoined_100 : decode cX8_areJoined 100 = .ok (.aload_n 0, 1) := by decide +kernel
theorem dX8_areJoined_101 : decode cX8_areJoined 101 = .ok (.getfield 50, 3) := by decide +kernel
theorem dX8_areJoined_104 : decode cX8_areJoined 104 = .ok (.ishl, 1) := by decide +kernel
theorem dX8_areJoined_105 : decode cX8_areJoined 105 = .ok (.iconst 1, 1) := by decide +kernel
theorem dX8_areJoined_106 : decode cX8_areJoined 106 = .ok (.isub, 1) := by decide +kernel
theorem dX8_areJoined_107 : decode cX8_areJoined 107 = .ok (.if_icmp .ne 7, 3) := by decide +kernel
theorem dX8_areJoined_110 : decode cX8_areJoined 110 = .ok (.iconst 1, 1) := by decide +kernel
theorem dX8_areJoined_111 : decode cX8_areJoined 111 = .ok (.goto 4, 3) := by decide +kernel
theorem dX8_areJoined_114 : decode cX8_areJoined 114 = .ok (.iconst 0, 1) := by decide +kernel
theorem dX8_areJoined_115 : decode cX8_areJoined 115 = .ok (.ireturn, 1) := by decide +kernel
theorem dX8_determinant_0 : decode cX8_determinant 0 = .ok (.iconst 1, 1) := by decide +kernel
theorem dX8_determinant_1 : decode cX8_determinant 1 = .ok (.istore_n 1, 1) := by decide +kernel
theorem dX8_determinant_2 : decode cX8_determinant 2 = .ok (.iconst 2, 1) := by decide +kernel
theorem dX8_determinant_3 : decode cX8_determinant 3 = .ok (.istore_n 2, 1) := by decide +kernel
theorem dX8_determinant_4 : decode cX8_determinant 4 = .ok (.iload_n 2, 1) := by decide +kernel
theorem dX8_determinant_5 : decode cX8_determinant 5 = .ok (.aload_n 0, 1) := by decide +kernel
theorem dX8_determinant_6 : decode cX8_determinant 6 = .ok (.getfield 218, 3) := by decide +kernel
theorem dX8_determinant_9 : decode cX8_determinant 9 = .ok (.if_icmp .gt 13, 3) := by decide +kernel
theorem dX8_determinant_12 : decode cX8_determinant 12 = .ok (.iload_n 1, 1) := by decide +kernel
theorem dX8_determinant_13 : decode cX8_determinant 13 = .ok (.iload_n 2, 1) := by decide +kernel
theorem dX8_determinant_14 : decode cX8_determinant 14 = .ok (.imul, 1) := by decide +kernel
theorem dX8_determinant_15 : decode cX8_determinant 15 = .ok (.istore_n 1, 1) := by decide +kernel
theorem dX8_determinant_16 : decode cX8_determinant 16 = .ok (.iinc 2 1, 3) := by decide +kernel
theorem dX8_determinant_19 : decode cX8_determinant 19 = .ok (.goto (-15), 3) := by decide +kernel
theorem dX8_determinant_22 : decode cX8_determinant 22 = .ok (.lconst 0, 1) := by decide +kernel
theorem dX8_determinant_23 : decode cX8_determinant 23 = .ok (.lstore_n 2, 1) := by decide +kernel
theorem dX8_determinant_24 : decode cX8_determinant 24 = .ok (.iconst 0, 1) := by decide +kernel
theorem dX8_determinant_25 : decode cX8_determinant 25 = .ok (.istore 4, 2) := by decide +kernel
theorem dX8_determinant_27 : decode cX8_determinant 27 = .ok (.iload 4, 2) := by decide +kernel
theorem dX8_determinant_29 : decode cX8_determinant 29 = .ok (.iload_n 1, 1) := by decide +kernel
theorem dX8_determinant_30 : decode cX8_determinant 30 = .ok (.if_icmp .ge 155, 3) := by decide +kernel
theorem dX8_determinant_33 : decode cX8_determinant 33 = .ok (.iload 4, 2) := by decide +kernel
theorem dX8_determinant_35 : decode cX8_determinant 35 = .ok (.istore 5, 2) := by decide +kernel
theorem dX8_determinant_37 : decode cX8_determinant 37 = .ok (.iconst 0, 1) := by decide +kernel
theorem dX8_determinant_38 : decode cX8_determinant 38 = .ok (.istore 6, 2) := by decide +kernel
theorem dX8_determinant_40 : decode cX8_determinant 40 = .ok (.lconst 1, 1) := by decide +kernel
theorem dX8_determinant_41 : decode cX8_determinant 41 = .ok (.lstore 7, 2) := by decide +kernel
theorem dX8_determinant_43 : decode cX8_determinant 43 = .ok (.iconst 0, 1) := by decide +kernel
theorem dX8_determinant_44 : decode cX8_determinant 44 = .ok (.istore 9, 2) := by decide +kernel
theorem dX8_determinant_46 : decode cX8_determinant 46 = .ok (.iload 9, 2) := by decide +kernel
theorem dX8_determinant_48 : decode cX8_determinant 48 = .ok (.aload_n 0, 1) := by decide +kernel
theorem dX8_determinant_49 : decode cX8_determinant 49 = .ok (.getfield 218, 3) := by decide +kernel
theorem dX8_determinant_52 : decode cX8_determinant 52 = .ok (.if_icmp .ge 122, 3) := by decide +kernel
theorem dX8_determinant_55 : decode cX8_determinant 55 = .ok (.iload 5, 2) := by decide +kernel
theorem dX8_determinant_57 : decode cX8_determinant 57 = .ok (.aload_n 0, 1) := by decide +kernel
theorem dX8_determinant_58 : decode cX8_determinant 58 = .ok (.getfield 218, 3) := by decide +kernel
theorem dX8_determinant_61 : decode cX8_determinant 61 = .ok (.iload 9, 2) := by decide +kernel
theorem dX8_determinant_63 : decode cX8_determinant 63 = .ok (.isub, 1) := by decide +kernel
theorem dX8_determinant_64 : decode cX8_determinant 64 = .ok (.irem, 1) := by decide +kernel
theorem dX8_determinant_65 : decode cX8_determinant 65 = .ok (.istore 10, 2) := by decide +kernel
theorem dX8_determinant_67 : decode cX8_determinant 67 = .ok (.iload 5, 2) := by decide +kernel
theorem dX8_determinant_69 : decode cX8_determinant 69 = .ok (.aload_n 0, 1) := by decide +kernel
theorem dX8_determinant_70 : decode cX8_determinant 70 = .ok (.getfield 218, 3) := by decide +kernel
theorem dX8_determinant_73 : decode cX8_determinant 73 = .ok (.iload 9, 2) := by decide +kernel
theorem dX8_determinant_75 : decode cX8_determinant 75 = .ok (.isub, 1) := by decide +kernel
theorem dX8_determinant_76 : decode cX8_determinant 76 = .ok (.idiv, 1) := by decide +kernel
theorem dX8_determinant_77 : decode cX8_determinant 77 = .ok (.istore 5, 2) := by decide +kernel
theorem dX8_determinant_79 : decode cX8_determinant 79 = .ok (.iload 10, 2) := by decide +kernel
theorem dX8_determinant_81 : decode cX8_determinant 81 = .ok (.iconst 2, 1) := by decide +kernel
theorem dX8_determinant_82 : decode cX8_determinant 82 = .ok (.irem, 1) := by decide +kernel
theorem dX8_determinant_83 : decode cX8_determinant 83 = .ok (.ifCond .ne 8, 3) := by decide +kernel
theorem dX8_determinant_86 : decode cX8_determinant 86 = .ok (.lload 7, 2) := by decide +kernel
theorem dX8_determinant_88 : decode cX8_determinant 88 = .ok (.goto 6, 3) := by decide +kernel
theorem dX8_determinant_91 : decode cX8_determinant 91 = .ok (.lload 7, 2) := by decide +kernel
theorem dX8_determinant_93 : decode cX8_determinant 93 = .ok (.lneg, 1) := by decide +kernel
theorem dX8_determinant_94 : decode cX8_determinant 94 = .ok (.lstore 7, 2) := by decide +kernel
theorem dX8_determinant_96 : decode cX8_determinant 96 = .ok (.iconst 0, 1) := by decide +kernel
theorem dX8_determinant_97 : decode cX8_determinant 97 = .ok (.istore 11, 2) := by decide +kernel
theorem dX8_determinant_99 : decode cX8_determinant 99 = .ok (.iload 6, 2) := by decide +kernel
theorem dX8_determinant_101 : decode cX8_determinant 101 = .ok (.iload 11, 2) := by decide +kernel
theorem dX8_determinant_103 : decode cX8_determinant 103 = .ok (.ishr, 1) := by decide +kernel
theorem dX8_determinant_104 : decode cX8_determinant 104 = .ok (.iconst 1, 1) := by decide +kernel
theorem dX8_determinant_105 : decode cX8_determinant 105 = .ok (.iand, 1) := by decide +kernel
theorem dX8_determinant_106 : decode cX8_determinant 106 = .ok (.iconst 1, 1) := by decide +kernel
theorem dX8_determinant_107 : decode cX8_determinant 107 = .ok (.if_icmp .eq 8, 3) := by decide +kernel
theorem dX8_determinant_110 : decode cX8_determinant 110 = .ok (.iload 10, 2) := by decide +kernel
theorem dX8_determinant_112 : decode cX8_determinant 112 = .ok (.ifCond .le 30, 3) := by decide +kernel
theorem dX8_determinant_115 : decode cX8_determinant 115 = .ok (.iload 10, 2) := by decide +kernel
theorem dX8_determinant_117 : decode cX8_determinant 117 = .ok (.iload 6, 2) := by decide +kernel
theorem dX8_determinant_119 : decode cX8_determinant 119 = .ok (.iload 11, 2) := by decide +kernel
theorem dX8_determinant_121 : decode cX8_determinant 121 = .ok (.ishr, 1) := by decide +kernel
theorem dX8_determinant_122 : decode cX8_determinant 122 = .ok (.iconst 1, 1) := by decide +kernel
theorem dX8_determinant_123 : decode cX8_determinant 123 = .ok (.iand, 1) := by decide +kernel
theorem dX8_determinant_124 : decode cX8_determinant 124 = .ok (.iconst 1, 1) := by decide +kernel
theorem dX8_determinant_125 : decode cX8_determinant 125 = .ok (.if_icmp .ne 7, 3) := by decide +kernel
theorem dX8_determinant_128 : decode cX8_determinant 128 = .ok (.iconst 0, 1) := by decide +kernel
theorem dX8_determinant_129 : decode cX8_determinant 129 = .ok (.goto 4, 3) := by decide +kernel
theorem dX8_determinant_132 : decode cX8_determinant 132 = .ok (.iconst 1, 1) := by decide +kernel
theorem dX8_determinant_133 : decode cX8_determinant 133 = .ok (.isub, 1) := by decide +kernel
theorem dX8_determinant_134 : decode cX8_determinant 134 = .ok (.istore 10, 2) := by decide +kernel
theorem dX8_determinant_136 : decode cX8_determinant 136 = .ok (.iinc 11 1, 3) := by decide +kernel
theorem dX8_determinant_139 : decode cX8_determinant 139 = .ok (.goto (-40), 3) := by decide +kernel
theorem dX8_determinant_142 : decode cX8_determinant 142 = .ok (.iload 6, 2) := by decide +kernel
theorem dX8_determinant_144 : decode cX8_determinant 144 = .ok (.iconst 1, 1) := by decide +kernel
theorem dX8_determinant_145 : decode cX8_determinant 145 = .ok (.iload 11, 2) := by decide +kernel
theorem dX8_determinant_147 : decode cX8_determinant 147 = .ok (.ishl, 1) := by decide +kernel
theorem dX8_determinant_148 : decode cX8_determinant 148 = .ok (.ior, 1) := by decide +kernel
theorem dX8_determinant_149 : decode cX8_determinant 149 = .ok (.istore 6, 2) := by decide +kernel
theorem dX8_determinant_151 : decode cX8_determinant 151 = .ok (.lload 7, 2) := by decide +kernel
theorem dX8_determinant_153 : decode cX8_determinant 153 = .ok (.aload_n 0, 1) := by decide +kernel
theorem dX8_determinant_154 : decode cX8_determinant 154 = .ok (.getfield 66, 3) := by decide +kernel
theorem dX8_determinant_157 : decode cX8_determinant 157 = .ok (.iconst 5, 1) := by decide +kernel
theorem dX8_determinant_158 : decode cX8_determinant 158 = .ok (.iload 9, 2) := by decide +kernel
theorem dX8_determinant_160 : decode cX8_determinant 160 = .ok (.imul, 1) := by decide +kernel
theorem dX8_determinant_161 : decode cX8_determinant 161 = .ok (.iload 11, 2) := by decide +kernel
theorem dX8_determinant_163 : decode cX8_determinant 163 = .ok (.iadd, 1) := by decide +kernel
theorem dX8_determinant_164 : decode cX8_determinant 164 = .ok (.laload, 1) := by decide +kernel
theorem dX8_determinant_165 : decode cX8_determinant 165 = .ok (.lmul, 1) := by decide +kernel
theorem dX8_determinant_166 : decode cX8_determinant 166 = .ok (.lstore 7, 2) := by decide +kernel
theorem dX8_determinant_168 : decode cX8_determinant 168 = .ok (.iinc 9 1, 3) := by decide +kernel
theorem dX8_determinant_171 : decode cX8_determinant 171 = .ok (.goto (-125), 3) := by decide +kernel
theorem dX8_determinant_174 : decode cX8_determinant 174 = .ok (.lload_n 2, 1) := by decide +kernel
theorem dX8_determinant_175 : decode cX8_determinant 175 = .ok (.lload 7, 2) := by decide +kernel
theorem dX8_determinant_177 : decode cX8_determinant 177 = .ok (.ladd, 1) := by decide +kernel
theorem dX8_determinant_178 : decode cX8_determinant 178 = .ok (.lstore_n 2, 1) := by decide +kernel
theorem dX8_determinant_179 : decode cX8_determinant 179 = .ok (.iinc 4 1, 3) := by decide +kernel
theorem dX8_determinant_182 : decode cX8_determinant 182 = .ok (.goto (-155), 3) := by decide +kernel
theorem dX8_determinant_185 : decode cX8_determinant 185 = .ok (.lload_n 2, 1) := by decide +kernel
theorem dX8_determinant_186 : decode cX8_determinant 186 = .ok (.lreturn, 1) := by decide +kernel
theorem dX8_laySquare_0 : decode cX8_laySquare 0 = .ok (.aload_n 0, 1) := by decide +kernel
theorem dX8_laySquare_1 : decode cX8_laySquare 1 = .ok (.aload_n 0, 1) := by decide +kernel
theorem dX8_laySquare_2 : decode cX8_laySquare 2 = .ok (.getfield 50, 3) := by decide +kernel
theorem dX8_laySquare_5 : decode cX8_laySquare 5 = .ok (.iconst 1, 1) := by decide +kernel
theorem dX8_laySquare_6 : decode cX8_laySquare 6 = .ok (.isub, 1) := by decide +kernel
theorem dX8_laySquare_7 : decode cX8_laySquare 7 = .ok (.putfield 218, 3) := by decide +kernel
theorem dX8_laySquare_10 : decode cX8_laySquare 10 = .ok (.iconst 0, 1) := by decide +kernel
theorem dX8_laySquare_11 : decode cX8_laySquare 11 = .ok (.istore_n 2, 1) := by decide +kernel
theorem dX8_laySquare_12 : decode cX8_laySquare 12 = .ok (.iload_n 2, 1) := by decide +kernel
theorem dX8_laySquare_13 : decode cX8_laySquare 13 = .ok (.bipush 25, 2) := by decide +kernel
theorem dX8_laySquare_15 : decode cX8_laySquare 15 = .ok (.if_icmp .ge 16, 3) := by decide +kernel
theorem dX8_laySquare_18 : decode cX8_laySquare 18 = .ok (.aload_n 0, 1) := by decide +kernel
theorem dX8_laySquare_19 : decode cX8_laySquare 19 = .ok (.getfield 66, 3) := by decide +kernel
theorem dX8_laySquare_22 : decode cX8_laySquare 22 = .ok (.iload_n 2, 1) := by decide +kernel
theorem dX8_laySquare_23 : decode cX8_laySquare 23 = .ok (.lconst 0, 1) := by decide +kernel
theorem dX8_laySquare_24 : decode cX8_laySquare 24 = .ok (.lastore, 1) := by decide +kernel
theorem dX8_laySquare_25 : decode cX8_laySquare 25 = .ok (.iinc 2 1, 3) := by decide +kernel
theorem dX8_laySquare_28 : decode cX8_laySquare 28 = .ok (.goto (-16), 3) := by decide +kernel
theorem dX8_laySquare_31 : decode cX8_laySquare 31 = .ok (.iconst 0, 1) := by decide +kernel
theorem dX8_laySquare_32 : decode cX8_laySquare 32 = .ok (.istore_n 2, 1) := by decide +kernel
theorem dX8_laySquare_33 : decode cX8_laySquare 33 = .ok (.iload_n 2, 1) := by decide +kernel
theorem dX8_laySquare_34 : decode cX8_laySquare 34 = .ok (.aload_n 0, 1) := by decide +kernel
theorem dX8_laySquare_35 : decode cX8_laySquare 35 = .ok (.getfield 206, 3) := by decide +kernel
theorem dX8_laySquare_38 : decode cX8_laySquare 38 = .ok (.if_icmp .ge 147, 3) := by decide +kernel
theorem dX8_laySquare_41 : decode cX8_laySquare 41 = .ok (.aload_n 0, 1) := by decide +kernel
theorem dX8_laySquare_42 : decode cX8_laySquare 42 = .ok (.getfield 54, 3) := by decide +kernel
theorem dX8_laySquare_45 : decode cX8_laySquare 45 = .ok (.iload_n 2, 1) := by decide +kernel
theorem dX8_laySquare_46 : decode cX8_laySquare 46 = .ok (.iaload, 1) := by decide +kernel
theorem dX8_laySquare_47 : decode cX8_laySquare 47 = .ok (.iconst 1, 1) := by decide +kernel
theorem dX8_laySquare_48 : decode cX8_laySquare 48 = .ok (.isub, 1) := by decide +kernel
theorem dX8_laySquare_49 : decode cX8_laySquare 49 = .ok (.istore_n 3, 1) := by decide +kernel
theorem dX8_laySquare_50 : decode cX8_laySquare 50 = .ok (.aload_n 0, 1) := by decide +kernel
theorem dX8_laySquare_51 : decode cX8_laySquare 51 = .ok (.getfield 57, 3) := by decide +kernel
theorem dX8_laySquare_54 : decode cX8_laySquare 54 = .ok (.iload_n 2, 1) := by decide +kernel
theorem dX8_laySquare_55 : decode cX8_laySquare 55 = .ok (.iaload, 1) := by decide +kernel
theorem dX8_laySquare_56 : decode cX8_laySquare 56 = .ok (.iconst 1, 1) := by decide +kernel
theorem dX8_laySquare_57 : decode cX8_laySquare 57 = .ok (.isub, 1) := by decide +kernel
theorem dX8_laySquare_58 : decode cX8_laySquare 58 = .ok (.istore 4, 2) := by decide +kernel
theorem dX8_laySquare_60 : decode cX8_laySquare 60 = .ok (.aload_n 0, 1) := by decide +kernel
theorem dX8_laySquare_61 : decode cX8_laySquare 61 = .ok (.iload_n 3, 1) := by decide +kernel
theorem dX8_laySquare_62 : decode cX8_laySquare 62 = .ok (.iload_n 3, 1) := by decide +kernel
theorem dX8_laySquare_63 : decode cX8_laySquare 63 = .ok (.aload_n 0, 1) := by decide +kernel
theorem dX8_laySquare_64 : decode cX8_laySquare 64 = .ok (.getfield 63, 3) := by decide +kernel
theorem dX8_laySquare_67 : decode cX8_laySquare 67 = .ok (.iload_n 2, 1) := by decide +kernel
theorem dX8_laySquare_68 : decode cX8_laySquare 68 = .ok (.iaload, 1) := by decide +kernel
theorem dX8_laySquare_69 : decode cX8_laySquare 69 = .ok (.iload_n 1, 1) := by decide +kernel
theorem dX8_laySquare_70 : decode cX8_laySquare 70 = .ok (.invokevirtual 221, 3) := by decide +kernel
theorem dX8_laySquare_73 : decode cX8_laySquare 73 = .ok (.aload_n 0, 1) := by decide +kernel
theorem dX8_laySquare_74 : decode cX8_laySquare 74 = .ok (.iload 4, 2) := by decide +kernel
theorem dX8_laySquare_76 : decode cX8_laySquare 76 = .ok (.iload 4, 2) := by decide +kernel
theorem dX8_laySquare_78 : decode cX8_laySquare 78 = .ok (.aload_n 0, 1) := by decide +kernel
theorem dX8_laySquare_79 : decode cX8_laySquare 79 = .ok (.getfield 63, 3) := by decide +kernel
theorem dX8_laySquare_82 : decode cX8_laySquare 82 = .ok (.iload_n 2, 1) := by decide +kernel
theorem dX8_laySquare_83 : decode cX8_laySquare 83 = .ok (.iaload, 1) := by decide +kernel
theorem dX8_laySquare_84 : decode cX8_laySquare 84 = .ok (.iload_n 1, 1) := by decide +kernel
theorem dX8_laySquare_85 : decode cX8_laySquare 85 = .ok (.invokevirtual 221, 3) := by decide +kernel
theorem dX8_laySquare_88 : decode cX8_laySquare 88 = .ok (.aload_n 0, 1) := by decide +kernel
theorem dX8_laySquare_89 : decode cX8_laySquare 89 = .ok (.iload_n 3, 1) := by decide +kernel
theorem dX8_laySquare_90 : decode cX8_laySquare 90 = .ok (.iload 4, 2) := by decide +kernel
theorem dX8_laySquare_92 : decode cX8_laySquare 92 = .ok (.aload_n 0, 1) := by decide +kernel
theorem dX8_laySquare_93 : decode cX8_laySquare 93 = .ok (.getfield 63, 3) := by decide +kernel
theorem dX8_laySquare_96 : decode cX8_laySquare 96 = .ok (.iload_n 2, 1) := by decide +kernel
theorem dX8_laySquare_97 : decode cX8_laySquare 97 = .ok (.iaload, 1) := by decide +kernel
theorem dX8_laySquare_98 : decode cX8_laySquare 98 = .ok (.ineg, 1) := by decide +kernel
theorem dX8_laySquare_99 : decode cX8_laySquare 99 = .ok (.iload_n 1, 1) := by decide +kernel
theorem dX8_laySquare_100 : decode cX8_laySquare 100 = .ok (.invokevirtual 221, 3) := by decide +kernel
theorem dX8_laySquare_103 : decode cX8_laySquare 103 = .ok (.aload_n 0, 1) := by decide +kernel
theorem dX8_laySquare_104 : decode cX8_laySquare 104 = .ok (.iload 4, 2) := by decide +kernel
theorem dX8_laySquare_106 : decode cX8_laySquare 106 = .ok (.iload_n 3, 1) := by decide +kernel
theorem dX8_laySquare_107 : decode cX8_laySquare 107 = .ok (.aload_n 0, 1) := by decide +kernel
theorem dX8_laySquare_108 : decode cX8_laySquare 108 = .ok (.getfield 63, 3) := by decide +kernel
theorem dX8_laySquare_111 : decode cX8_laySquare 111 = .ok (.iload_n 2, 1) := by decide +kernel
theorem dX8_laySquare_112 : decode cX8_laySquare 112 = .ok (.iaload, 1) := by decide +kernel
theorem dX8_laySquare_113 : decode cX8_laySquare 113 = .ok (.ineg, 1) := by decide +kernel
theorem dX8_laySquare_114 : decode cX8_laySquare 114 = .ok (.iload_n 1, 1) := by decide +kernel
theorem dX8_laySquare_115 : decode cX8_laySquare 115 = .ok (.invokevirtual 221, 3) := by decide +kernel
theorem dX8_laySquare_118 : decode cX8_laySquare 118 = .ok (.iload_n 1, 1) := by decide +kernel
theorem dX8_laySquare_119 : decode cX8_laySquare 119 = .ok (.ifCond .lt 60, 3) := by decide +kernel
theorem dX8_laySquare_122 : decode cX8_laySquare 122 = .ok (.aload_n 0, 1) := by decide +kernel
theorem dX8_laySquare_123 : decode cX8_laySquare 123 = .ok (.getfield 63, 3) := by decide +kernel
theorem dX8_laySquare_126 : decode cX8_laySquare 126 = .ok (.iload_n 2, 1) := by decide +kernel
theorem dX8_laySquare_127 : decode cX8_laySquare 127 = .ok (.iaload, 1) := by decide +kernel
theorem dX8_laySquare_128 : decode cX8_laySquare 128 = .ok (.i2l, 1) := by decide +kernel
theorem dX8_laySquare_129 : decode cX8_laySquare 129 = .ok (.aload_n 0, 1) := by decide +kernel
theorem dX8_laySquare_130 : decode cX8_laySquare 130 = .ok (.getfield 60, 3) := by decide +kernel
theorem dX8_laySquare_133 : decode cX8_laySquare 133 = .ok (.iload_n 2, 1) := by decide +kernel
theorem dX8_laySquare_134 : decode cX8_laySquare 134 = .ok (.iaload, 1) := by decide +kernel
theorem dX8_laySquare_135 : decode cX8_laySquare 135 = .ok (.i2l, 1) := by decide +kernel
theorem dX8_laySquare_136 : decode cX8_laySquare 136 = .ok (.lmul, 1) := by decide +kernel
theorem dX8_laySquare_137 : decode cX8_laySquare 137 = .ok (.lstore 5, 2) := by decide +kernel
theorem dX8_laySquare_139 : decode cX8_laySquare 139 = .ok (.iload_n 3, 1) := by decide +kernel
theorem dX8_laySquare_140 : decode cX8_laySquare 140 = .ok (.ifCond .lt 18, 3) := by decide +kernel
theorem dX8_laySquare_143 : decode cX8_laySquare 143 = .ok (.aload_n 0, 1) := by decide +kernel
theorem dX8_laySquare_144 : decode cX8_laySquare 144 = .ok (.getfield 66, 3) := by decide +kernel
theorem dX8_laySquare_147 : decode cX8_laySquare 147 = .ok (.iconst 5, 1) := by decide +kernel
theorem dX8_laySquare_148 : decode cX8_laySquare 148 = .ok (.iload_n 3, 1) := by decide +kernel
theorem dX8_laySquare_149 : decode cX8_laySquare 149 = .ok (.imul, 1) := by decide +kernel
theorem dX8_laySquare_150 : decode cX8_laySquare 150 = .ok (.iload_n 1, 1) := by decide +kernel
theorem dX8_laySquare_151 : decode cX8_laySquare 151 = .ok (.iadd, 1) := by decide +kernel
theorem dX8_laySquare_152 : decode cX8_laySquare 152 = .ok (.dup2, 1) := by decide +kernel
theorem dX8_laySquare_153 : decode cX8_laySquare 153 = .ok (.laload, 1) := by decide +kernel
theorem dX8_laySquare_154 : decode cX8_laySquare 154 = .ok (.lload 5, 2) := by decide +kernel
theorem dX8_laySquare_156 : decode cX8_laySquare 156 = .ok (.lsub, 1) := by decide +kernel
theorem dX8_laySquare_157 : decode cX8_laySquare 157 = .ok (.lastore, 1) := by decide +kernel
theorem dX8_laySquare_158 : decode cX8_laySquare 158 = .ok (.iload 4, 2) := by decide +kernel
theorem dX8_laySquare_160 : decode cX8_laySquare 160 = .ok (.ifCond .lt 19, 3) := by decide +kernel
theorem dX8_laySquare_163 : decode cX8_laySquare 163 = .ok (.aload_n 0, 1) := by decide +kernel
theorem dX8_laySquare_164 : decode cX8_laySquare 164 = .ok (.getfield 66, 3) := by decide +kernel
theorem dX8_laySquare_167 : decode cX8_laySquare 167 = .ok (.iconst 5, 1) := by decide +kernel
theorem dX8_laySquare_168 : decode cX8_laySquare 168 = .ok (.iload 4, 2) := by decide +kernel
theorem dX8_laySquare_170 : decode cX8_laySquare 170 = .ok (.imul, 1) := by decide +kernel
theorem dX8_laySquare_171 : decode cX8_laySquare 171 = .ok (.iload_n 1, 1) := by decide +kernel
theorem dX8_laySquare_172 : decode cX8_laySquare 172 = .ok (.iadd, 1) := by decide +kernel
theorem dX8_laySquare_173 : decode cX8_laySquare 173 = .ok (.dup2, 1) := by decide +kernel
theorem dX8_laySquare_174 : decode cX8_laySquare 174 = .ok (.laload, 1) := by decide +kernel
theorem dX8_laySquare_175 : decode cX8_laySquare 175 = .ok (.lload 5, 2) := by decide +kernel
theorem dX8_laySquare_177 : decode cX8_laySquare 177 = .ok (.ladd, 1) := by decide +kernel
theorem dX8_laySquare_178 : decode cX8_laySquare 178 = .ok (.lastore, 1) := by decide +kernel
theorem dX8_laySquare_179 : decode cX8_laySquare 179 = .ok (.iinc 2 1, 3) := by decide +kernel
theorem dX8_laySquare_182 : decode cX8_laySquare 182 = .ok (.goto (-149), 3) := by decide +kernel
theorem dX8_laySquare_185 : decode cX8_laySquare 185 = .ok (.return_, 1) := by decide +kernel
theorem dX8_addTo_0 : decode cX8_addTo 0 = .ok (.iload_n 1, 1) := by decide +kernel
theorem dX8_addTo_1 : decode cX8_addTo 1 = .ok (.ifCond .lt 28, 3) := by decide +kernel
theorem dX8_addTo_4 : decode cX8_addTo 4 = .ok (.iload_n 2, 1) := by decide +kernel
theorem dX8_addTo_5 : decode cX8_addTo 5 = .ok (.ifCond .lt 24, 3) := by decide +kernel
theorem dX8_addTo_8 : decode cX8_addTo 8 = .ok (.iload_n 2, 1) := by decide +kernel
theorem dX8_addTo_9 : decode cX8_addTo 9 = .ok (.iload 4, 2) := by decide +kernel
theorem dX8_addTo_11 : decode cX8_addTo 11 = .ok (.if_icmp .eq 18, 3) := by decide +kernel
theorem dX8_addTo_14 : decode cX8_addTo 14 = .ok (.aload_n 0, 1) := by decide +kernel
theorem dX8_addTo_15 : decode cX8_addTo 15 = .ok (.getfield 66, 3) := by decide +kernel
theorem dX8_addTo_18 : decode cX8_addTo 18 = .ok (.iconst 5, 1) := by decide +kernel
theorem dX8_addTo_19 : decode cX8_addTo 19 = .ok (.iload_n 1, 1) := by decide +kernel
theorem dX8_addTo_20 : decode cX8_addTo 20 = .ok (.imul, 1) := by decide +kernel
theorem dX8_addTo_21 : decode cX8_addTo 21 = .ok (.iload_n 2, 1) := by decide +kernel
theorem dX8_addTo_22 : decode cX8_addTo 22 = .ok (.iadd, 1) := by decide +kernel
theorem dX8_addTo_23 : decode cX8_addTo 23 = .ok (.dup2, 1) := by decide +kernel
theorem dX8_addTo_24 : decode cX8_addTo 24 = .ok (.laload, 1) := by decide +kernel
theorem dX8_addTo_25 : decode cX8_addTo 25 = .ok (.iload_n 3, 1) := by decide +kernel
theorem dX8_addTo_26 : decode cX8_addTo 26 = .ok (.i2l, 1) := by decide +kernel
theorem dX8_addTo_27 : decode cX8_addTo 27 = .ok (.ladd, 1) := by decide +kernel
theorem dX8_addTo_28 : decode cX8_addTo 28 = .ok (.lastore, 1) := by decide +kernel
theorem dX8_addTo_29 : decode cX8_addTo 29 = .ok (.return_, 1) := by decide +kernel
theorem dX8_findHeights_0 : decode cX8_findHeights 0 = .ok (.aload_n 0, 1) := by decide +kernel
theorem dX8_findHeights_1 : decode cX8_findHeights 1 = .ok (.invokevirtual 225, 3) := by decide +kernel
theorem dX8_findHeights_4 : decode cX8_findHeights 4 = .ok (.ifCond .ne 5, 3) := by decide +kernel
theorem dX8_findHeights_7 : decode cX8_findHeights 7 = .ok (.iconst 0, 1) := by decide +kernel
theorem dX8_findHeights_8 : decode cX8_findHeights 8 = .ok (.ireturn, 1) := by decide +kernel
theorem dX8_findHeights_9 : decode cX8_findHeights 9 = .ok (.aload_n 0, 1) := by decide +kernel
theorem dX8_findHeights_10 : decode cX8_findHeights 10 = .ok (.iconst (-1), 1) := by decide +kernel
theorem dX8_findHeights_11 : decode cX8_findHeights 11 = .ok (.invokevirtual 229, 3) := by decide +kernel
theorem dX8_findHeights_14 : decode cX8_findHeights 14 = .ok (.aload_n 0, 1) := by decide +kernel
theorem dX8_findHeights_15 : decode cX8_findHeights 15 = .ok (.aload_n 0, 1) := by decide +kernel
theorem dX8_findHeights_16 : decode cX8_findHeights 16 = .ok (.invokevirtual 233, 3) := by decide +kernel
theorem dX8_findHeights_19 : decode cX8_findHeights 19 = .ok (.putfield 237, 3) := by decide +kernel
theorem dX8_findHeights_22 : decode cX8_findHeights 22 = .ok (.aload_n 0, 1) := by decide +kernel
theorem dX8_findHeights_23 : decode cX8_findHeights 23 = .ok (.getfield 69, 3) := by decide +kernel
theorem dX8_findHeights_26 : decode cX8_findHeights 26 = .ok (.iconst 0, 1) := by decide +kernel
theorem dX8_findHeights_27 : decode cX8_findHeights 27 = .ok (.lconst 0, 1) := by decide +kernel
theorem dX8_findHeights_28 : decode cX8_findHeights 28 = .ok (.lastore, 1) := by decide +kernel
theorem dX8_findHeights_29 : decode cX8_findHeights 29 = .ok (.iconst 1, 1) := by decide +kernel
theorem dX8_findHeights_30 : decode cX8_findHeights 30 = .ok (.istore_n 1, 1) := by decide +kernel
theorem dX8_findHeights_31 : decode cX8_findHeights 31 = .ok (.iload_n 1, 1) := by decide +kernel
theorem dX8_findHeights_32 : decode cX8_findHeights 32 = .ok (.aload_n 0, 1) := by decide +kernel
theorem dX8_findHeights_33 : decode cX8_findHeights 33 = .ok (.getfield 50, 3) := by decide +kernel
theorem dX8_findHeights_36 : decode cX8_findHeights 36 = .ok (.if_icmp .ge 26, 3) := by decide +kernel
theorem dX8_findHeights_39 : decode cX8_findHeights 39 = .ok (.aload_n 0, 1) := by decide +kernel
theorem dX8_findHeights_40 : decode cX8_findHeights 40 = .ok (.iload_n 1, 1) := by decide +kernel
theorem dX8_findHeights_41 : decode cX8_findHeights 41 = .ok (.iconst 1, 1) := by decide +kernel
theorem dX8_findHeights_42 : decode cX8_findHeights 42 = .ok (.isub, 1) := by decide +kernel
theorem dX8_findHeights_43 : decode cX8_findHeights 43 = .ok (.invokevirtual 229, 3) := by decide +kernel
theorem dX8_findHeights_46 : decode cX8_findHeights 46 = .ok (.aload_n 0, 1) := by decide +kernel
theorem dX8_findHeights_47 : decode cX8_findHeights 47 = .ok (.getfield 69, 3) := by decide +kernel
theorem dX8_findHeights_50 : decode cX8_findHeights 50 = .ok (.iload_n 1, 1) := by decide +kernel
theorem dX8_findHeights_51 : decode cX8_findHeights 51 = .ok (.aload_n 0, 1) := by decide +kernel
theorem dX8_findHeights_52 : decode cX8_findHeights 52 = .ok (.invokevirtual 233, 3) := by decide +kernel
theorem dX8_findHeights_55 : decode cX8_findHeights 55 = .ok (.lastore, 1) := by decide +kernel
theorem dX8_findHeights_56 : decode cX8_findHeights 56 = .ok (.iinc 1 1, 3) := by decide +kernel
theorem dX8_findHeights_59 : decode cX8_findHeights 59 = .ok (.goto (-28), 3) := by decide +kernel
theorem dX8_findHeights_62 : decode cX8_findHeights 62 = .ok (.iconst 1, 1) := by decide +kernel
theorem dX8_findHeights_63 : decode cX8_findHeights 63 = .ok (.ireturn, 1) := by decide +kernel
theorem dX8_height_0 : decode cX8_height 0 = .ok (.aload_n 0, 1) := by decide +kernel
theorem dX8_height_1 : decode cX8_height 1 = .ok (.iload_n 1, 1) := by decide +kernel
theorem dX8_height_2 : decode cX8_height 2 = .ok (.invokevirtual 209, 3) := by decide +kernel
theorem dX8_height_5 : decode cX8_height 5 = .ok (.ifCond .ne 7, 3) := by decide +kernel
theorem dX8_height_8 : decode cX8_height 8 = .ok (.ldc2_w 136, 3) := by decide +kernel
theorem dX8_height_11 : decode cX8_height 11 = .ok (.lreturn, 1) := by decide +kernel
theorem dX8_height_12 : decode cX8_height 12 = .ok (.iload_n 2, 1) := by decide +kernel
theorem dX8_height_13 : decode cX8_height 13 = .ok (.i2l, 1) := by decide +kernel
theorem dX8_height_14 : decode cX8_height 14 = .ok (.lconst 0, 1) := by decide +kernel
theorem dX8_height_15 : decode cX8_height 15 = .ok (.lconst 1, 1) := by decide +kernel
theorem dX8_height_16 : decode cX8_height 16 = .ok (.invokestatic 102, 3) := by decide +kernel
theorem dX8_height_19 : decode cX8_height 19 = .ok (.ifCond .ne 7, 3) := by decide +kernel
theorem dX8_height_22 : decode cX8_height 22 = .ok (.ldc2_w 138, 3) := by decide +kernel
theorem dX8_height_25 : decode cX8_height 25 = .ok (.lreturn, 1) := by decide +kernel
theorem dX8_height_26 : decode cX8_height 26 = .ok (.aload_n 0, 1) := by decide +kernel
theorem dX8_height_27 : decode cX8_height 27 = .ok (.invokevirtual 241, 3) := by decide +kernel
theorem dX8_height_30 : decode cX8_height 30 = .ok (.ifCond .eq 20, 3) := by decide +kernel
theorem dX8_height_33 : decode cX8_height 33 = .ok (.aload_n 0, 1) := by decide +kernel
theorem dX8_height_34 : decode cX8_height 34 = .ok (.getfield 69, 3) := by decide +kernel
theorem dX8_height_37 : decode cX8_height 37 = .ok (.iload_n 1, 1) := by decide +kernel
theorem dX8_height_38 : decode cX8_height 38 = .ok (.laload, 1) := by decide +kernel
theorem dX8_height_39 : decode cX8_height 39 = .ok (.aload_n 0, 1) := by decide +kernel
theorem dX8_height_40 : decode cX8_height 40 = .ok (.getfield 237, 3) := by decide +kernel
theorem dX8_height_43 : decode cX8_height 43 = .ok (.iload_n 2, 1) := by decide +kernel
theorem dX8_height_44 : decode cX8_height 44 = .ok (.invokestatic 132, 3) := by decide +kernel
theorem dX8_height_47 : decode cX8_height 47 = .ok (.goto 6, 3) := by decide +kernel
theorem dX8_height_50 : decode cX8_height 50 = .ok (.ldc2_w 244, 3) := by decide +kernel
theorem dX8_height_53 : decode cX8_height 53 = .ok (.lreturn, 1) := by decide +kernel
theorem dX8_offUpper_0 : decode cX8_offUpper 0 = .ok (.aload_n 0, 1) := by decide +kernel
theorem dX8_offUpper_1 : decode cX8_offUpper 1 = .ok (.getfield 69, 3) := by decide +kernel
theorem dX8_offUpper_4 : decode cX8_offUpper 4 = .ok (.aload_n 0, 1) := by decide +kernel
theorem dX8_offUpper_5 : decode cX8_offUpper 5 = .ok (.getfield 57, 3) := by decide +kernel
theorem dX8_offUpper_8 : decode cX8_offUpper 8 = .ok (.iload_n 1, 1) := by decide +kernel
theorem dX8_offUpper_9 : decode cX8_offUpper 9 = .ok (.iaload, 1) := by decide +kernel
theorem dX8_offUpper_10 : decode cX8_offUpper 10 = .ok (.laload, 1) := by decide +kernel
theorem dX8_offUpper_11 : decode cX8_offUpper 11 = .ok (.aload_n 0, 1) := by decide +kernel
theorem dX8_offUpper_12 : decode cX8_offUpper 12 = .ok (.getfield 69, 3) := by decide +kernel
theorem dX8_offUpper_15 : decode cX8_offUpper 15 = .ok (.aload_n 0, 1) := by decide +kernel
theorem dX8_offUpper_16 : decode cX8_offUpper 16 = .ok (.getfield 54, 3) := by decide +kernel
theorem dX8_offUpper_19 : decode cX8_offUpper 19 = .ok (.iload_n 1, 1) := by decide +kernel
theorem dX8_offUpper_20 : decode cX8_offUpper 20 = .ok (.iaload, 1) := by decide +kernel
theorem dX8_offUpper_21 : decode cX8_offUpper 21 = .ok (.laload, 1) := by decide +kernel
theorem dX8_offUpper_22 : decode cX8_offUpper 22 = .ok (.lsub, 1) := by decide +kernel
theorem dX8_offUpper_23 : decode cX8_offUpper 23 = .ok (.aload_n 0, 1) := by decide +kernel
theorem dX8_offUpper_24 : decode cX8_offUpper 24 = .ok (.getfield 60, 3) := by decide +kernel
theorem dX8_offUpper_27 : decode cX8_offUpper 27 = .ok (.iload_n 1, 1) := by decide +kernel
theorem dX8_offUpper_28 : decode cX8_offUpper 28 = .ok (.iaload, 1) := by decide +kernel
theorem dX8_offUpper_29 : decode cX8_offUpper 29 = .ok (.i2l, 1) := by decide +kernel
theorem dX8_offUpper_30 : decode cX8_offUpper 30 = .ok (.aload_n 0, 1) := by decide +kernel
theorem dX8_offUpper_31 : decode cX8_offUpper 31 = .ok (.getfield 237, 3) := by decide +kernel
theorem dX8_offUpper_34 : decode cX8_offUpper 34 = .ok (.lmul, 1) := by decide +kernel
theorem dX8_offUpper_35 : decode cX8_offUpper 35 = .ok (.lsub, 1) := by decide +kernel
theorem dX8_offUpper_36 : decode cX8_offUpper 36 = .ok (.lreturn, 1) := by decide +kernel
theorem dX8_off_0 : decode cX8_off 0 = .ok (.iload_n 1, 1) := by decide +kernel
theorem dX8_off_1 : decode cX8_off 1 = .ok (.i2l, 1) := by decide +kernel
theorem dX8_off_2 : decode cX8_off 2 = .ok (.lconst 0, 1) := by decide +kernel
theorem dX8_off_3 : decode cX8_off 3 = .ok (.aload_n 0, 1) := by decide +kernel
theorem dX8_off_4 : decode cX8_off 4 = .ok (.getfield 206, 3) := by decide +kernel
theorem dX8_off_7 : decode cX8_off 7 = .ok (.iconst 1, 1) := by decide +kernel
theorem dX8_off_8 : decode cX8_off 8 = .ok (.isub, 1) := by decide +kernel
theorem dX8_off_9 : decode cX8_off 9 = .ok (.i2l, 1) := by decide +kernel
theorem dX8_off_10 : decode cX8_off 10 = .ok (.invokestatic 102, 3) := by decide +kernel
theorem dX8_off_13 : decode cX8_off 13 = .ok (.ifCond .ne 7, 3) := by decide +kernel
theorem dX8_off_16 : decode cX8_off 16 = .ok (.ldc2_w 136, 3) := by decide +kernel
theorem dX8_off_19 : decode cX8_off 19 = .ok (.lreturn, 1) := by decide +kernel
theorem dX8_off_20 : decode cX8_off 20 = .ok (.iload_n 2, 1) := by decide +kernel
theorem dX8_off_21 : decode cX8_off 21 = .ok (.i2l, 1) := by decide +kernel
theorem dX8_off_22 : decode cX8_off 22 = .ok (.lconst 0, 1) := by decide +kernel
theorem dX8_off_23 : decode cX8_off 23 = .ok (.lconst 1, 1) := by decide +kernel
theorem dX8_off_24 : decode cX8_off 24 = .ok (.invokestatic 102, 3) := by decide +kernel
theorem dX8_off_27 : decode cX8_off 27 = .ok (.ifCond .ne 7, 3) := by decide +kernel
theorem dX8_off_30 : decode cX8_off 30 = .ok (.ldc2_w 138, 3) := by decide +kernel
theorem dX8_off_33 : decode cX8_off 33 = .ok (.lreturn, 1) := by decide +kernel
theorem dX8_off_34 : decode cX8_off 34 = .ok (.aload_n 0, 1) := by decide +kernel
theorem dX8_off_35 : decode cX8_off 35 = .ok (.invokevirtual 241, 3) := by decide +kernel
theorem dX8_off_38 : decode cX8_off 38 = .ok (.ifCond .eq 19, 3) := by decide +kernel
theorem dX8_off_41 : decode cX8_off 41 = .ok (.aload_n 0, 1) := by decide +kernel
theorem dX8_off_42 : decode cX8_off 42 = .ok (.iload_n 1, 1) := by decide +kernel
theorem dX8_off_43 : decode cX8_off 43 = .ok (.invokevirtual 246, 3) := by decide +kernel
theorem dX8_off_46 : decode cX8_off 46 = .ok (.aload_n 0, 1) := by decide +kernel
theorem dX8_off_47 : decode cX8_off 47 = .ok (.getfield 237, 3) := by decide +kernel
theorem dX8_off_50 : decode cX8_off 50 = .ok (.iload_n 2, 1) := by decide +kernel
theorem dX8_off_51 : decode cX8_off 51 = .ok (.invokestatic 132, 3) := by decide +kernel
theorem dX8_off_54 : decode cX8_off 54 = .ok (.goto 6, 3) := by decide +kernel
theorem dX8_off_57 : decode cX8_off 57 = .ok (.ldc2_w 244, 3) := by decide +kernel
theorem dX8_off_60 : decode cX8_off 60 = .ok (.lreturn, 1) := by decide +kernel
theorem dX8_worst_0 : decode cX8_worst 0 = .ok (.aload_n 0, 1) := by decide +kernel
theorem dX8_worst_1 : decode cX8_worst 1 = .ok (.getfield 206, 3) := by decide +kernel
theorem dX8_worst_4 : decode cX8_worst 4 = .ok (.ifCond .ne 6, 3) := by decide +kernel
theorem dX8_worst_7 : decode cX8_worst 7 = .ok (.bipush (-6), 2) := by decide +kernel
theorem dX8_worst_9 : decode cX8_worst 9 = .ok (.ireturn, 1) := by decide +kernel
theorem dX8_worst_10 : decode cX8_worst 10 = .ok (.aload_n 0, 1) := by decide +kernel
theorem dX8_worst_11 : decode cX8_worst 11 = .ok (.invokevirtual 241, 3) := by decide +kernel
theorem dX8_worst_14 : decode cX8_worst 14 = .ok (.ifCond .ne 6, 3) := by decide +kernel
theorem dX8_worst_17 : decode cX8_worst 17 = .ok (.bipush (-5), 2) := by decide +kernel
theorem dX8_worst_19 : decode cX8_worst 19 = .ok (.ireturn, 1) := by decide +kernel
theorem dX8_worst_20 : decode cX8_worst 20 = .ok (.iconst 0, 1) := by decide +kernel
theorem dX8_worst_21 : decode cX8_worst 21 = .ok (.istore_n 1, 1) := by decide +kernel
theorem dX8_worst_22 : decode cX8_worst 22 = .ok (.iconst 1, 1) := by decide +kernel
theorem dX8_worst_23 : decode cX8_worst 23 = .ok (.istore_n 2, 1) := by decide +kernel
theorem dX8_worst_24 : decode cX8_worst 24 = .ok (.iload_n 2, 1) := by decide +kernel
theorem dX8_worst_25 : decode cX8_worst 25 = .ok (.aload_n 0, 1) := by decide +kernel
theorem dX8_worst_26 : decode cX8_worst 26 = .ok (.getfield 206, 3) := by decide +kernel
theorem dX8_worst_29 : decode cX8_worst 29 = .ok (.if_icmp .ge 35, 3) := by decide +kernel
theorem dX8_worst_32 : decode cX8_worst 32 = .ok (.aload_n 0, 1) := by decide +kernel
theorem dX8_worst_33 : decode cX8_worst 33 = .ok (.iload_n 2, 1) := by decide +kernel
theorem dX8_worst_34 : decode cX8_worst 34 = .ok (.invokevirtual 246, 3) := by decide +kernel
theorem dX8_worst_37 : decode cX8_worst 37 = .ok (.invokestatic 92, 3) := by decide +kernel
theorem dX8_worst_40 : decode cX8_worst 40 = .ok (.aload_n 0, 1) := by decide +kernel
theorem dX8_worst_41 : decode cX8_worst 41 = .ok (.iload_n 1, 1) := by decide +kernel
theorem dX8_worst_42 : decode cX8_worst 42 = .ok (.invokevirtual 246, 3) := by decide +kernel
theorem dX8_worst_45 : decode cX8_worst 45 = .ok (.invokestatic 92, 3) := by decide +kernel
theorem dX8_worst_48 : decode cX8_worst 48 = .ok (.lcmp, 1) := by decide +kernel
theorem dX8_worst_49 : decode cX8_worst 49 = .ok (.ifCond .le 7, 3) := by decide +kernel
theorem dX8_worst_52 : decode cX8_worst 52 = .ok (.iload_n 2, 1) := by decide +kernel
theorem dX8_worst_53 : decode cX8_worst 53 = .ok (.goto 4, 3) := by decide +kernel
theorem dX8_worst_56 : decode cX8_worst 56 = .ok (.iload_n 1, 1) := by decide +kernel
theorem dX8_worst_57 : decode cX8_worst 57 = .ok (.istore_n 1, 1) := by decide +kernel
theorem dX8_worst_58 : decode cX8_worst 58 = .ok (.iinc 2 1, 3) := by decide +kernel
theorem dX8_worst_61 : decode cX8_worst 61 = .ok (.goto (-37), 3) := by decide +kernel
theorem dX8_worst_64 : decode cX8_worst 64 = .ok (.iload_n 1, 1) := by decide +kernel
theorem dX8_worst_65 : decode cX8_worst 65 = .ok (.ireturn, 1) := by decide +kernel
theorem dX8_firstOf_0 : decode cX8_firstOf 0 = .ok (.iconst 0, 1) := by decide +kernel
theorem dX8_firstOf_1 : decode cX8_firstOf 1 = .ok (.istore_n 3, 1) := by decide +kernel
theorem dX8_firstOf_2 : decode cX8_firstOf 2 = .ok (.iload_n 3, 1) := by decide +kernel
theorem dX8_firstOf_3 : decode cX8_firstOf 3 = .ok (.aload_n 0, 1) := by decide +kernel
theorem dX8_firstOf_4 : decode cX8_firstOf 4 = .ok (.getfield 206, 3) := by decide +kernel
theorem dX8_firstOf_7 : decode cX8_firstOf 7 = .ok (.if_icmp .ge 51, 3) := by decide +kernel
theorem dX8_firstOf_10 : decode cX8_firstOf 10 = .ok (.aload_n 0, 1) := by decide +kernel
theorem dX8_firstOf_11 : decode cX8_firstOf 11 = .ok (.getfield 54, 3) := by decide +kernel
theorem dX8_firstOf_14 : decode cX8_firstOf 14 = .ok (.iload_n 3, 1) := by decide +kernel
theorem dX8_firstOf_15 : decode cX8_firstOf 15 = .ok (.iaload, 1) := by decide +kernel
theorem dX8_firstOf_16 : decode cX8_firstOf 16 = .ok (.iload_n 1, 1) := by decide +kernel
theorem dX8_firstOf_17 : decode cX8_firstOf 17 = .ok (.if_icmp .ne 13, 3) := by decide +kernel
theorem dX8_firstOf_20 : decode cX8_firstOf 20 = .ok (.aload_n 0, 1) := by decide +kernel
theorem dX8_firstOf_21 : decode cX8_firstOf 21 = .ok (.getfield 57, 3) := by decide +kernel
theorem dX8_firstOf_24 : decode cX8_firstOf 24 = .ok (.iload_n 3, 1) := by decide +kernel
theorem dX8_firstOf_25 : decode cX8_firstOf 25 = .ok (.iaload, 1) := by decide +kernel
theorem dX8_firstOf_26 : decode cX8_firstOf 26 = .ok (.iload_n 2, 1) := by decide +kernel
theorem dX8_firstOf_27 : decode cX8_firstOf 27 = .ok (.if_icmp .eq 23, 3) := by decide +kernel
theorem dX8_firstOf_30 : decode cX8_firstOf 30 = .ok (.aload_n 0, 1) := by decide +kernel
theorem dX8_firstOf_31 : decode cX8_firstOf 31 = .ok (.getfield 54, 3) := by decide +kernel
theorem dX8_firstOf_34 : decode cX8_firstOf 34 = .ok (.iload_n 3, 1) := by decide +kernel
theorem dX8_firstOf_35 : decode cX8_firstOf 35 = .ok (.iaload, 1) := by decide +kernel
theorem dX8_firstOf_36 : decode cX8_firstOf 36 = .ok (.iload_n 2, 1) := by decide +kernel
theorem dX8_firstOf_37 : decode cX8_firstOf 37 = .ok (.if_icmp .ne 15, 3) := by decide +kernel
theorem dX8_firstOf_40 : decode cX8_firstOf 40 = .ok (.aload_n 0, 1) := by decide +kernel
theorem dX8_firstOf_41 : decode cX8_firstOf 41 = .ok (.getfield 57, 3) := by decide +kernel
theorem dX8_firstOf_44 : decode cX8_firstOf 44 = .ok (.iload_n 3, 1) := by decide +kernel
theorem dX8_firstOf_45 : decode cX8_firstOf 45 = .ok (.iaload, 1) := by decide +kernel
theorem dX8_firstOf_46 : decode cX8_firstOf 46 = .ok (.iload_n 1, 1) := by decide +kernel
theorem dX8_firstOf_47 : decode cX8_firstOf 47 = .ok (.if_icmp .ne 5, 3) := by decide +kernel
theorem dX8_firstOf_50 : decode cX8_firstOf 50 = .ok (.iload_n 3, 1) := by decide +kernel
theorem dX8_firstOf_51 : decode cX8_firstOf 51 = .ok (.ireturn, 1) := by decide +kernel
theorem dX8_firstOf_52 : decode cX8_firstOf 52 = .ok (.iinc 3 1, 3) := by decide +kernel
theorem dX8_firstOf_55 : decode cX8_firstOf 55 = .ok (.goto (-53), 3) := by decide +kernel
theorem dX8_firstOf_58 : decode cX8_firstOf 58 = .ok (.iconst (-1), 1) := by decide +kernel
theorem dX8_firstOf_59 : decode cX8_firstOf 59 = .ok (.ireturn, 1) := by decide +kernel
theorem dX8_closing_0 : decode cX8_closing 0 = .ok (.aload_n 0, 1) := by decide +kernel
theorem dX8_closing_1 : decode cX8_closing 1 = .ok (.iload_n 1, 1) := by decide +kernel
theorem dX8_closing_2 : decode cX8_closing 2 = .ok (.invokevirtual 209, 3) := by decide +kernel
theorem dX8_closing_5 : decode cX8_closing 5 = .ok (.ifCond .eq 34, 3) := by decide +kernel
theorem dX8_closing_8 : decode cX8_closing 8 = .ok (.aload_n 0, 1) := by decide +kernel
theorem dX8_closing_9 : decode cX8_closing 9 = .ok (.iload_n 2, 1) := by decide +kernel
theorem dX8_closing_10 : decode cX8_closing 10 = .ok (.invokevirtual 209, 3) := by decide +kernel
theorem dX8_closing_13 : decode cX8_closing 13 = .ok (.ifCond .eq 26, 3) := by decide +kernel
theorem dX8_closing_16 : decode cX8_closing 16 = .ok (.aload_n 0, 1) := by decide +kernel
theorem dX8_closing_17 : decode cX8_closing 17 = .ok (.iload_n 3, 1) := by decide +kernel
theorem dX8_closing_18 : decode cX8_closing 18 = .ok (.invokevirtual 209, 3) := by decide +kernel
theorem dX8_closing_21 : decode cX8_closing 21 = .ok (.ifCond .eq 18, 3) := by decide +kernel
theorem dX8_closing_24 : decode cX8_closing 24 = .ok (.iload_n 1, 1) := by decide +kernel
theorem dX8_closing_25 : decode cX8_closing 25 = .ok (.iload_n 2, 1) := by decide +kernel
theorem dX8_closing_26 : decode cX8_closing 26 = .ok (.if_icmp .eq 13, 3) := by decide +kernel
theorem dX8_closing_29 : decode cX8_closing 29 = .ok (.iload_n 2, 1) := by decide +kernel
theorem dX8_closing_30 : decode cX8_closing 30 = .ok (.iload_n 3, 1) := by decide +kernel
theorem dX8_closing_31 : decode cX8_closing 31 = .ok (.if_icmp .eq 8, 3) := by decide +kernel
theorem dX8_closing_34 : decode cX8_closing 34 = .ok (.iload_n 1, 1) := by decide +kernel
theorem dX8_closing_35 : decode cX8_closing 35 = .ok (.iload_n 3, 1) := by decide +kernel
theorem dX8_closing_36 : decode cX8_closing 36 = .ok (.if_icmp .ne 7, 3) := by decide +kernel
theorem dX8_closing_39 : decode cX8_closing 39 = .ok (.ldc2_w 136, 3) := by decide +kernel
theorem dX8_closing_42 : decode cX8_closing 42 = .ok (.lreturn, 1) := by decide +kernel
theorem dX8_closing_43 : decode cX8_closing 43 = .ok (.lconst 0, 1) := by decide +kernel
theorem dX8_closing_44 : decode cX8_closing 44 = .ok (.lstore 4, 2) := by decide +kernel
theorem dX8_closing_46 : decode cX8_closing 46 = .ok (.iconst 0, 1) := by decide +kernel
theorem dX8_closing_47 : decode cX8_closing 47 = .ok (.istore 6, 2) := by decide +kernel
theorem dX8_closing_49 : decode cX8_closing 49 = .ok (.iload 6, 2) := by decide +kernel
theorem dX8_closing_51 : decode cX8_closing 51 = .ok (.iconst 3, 1) := by decide +kernel
theorem dX8_closing_52 : decode cX8_closing 52 = .ok (.if_icmp .ge 109, 3) := by decide +kernel
theorem dX8_closing_55 : decode cX8_closing 55 = .ok (.iload 6, 2) := by decide +kernel
theorem dX8_closing_57 : decode cX8_closing 57 = .ok (.ifCond .ne 7, 3) := by decide +kernel
theorem dX8_closing_60 : decode cX8_closing 60 = .ok (.iload_n 1, 1) := by decide +kernel
theorem dX8_closing_61 : decode cX8_closing 61 = .ok (.goto 14, 3) := by decide +kernel
theorem dX8_closing_64 : decode cX8_closing 64 = .ok (.iload 6, 2) := by decide +kernel
theorem dX8_closing_66 : decode cX8_closing 66 = .ok (.iconst 1, 1) := by decide +kernel
theorem dX8_closing_67 : decode cX8_closing 67 = .ok (.if_icmp .ne 7, 3) := by decide +kernel
theorem dX8_closing_70 : decode cX8_closing 70 = .ok (.iload_n 2, 1) := by decide +kernel
theorem dX8_closing_71 : decode cX8_closing 71 = .ok (.goto 4, 3) := by decide +kernel
theorem dX8_closing_74 : decode cX8_closing 74 = .ok (.iload_n 3, 1) := by decide +kernel
theorem dX8_closing_75 : decode cX8_closing 75 = .ok (.istore 7, 2) := by decide +kernel
theorem dX8_closing_77 : decode cX8_closing 77 = .ok (.iload 6, 2) := by decide +kernel
theorem dX8_closing_79 : decode cX8_closing 79 = .ok (.ifCond .ne 7, 3) := by decide +kernel
theorem dX8_closing_82 : decode cX8_closing 82 = .ok (.iload_n 2, 1) := by decide +kernel
theorem dX8_closing_83 : decode cX8_closing 83 = .ok (.goto 14, 3) := by decide +kernel
theorem dX8_closing_86 : decode cX8_closing 86 = .ok (.iload 6, 2) := by decide +kernel
theorem dX8_closing_88 : decode cX8_closing 88 = .ok (.iconst 1, 1) := by decide +kernel
theorem dX8_closing_89 : decode cX8_closing 89 = .ok (.if_icmp .ne 7, 3) := by decide +kernel
theorem dX8_closing_92 : decode cX8_closing 92 = .ok (.iload_n 3, 1) := by decide +kernel
theorem dX8_closing_93 : decode cX8_closing 93 = .ok (.goto 4, 3) := by decide +kernel
theorem dX8_closing_96 : decode cX8_closing 96 = .ok (.iload_n 1, 1) := by decide +kernel
theorem dX8_closing_97 : decode cX8_closing 97 = .ok (.istore 8, 2) := by decide +kernel
theorem dX8_closing_99 : decode cX8_closing 99 = .ok (.aload_n 0, 1) := by decide +kernel
theorem dX8_closing_100 : decode cX8_closing 100 = .ok (.iload 7, 2) := by decide +kernel
theorem dX8_closing_102 : decode cX8_closing 102 = .ok (.iload 8, 2) := by decide +kernel
theorem dX8_closing_104 : decode cX8_closing 104 = .ok (.invokevirtual 250, 3) := by decide +kernel
theorem dX8_closing_107 : decode cX8_closing 107 = .ok (.istore 9, 2) := by decide +kernel
theorem dX8_closing_109 : decode cX8_closing 109 = .ok (.iload 9, 2) := by decide +kernel
theorem dX8_closing_111 : decode cX8_closing 111 = .ok (.ifCond .ge 7, 3) := by decide +kernel
theorem dX8_closing_114 : decode cX8_closing 114 = .ok (.ldc2_w 197, 3) := by decide +kernel
theorem dX8_closing_117 : decode cX8_closing 117 = .ok (.lreturn, 1) := by decide +kernel
theorem dX8_closing_118 : decode cX8_closing 118 = .ok (.lload 4, 2) := by decide +kernel
theorem dX8_closing_120 : decode cX8_closing 120 = .ok (.aload_n 0, 1) := by decide +kernel
theorem dX8_closing_121 : decode cX8_closing 121 = .ok (.getfield 54, 3) := by decide +kernel
theorem dX8_closing_124 : decode cX8_closing 124 = .ok (.iload 9, 2) := by decide +kernel
theorem dX8_closing_126 : decode cX8_closing 126 = .ok (.iaload, 1) := by decide +kernel
theorem dX8_closing_127 : decode cX8_closing 127 = .ok (.iload 7, 2) := by decide +kernel
theorem dX8_closing_129 : decode cX8_closing 129 = .ok (.if_icmp .ne 14, 3) := by decide +kernel
theorem dX8_closing_132 : decode cX8_closing 132 = .ok (.aload_n 0, 1) := by decide +kernel
theorem dX8_closing_133 : decode cX8_closing 133 = .ok (.getfield 60, 3) := by decide +kernel
theorem dX8_closing_136 : decode cX8_closing 136 = .ok (.iload 9, 2) := by decide +kernel
theorem dX8_closing_138 : decode cX8_closing 138 = .ok (.iaload, 1) := by decide +kernel
theorem dX8_closing_139 : decode cX8_closing 139 = .ok (.i2l, 1) := by decide +kernel
theorem dX8_closing_140 : decode cX8_closing 140 = .ok (.goto 12, 3) := by decide +kernel
theorem dX8_closing_143 : decode cX8_closing 143 = .ok (.aload_n 0, 1) := by decide +kernel
theorem dX8_closing_144 : decode cX8_closing 144 = .ok (.getfield 60, 3) := by decide +kernel
theorem dX8_closing_147 : decode cX8_closing 147 = .ok (.iload 9, 2) := by decide +kernel
theorem dX8_closing_149 : decode cX8_closing 149 = .ok (.iaload, 1) := by decide +kernel
theorem dX8_closing_150 : decode cX8_closing 150 = .ok (.ineg, 1) := by decide +kernel
theorem dX8_closing_151 : decode cX8_closing 151 = .ok (.i2l, 1) := by decide +kernel
theorem dX8_closing_152 : decode cX8_closing 152 = .ok (.ladd, 1) := by decide +kernel
theorem dX8_closing_153 : decode cX8_closing 153 = .ok (.lstore 4, 2) := by decide +kernel
theorem dX8_closing_155 : decode cX8_closing 155 = .ok (.iinc 6 1, 3) := by decide +kernel
theorem dX8_closing_158 : decode cX8_closing 158 = .ok (.goto (-109), 3) := by decide +kernel
theorem dX8_closing_161 : decode cX8_closing 161 = .ok (.lload 4, 2) := by decide +kernel
theorem dX8_closing_163 : decode cX8_closing 163 = .ok (.lreturn, 1) := by decide +kernel
theorem dX8_hasAny_0 : decode cX8_hasAny 0 = .ok (.iconst 0, 1) := by decide +kernel
theorem dX8_hasAny_1 : decode cX8_hasAny 1 = .ok (.istore_n 3, 1) := by decide +kernel
theorem dX8_hasAny_2 : decode cX8_hasAny 2 = .ok (.iconst 0, 1) := by decide +kernel
theorem dX8_hasAny_3 : decode cX8_hasAny 3 = .ok (.istore 4, 2) := by decide +kernel
theorem dX8_hasAny_5 : decode cX8_hasAny 5 = .ok (.iload 4, 2) := by decide +kernel
theorem dX8_hasAny_7 : decode cX8_hasAny 7 = .ok (.aload_n 0, 1) := by decide +kernel
theorem dX8_hasAny_8 : decode cX8_hasAny 8 = .ok (.getfield 154, 3) := by decide +kernel
theorem dX8_hasAny_11 : decode cX8_hasAny 11 = .ok (.if_icmp .ge 35, 3) := by decide +kernel
theorem dX8_hasAny_14 : decode cX8_hasAny 14 = .ok (.iload_n 3, 1) := by decide +kernel
theorem dX8_hasAny_15 : decode cX8_hasAny 15 = .ok (.ifCond .ne 19, 3) := by decide +kernel
theorem dX8_hasAny_18 : decode cX8_hasAny 18 = .ok (.iload 4, 2) := by decide +kernel
theorem dX8_hasAny_20 : decode cX8_hasAny 20 = .ok (.iload_n 2, 1) := by decide +kernel
theorem dX8_hasAny_21 : decode cX8_hasAny 21 = .ok (.if_icmp .eq 17, 3) := by decide +kernel
theorem dX8_hasAny_24 : decode cX8_hasAny 24 = .ok (.aload_n 0, 1) := by decide +kernel
theorem dX8_hasAny_25 : decode cX8_hasAny 25 = .ok (.iload 4, 2) := by decide +kernel
theorem dX8_hasAny_27 : decode cX8_hasAny 27 = .ok (.iload_n 1, 1) := by decide +kernel
theorem dX8_hasAny_28 : decode cX8_hasAny 28 = .ok (.invokevirtual 172, 3) := by decide +kernel
theorem dX8_hasAny_31 : decode cX8_hasAny 31 = .ok (.ifCond .eq 7, 3) := by decide +kernel
theorem dX8_hasAny_34 : decode cX8_hasAny 34 = .ok (.iconst 1, 1) := by decide +kernel
theorem dX8_hasAny_35 : decode cX8_hasAny 35 = .ok (.goto 4, 3) := by decide +kernel
theorem dX8_hasAny_38 : decode cX8_hasAny 38 = .ok (.iconst 0, 1) := by decide +kernel
theorem dX8_hasAny_39 : decode cX8_hasAny 39 = .ok (.istore_n 3, 1) := by decide +kernel
theorem dX8_hasAny_40 : decode cX8_hasAny 40 = .ok (.iinc 4 1, 3) := by decide +kernel
theorem dX8_hasAny_43 : decode cX8_hasAny 43 = .ok (.goto (-38), 3) := by decide +kernel
theorem dX8_hasAny_46 : decode cX8_hasAny 46 = .ok (.iload_n 3, 1) := by decide +kernel
theorem dX8_hasAny_47 : decode cX8_hasAny 47 = .ok (.ireturn, 1) := by decide +kernel
theorem dX8_findLevels_0 : decode cX8_findLevels 0 = .ok (.iconst 0, 1) := by decide +kernel
theorem dX8_findLevels_1 : decode cX8_findLevels 1 = .ok (.istore_n 2, 1) := by decide +kernel
theorem dX8_findLevels_2 : decode cX8_findLevels 2 = .ok (.iload_n 2, 1) := by decide +kernel
theorem dX8_findLevels_3 : decode cX8_findLevels 3 = .ok (.aload_n 0, 1) := by decide +kernel
theorem dX8_findLevels_4 : decode cX8_findLevels 4 = .ok (.getfield 154, 3) := by decide +kernel
theorem dX8_findLevels_7 : decode cX8_findLevels 7 = .ok (.if_icmp .ge 34, 3) := by decide +kernel
theorem dX8_findLevels_10 : decode cX8_findLevels 10 = .ok (.aload_n 0, 1) := by decide +kernel
theorem dX8_findLevels_11 : decode cX8_findLevels 11 = .ok (.getfield 72, 3) := by decide +kernel
theorem dX8_findLevels_14 : decode cX8_findLevels 14 = .ok (.iload_n 2, 1) := by decide +kernel
theorem dX8_findLevels_15 : decode cX8_findLevels 15 = .ok (.aload_n 0, 1) := by decide +kernel
theorem dX8_findLevels_16 : decode cX8_findLevels 16 = .ok (.iload_n 2, 1) := by decide +kernel
theorem dX8_findLevels_17 : decode cX8_findLevels 17 = .ok (.iload_n 1, 1) := by decide +kernel
theorem dX8_findLevels_18 : decode cX8_findLevels 18 = .ok (.invokevirtual 172, 3) := by decide +kernel
theorem dX8_findLevels_21 : decode cX8_findLevels 21 = .ok (.ifCond .eq 12, 3) := by decide +kernel
theorem dX8_findLevels_24 : decode cX8_findLevels 24 = .ok (.aload_n 0, 1) := by decide +kernel
theorem dX8_findLevels_25 : decode cX8_findLevels 25 = .ok (.iload_n 2, 1) := by decide +kernel
theorem dX8_findLevels_26 : decode cX8_findLevels 26 = .ok (.iload_n 1, 1) := by decide +kernel
theorem dX8_findLevels_27 : decode cX8_findLevels 27 = .ok (.invokevirtual 199, 3) := by decide +kernel
theorem dX8_findLevels_30 : decode cX8_findLevels 30 = .ok (.goto 4, 3) := by decide +kernel
theorem dX8_findLevels_33 : decode cX8_findLevels 33 = .ok (.iconst 0, 1) := by decide +kernel
theorem dX8_findLevels_34 : decode cX8_findLevels 34 = .ok (.iastore, 1) := by decide +kernel
theorem dX8_findLevels_35 : decode cX8_findLevels 35 = .ok (.iinc 2 1, 3) := by decide +kernel
theorem dX8_findLevels_38 : decode cX8_findLevels 38 = .ok (.goto (-36), 3) := by decide +kernel
theorem dX8_findLevels_41 : decode cX8_findLevels 41 = .ok (.return_, 1) := by decide +kernel
theorem dX8_fieldAt_0 : decode cX8_fieldAt 0 = .ok (.lconst 0, 1) := by decide +kernel
theorem dX8_fieldAt_1 : decode cX8_fieldAt 1 = .ok (.lstore 5, 2) := by decide +kernel
theorem dX8_fieldAt_3 : decode cX8_fieldAt 3 = .ok (.lconst 0, 1) := by decide +kernel
theorem dX8_fieldAt_4 : decode cX8_fieldAt 4 = .ok (.lstore 7, 2) := by decide +kernel
theorem dX8_fieldAt_6 : decode cX8_fieldAt 6 = .ok (.iconst 0, 1) := by decide +kernel
theorem dX8_fieldAt_7 : decode cX8_fieldAt 7 = .ok (.istore 9, 2) := by decide +kernel
theorem dX8_fieldAt_9 : decode cX8_fieldAt 9 = .ok (.iload 9, 2) := by decide +kernel
theorem dX8_fieldAt_11 : decode cX8_fieldAt 11 = .ok (.aload_n 0, 1) := by decide +kernel
theorem dX8_fieldAt_12 : decode cX8_fieldAt 12 = .ok (.getfield 154, 3) := by decide +kernel
theorem dX8_fieldAt_15 : decode cX8_fieldAt 15 = .ok (.if_icmp .ge 91, 3) := by decide +kernel
theorem dX8_fieldAt_18 : decode cX8_fieldAt 18 = .ok (.iload 9, 2) := by decide +kernel
theorem dX8_fieldAt_20 : decode cX8_fieldAt 20 = .ok (.iload 4, 2) := by decide +kernel
theorem dX8_fieldAt_22 : decode cX8_fieldAt 22 = .ok (.if_icmp .eq 78, 3) := by decide +kernel
theorem dX8_fieldAt_25 : decode cX8_fieldAt 25 = .ok (.aload_n 0, 1) := by decide +kernel
theorem dX8_fieldAt_26 : decode cX8_fieldAt 26 = .ok (.iload 9, 2) := by decide +kernel
theorem dX8_fieldAt_28 : decode cX8_fieldAt 28 = .ok (.iload_n 1, 1) := by decide +kernel
theorem dX8_fieldAt_29 : decode cX8_fieldAt 29 = .ok (.invokevirtual 172, 3) := by decide +kernel
theorem dX8_fieldAt_32 : decode cX8_fieldAt 32 = .ok (.ifCond .eq 68, 3) := by decide +kernel
theorem dX8_fieldAt_35 : decode cX8_fieldAt 35 = .ok (.iload_n 2, 1) := by decide +kernel
theorem dX8_fieldAt_36 : decode cX8_fieldAt 36 = .ok (.aload_n 0, 1) := by decide +kernel
theorem dX8_fieldAt_37 : decode cX8_fieldAt 37 = .ok (.getfield 23, 3) := by decide +kernel
theorem dX8_fieldAt_40 : decode cX8_fieldAt 40 = .ok (.iload 9, 2) := by decide +kernel
theorem dX8_fieldAt_42 : decode cX8_fieldAt 42 = .ok (.iaload, 1) := by decide +kernel
theorem dX8_fieldAt_43 : decode cX8_fieldAt 43 = .ok (.isub, 1) := by decide +kernel
theorem dX8_fieldAt_44 : decode cX8_fieldAt 44 = .ok (.istore 10, 2) := by decide +kernel
theorem dX8_fieldAt_46 : decode cX8_fieldAt 46 = .ok (.iload_n 3, 1) := by decide +kernel
theorem dX8_fieldAt_47 : decode cX8_fieldAt 47 = .ok (.aload_n 0, 1) := by decide +kernel
theorem dX8_fieldAt_48 : decode cX8_fieldAt 48 = .ok (.getfield 26, 3) := by decide +kernel
theorem dX8_fieldAt_51 : decode cX8_fieldAt 51 = .ok (.iload 9, 2) := by decide +kernel
theorem dX8_fieldAt_53 : decode cX8_fieldAt 53 = .ok (.iaload, 1) := by decide +kernel
theorem dX8_fieldAt_54 : decode cX8_fieldAt 54 = .ok (.isub, 1) := by decide +kernel
theorem dX8_fieldAt_55 : decode cX8_fieldAt 55 = .ok (.istore 11, 2) := by decide +kernel
theorem dX8_fieldAt_57 : decode cX8_fieldAt 57 = .ok (.sipush 1000, 3) := by decide +kernel
theorem dX8_fieldAt_60 : decode cX8_fieldAt 60 = .ok (.iconst 1, 1) := by decide +kernel
theorem dX8_fieldAt_61 : decode cX8_fieldAt 61 = .ok (.iload 10, 2) := by decide +kernel
theorem dX8_fieldAt_63 : decode cX8_fieldAt 63 = .ok (.iload 10, 2) := by decide +kernel
theorem dX8_fieldAt_65 : decode cX8_fieldAt 65 = .ok (.imul, 1) := by decide +kernel
theorem dX8_fieldAt_66 : decode cX8_fieldAt 66 = .ok (.iadd, 1) := by decide +kernel
theorem dX8_fieldAt_67 : decode cX8_fieldAt 67 = .ok (.iload 11, 2) := by decide +kernel
theorem dX8_fieldAt_69 : decode cX8_fieldAt 69 = .ok (.iload 11, 2) := by decide +kernel
theorem dX8_fieldAt_71 : decode cX8_fieldAt 71 = .ok (.imul, 1) := by decide +kernel
theorem dX8_fieldAt_72 : decode cX8_fieldAt 72 = .ok (.iadd, 1) := by decide +kernel
theorem dX8_fieldAt_73 : decode cX8_fieldAt 73 = .ok (.idiv, 1) := by decide +kernel
theorem dX8_fieldAt_74 : decode cX8_fieldAt 74 = .ok (.i2l, 1) := by decide +kernel
theorem dX8_fieldAt_75 : decode cX8_fieldAt 75 = .ok (.lstore 12, 2) := by decide +kernel
theorem dX8_fieldAt_77 : decode cX8_fieldAt 77 = .ok (.lload 5, 2) := by decide +kernel
theorem dX8_fieldAt_79 : decode cX8_fieldAt 79 = .ok (.aload_n 0, 1) := by decide +kernel
theorem dX8_fieldAt_80 : decode cX8_fieldAt 80 = .ok (.getfield 72, 3) := by decide +kernel
theorem dX8_fieldAt_83 : decode cX8_fieldAt 83 = .ok (.iload 9, 2) := by decide +kernel
theorem dX8_fieldAt_85 : decode cX8_fieldAt 85 = .ok (.iaload, 1) := by decide +kernel
theorem dX8_fieldAt_86 : decode cX8_fieldAt 86 = .ok (.i2l, 1) := by decide +kernel
theorem dX8_fieldAt_87 : decode cX8_fieldAt 87 = .ok (.lload 12, 2) := by decide +kernel
theorem dX8_fieldAt_89 : decode cX8_fieldAt 89 = .ok (.lmul, 1) := by decide +kernel
theorem dX8_fieldAt_90 : decode cX8_fieldAt 90 = .ok (.ladd, 1) := by decide +kernel
theorem dX8_fieldAt_91 : decode cX8_fieldAt 91 = .ok (.lstore 5, 2) := by decide +kernel
theorem dX8_fieldAt_93 : decode cX8_fieldAt 93 = .ok (.lload 7, 2) := by decide +kernel
theorem dX8_fieldAt_95 : decode cX8_fieldAt 95 = .ok (.lload 12, 2) := by decide +kernel
theorem dX8_fieldAt_97 : decode cX8_fieldAt 97 = .ok (.ladd, 1) := by decide +kernel
theorem dX8_fieldAt_98 : decode cX8_fieldAt 98 = .ok (.lstore 7, 2) := by decide +kernel
theorem dX8_fieldAt_100 : decode cX8_fieldAt 100 = .ok (.iinc 9 1, 3) := by decide +kernel
theorem dX8_fieldAt_103 : decode cX8_fieldAt 103 = .ok (.goto (-94), 3) := by decide +kernel
theorem dX8_fieldAt_106 : decode cX8_fieldAt 106 = .ok (.lload 5, 2) := by decide +kernel
theorem dX8_fieldAt_108 : decode cX8_fieldAt 108 = .ok (.lload 7, 2) := by decide +kernel
theorem dX8_fieldAt_110 : decode cX8_fieldAt 110 = .ok (.ldiv, 1) := by decide +kernel
theorem dX8_fieldAt_111 : decode cX8_fieldAt 111 = .ok (.lreturn, 1) := by decide +kernel
theorem dX8_field_0 : decode cX8_field 0 = .ok (.iload_n 1, 1) := by decide +kernel
theorem dX8_field_1 : decode cX8_field 1 = .ok (.invokestatic 169, 3) := by decide +kernel
theorem dX8_field_4 : decode cX8_field 4 = .ok (.ifCond .eq 11, 3) := by decide +kernel
theorem dX8_field_7 : decode cX8_field 7 = .ok (.iload_n 2, 1) := by decide +kernel
theorem dX8_field_8 : decode cX8_field 8 = .ok (.iload_n 3, 1) := by decide +kernel
theorem dX8_field_9 : decode cX8_field 9 = .ok (.invokestatic 161, 3) := by decide +kernel
theorem dX8_field_12 : decode cX8_field 12 = .ok (.ifCond .ne 7, 3) := by decide +kernel
theorem dX8_field_15 : decode cX8_field 15 = .ok (.ldc2_w 138, 3) := by decide +kernel
theorem dX8_field_18 : decode cX8_field 18 = .ok (.lreturn, 1) := by decide +kernel
theorem dX8_field_19 : decode cX8_field 19 = .ok (.aload_n 0, 1) := by decide +kernel
theorem dX8_field_20 : decode cX8_field 20 = .ok (.iload_n 1, 1) := by decide +kernel
theorem dX8_field_21 : decode cX8_field 21 = .ok (.iconst (-1), 1) := by decide +kernel
theorem dX8_field_22 : decode cX8_field 22 = .ok (.invokevirtual 253, 3) := by decide +kernel
theorem dX8_field_25 : decode cX8_field 25 = .ok (.ifCond .ne 7, 3) := by decide +kernel
theorem dX8_field_28 : decode cX8_field 28 = .ok (.ldc2_w 197, 3) := by decide +kernel
theorem dX8_field_31 : decode cX8_field 31 = .ok (.lreturn, 1) := by decide +kernel
theorem dX8_field_32 : decode cX8_field 32 = .ok (.aload_n 0, 1) := by decide +kernel
theorem dX8_field_33 : decode cX8_field 33 = .ok (.iload_n 1, 1) := by decide +kernel
theorem dX8_field_34 : decode cX8_field 34 = .ok (.invokevirtual 256, 3) := by decide +kernel
theorem dX8_field_37 : decode cX8_field 37 = .ok (.aload_n 0, 1) := by decide +kernel
theorem dX8_field_38 : decode cX8_field 38 = .ok (.iload_n 1, 1) := by decide +kernel
theorem dX8_field_39 : decode cX8_field 39 = .ok (.iload_n 2, 1) := by decide +kernel
theorem dX8_field_40 : decode cX8_field 40 = .ok (.iload_n 3, 1) := by decide +kernel
theorem dX8_field_41 : decode cX8_field 41 = .ok (.iconst (-1), 1) := by decide +kernel
theorem dX8_field_42 : decode cX8_field 42 = .ok (.invokevirtual 259, 3) := by decide +kernel
theorem dX8_field_45 : decode cX8_field 45 = .ok (.lreturn, 1) := by decide +kernel
theorem dX8_findSheet_0 : decode cX8_findSheet 0 = .ok (.aload_n 0, 1) := by decide +kernel
theorem dX8_findSheet_1 : decode cX8_findSheet 1 = .ok (.iload_n 1, 1) := by decide +kernel
theorem dX8_findSheet_2 : decode cX8_findSheet 2 = .ok (.invokevirtual 256, 3) := by decide +kernel
theorem dX8_findSheet_5 : decode cX8_findSheet 5 = .ok (.iconst 0, 1) := by decide +kernel
theorem dX8_findSheet_6 : decode cX8_findSheet 6 = .ok (.istore_n 2, 1) := by decide +kernel
theorem dX8_findSheet_7 : decode cX8_findSheet 7 = .ok (.iload_n 2, 1) := by decide +kernel
theorem dX8_findSheet_8 : decode cX8_findSheet 8 = .ok (.bipush 64, 2) := by decide +kernel
theorem dX8_findSheet_10 : decode cX8_findSheet 10 = .ok (.if_icmp .ge 29, 3) := by decide +kernel
theorem dX8_findSheet_13 : decode cX8_findSheet 13 = .ok (.aload_n 0, 1) := by decide +kernel
theorem dX8_findSheet_14 : decode cX8_findSheet 14 = .ok (.getfield 75, 3) := by decide +kernel
theorem dX8_findSheet_17 : decode cX8_findSheet 17 = .ok (.iload_n 2, 1) := by decide +kernel
theorem dX8_findSheet_18 : decode cX8_findSheet 18 = .ok (.aload_n 0, 1) := by decide +kernel
theorem dX8_findSheet_19 : decode cX8_findSheet 19 = .ok (.iload_n 1, 1) := by decide +kernel
theorem dX8_findSheet_20 : decode cX8_findSheet 20 = .ok (.iload_n 2, 1) := by decide +kernel
theorem dX8_findSheet_21 : decode cX8_findSheet 21 = .ok (.bipush 8, 2) := by decide +kernel
theorem dX8_findSheet_23 : decode cX8_findSheet 23 = .ok (.irem, 1) := by decide +kernel
theorem dX8_findSheet_24 : decode cX8_findSheet 24 = .ok (.iload_n 2, 1) := by decide +kernel
theorem dX8_findSheet_25 : decode cX8_findSheet 25 = .ok (.bipush 8, 2) := by decide +kernel
theorem dX8_findSheet_27 : decode cX8_findSheet 27 = .ok (.idiv, 1) := by decide +kernel
theorem dX8_findSheet_28 : decode cX8_findSheet 28 = .ok (.iconst (-1), 1) := by decide +kernel
theorem dX8_findSheet_29 : decode cX8_findSheet 29 = .ok (.invokevirtual 259, 3) := by decide +kernel
theorem dX8_findSheet_32 : decode cX8_findSheet 32 = .ok (.lastore, 1) := by decide +kernel
theorem dX8_findSheet_33 : decode cX8_findSheet 33 = .ok (.iinc 2 1, 3) := by decide +kernel
theorem dX8_findSheet_36 : decode cX8_findSheet 36 = .ok (.goto (-29), 3) := by decide +kernel
theorem dX8_findSheet_39 : decode cX8_findSheet 39 = .ok (.return_, 1) := by decide +kernel
theorem dX8_isLow_0 : decode cX8_isLow 0 = .ok (.iconst (-1), 1) := by decide +kernel
theorem dX8_isLow_1 : decode cX8_isLow 1 = .ok (.istore_n 2, 1) := by decide +kernel
theorem dX8_isLow_2 : decode cX8_isLow 2 = .ok (.iload_n 2, 1) := by decide +kernel
theorem dX8_isLow_3 : decode cX8_isLow 3 = .ok (.iconst 2, 1) := by decide +kernel
theorem dX8_isLow_4 : decode cX8_isLow 4 = .ok (.if_icmp .ge 106, 3) := by decide +kernel
theorem dX8_isLow_7 : decode cX8_isLow 7 = .ok (.iconst (-1), 1) := by decide +kernel
theorem dX8_isLow_8 : decode cX8_isLow 8 = .ok (.istore_n 3, 1) := by decide +kernel
theorem dX8_isLow_9 : decode cX8_isLow 9 = .ok (.iload_n 3, 1) := by decide +kernel
theorem dX8_isLow_10 : decode cX8_isLow 10 = .ok (.iconst 2, 1) := by decide +kernel
theorem dX8_isLow_11 : decode cX8_isLow 11 = .ok (.if_icmp .ge 93, 3) := by decide +kernel
theorem dX8_isLow_14 : decode cX8_isLow 14 = .ok (.iload_n 1, 1) := by decide +kernel
theorem dX8_isLow_15 : decode cX8_isLow 15 = .ok (.bipush 8, 2) := by decide +kernel
theorem dX8_isLow_17 : decode cX8_isLow 17 = .ok (.irem, 1) := by decide +kernel
theorem dX8_isLow_18 : decode cX8_isLow 18 = .ok (.iload_n 3, 1) := by decide +kernel
theorem dX8_isLow_19 : decode cX8_isLow 19 = .ok (.iadd, 1) := by decide +kernel
theorem dX8_isLow_20 : decode cX8_isLow 20 = .ok (.istore 4, 2) := by decide +kernel
theorem dX8_isLow_22 : decode cX8_isLow 22 = .ok (.iload_n 1, 1) := by decide +kernel
theorem dX8_isLow_23 : decode cX8_isLow 23 = .ok (.bipush 8, 2) := by decide +kernel
theorem dX8_isLow_25 : decode cX8_isLow 25 = .ok (.idiv, 1) := by decide +kernel
theorem dX8_isLow_26 : decode cX8_isLow 26 = .ok (.iload_n 2, 1) := by decide +kernel
theorem dX8_isLow_27 : decode cX8_isLow 27 = .ok (.iadd, 1) := by decide +kernel
theorem dX8_isLow_28 : decode cX8_isLow 28 = .ok (.istore 5, 2) := by decide +kernel
theorem dX8_isLow_30 : decode cX8_isLow 30 = .ok (.bipush 8, 2) := by decide +kernel
theorem dX8_isLow_32 : decode cX8_isLow 32 = .ok (.iload 5, 2) := by decide +kernel
theorem dX8_isLow_34 : decode cX8_isLow 34 = .ok (.imul, 1) := by decide +kernel
theorem dX8_isLow_35 : decode cX8_isLow 35 = .ok (.iload 4, 2) := by decide +kernel
theorem dX8_isLow_37 : decode cX8_isLow 37 = .ok (.iadd, 1) := by decide +kernel
theorem dX8_isLow_38 : decode cX8_isLow 38 = .ok (.istore 6, 2) := by decide +kernel
theorem dX8_isLow_40 : decode cX8_isLow 40 = .ok (.iload 4, 2) := by decide +kernel
theorem dX8_isLow_42 : decode cX8_isLow 42 = .ok (.iload 5, 2) := by decide +kernel
theorem dX8_isLow_44 : decode cX8_isLow 44 = .ok (.invokestatic 161, 3) := by decide +kernel
theorem dX8_isLow_47 : decode cX8_isLow 47 = .ok (.ifCond .eq 51, 3) := by decide +kernel
theorem dX8_isLow_50 : decode cX8_isLow 50 = .ok (.iload 6, 2) := by decide +kernel
theorem dX8_isLow_52 : decode cX8_isLow 52 = .ok (.iload_n 1, 1) := by decide +kernel
theorem dX8_isLow_53 : decode cX8_isLow 53 = .ok (.if_icmp .eq 45, 3) := by decide +kernel
theorem dX8_isLow_56 : decode cX8_isLow 56 = .ok (.aload_n 0, 1) := by decide +kernel
theorem dX8_isLow_57 : decode cX8_isLow 57 = .ok (.getfield 75, 3) := by decide +kernel
theorem dX8_isLow_60 : decode cX8_isLow 60 = .ok (.iload 6, 2) := by decide +kernel
theorem dX8_isLow_62 : decode cX8_isLow 62 = .ok (.laload, 1) := by decide +kernel
theorem dX8_isLow_63 : decode cX8_isLow 63 = .ok (.aload_n 0, 1) := by decide +kernel
theorem dX8_isLow_64 : decode cX8_isLow 64 = .ok (.getfield 75, 3) := by decide +kernel
theorem dX8_isLow_67 : decode cX8_isLow 67 = .ok (.iload_n 1, 1) := by decide +kernel
theorem dX8_isLow_68 : decode cX8_isLow 68 = .ok (.laload, 1) := by decide +kernel
theorem dX8_isLow_69 : decode cX8_isLow 69 = .ok (.lcmp, 1) := by decide +kernel
theorem dX8_isLow_70 : decode cX8_isLow 70 = .ok (.ifCond .lt 26, 3) := by decide +kernel
theorem dX8_isLow_73 : decode cX8_isLow 73 = .ok (.aload_n 0, 1) := by decide +kernel
theorem dX8_isLow_74 : decode cX8_isLow 74 = .ok (.getfield 75, 3) := by decide +kernel
theorem dX8_isLow_77 : decode cX8_isLow 77 = .ok (.iload 6, 2) := by decide +kernel
theorem dX8_isLow_79 : decode cX8_isLow 79 = .ok (.laload, 1) := by decide +kernel
theorem dX8_isLow_80 : decode cX8_isLow 80 = .ok (.aload_n 0, 1) := by decide +kernel
theorem dX8_isLow_81 : decode cX8_isLow 81 = .ok (.getfield 75, 3) := by decide +kernel
theorem dX8_isLow_84 : decode cX8_isLow 84 = .ok (.iload_n 1, 1) := by decide +kernel
theorem dX8_isLow_85 : decode cX8_isLow 85 = .ok (.laload, 1) := by decide +kernel
theorem dX8_isLow_86 : decode cX8_isLow 86 = .ok (.lcmp, 1) := by decide +kernel
theorem dX8_isLow_87 : decode cX8_isLow 87 = .ok (.ifCond .ne 11, 3) := by decide +kernel
theorem dX8_isLow_90 : decode cX8_isLow 90 = .ok (.iload 6, 2) := by decide +kernel
theorem dX8_isLow_92 : decode cX8_isLow 92 = .ok (.iload_n 1, 1) := by decide +kernel
theorem dX8_isLow_93 : decode cX8_isLow 93 = .ok (.if_icmp .ge 5, 3) := by decide +kernel
theorem dX8_isLow_96 : decode cX8_isLow 96 = .ok (.iconst 0, 1) := by decide +kernel
theorem dX8_isLow_97 : decode cX8_isLow 97 = .ok (.ireturn, 1) := by decide +kernel
theorem dX8_isLow_98 : decode cX8_isLow 98 = .ok (.iinc 3 1, 3) := by decide +kernel
theorem dX8_isLow_101 : decode cX8_isLow 101 = .ok (.goto (-92), 3) := by decide +kernel
theorem dX8_isLow_104 : decode cX8_isLow 104 = .ok (.iinc 2 1, 3) := by decide +kernel
theorem dX8_isLow_107 : decode cX8_isLow 107 = .ok (.goto (-105), 3) := by decide +kernel
theorem dX8_isLow_110 : decode cX8_isLow 110 = .ok (.iconst 1, 1) := by decide +kernel
theorem dX8_isLow_111 : decode cX8_isLow 111 = .ok (.ireturn, 1) := by decide +kernel
theorem dX8_lowOf_0 : decode cX8_lowOf 0 = .ok (.aload_n 0, 1) := by decide +kernel
theorem dX8_lowOf_1 : decode cX8_lowOf 1 = .ok (.iload_n 1, 1) := by decide +kernel
theorem dX8_lowOf_2 : decode cX8_lowOf 2 = .ok (.iconst (-1), 1) := by decide +kernel
theorem dX8_lowOf_3 : decode cX8_lowOf 3 = .ok (.invokevirtual 253, 3) := by decide +kernel
theorem dX8_lowOf_6 : decode cX8_lowOf 6 = .ok (.ifCond .ne 15, 3) := by decide +kernel
theorem dX8_lowOf_9 : decode cX8_lowOf 9 = .ok (.iload_n 2, 1) := by decide +kernel
theorem dX8_lowOf_10 : decode cX8_lowOf 10 = .ok (.iconst (-1), 1) := by decide +kernel
theorem dX8_lowOf_11 : decode cX8_lowOf 11 = .ok (.if_icmp .ne 7, 3) := by decide +kernel
theorem dX8_lowOf_14 : decode cX8_lowOf 14 = .ok (.iconst 0, 1) := by decide +kernel
theorem dX8_lowOf_15 : decode cX8_lowOf 15 = .ok (.goto 5, 3) := by decide +kernel
theorem dX8_lowOf_18 : decode cX8_lowOf 18 = .ok (.bipush (-6), 2) := by decide +kernel
theorem dX8_lowOf_20 : decode cX8_lowOf 20 = .ok (.ireturn, 1) := by decide +kernel
theorem dX8_lowOf_21 : decode cX8_lowOf 21 = .ok (.aload_n 0, 1) := by decide +kernel
theorem dX8_lowOf_22 : decode cX8_lowOf 22 = .ok (.iload_n 1, 1) := by decide +kernel
theorem dX8_lowOf_23 : decode cX8_lowOf 23 = .ok (.invokevirtual 263, 3) := by decide +kernel
theorem dX8_lowOf_26 : decode cX8_lowOf 26 = .ok (.iconst 0, 1) := by decide +kernel
theorem dX8_lowOf_27 : decode cX8_lowOf 27 = .ok (.istore_n 3, 1) := by decide +kernel
theorem dX8_lowOf_28 : decode cX8_lowOf 28 = .ok (.iconst 0, 1) := by decide +kernel
theorem dX8_lowOf_29 : decode cX8_lowOf 29 = .ok (.istore 4, 2) := by decide +kernel
theorem dX8_lowOf_31 : decode cX8_lowOf 31 = .ok (.iload 4, 2) := by decide +kernel
theorem dX8_lowOf_33 : decode cX8_lowOf 33 = .ok (.bipush 64, 2) := by decide +kernel
theorem dX8_lowOf_35 : decode cX8_lowOf 35 = .ok (.if_icmp .ge 29, 3) := by decide +kernel
theorem dX8_lowOf_38 : decode cX8_lowOf 38 = .ok (.aload_n 0, 1) := by decide +kernel
theorem dX8_lowOf_39 : decode cX8_lowOf 39 = .ok (.iload 4, 2) := by decide +kernel
theorem dX8_lowOf_41 : decode cX8_lowOf 41 = .ok (.invokevirtual 266, 3) := by decide +kernel
theorem dX8_lowOf_44 : decode cX8_lowOf 44 = .ok (.ifCond .eq 14, 3) := by decide +kernel
theorem dX8_lowOf_47 : decode cX8_lowOf 47 = .ok (.iload_n 3, 1) := by decide +kernel
theorem dX8_lowOf_48 : decode cX8_lowOf 48 = .ok (.iload_n 2, 1) := by decide +kernel
theorem dX8_lowOf_49 : decode cX8_lowOf 49 = .ok (.if_icmp .ne 6, 3) := by decide +kernel
theorem dX8_lowOf_52 : decode cX8_lowOf 52 = .ok (.iload 4, 2) := by decide +kernel
theorem dX8_lowOf_54 : decode cX8_lowOf 54 = .ok (.ireturn, 1) := by decide +kernel
theorem dX8_lowOf_55 : decode cX8_lowOf 55 = .ok (.iinc 3 1, 3) := by decide +kernel
theorem dX8_lowOf_58 : decode cX8_lowOf 58 = .ok (.iinc 4 1, 3) := by decide +kernel
theorem dX8_lowOf_61 : decode cX8_lowOf 61 = .ok (.goto (-30), 3) := by decide +kernel
theorem dX8_lowOf_64 : decode cX8_lowOf 64 = .ok (.iload_n 2, 1) := by decide +kernel
theorem dX8_lowOf_65 : decode cX8_lowOf 65 = .ok (.iconst (-1), 1) := by decide +kernel
theorem dX8_lowOf_66 : decode cX8_lowOf 66 = .ok (.if_icmp .ne 7, 3) := by decide +kernel
theorem dX8_lowOf_69 : decode cX8_lowOf 69 = .ok (.iload_n 3, 1) := by decide +kernel
theorem dX8_lowOf_70 : decode cX8_lowOf 70 = .ok (.goto 5, 3) := by decide +kernel
theorem dX8_lowOf_73 : decode cX8_lowOf 73 = .ok (.bipush (-6), 2) := by decide +kernel
theorem dX8_lowOf_75 : decode cX8_lowOf 75 = .ok (.ireturn, 1) := by decide +kernel
theorem dX8_low_0 : decode cX8_low 0 = .ok (.iload_n 1, 1) := by decide +kernel
