theorem dX8_seal_83 : decode cX8_seal 83 = .ok (.iload 5, 2) := by decide +kernel
theorem dX8_seal_85 : decode cX8_seal 85 = .ok (.isub, 1) := by decide +kernel
theorem dX8_seal_86 : decode cX8_seal 86 = .ok (.i2l, 1) := by decide +kernel
theorem dX8_seal_87 : decode cX8_seal 87 = .ok (.lstore 8, 2) := by decide +kernel
theorem dX8_seal_89 : decode cX8_seal 89 = .ok (.lload 8, 2) := by decide +kernel
theorem dX8_seal_91 : decode cX8_seal 91 = .ok (.lconst 0, 1) := by decide +kernel
theorem dX8_seal_92 : decode cX8_seal 92 = .ok (.lcmp, 1) := by decide +kernel
theorem dX8_seal_93 : decode cX8_seal 93 = .ok (.ifCond .ge 13, 3) := by decide +kernel
theorem dX8_seal_96 : decode cX8_seal 96 = .ok (.lload 6, 2) := by decide +kernel
theorem dX8_seal_98 : decode cX8_seal 98 = .ok (.lneg, 1) := by decide +kernel
theorem dX8_seal_99 : decode cX8_seal 99 = .ok (.lstore 6, 2) := by decide +kernel
theorem dX8_seal_101 : decode cX8_seal 101 = .ok (.lload 8, 2) := by decide +kernel
theorem dX8_seal_103 : decode cX8_seal 103 = .ok (.lneg, 1) := by decide +kernel
theorem dX8_seal_104 : decode cX8_seal 104 = .ok (.lstore 8, 2) := by decide +kernel
theorem dX8_seal_106 : decode cX8_seal 106 = .ok (.lload 6, 2) := by decide +kernel
theorem dX8_seal_108 : decode cX8_seal 108 = .ok (.lconst 0, 1) := by decide +kernel
theorem dX8_seal_109 : decode cX8_seal 109 = .ok (.lcmp, 1) := by decide +kernel
theorem dX8_seal_110 : decode cX8_seal 110 = .ok (.ifCond .ge 6, 3) := by decide +kernel
theorem dX8_seal_113 : decode cX8_seal 113 = .ok (.bipush (-5), 2) := by decide +kernel
theorem dX8_seal_115 : decode cX8_seal 115 = .ok (.ireturn, 1) := by decide +kernel
theorem dX8_seal_116 : decode cX8_seal 116 = .ok (.aload_n 0, 1) := by decide +kernel
theorem dX8_seal_117 : decode cX8_seal 117 = .ok (.getfield 16, 3) := by decide +kernel
theorem dX8_seal_120 : decode cX8_seal 120 = .ok (.iload_n 1, 1) := by decide +kernel
theorem dX8_seal_121 : decode cX8_seal 121 = .ok (.lload 6, 2) := by decide +kernel
theorem dX8_seal_123 : decode cX8_seal 123 = .ok (.lload 8, 2) := by decide +kernel
theorem dX8_seal_125 : decode cX8_seal 125 = .ok (.iconst 0, 1) := by decide +kernel
theorem dX8_seal_126 : decode cX8_seal 126 = .ok (.invokestatic 132, 3) := by decide +kernel
theorem dX8_seal_129 : decode cX8_seal 129 = .ok (.lastore, 1) := by decide +kernel
theorem dX8_seal_130 : decode cX8_seal 130 = .ok (.aload_n 0, 1) := by decide +kernel
theorem dX8_seal_131 : decode cX8_seal 131 = .ok (.getfield 20, 3) := by decide +kernel
theorem dX8_seal_134 : decode cX8_seal 134 = .ok (.iload_n 1, 1) := by decide +kernel
theorem dX8_seal_135 : decode cX8_seal 135 = .ok (.lload 6, 2) := by decide +kernel
theorem dX8_seal_137 : decode cX8_seal 137 = .ok (.lload 8, 2) := by decide +kernel
theorem dX8_seal_139 : decode cX8_seal 139 = .ok (.iconst 1, 1) := by decide +kernel
theorem dX8_seal_140 : decode cX8_seal 140 = .ok (.invokestatic 132, 3) := by decide +kernel
theorem dX8_seal_143 : decode cX8_seal 143 = .ok (.lastore, 1) := by decide +kernel
theorem dX8_seal_144 : decode cX8_seal 144 = .ok (.lload 6, 2) := by decide +kernel
theorem dX8_seal_146 : decode cX8_seal 146 = .ok (.lconst 0, 1) := by decide +kernel
theorem dX8_seal_147 : decode cX8_seal 147 = .ok (.lcmp, 1) := by decide +kernel
theorem dX8_seal_148 : decode cX8_seal 148 = .ok (.ifCond .le 7, 3) := by decide +kernel
theorem dX8_seal_151 : decode cX8_seal 151 = .ok (.iconst 1, 1) := by decide +kernel
theorem dX8_seal_152 : decode cX8_seal 152 = .ok (.goto 4, 3) := by decide +kernel
theorem dX8_seal_155 : decode cX8_seal 155 = .ok (.iconst 0, 1) := by decide +kernel
theorem dX8_seal_156 : decode cX8_seal 156 = .ok (.ireturn, 1) := by decide +kernel
theorem dX8_air_0 : decode cX8_air 0 = .ok (.iload_n 1, 1) := by decide +kernel
theorem dX8_air_1 : decode cX8_air 1 = .ok (.invokestatic 122, 3) := by decide +kernel
theorem dX8_air_4 : decode cX8_air 4 = .ok (.ifCond .ne 7, 3) := by decide +kernel
theorem dX8_air_7 : decode cX8_air 7 = .ok (.ldc2_w 136, 3) := by decide +kernel
theorem dX8_air_10 : decode cX8_air 10 = .ok (.lreturn, 1) := by decide +kernel
theorem dX8_air_11 : decode cX8_air 11 = .ok (.iload_n 2, 1) := by decide +kernel
theorem dX8_air_12 : decode cX8_air 12 = .ok (.ifCond .ne 12, 3) := by decide +kernel
theorem dX8_air_15 : decode cX8_air 15 = .ok (.aload_n 0, 1) := by decide +kernel
theorem dX8_air_16 : decode cX8_air 16 = .ok (.getfield 16, 3) := by decide +kernel
theorem dX8_air_19 : decode cX8_air 19 = .ok (.iload_n 1, 1) := by decide +kernel
theorem dX8_air_20 : decode cX8_air 20 = .ok (.laload, 1) := by decide +kernel
theorem dX8_air_21 : decode cX8_air 21 = .ok (.goto 20, 3) := by decide +kernel
theorem dX8_air_24 : decode cX8_air 24 = .ok (.iload_n 2, 1) := by decide +kernel
theorem dX8_air_25 : decode cX8_air 25 = .ok (.iconst 1, 1) := by decide +kernel
theorem dX8_air_26 : decode cX8_air 26 = .ok (.if_icmp .ne 12, 3) := by decide +kernel
theorem dX8_air_29 : decode cX8_air 29 = .ok (.aload_n 0, 1) := by decide +kernel
theorem dX8_air_30 : decode cX8_air 30 = .ok (.getfield 20, 3) := by decide +kernel
theorem dX8_air_33 : decode cX8_air 33 = .ok (.iload_n 1, 1) := by decide +kernel
theorem dX8_air_34 : decode cX8_air 34 = .ok (.laload, 1) := by decide +kernel
theorem dX8_air_35 : decode cX8_air 35 = .ok (.goto 6, 3) := by decide +kernel
theorem dX8_air_38 : decode cX8_air 38 = .ok (.ldc2_w 138, 3) := by decide +kernel
theorem dX8_air_41 : decode cX8_air 41 = .ok (.lreturn, 1) := by decide +kernel
theorem dX8_dropOf_0 : decode cX8_dropOf 0 = .ok (.iload_n 0, 1) := by decide +kernel
theorem dX8_dropOf_1 : decode cX8_dropOf 1 = .ok (.tableswitch 71 1 9 #[51, 54, 57, 60, 63, 65, 67, 69, 69], 51) := by decide +kernel
theorem dX8_dropOf_52 : decode cX8_dropOf 52 = .ok (.bipush 40, 2) := by decide +kernel
theorem dX8_dropOf_54 : decode cX8_dropOf 54 = .ok (.ireturn, 1) := by decide +kernel
theorem dX8_dropOf_55 : decode cX8_dropOf 55 = .ok (.bipush 20, 2) := by decide +kernel
theorem dX8_dropOf_57 : decode cX8_dropOf 57 = .ok (.ireturn, 1) := by decide +kernel
theorem dX8_dropOf_58 : decode cX8_dropOf 58 = .ok (.bipush 12, 2) := by decide +kernel
theorem dX8_dropOf_60 : decode cX8_dropOf 60 = .ok (.ireturn, 1) := by decide +kernel
theorem dX8_dropOf_61 : decode cX8_dropOf 61 = .ok (.bipush 8, 2) := by decide +kernel
theorem dX8_dropOf_63 : decode cX8_dropOf 63 = .ok (.ireturn, 1) := by decide +kernel
theorem dX8_dropOf_64 : decode cX8_dropOf 64 = .ok (.iconst 5, 1) := by decide +kernel
theorem dX8_dropOf_65 : decode cX8_dropOf 65 = .ok (.ireturn, 1) := by decide +kernel
theorem dX8_dropOf_66 : decode cX8_dropOf 66 = .ok (.iconst 3, 1) := by decide +kernel
theorem dX8_dropOf_67 : decode cX8_dropOf 67 = .ok (.ireturn, 1) := by decide +kernel
theorem dX8_dropOf_68 : decode cX8_dropOf 68 = .ok (.iconst 2, 1) := by decide +kernel
theorem dX8_dropOf_69 : decode cX8_dropOf 69 = .ok (.ireturn, 1) := by decide +kernel
theorem dX8_dropOf_70 : decode cX8_dropOf 70 = .ok (.iconst 1, 1) := by decide +kernel
theorem dX8_dropOf_71 : decode cX8_dropOf 71 = .ok (.ireturn, 1) := by decide +kernel
theorem dX8_dropOf_72 : decode cX8_dropOf 72 = .ok (.iconst 0, 1) := by decide +kernel
theorem dX8_dropOf_73 : decode cX8_dropOf 73 = .ok (.ireturn, 1) := by decide +kernel
theorem dX8_rightOf_0 : decode cX8_rightOf 0 = .ok (.iload_n 2, 1) := by decide +kernel
theorem dX8_rightOf_1 : decode cX8_rightOf 1 = .ok (.aload_n 0, 1) := by decide +kernel
theorem dX8_rightOf_2 : decode cX8_rightOf 2 = .ok (.getfield 13, 3) := by decide +kernel
theorem dX8_rightOf_5 : decode cX8_rightOf 5 = .ok (.bipush 6, 2) := by decide +kernel
theorem dX8_rightOf_7 : decode cX8_rightOf 7 = .ok (.iload_n 1, 1) := by decide +kernel
theorem dX8_rightOf_8 : decode cX8_rightOf 8 = .ok (.imul, 1) := by decide +kernel
theorem dX8_rightOf_9 : decode cX8_rightOf 9 = .ok (.iaload, 1) := by decide +kernel
theorem dX8_rightOf_10 : decode cX8_rightOf 10 = .ok (.iadd, 1) := by decide +kernel
theorem dX8_rightOf_11 : decode cX8_rightOf 11 = .ok (.istore 4, 2) := by decide +kernel
theorem dX8_rightOf_13 : decode cX8_rightOf 13 = .ok (.iload 4, 2) := by decide +kernel
theorem dX8_rightOf_15 : decode cX8_rightOf 15 = .ok (.iload 4, 2) := by decide +kernel
theorem dX8_rightOf_17 : decode cX8_rightOf 17 = .ok (.aload_n 0, 1) := by decide +kernel
theorem dX8_rightOf_18 : decode cX8_rightOf 18 = .ok (.getfield 13, 3) := by decide +kernel
theorem dX8_rightOf_21 : decode cX8_rightOf 21 = .ok (.bipush 6, 2) := by decide +kernel
theorem dX8_rightOf_23 : decode cX8_rightOf 23 = .ok (.iload_n 1, 1) := by decide +kernel
theorem dX8_rightOf_24 : decode cX8_rightOf 24 = .ok (.imul, 1) := by decide +kernel
theorem dX8_rightOf_25 : decode cX8_rightOf 25 = .ok (.iconst 2, 1) := by decide +kernel
theorem dX8_rightOf_26 : decode cX8_rightOf 26 = .ok (.iadd, 1) := by decide +kernel
theorem dX8_rightOf_27 : decode cX8_rightOf 27 = .ok (.iaload, 1) := by decide +kernel
theorem dX8_rightOf_28 : decode cX8_rightOf 28 = .ok (.isub, 1) := by decide +kernel
theorem dX8_rightOf_29 : decode cX8_rightOf 29 = .ok (.aload_n 0, 1) := by decide +kernel
theorem dX8_rightOf_30 : decode cX8_rightOf 30 = .ok (.getfield 13, 3) := by decide +kernel
theorem dX8_rightOf_33 : decode cX8_rightOf 33 = .ok (.bipush 6, 2) := by decide +kernel
theorem dX8_rightOf_35 : decode cX8_rightOf 35 = .ok (.iload_n 1, 1) := by decide +kernel
theorem dX8_rightOf_36 : decode cX8_rightOf 36 = .ok (.imul, 1) := by decide +kernel
theorem dX8_rightOf_37 : decode cX8_rightOf 37 = .ok (.iconst 1, 1) := by decide +kernel
theorem dX8_rightOf_38 : decode cX8_rightOf 38 = .ok (.iadd, 1) := by decide +kernel
theorem dX8_rightOf_39 : decode cX8_rightOf 39 = .ok (.iaload, 1) := by decide +kernel
theorem dX8_rightOf_40 : decode cX8_rightOf 40 = .ok (.idiv, 1) := by decide +kernel
theorem dX8_rightOf_41 : decode cX8_rightOf 41 = .ok (.iadd, 1) := by decide +kernel
theorem dX8_rightOf_42 : decode cX8_rightOf 42 = .ok (.istore 5, 2) := by decide +kernel
theorem dX8_rightOf_44 : decode cX8_rightOf 44 = .ok (.iload 5, 2) := by decide +kernel
theorem dX8_rightOf_46 : decode cX8_rightOf 46 = .ok (.aload_n 0, 1) := by decide +kernel
theorem dX8_rightOf_47 : decode cX8_rightOf 47 = .ok (.getfield 13, 3) := by decide +kernel
theorem dX8_rightOf_50 : decode cX8_rightOf 50 = .ok (.bipush 6, 2) := by decide +kernel
theorem dX8_rightOf_52 : decode cX8_rightOf 52 = .ok (.iload_n 1, 1) := by decide +kernel
theorem dX8_rightOf_53 : decode cX8_rightOf 53 = .ok (.imul, 1) := by decide +kernel
theorem dX8_rightOf_54 : decode cX8_rightOf 54 = .ok (.iconst 3, 1) := by decide +kernel
theorem dX8_rightOf_55 : decode cX8_rightOf 55 = .ok (.iadd, 1) := by decide +kernel
theorem dX8_rightOf_56 : decode cX8_rightOf 56 = .ok (.iaload, 1) := by decide +kernel
theorem dX8_rightOf_57 : decode cX8_rightOf 57 = .ok (.invokestatic 140, 3) := by decide +kernel
theorem dX8_rightOf_60 : decode cX8_rightOf 60 = .ok (.iadd, 1) := by decide +kernel
theorem dX8_rightOf_61 : decode cX8_rightOf 61 = .ok (.i2l, 1) := by decide +kernel
theorem dX8_rightOf_62 : decode cX8_rightOf 62 = .ok (.lstore 6, 2) := by decide +kernel
theorem dX8_rightOf_64 : decode cX8_rightOf 64 = .ok (.lload 6, 2) := by decide +kernel
theorem dX8_rightOf_66 : decode cX8_rightOf 66 = .ok (.ldc 144, 2) := by decide +kernel
theorem dX8_rightOf_68 : decode cX8_rightOf 68 = .ok (.aload_n 0, 1) := by decide +kernel
theorem dX8_rightOf_69 : decode cX8_rightOf 69 = .ok (.getfield 13, 3) := by decide +kernel
theorem dX8_rightOf_72 : decode cX8_rightOf 72 = .ok (.bipush 6, 2) := by decide +kernel
theorem dX8_rightOf_74 : decode cX8_rightOf 74 = .ok (.iload_n 1, 1) := by decide +kernel
theorem dX8_rightOf_75 : decode cX8_rightOf 75 = .ok (.imul, 1) := by decide +kernel
theorem dX8_rightOf_76 : decode cX8_rightOf 76 = .ok (.iconst 4, 1) := by decide +kernel
theorem dX8_rightOf_77 : decode cX8_rightOf 77 = .ok (.iadd, 1) := by decide +kernel
theorem dX8_rightOf_78 : decode cX8_rightOf 78 = .ok (.iaload, 1) := by decide +kernel
theorem dX8_rightOf_79 : decode cX8_rightOf 79 = .ok (.iload_n 3, 1) := by decide +kernel
theorem dX8_rightOf_80 : decode cX8_rightOf 80 = .ok (.imul, 1) := by decide +kernel
theorem dX8_rightOf_81 : decode cX8_rightOf 81 = .ok (.iadd, 1) := by decide +kernel
theorem dX8_rightOf_82 : decode cX8_rightOf 82 = .ok (.i2l, 1) := by decide +kernel
theorem dX8_rightOf_83 : decode cX8_rightOf 83 = .ok (.lmul, 1) := by decide +kernel
theorem dX8_rightOf_84 : decode cX8_rightOf 84 = .ok (.ldc 144, 2) := by decide +kernel
theorem dX8_rightOf_86 : decode cX8_rightOf 86 = .ok (.bipush 18, 2) := by decide +kernel
theorem dX8_rightOf_88 : decode cX8_rightOf 88 = .ok (.iload_n 3, 1) := by decide +kernel
theorem dX8_rightOf_89 : decode cX8_rightOf 89 = .ok (.imul, 1) := by decide +kernel
theorem dX8_rightOf_90 : decode cX8_rightOf 90 = .ok (.iadd, 1) := by decide +kernel
theorem dX8_rightOf_91 : decode cX8_rightOf 91 = .ok (.i2l, 1) := by decide +kernel
theorem dX8_rightOf_92 : decode cX8_rightOf 92 = .ok (.ldiv, 1) := by decide +kernel
theorem dX8_rightOf_93 : decode cX8_rightOf 93 = .ok (.lstore 8, 2) := by decide +kernel
theorem dX8_rightOf_95 : decode cX8_rightOf 95 = .ok (.aload_n 0, 1) := by decide +kernel
theorem dX8_rightOf_96 : decode cX8_rightOf 96 = .ok (.getfield 13, 3) := by decide +kernel
theorem dX8_rightOf_99 : decode cX8_rightOf 99 = .ok (.bipush 6, 2) := by decide +kernel
theorem dX8_rightOf_101 : decode cX8_rightOf 101 = .ok (.iload_n 1, 1) := by decide +kernel
theorem dX8_rightOf_102 : decode cX8_rightOf 102 = .ok (.imul, 1) := by decide +kernel
theorem dX8_rightOf_103 : decode cX8_rightOf 103 = .ok (.iconst 5, 1) := by decide +kernel
theorem dX8_rightOf_104 : decode cX8_rightOf 104 = .ok (.iadd, 1) := by decide +kernel
theorem dX8_rightOf_105 : decode cX8_rightOf 105 = .ok (.iaload, 1) := by decide +kernel
theorem dX8_rightOf_106 : decode cX8_rightOf 106 = .ok (.i2l, 1) := by decide +kernel
theorem dX8_rightOf_107 : decode cX8_rightOf 107 = .ok (.lload 8, 2) := by decide +kernel
theorem dX8_rightOf_109 : decode cX8_rightOf 109 = .ok (.lsub, 1) := by decide +kernel
theorem dX8_rightOf_110 : decode cX8_rightOf 110 = .ok (.lstore 10, 2) := by decide +kernel
theorem dX8_rightOf_112 : decode cX8_rightOf 112 = .ok (.lload 10, 2) := by decide +kernel
theorem dX8_rightOf_114 : decode cX8_rightOf 114 = .ok (.lconst 0, 1) := by decide +kernel
theorem dX8_rightOf_115 : decode cX8_rightOf 115 = .ok (.lcmp, 1) := by decide +kernel
theorem dX8_rightOf_116 : decode cX8_rightOf 116 = .ok (.ifCond .gt 6, 3) := by decide +kernel
theorem dX8_rightOf_119 : decode cX8_rightOf 119 = .ok (.lload 8, 2) := by decide +kernel
theorem dX8_rightOf_121 : decode cX8_rightOf 121 = .ok (.lreturn, 1) := by decide +kernel
theorem dX8_rightOf_122 : decode cX8_rightOf 122 = .ok (.aload_n 0, 1) := by decide +kernel
theorem dX8_rightOf_123 : decode cX8_rightOf 123 = .ok (.getfield 20, 3) := by decide +kernel
theorem dX8_rightOf_126 : decode cX8_rightOf 126 = .ok (.iload_n 1, 1) := by decide +kernel
theorem dX8_rightOf_127 : decode cX8_rightOf 127 = .ok (.laload, 1) := by decide +kernel
theorem dX8_rightOf_128 : decode cX8_rightOf 128 = .ok (.lload 10, 2) := by decide +kernel
theorem dX8_rightOf_130 : decode cX8_rightOf 130 = .ok (.lmul, 1) := by decide +kernel
theorem dX8_rightOf_131 : decode cX8_rightOf 131 = .ok (.lstore 12, 2) := by decide +kernel
theorem dX8_rightOf_133 : decode cX8_rightOf 133 = .ok (.lload 8, 2) := by decide +kernel
theorem dX8_rightOf_135 : decode cX8_rightOf 135 = .ok (.lload 12, 2) := by decide +kernel
theorem dX8_rightOf_137 : decode cX8_rightOf 137 = .ok (.lmul, 1) := by decide +kernel
theorem dX8_rightOf_138 : decode cX8_rightOf 138 = .ok (.aload_n 0, 1) := by decide +kernel
theorem dX8_rightOf_139 : decode cX8_rightOf 139 = .ok (.getfield 16, 3) := by decide +kernel
theorem dX8_rightOf_142 : decode cX8_rightOf 142 = .ok (.iload_n 1, 1) := by decide +kernel
theorem dX8_rightOf_143 : decode cX8_rightOf 143 = .ok (.laload, 1) := by decide +kernel
theorem dX8_rightOf_144 : decode cX8_rightOf 144 = .ok (.ladd, 1) := by decide +kernel
theorem dX8_rightOf_145 : decode cX8_rightOf 145 = .ok (.lload 12, 2) := by decide +kernel
theorem dX8_rightOf_147 : decode cX8_rightOf 147 = .ok (.ldiv, 1) := by decide +kernel
theorem dX8_rightOf_148 : decode cX8_rightOf 148 = .ok (.lreturn, 1) := by decide +kernel
theorem dX8_isReading_0 : decode cX8_isReading 0 = .ok (.iload_n 0, 1) := by decide +kernel
theorem dX8_isReading_1 : decode cX8_isReading 1 = .ok (.i2l, 1) := by decide +kernel
theorem dX8_isReading_2 : decode cX8_isReading 2 = .ok (.lconst 1, 1) := by decide +kernel
theorem dX8_isReading_3 : decode cX8_isReading 3 = .ok (.ldc2_w 120, 3) := by decide +kernel
theorem dX8_isReading_6 : decode cX8_isReading 6 = .ok (.invokestatic 102, 3) := by decide +kernel
theorem dX8_isReading_9 : decode cX8_isReading 9 = .ok (.ifCond .eq 21, 3) := by decide +kernel
theorem dX8_isReading_12 : decode cX8_isReading 12 = .ok (.iload_n 1, 1) := by decide +kernel
theorem dX8_isReading_13 : decode cX8_isReading 13 = .ok (.i2l, 1) := by decide +kernel
theorem dX8_isReading_14 : decode cX8_isReading 14 = .ok (.ldc2_w 145, 3) := by decide +kernel
theorem dX8_isReading_17 : decode cX8_isReading 17 = .ok (.ldc2_w 108, 3) := by decide +kernel
theorem dX8_isReading_20 : decode cX8_isReading 20 = .ok (.invokestatic 102, 3) := by decide +kernel
theorem dX8_isReading_23 : decode cX8_isReading 23 = .ok (.ifCond .eq 7, 3) := by decide +kernel
theorem dX8_isReading_26 : decode cX8_isReading 26 = .ok (.iconst 1, 1) := by decide +kernel
theorem dX8_isReading_27 : decode cX8_isReading 27 = .ok (.goto 4, 3) := by decide +kernel
theorem dX8_isReading_30 : decode cX8_isReading 30 = .ok (.iconst 0, 1) := by decide +kernel
theorem dX8_isReading_31 : decode cX8_isReading 31 = .ok (.ireturn, 1) := by decide +kernel
theorem dX8_right_0 : decode cX8_right 0 = .ok (.iload_n 1, 1) := by decide +kernel
theorem dX8_right_1 : decode cX8_right 1 = .ok (.invokestatic 122, 3) := by decide +kernel
theorem dX8_right_4 : decode cX8_right 4 = .ok (.ifCond .ne 7, 3) := by decide +kernel
theorem dX8_right_7 : decode cX8_right 7 = .ok (.ldc2_w 136, 3) := by decide +kernel
theorem dX8_right_10 : decode cX8_right 10 = .ok (.lreturn, 1) := by decide +kernel
theorem dX8_right_11 : decode cX8_right 11 = .ok (.iload_n 2, 1) := by decide +kernel
theorem dX8_right_12 : decode cX8_right 12 = .ok (.iload_n 3, 1) := by decide +kernel
theorem dX8_right_13 : decode cX8_right 13 = .ok (.invokestatic 147, 3) := by decide +kernel
theorem dX8_right_16 : decode cX8_right 16 = .ok (.ifCond .eq 13, 3) := by decide +kernel
theorem dX8_right_19 : decode cX8_right 19 = .ok (.aload_n 0, 1) := by decide +kernel
theorem dX8_right_20 : decode cX8_right 20 = .ok (.iload_n 1, 1) := by decide +kernel
theorem dX8_right_21 : decode cX8_right 21 = .ok (.iload_n 2, 1) := by decide +kernel
theorem dX8_right_22 : decode cX8_right 22 = .ok (.iload_n 3, 1) := by decide +kernel
theorem dX8_right_23 : decode cX8_right 23 = .ok (.invokevirtual 150, 3) := by decide +kernel
theorem dX8_right_26 : decode cX8_right 26 = .ok (.goto 6, 3) := by decide +kernel
theorem dX8_right_29 : decode cX8_right 29 = .ok (.ldc2_w 138, 3) := by decide +kernel
theorem dX8_right_32 : decode cX8_right 32 = .ok (.lreturn, 1) := by decide +kernel
theorem dX8_isStation_0 : decode cX8_isStation 0 = .ok (.iload_n 1, 1) := by decide +kernel
theorem dX8_isStation_1 : decode cX8_isStation 1 = .ok (.i2l, 1) := by decide +kernel
theorem dX8_isStation_2 : decode cX8_isStation 2 = .ok (.lconst 0, 1) := by decide +kernel
theorem dX8_isStation_3 : decode cX8_isStation 3 = .ok (.aload_n 0, 1) := by decide +kernel
theorem dX8_isStation_4 : decode cX8_isStation 4 = .ok (.getfield 154, 3) := by decide +kernel
theorem dX8_isStation_7 : decode cX8_isStation 7 = .ok (.iconst 1, 1) := by decide +kernel
theorem dX8_isStation_8 : decode cX8_isStation 8 = .ok (.isub, 1) := by decide +kernel
theorem dX8_isStation_9 : decode cX8_isStation 9 = .ok (.i2l, 1) := by decide +kernel
theorem dX8_isStation_10 : decode cX8_isStation 10 = .ok (.invokestatic 102, 3) := by decide +kernel
theorem dX8_isStation_13 : decode cX8_isStation 13 = .ok (.ireturn, 1) := by decide +kernel
theorem dX8_isHour_0 : decode cX8_isHour 0 = .ok (.iload_n 0, 1) := by decide +kernel
theorem dX8_isHour_1 : decode cX8_isHour 1 = .ok (.i2l, 1) := by decide +kernel
theorem dX8_isHour_2 : decode cX8_isHour 2 = .ok (.lconst 0, 1) := by decide +kernel
theorem dX8_isHour_3 : decode cX8_isHour 3 = .ok (.ldc2_w 157, 3) := by decide +kernel
theorem dX8_isHour_6 : decode cX8_isHour 6 = .ok (.invokestatic 102, 3) := by decide +kernel
theorem dX8_isHour_9 : decode cX8_isHour 9 = .ok (.ireturn, 1) := by decide +kernel
theorem dX8_isPoint_0 : decode cX8_isPoint 0 = .ok (.iload_n 0, 1) := by decide +kernel
theorem dX8_isPoint_1 : decode cX8_isPoint 1 = .ok (.i2l, 1) := by decide +kernel
theorem dX8_isPoint_2 : decode cX8_isPoint 2 = .ok (.lconst 0, 1) := by decide +kernel
theorem dX8_isPoint_3 : decode cX8_isPoint 3 = .ok (.ldc2_w 159, 3) := by decide +kernel
theorem dX8_isPoint_6 : decode cX8_isPoint 6 = .ok (.invokestatic 102, 3) := by decide +kernel
theorem dX8_isPoint_9 : decode cX8_isPoint 9 = .ok (.ifCond .eq 19, 3) := by decide +kernel
theorem dX8_isPoint_12 : decode cX8_isPoint 12 = .ok (.iload_n 1, 1) := by decide +kernel
theorem dX8_isPoint_13 : decode cX8_isPoint 13 = .ok (.i2l, 1) := by decide +kernel
theorem dX8_isPoint_14 : decode cX8_isPoint 14 = .ok (.lconst 0, 1) := by decide +kernel
theorem dX8_isPoint_15 : decode cX8_isPoint 15 = .ok (.ldc2_w 159, 3) := by decide +kernel
theorem dX8_isPoint_18 : decode cX8_isPoint 18 = .ok (.invokestatic 102, 3) := by decide +kernel
theorem dX8_isPoint_21 : decode cX8_isPoint 21 = .ok (.ifCond .eq 7, 3) := by decide +kernel
theorem dX8_isPoint_24 : decode cX8_isPoint 24 = .ok (.iconst 1, 1) := by decide +kernel
theorem dX8_isPoint_25 : decode cX8_isPoint 25 = .ok (.goto 4, 3) := by decide +kernel
theorem dX8_isPoint_28 : decode cX8_isPoint 28 = .ok (.iconst 0, 1) := by decide +kernel
theorem dX8_isPoint_29 : decode cX8_isPoint 29 = .ok (.ireturn, 1) := by decide +kernel
theorem dX8_station_0 : decode cX8_station 0 = .ok (.iload 4, 2) := by decide +kernel
theorem dX8_station_2 : decode cX8_station 2 = .ok (.invokestatic 122, 3) := by decide +kernel
theorem dX8_station_5 : decode cX8_station 5 = .ok (.ifCond .ne 5, 3) := by decide +kernel
theorem dX8_station_8 : decode cX8_station 8 = .ok (.iconst (-1), 1) := by decide +kernel
theorem dX8_station_9 : decode cX8_station 9 = .ok (.ireturn, 1) := by decide +kernel
theorem dX8_station_10 : decode cX8_station 10 = .ok (.iload_n 1, 1) := by decide +kernel
theorem dX8_station_11 : decode cX8_station 11 = .ok (.iload_n 2, 1) := by decide +kernel
theorem dX8_station_12 : decode cX8_station 12 = .ok (.invokestatic 161, 3) := by decide +kernel
theorem dX8_station_15 : decode cX8_station 15 = .ok (.ifCond .eq 17, 3) := by decide +kernel
theorem dX8_station_18 : decode cX8_station 18 = .ok (.iload_n 3, 1) := by decide +kernel
theorem dX8_station_19 : decode cX8_station 19 = .ok (.i2l, 1) := by decide +kernel
theorem dX8_station_20 : decode cX8_station 20 = .ok (.ldc2_w 164, 3) := by decide +kernel
theorem dX8_station_23 : decode cX8_station 23 = .ok (.ldc2_w 130, 3) := by decide +kernel
theorem dX8_station_26 : decode cX8_station 26 = .ok (.invokestatic 102, 3) := by decide +kernel
theorem dX8_station_29 : decode cX8_station 29 = .ok (.ifCond .ne 6, 3) := by decide +kernel
theorem dX8_station_32 : decode cX8_station 32 = .ok (.bipush (-2), 2) := by decide +kernel
theorem dX8_station_34 : decode cX8_station 34 = .ok (.ireturn, 1) := by decide +kernel
theorem dX8_station_35 : decode cX8_station 35 = .ok (.aload_n 0, 1) := by decide +kernel
theorem dX8_station_36 : decode cX8_station 36 = .ok (.getfield 154, 3) := by decide +kernel
theorem dX8_station_39 : decode cX8_station 39 = .ok (.bipush 8, 2) := by decide +kernel
theorem dX8_station_41 : decode cX8_station 41 = .ok (.if_icmp .ne 6, 3) := by decide +kernel
theorem dX8_station_44 : decode cX8_station 44 = .ok (.bipush (-4), 2) := by decide +kernel
theorem dX8_station_46 : decode cX8_station 46 = .ok (.ireturn, 1) := by decide +kernel
theorem dX8_station_47 : decode cX8_station 47 = .ok (.iconst 0, 1) := by decide +kernel
theorem dX8_station_48 : decode cX8_station 48 = .ok (.istore 5, 2) := by decide +kernel
theorem dX8_station_50 : decode cX8_station 50 = .ok (.iload 5, 2) := by decide +kernel
theorem dX8_station_52 : decode cX8_station 52 = .ok (.aload_n 0, 1) := by decide +kernel
theorem dX8_station_53 : decode cX8_station 53 = .ok (.getfield 154, 3) := by decide +kernel
theorem dX8_station_56 : decode cX8_station 56 = .ok (.if_icmp .ge 34, 3) := by decide +kernel
theorem dX8_station_59 : decode cX8_station 59 = .ok (.aload_n 0, 1) := by decide +kernel
theorem dX8_station_60 : decode cX8_station 60 = .ok (.getfield 23, 3) := by decide +kernel
theorem dX8_station_63 : decode cX8_station 63 = .ok (.iload 5, 2) := by decide +kernel
theorem dX8_station_65 : decode cX8_station 65 = .ok (.iaload, 1) := by decide +kernel
theorem dX8_station_66 : decode cX8_station 66 = .ok (.iload_n 1, 1) := by decide +kernel
theorem dX8_station_67 : decode cX8_station 67 = .ok (.if_icmp .ne 17, 3) := by decide +kernel
theorem dX8_station_70 : decode cX8_station 70 = .ok (.aload_n 0, 1) := by decide +kernel
theorem dX8_station_71 : decode cX8_station 71 = .ok (.getfield 26, 3) := by decide +kernel
theorem dX8_station_74 : decode cX8_station 74 = .ok (.iload 5, 2) := by decide +kernel
theorem dX8_station_76 : decode cX8_station 76 = .ok (.iaload, 1) := by decide +kernel
theorem dX8_station_77 : decode cX8_station 77 = .ok (.iload_n 2, 1) := by decide +kernel
theorem dX8_station_78 : decode cX8_station 78 = .ok (.if_icmp .ne 6, 3) := by decide +kernel
theorem dX8_station_81 : decode cX8_station 81 = .ok (.bipush (-5), 2) := by decide +kernel
theorem dX8_station_83 : decode cX8_station 83 = .ok (.ireturn, 1) := by decide +kernel
theorem dX8_station_84 : decode cX8_station 84 = .ok (.iinc 5 1, 3) := by decide +kernel
theorem dX8_station_87 : decode cX8_station 87 = .ok (.goto (-37), 3) := by decide +kernel
theorem dX8_station_90 : decode cX8_station 90 = .ok (.aload_n 0, 1) := by decide +kernel
theorem dX8_station_91 : decode cX8_station 91 = .ok (.getfield 23, 3) := by decide +kernel
theorem dX8_station_94 : decode cX8_station 94 = .ok (.aload_n 0, 1) := by decide +kernel
theorem dX8_station_95 : decode cX8_station 95 = .ok (.getfield 154, 3) := by decide +kernel
theorem dX8_station_98 : decode cX8_station 98 = .ok (.iload_n 1, 1) := by decide +kernel
theorem dX8_station_99 : decode cX8_station 99 = .ok (.iastore, 1) := by decide +kernel
theorem dX8_station_100 : decode cX8_station 100 = .ok (.aload_n 0, 1) := by decide +kernel
theorem dX8_station_101 : decode cX8_station 101 = .ok (.getfield 26, 3) := by decide +kernel
theorem dX8_station_104 : decode cX8_station 104 = .ok (.aload_n 0, 1) := by decide +kernel
theorem dX8_station_105 : decode cX8_station 105 = .ok (.getfield 154, 3) := by decide +kernel
theorem dX8_station_108 : decode cX8_station 108 = .ok (.iload_n 2, 1) := by decide +kernel
theorem dX8_station_109 : decode cX8_station 109 = .ok (.iastore, 1) := by decide +kernel
theorem dX8_station_110 : decode cX8_station 110 = .ok (.aload_n 0, 1) := by decide +kernel
theorem dX8_station_111 : decode cX8_station 111 = .ok (.getfield 29, 3) := by decide +kernel
theorem dX8_station_114 : decode cX8_station 114 = .ok (.aload_n 0, 1) := by decide +kernel
theorem dX8_station_115 : decode cX8_station 115 = .ok (.getfield 154, 3) := by decide +kernel
theorem dX8_station_118 : decode cX8_station 118 = .ok (.iload_n 3, 1) := by decide +kernel
theorem dX8_station_119 : decode cX8_station 119 = .ok (.iastore, 1) := by decide +kernel
theorem dX8_station_120 : decode cX8_station 120 = .ok (.aload_n 0, 1) := by decide +kernel
theorem dX8_station_121 : decode cX8_station 121 = .ok (.getfield 32, 3) := by decide +kernel
theorem dX8_station_124 : decode cX8_station 124 = .ok (.aload_n 0, 1) := by decide +kernel
theorem dX8_station_125 : decode cX8_station 125 = .ok (.getfield 154, 3) := by decide +kernel
theorem dX8_station_128 : decode cX8_station 128 = .ok (.iload 4, 2) := by decide +kernel
theorem dX8_station_130 : decode cX8_station 130 = .ok (.iastore, 1) := by decide +kernel
theorem dX8_station_131 : decode cX8_station 131 = .ok (.aload_n 0, 1) := by decide +kernel
theorem dX8_station_132 : decode cX8_station 132 = .ok (.dup, 1) := by decide +kernel
theorem dX8_station_133 : decode cX8_station 133 = .ok (.getfield 154, 3) := by decide +kernel
theorem dX8_station_136 : decode cX8_station 136 = .ok (.iconst 1, 1) := by decide +kernel
theorem dX8_station_137 : decode cX8_station 137 = .ok (.iadd, 1) := by decide +kernel
theorem dX8_station_138 : decode cX8_station 138 = .ok (.putfield 154, 3) := by decide +kernel
theorem dX8_station_141 : decode cX8_station 141 = .ok (.aload_n 0, 1) := by decide +kernel
theorem dX8_station_142 : decode cX8_station 142 = .ok (.getfield 154, 3) := by decide +kernel
theorem dX8_station_145 : decode cX8_station 145 = .ok (.iconst 1, 1) := by decide +kernel
theorem dX8_station_146 : decode cX8_station 146 = .ok (.isub, 1) := by decide +kernel
theorem dX8_station_147 : decode cX8_station 147 = .ok (.ireturn, 1) := by decide +kernel
theorem dX8_has_0 : decode cX8_has 0 = .ok (.aload_n 0, 1) := by decide +kernel
theorem dX8_has_1 : decode cX8_has 1 = .ok (.getfield 35, 3) := by decide +kernel
theorem dX8_has_4 : decode cX8_has 4 = .ok (.bipush 48, 2) := by decide +kernel
theorem dX8_has_6 : decode cX8_has 6 = .ok (.iload_n 1, 1) := by decide +kernel
theorem dX8_has_7 : decode cX8_has 7 = .ok (.imul, 1) := by decide +kernel
theorem dX8_has_8 : decode cX8_has 8 = .ok (.iload_n 2, 1) := by decide +kernel
theorem dX8_has_9 : decode cX8_has 9 = .ok (.iadd, 1) := by decide +kernel
theorem dX8_has_10 : decode cX8_has 10 = .ok (.iaload, 1) := by decide +kernel
theorem dX8_has_11 : decode cX8_has 11 = .ok (.ifCond .le 7, 3) := by decide +kernel
theorem dX8_has_14 : decode cX8_has 14 = .ok (.iconst 1, 1) := by decide +kernel
theorem dX8_has_15 : decode cX8_has 15 = .ok (.goto 4, 3) := by decide +kernel
theorem dX8_has_18 : decode cX8_has 18 = .ok (.iconst 0, 1) := by decide +kernel
theorem dX8_has_19 : decode cX8_has 19 = .ok (.ireturn, 1) := by decide +kernel
theorem dX8_tell_0 : decode cX8_tell 0 = .ok (.aload_n 0, 1) := by decide +kernel
theorem dX8_tell_1 : decode cX8_tell 1 = .ok (.iload_n 1, 1) := by decide +kernel
theorem dX8_tell_2 : decode cX8_tell 2 = .ok (.invokevirtual 166, 3) := by decide +kernel
theorem dX8_tell_5 : decode cX8_tell 5 = .ok (.ifCond .ne 5, 3) := by decide +kernel
theorem dX8_tell_8 : decode cX8_tell 8 = .ok (.iconst (-1), 1) := by decide +kernel
theorem dX8_tell_9 : decode cX8_tell 9 = .ok (.ireturn, 1) := by decide +kernel
theorem dX8_tell_10 : decode cX8_tell 10 = .ok (.iload_n 2, 1) := by decide +kernel
theorem dX8_tell_11 : decode cX8_tell 11 = .ok (.invokestatic 169, 3) := by decide +kernel
theorem dX8_tell_14 : decode cX8_tell 14 = .ok (.ifCond .eq 12, 3) := by decide +kernel
theorem dX8_tell_17 : decode cX8_tell 17 = .ok (.iload_n 3, 1) := by decide +kernel
theorem dX8_tell_18 : decode cX8_tell 18 = .ok (.iload 4, 2) := by decide +kernel
theorem dX8_tell_20 : decode cX8_tell 20 = .ok (.invokestatic 147, 3) := by decide +kernel
theorem dX8_tell_23 : decode cX8_tell 23 = .ok (.ifCond .ne 6, 3) := by decide +kernel
theorem dX8_tell_26 : decode cX8_tell 26 = .ok (.bipush (-2), 2) := by decide +kernel
theorem dX8_tell_28 : decode cX8_tell 28 = .ok (.ireturn, 1) := by decide +kernel
theorem dX8_tell_29 : decode cX8_tell 29 = .ok (.aload_n 0, 1) := by decide +kernel
theorem dX8_tell_30 : decode cX8_tell 30 = .ok (.iload_n 1, 1) := by decide +kernel
theorem dX8_tell_31 : decode cX8_tell 31 = .ok (.iload_n 2, 1) := by decide +kernel
theorem dX8_tell_32 : decode cX8_tell 32 = .ok (.invokevirtual 172, 3) := by decide +kernel
theorem dX8_tell_35 : decode cX8_tell 35 = .ok (.ifCond .eq 7, 3) := by decide +kernel
theorem dX8_tell_38 : decode cX8_tell 38 = .ok (.iconst 2, 1) := by decide +kernel
theorem dX8_tell_39 : decode cX8_tell 39 = .ok (.goto 4, 3) := by decide +kernel
theorem dX8_tell_42 : decode cX8_tell 42 = .ok (.iconst 1, 1) := by decide +kernel
theorem dX8_tell_43 : decode cX8_tell 43 = .ok (.istore 5, 2) := by decide +kernel
theorem dX8_tell_45 : decode cX8_tell 45 = .ok (.aload_n 0, 1) := by decide +kernel
theorem dX8_tell_46 : decode cX8_tell 46 = .ok (.getfield 35, 3) := by decide +kernel
theorem dX8_tell_49 : decode cX8_tell 49 = .ok (.bipush 48, 2) := by decide +kernel
theorem dX8_tell_51 : decode cX8_tell 51 = .ok (.iload_n 1, 1) := by decide +kernel
theorem dX8_tell_52 : decode cX8_tell 52 = .ok (.imul, 1) := by decide +kernel
theorem dX8_tell_53 : decode cX8_tell 53 = .ok (.iload_n 2, 1) := by decide +kernel
theorem dX8_tell_54 : decode cX8_tell 54 = .ok (.iadd, 1) := by decide +kernel
theorem dX8_tell_55 : decode cX8_tell 55 = .ok (.iload_n 3, 1) := by decide +kernel
theorem dX8_tell_56 : decode cX8_tell 56 = .ok (.iastore, 1) := by decide +kernel
theorem dX8_tell_57 : decode cX8_tell 57 = .ok (.aload_n 0, 1) := by decide +kernel
theorem dX8_tell_58 : decode cX8_tell 58 = .ok (.getfield 38, 3) := by decide +kernel
theorem dX8_tell_61 : decode cX8_tell 61 = .ok (.bipush 48, 2) := by decide +kernel
theorem dX8_tell_63 : decode cX8_tell 63 = .ok (.iload_n 1, 1) := by decide +kernel
theorem dX8_tell_64 : decode cX8_tell 64 = .ok (.imul, 1) := by decide +kernel
theorem dX8_tell_65 : decode cX8_tell 65 = .ok (.iload_n 2, 1) := by decide +kernel
theorem dX8_tell_66 : decode cX8_tell 66 = .ok (.iadd, 1) := by decide +kernel
theorem dX8_tell_67 : decode cX8_tell 67 = .ok (.iload 4, 2) := by decide +kernel
theorem dX8_tell_69 : decode cX8_tell 69 = .ok (.iastore, 1) := by decide +kernel
theorem dX8_tell_70 : decode cX8_tell 70 = .ok (.iload 5, 2) := by decide +kernel
theorem dX8_tell_72 : decode cX8_tell 72 = .ok (.ireturn, 1) := by decide +kernel
theorem dX8_gap_0 : decode cX8_gap 0 = .ok (.aload_n 0, 1) := by decide +kernel
theorem dX8_gap_1 : decode cX8_gap 1 = .ok (.iload_n 1, 1) := by decide +kernel
theorem dX8_gap_2 : decode cX8_gap 2 = .ok (.invokevirtual 166, 3) := by decide +kernel
theorem dX8_gap_5 : decode cX8_gap 5 = .ok (.ifCond .ne 5, 3) := by decide +kernel
theorem dX8_gap_8 : decode cX8_gap 8 = .ok (.iconst (-1), 1) := by decide +kernel
theorem dX8_gap_9 : decode cX8_gap 9 = .ok (.ireturn, 1) := by decide +kernel
theorem dX8_gap_10 : decode cX8_gap 10 = .ok (.iload_n 2, 1) := by decide +kernel
theorem dX8_gap_11 : decode cX8_gap 11 = .ok (.invokestatic 169, 3) := by decide +kernel
theorem dX8_gap_14 : decode cX8_gap 14 = .ok (.ifCond .ne 6, 3) := by decide +kernel
theorem dX8_gap_17 : decode cX8_gap 17 = .ok (.bipush (-2), 2) := by decide +kernel
theorem dX8_gap_19 : decode cX8_gap 19 = .ok (.ireturn, 1) := by decide +kernel
theorem dX8_gap_20 : decode cX8_gap 20 = .ok (.aload_n 0, 1) := by decide +kernel
theorem dX8_gap_21 : decode cX8_gap 21 = .ok (.iload_n 1, 1) := by decide +kernel
theorem dX8_gap_22 : decode cX8_gap 22 = .ok (.iload_n 2, 1) := by decide +kernel
theorem dX8_gap_23 : decode cX8_gap 23 = .ok (.invokevirtual 172, 3) := by decide +kernel
theorem dX8_gap_26 : decode cX8_gap 26 = .ok (.ifCond .eq 7, 3) := by decide +kernel
theorem dX8_gap_29 : decode cX8_gap 29 = .ok (.iconst 1, 1) := by decide +kernel
theorem dX8_gap_30 : decode cX8_gap 30 = .ok (.goto 4, 3) := by decide +kernel
theorem dX8_gap_33 : decode cX8_gap 33 = .ok (.iconst 0, 1) := by decide +kernel
theorem dX8_gap_34 : decode cX8_gap 34 = .ok (.istore_n 3, 1) := by decide +kernel
theorem dX8_gap_35 : decode cX8_gap 35 = .ok (.aload_n 0, 1) := by decide +kernel
theorem dX8_gap_36 : decode cX8_gap 36 = .ok (.getfield 35, 3) := by decide +kernel
theorem dX8_gap_39 : decode cX8_gap 39 = .ok (.bipush 48, 2) := by decide +kernel
theorem dX8_gap_41 : decode cX8_gap 41 = .ok (.iload_n 1, 1) := by decide +kernel
theorem dX8_gap_42 : decode cX8_gap 42 = .ok (.imul, 1) := by decide +kernel
theorem dX8_gap_43 : decode cX8_gap 43 = .ok (.iload_n 2, 1) := by decide +kernel
theorem dX8_gap_44 : decode cX8_gap 44 = .ok (.iadd, 1) := by decide +kernel
theorem dX8_gap_45 : decode cX8_gap 45 = .ok (.iconst 0, 1) := by decide +kernel
theorem dX8_gap_46 : decode cX8_gap 46 = .ok (.iastore, 1) := by decide +kernel
theorem dX8_gap_47 : decode cX8_gap 47 = .ok (.iload_n 3, 1) := by decide +kernel
theorem dX8_gap_48 : decode cX8_gap 48 = .ok (.ireturn, 1) := by decide +kernel
theorem dX8_rightAt_0 : decode cX8_rightAt 0 = .ok (.aload_n 0, 1) := by decide +kernel
theorem dX8_rightAt_1 : decode cX8_rightAt 1 = .ok (.aload_n 0, 1) := by decide +kernel
theorem dX8_rightAt_2 : decode cX8_rightAt 2 = .ok (.getfield 32, 3) := by decide +kernel
theorem dX8_rightAt_5 : decode cX8_rightAt 5 = .ok (.iload_n 1, 1) := by decide +kernel
theorem dX8_rightAt_6 : decode cX8_rightAt 6 = .ok (.iaload, 1) := by decide +kernel
theorem dX8_rightAt_7 : decode cX8_rightAt 7 = .ok (.aload_n 0, 1) := by decide +kernel
theorem dX8_rightAt_8 : decode cX8_rightAt 8 = .ok (.getfield 35, 3) := by decide +kernel
theorem dX8_rightAt_11 : decode cX8_rightAt 11 = .ok (.bipush 48, 2) := by decide +kernel
theorem dX8_rightAt_13 : decode cX8_rightAt 13 = .ok (.iload_n 1, 1) := by decide +kernel
theorem dX8_rightAt_14 : decode cX8_rightAt 14 = .ok (.imul, 1) := by decide +kernel
theorem dX8_rightAt_15 : decode cX8_rightAt 15 = .ok (.iload_n 2, 1) := by decide +kernel
theorem dX8_rightAt_16 : decode cX8_rightAt 16 = .ok (.iadd, 1) := by decide +kernel
theorem dX8_rightAt_17 : decode cX8_rightAt 17 = .ok (.iaload, 1) := by decide +kernel
theorem dX8_rightAt_18 : decode cX8_rightAt 18 = .ok (.aload_n 0, 1) := by decide +kernel
theorem dX8_rightAt_19 : decode cX8_rightAt 19 = .ok (.getfield 38, 3) := by decide +kernel
theorem dX8_rightAt_22 : decode cX8_rightAt 22 = .ok (.bipush 48, 2) := by decide +kernel
theorem dX8_rightAt_24 : decode cX8_rightAt 24 = .ok (.iload_n 1, 1) := by decide +kernel
theorem dX8_rightAt_25 : decode cX8_rightAt 25 = .ok (.imul, 1) := by decide +kernel
theorem dX8_rightAt_26 : decode cX8_rightAt 26 = .ok (.iload_n 2, 1) := by decide +kernel
theorem dX8_rightAt_27 : decode cX8_rightAt 27 = .ok (.iadd, 1) := by decide +kernel
theorem dX8_rightAt_28 : decode cX8_rightAt 28 = .ok (.iaload, 1) := by decide +kernel
theorem dX8_rightAt_29 : decode cX8_rightAt 29 = .ok (.invokevirtual 150, 3) := by decide +kernel
theorem dX8_rightAt_32 : decode cX8_rightAt 32 = .ok (.lreturn, 1) := by decide +kernel
theorem dX8_mendedAt_0 : decode cX8_mendedAt 0 = .ok (.aload_n 0, 1) := by decide +kernel
theorem dX8_mendedAt_1 : decode cX8_mendedAt 1 = .ok (.iload_n 1, 1) := by decide +kernel
theorem dX8_mendedAt_2 : decode cX8_mendedAt 2 = .ok (.iload_n 2, 1) := by decide +kernel
theorem dX8_mendedAt_3 : decode cX8_mendedAt 3 = .ok (.invokevirtual 175, 3) := by decide +kernel
theorem dX8_mendedAt_6 : decode cX8_mendedAt 6 = .ok (.lstore_n 3, 1) := by decide +kernel
theorem dX8_mendedAt_7 : decode cX8_mendedAt 7 = .ok (.iconst 0, 1) := by decide +kernel
theorem dX8_mendedAt_8 : decode cX8_mendedAt 8 = .ok (.istore 5, 2) := by decide +kernel
theorem dX8_mendedAt_10 : decode cX8_mendedAt 10 = .ok (.iload 5, 2) := by decide +kernel
theorem dX8_mendedAt_12 : decode cX8_mendedAt 12 = .ok (.aload_n 0, 1) := by decide +kernel
theorem dX8_mendedAt_13 : decode cX8_mendedAt 13 = .ok (.getfield 47, 3) := by decide +kernel
theorem dX8_mendedAt_16 : decode cX8_mendedAt 16 = .ok (.iload_n 1, 1) := by decide +kernel
theorem dX8_mendedAt_17 : decode cX8_mendedAt 17 = .ok (.iaload, 1) := by decide +kernel
theorem dX8_mendedAt_18 : decode cX8_mendedAt 18 = .ok (.if_icmp .ge 42, 3) := by decide +kernel
theorem dX8_mendedAt_21 : decode cX8_mendedAt 21 = .ok (.lload_n 3, 1) := by decide +kernel
theorem dX8_mendedAt_22 : decode cX8_mendedAt 22 = .ok (.aload_n 0, 1) := by decide +kernel
theorem dX8_mendedAt_23 : decode cX8_mendedAt 23 = .ok (.getfield 41, 3) := by decide +kernel
theorem dX8_mendedAt_26 : decode cX8_mendedAt 26 = .ok (.iconst 3, 1) := by decide +kernel
theorem dX8_mendedAt_27 : decode cX8_mendedAt 27 = .ok (.iload_n 1, 1) := by decide +kernel
theorem dX8_mendedAt_28 : decode cX8_mendedAt 28 = .ok (.imul, 1) := by decide +kernel
theorem dX8_mendedAt_29 : decode cX8_mendedAt 29 = .ok (.iload 5, 2) := by decide +kernel
theorem dX8_mendedAt_31 : decode cX8_mendedAt 31 = .ok (.iadd, 1) := by decide +kernel
theorem dX8_mendedAt_32 : decode cX8_mendedAt 32 = .ok (.iaload, 1) := by decide +kernel
theorem dX8_mendedAt_33 : decode cX8_mendedAt 33 = .ok (.iload_n 2, 1) := by decide +kernel
theorem dX8_mendedAt_34 : decode cX8_mendedAt 34 = .ok (.if_icmp .gt 17, 3) := by decide +kernel
theorem dX8_mendedAt_37 : decode cX8_mendedAt 37 = .ok (.aload_n 0, 1) := by decide +kernel
theorem dX8_mendedAt_38 : decode cX8_mendedAt 38 = .ok (.getfield 44, 3) := by decide +kernel
theorem dX8_mendedAt_41 : decode cX8_mendedAt 41 = .ok (.iconst 3, 1) := by decide +kernel
theorem dX8_mendedAt_42 : decode cX8_mendedAt 42 = .ok (.iload_n 1, 1) := by decide +kernel
theorem dX8_mendedAt_43 : decode cX8_mendedAt 43 = .ok (.imul, 1) := by decide +kernel
theorem dX8_mendedAt_44 : decode cX8_mendedAt 44 = .ok (.iload 5, 2) := by decide +kernel
theorem dX8_mendedAt_46 : decode cX8_mendedAt 46 = .ok (.iadd, 1) := by decide +kernel
theorem dX8_mendedAt_47 : decode cX8_mendedAt 47 = .ok (.laload, 1) := by decide +kernel
theorem dX8_mendedAt_48 : decode cX8_mendedAt 48 = .ok (.goto 4, 3) := by decide +kernel
theorem dX8_mendedAt_51 : decode cX8_mendedAt 51 = .ok (.lconst 0, 1) := by decide +kernel
theorem dX8_mendedAt_52 : decode cX8_mendedAt 52 = .ok (.lsub, 1) := by decide +kernel
theorem dX8_mendedAt_53 : decode cX8_mendedAt 53 = .ok (.lstore_n 3, 1) := by decide +kernel
theorem dX8_mendedAt_54 : decode cX8_mendedAt 54 = .ok (.iinc 5 1, 3) := by decide +kernel
theorem dX8_mendedAt_57 : decode cX8_mendedAt 57 = .ok (.goto (-47), 3) := by decide +kernel
theorem dX8_mendedAt_60 : decode cX8_mendedAt 60 = .ok (.lload_n 3, 1) := by decide +kernel
theorem dX8_mendedAt_61 : decode cX8_mendedAt 61 = .ok (.lreturn, 1) := by decide +kernel
theorem dX8_heldAt_0 : decode cX8_heldAt 0 = .ok (.aload_n 0, 1) := by decide +kernel
theorem dX8_heldAt_1 : decode cX8_heldAt 1 = .ok (.iload_n 1, 1) := by decide +kernel
theorem dX8_heldAt_2 : decode cX8_heldAt 2 = .ok (.iload_n 2, 1) := by decide +kernel
theorem dX8_heldAt_3 : decode cX8_heldAt 3 = .ok (.invokevirtual 179, 3) := by decide +kernel
theorem dX8_heldAt_6 : decode cX8_heldAt 6 = .ok (.lstore_n 3, 1) := by decide +kernel
theorem dX8_heldAt_7 : decode cX8_heldAt 7 = .ok (.lload_n 3, 1) := by decide +kernel
theorem dX8_heldAt_8 : decode cX8_heldAt 8 = .ok (.lconst 1, 1) := by decide +kernel
theorem dX8_heldAt_9 : decode cX8_heldAt 9 = .ok (.lcmp, 1) := by decide +kernel
theorem dX8_heldAt_10 : decode cX8_heldAt 10 = .ok (.ifCond .ge 7, 3) := by decide +kernel
theorem dX8_heldAt_13 : decode cX8_heldAt 13 = .ok (.iconst 1, 1) := by decide +kernel
theorem dX8_heldAt_14 : decode cX8_heldAt 14 = .ok (.goto 19, 3) := by decide +kernel
theorem dX8_heldAt_17 : decode cX8_heldAt 17 = .ok (.lload_n 3, 1) := by decide +kernel
theorem dX8_heldAt_18 : decode cX8_heldAt 18 = .ok (.ldc2_w 182, 3) := by decide +kernel
theorem dX8_heldAt_21 : decode cX8_heldAt 21 = .ok (.lcmp, 1) := by decide +kernel
theorem dX8_heldAt_22 : decode cX8_heldAt 22 = .ok (.ifCond .le 9, 3) := by decide +kernel
theorem dX8_heldAt_25 : decode cX8_heldAt 25 = .ok (.sipush 20000, 3) := by decide +kernel
theorem dX8_heldAt_28 : decode cX8_heldAt 28 = .ok (.goto 5, 3) := by decide +kernel
theorem dX8_heldAt_31 : decode cX8_heldAt 31 = .ok (.lload_n 3, 1) := by decide +kernel
theorem dX8_heldAt_32 : decode cX8_heldAt 32 = .ok (.l2i, 1) := by decide +kernel
theorem dX8_heldAt_33 : decode cX8_heldAt 33 = .ok (.ireturn, 1) := by decide +kernel
theorem dX8_riseOf_0 : decode cX8_riseOf 0 = .ok (.aload_n 0, 1) := by decide +kernel
theorem dX8_riseOf_1 : decode cX8_riseOf 1 = .ok (.getfield 7, 3) := by decide +kernel
theorem dX8_riseOf_4 : decode cX8_riseOf 4 = .ok (.iload_n 1, 1) := by decide +kernel
theorem dX8_riseOf_5 : decode cX8_riseOf 5 = .ok (.iaload, 1) := by decide +kernel
theorem dX8_riseOf_6 : decode cX8_riseOf 6 = .ok (.aload_n 0, 1) := by decide +kernel
theorem dX8_riseOf_7 : decode cX8_riseOf 7 = .ok (.getfield 7, 3) := by decide +kernel
theorem dX8_riseOf_10 : decode cX8_riseOf 10 = .ok (.iload_n 2, 1) := by decide +kernel
theorem dX8_riseOf_11 : decode cX8_riseOf 11 = .ok (.iaload, 1) := by decide +kernel
theorem dX8_riseOf_12 : decode cX8_riseOf 12 = .ok (.isub, 1) := by decide +kernel
theorem dX8_riseOf_13 : decode cX8_riseOf 13 = .ok (.i2l, 1) := by decide +kernel
theorem dX8_riseOf_14 : decode cX8_riseOf 14 = .ok (.sipush 2730, 3) := by decide +kernel
theorem dX8_riseOf_17 : decode cX8_riseOf 17 = .ok (.bipush 10, 2) := by decide +kernel
theorem dX8_riseOf_19 : decode cX8_riseOf 19 = .ok (.iload_n 3, 1) := by decide +kernel
theorem dX8_riseOf_20 : decode cX8_riseOf 20 = .ok (.imul, 1) := by decide +kernel
theorem dX8_riseOf_21 : decode cX8_riseOf 21 = .ok (.iadd, 1) := by decide +kernel
theorem dX8_riseOf_22 : decode cX8_riseOf 22 = .ok (.i2l, 1) := by decide +kernel
theorem dX8_riseOf_23 : decode cX8_riseOf 23 = .ok (.lmul, 1) := by decide +kernel
theorem dX8_riseOf_24 : decode cX8_riseOf 24 = .ok (.ldc2_w 184, 3) := by decide +kernel
theorem dX8_riseOf_27 : decode cX8_riseOf 27 = .ok (.ldiv, 1) := by decide +kernel
theorem dX8_riseOf_28 : decode cX8_riseOf 28 = .ok (.lreturn, 1) := by decide +kernel
theorem dX8_levelAt_0 : decode cX8_levelAt 0 = .ok (.aload_n 0, 1) := by decide +kernel
theorem dX8_levelAt_1 : decode cX8_levelAt 1 = .ok (.iload_n 1, 1) := by decide +kernel
theorem dX8_levelAt_2 : decode cX8_levelAt 2 = .ok (.iload_n 2, 1) := by decide +kernel
theorem dX8_levelAt_3 : decode cX8_levelAt 3 = .ok (.invokevirtual 186, 3) := by decide +kernel
theorem dX8_levelAt_6 : decode cX8_levelAt 6 = .ok (.istore_n 3, 1) := by decide +kernel
theorem dX8_levelAt_7 : decode cX8_levelAt 7 = .ok (.aload_n 0, 1) := by decide +kernel
theorem dX8_levelAt_8 : decode cX8_levelAt 8 = .ok (.getfield 38, 3) := by decide +kernel
theorem dX8_levelAt_11 : decode cX8_levelAt 11 = .ok (.bipush 48, 2) := by decide +kernel
theorem dX8_levelAt_13 : decode cX8_levelAt 13 = .ok (.iload_n 1, 1) := by decide +kernel
theorem dX8_levelAt_14 : decode cX8_levelAt 14 = .ok (.imul, 1) := by decide +kernel
theorem dX8_levelAt_15 : decode cX8_levelAt 15 = .ok (.iload_n 2, 1) := by decide +kernel
theorem dX8_levelAt_16 : decode cX8_levelAt 16 = .ok (.iadd, 1) := by decide +kernel
theorem dX8_levelAt_17 : decode cX8_levelAt 17 = .ok (.iaload, 1) := by decide +kernel
theorem dX8_levelAt_18 : decode cX8_levelAt 18 = .ok (.istore 4, 2) := by decide +kernel
theorem dX8_levelAt_20 : decode cX8_levelAt 20 = .ok (.ldc2_w 190, 3) := by decide +kernel
theorem dX8_levelAt_23 : decode cX8_levelAt 23 = .ok (.aload_n 0, 1) := by decide +kernel
theorem dX8_levelAt_24 : decode cX8_levelAt 24 = .ok (.getfield 29, 3) := by decide +kernel
theorem dX8_levelAt_27 : decode cX8_levelAt 27 = .ok (.iload_n 1, 1) := by decide +kernel
theorem dX8_levelAt_28 : decode cX8_levelAt 28 = .ok (.iaload, 1) := by decide +kernel
theorem dX8_levelAt_29 : decode cX8_levelAt 29 = .ok (.i2l, 1) := by decide +kernel
theorem dX8_levelAt_30 : decode cX8_levelAt 30 = .ok (.invokestatic 92, 3) := by decide +kernel
theorem dX8_levelAt_33 : decode cX8_levelAt 33 = .ok (.lmul, 1) := by decide +kernel
theorem dX8_levelAt_34 : decode cX8_levelAt 34 = .ok (.lstore 5, 2) := by decide +kernel
theorem dX8_levelAt_36 : decode cX8_levelAt 36 = .ok (.aload_n 0, 1) := by decide +kernel
theorem dX8_levelAt_37 : decode cX8_levelAt 37 = .ok (.getfield 29, 3) := by decide +kernel
theorem dX8_levelAt_40 : decode cX8_levelAt 40 = .ok (.iload_n 1, 1) := by decide +kernel
theorem dX8_levelAt_41 : decode cX8_levelAt 41 = .ok (.iaload, 1) := by decide +kernel
theorem dX8_levelAt_42 : decode cX8_levelAt 42 = .ok (.ifCond .ne 5, 3) := by decide +kernel
theorem dX8_levelAt_45 : decode cX8_levelAt 45 = .ok (.iload_n 3, 1) := by decide +kernel
theorem dX8_levelAt_46 : decode cX8_levelAt 46 = .ok (.ireturn, 1) := by decide +kernel
theorem dX8_levelAt_47 : decode cX8_levelAt 47 = .ok (.aload_n 0, 1) := by decide +kernel
theorem dX8_levelAt_48 : decode cX8_levelAt 48 = .ok (.getfield 29, 3) := by decide +kernel
theorem dX8_levelAt_51 : decode cX8_levelAt 51 = .ok (.iload_n 1, 1) := by decide +kernel
theorem dX8_levelAt_52 : decode cX8_levelAt 52 = .ok (.iaload, 1) := by decide +kernel
theorem dX8_levelAt_53 : decode cX8_levelAt 53 = .ok (.ifCond .le 7, 3) := by decide +kernel
theorem dX8_levelAt_56 : decode cX8_levelAt 56 = .ok (.iconst 1, 1) := by decide +kernel
theorem dX8_levelAt_57 : decode cX8_levelAt 57 = .ok (.goto 4, 3) := by decide +kernel
theorem dX8_levelAt_60 : decode cX8_levelAt 60 = .ok (.iconst 0, 1) := by decide +kernel
theorem dX8_levelAt_61 : decode cX8_levelAt 61 = .ok (.istore 7, 2) := by decide +kernel
theorem dX8_levelAt_63 : decode cX8_levelAt 63 = .ok (.iload 7, 2) := by decide +kernel
theorem dX8_levelAt_65 : decode cX8_levelAt 65 = .ok (.ifCond .eq 7, 3) := by decide +kernel
theorem dX8_levelAt_68 : decode cX8_levelAt 68 = .ok (.iload_n 3, 1) := by decide +kernel
theorem dX8_levelAt_69 : decode cX8_levelAt 69 = .ok (.goto 4, 3) := by decide +kernel
theorem dX8_levelAt_72 : decode cX8_levelAt 72 = .ok (.iconst 0, 1) := by decide +kernel
theorem dX8_levelAt_73 : decode cX8_levelAt 73 = .ok (.istore 8, 2) := by decide +kernel
theorem dX8_levelAt_75 : decode cX8_levelAt 75 = .ok (.iload 7, 2) := by decide +kernel
theorem dX8_levelAt_77 : decode cX8_levelAt 77 = .ok (.ifCond .eq 9, 3) := by decide +kernel
theorem dX8_levelAt_80 : decode cX8_levelAt 80 = .ok (.sipush 20000, 3) := by decide +kernel
theorem dX8_levelAt_83 : decode cX8_levelAt 83 = .ok (.goto 4, 3) := by decide +kernel
theorem dX8_levelAt_86 : decode cX8_levelAt 86 = .ok (.iload_n 3, 1) := by decide +kernel
theorem dX8_levelAt_87 : decode cX8_levelAt 87 = .ok (.istore 9, 2) := by decide +kernel
theorem dX8_levelAt_89 : decode cX8_levelAt 89 = .ok (.iload 7, 2) := by decide +kernel
theorem dX8_levelAt_91 : decode cX8_levelAt 91 = .ok (.ifCond .eq 50, 3) := by decide +kernel
theorem dX8_levelAt_94 : decode cX8_levelAt 94 = .ok (.iload 8, 2) := by decide +kernel
theorem dX8_levelAt_96 : decode cX8_levelAt 96 = .ok (.iload 9, 2) := by decide +kernel
theorem dX8_levelAt_98 : decode cX8_levelAt 98 = .ok (.if_icmp .ge 43, 3) := by decide +kernel
theorem dX8_levelAt_101 : decode cX8_levelAt 101 = .ok (.iload 8, 2) := by decide +kernel
theorem dX8_levelAt_103 : decode cX8_levelAt 103 = .ok (.iload 9, 2) := by decide +kernel
theorem dX8_levelAt_105 : decode cX8_levelAt 105 = .ok (.iadd, 1) := by decide +kernel
theorem dX8_levelAt_106 : decode cX8_levelAt 106 = .ok (.iconst 2, 1) := by decide +kernel
theorem dX8_levelAt_107 : decode cX8_levelAt 107 = .ok (.idiv, 1) := by decide +kernel
theorem dX8_levelAt_108 : decode cX8_levelAt 108 = .ok (.istore 10, 2) := by decide +kernel
theorem dX8_levelAt_110 : decode cX8_levelAt 110 = .ok (.aload_n 0, 1) := by decide +kernel
theorem dX8_levelAt_111 : decode cX8_levelAt 111 = .ok (.iload 10, 2) := by decide +kernel
theorem dX8_levelAt_113 : decode cX8_levelAt 113 = .ok (.iload_n 3, 1) := by decide +kernel
theorem dX8_levelAt_114 : decode cX8_levelAt 114 = .ok (.iload 4, 2) := by decide +kernel
theorem dX8_levelAt_116 : decode cX8_levelAt 116 = .ok (.invokevirtual 192, 3) := by decide +kernel
theorem dX8_levelAt_119 : decode cX8_levelAt 119 = .ok (.lload 5, 2) := by decide +kernel
theorem dX8_levelAt_121 : decode cX8_levelAt 121 = .ok (.lcmp, 1) := by decide +kernel
theorem dX8_levelAt_122 : decode cX8_levelAt 122 = .ok (.ifCond .lt 10, 3) := by decide +kernel
theorem dX8_levelAt_125 : decode cX8_levelAt 125 = .ok (.iload 10, 2) := by decide +kernel
theorem dX8_levelAt_127 : decode cX8_levelAt 127 = .ok (.istore 9, 2) := by decide +kernel
theorem dX8_levelAt_129 : decode cX8_levelAt 129 = .ok (.goto 9, 3) := by decide +kernel
theorem dX8_levelAt_132 : decode cX8_levelAt 132 = .ok (.iload 10, 2) := by decide +kernel
theorem dX8_levelAt_134 : decode cX8_levelAt 134 = .ok (.iconst 1, 1) := by decide +kernel
theorem dX8_levelAt_135 : decode cX8_levelAt 135 = .ok (.iadd, 1) := by decide +kernel
theorem dX8_levelAt_136 : decode cX8_levelAt 136 = .ok (.istore 8, 2) := by decide +kernel
theorem dX8_levelAt_138 : decode cX8_levelAt 138 = .ok (.goto (-49), 3) := by decide +kernel
theorem dX8_levelAt_141 : decode cX8_levelAt 141 = .ok (.iload 7, 2) := by decide +kernel
theorem dX8_levelAt_143 : decode cX8_levelAt 143 = .ok (.ifCond .ne 52, 3) := by decide +kernel
theorem dX8_levelAt_146 : decode cX8_levelAt 146 = .ok (.iload 8, 2) := by decide +kernel
theorem dX8_levelAt_148 : decode cX8_levelAt 148 = .ok (.iload 9, 2) := by decide +kernel
theorem dX8_levelAt_150 : decode cX8_levelAt 150 = .ok (.if_icmp .ge 45, 3) := by decide +kernel
theorem dX8_levelAt_153 : decode cX8_levelAt 153 = .ok (.iload 8, 2) := by decide +kernel
theorem dX8_levelAt_155 : decode cX8_levelAt 155 = .ok (.iload 9, 2) := by decide +kernel
theorem dX8_levelAt_157 : decode cX8_levelAt 157 = .ok (.iadd, 1) := by decide +kernel
theorem dX8_levelAt_158 : decode cX8_levelAt 158 = .ok (.iconst 1, 1) := by decide +kernel
theorem dX8_levelAt_159 : decode cX8_levelAt 159 = .ok (.iadd, 1) := by decide +kernel
theorem dX8_levelAt_160 : decode cX8_levelAt 160 = .ok (.iconst 2, 1) := by decide +kernel
theorem dX8_levelAt_161 : decode cX8_levelAt 161 = .ok (.idiv, 1) := by decide +kernel
theorem dX8_levelAt_162 : decode cX8_levelAt 162 = .ok (.istore 10, 2) := by decide +kernel
theorem dX8_levelAt_164 : decode cX8_levelAt 164 = .ok (.aload_n 0, 1) := by decide +kernel
theorem dX8_levelAt_165 : decode cX8_levelAt 165 = .ok (.iload_n 3, 1) := by decide +kernel
theorem dX8_levelAt_166 : decode cX8_levelAt 166 = .ok (.iload 10, 2) := by decide +kernel
theorem dX8_levelAt_168 : decode cX8_levelAt 168 = .ok (.iload 4, 2) := by decide +kernel
theorem dX8_levelAt_170 : decode cX8_levelAt 170 = .ok (.invokevirtual 192, 3) := by decide +kernel
theorem dX8_levelAt_173 : decode cX8_levelAt 173 = .ok (.lload 5, 2) := by decide +kernel
theorem dX8_levelAt_175 : decode cX8_levelAt 175 = .ok (.lcmp, 1) := by decide +kernel
theorem dX8_levelAt_176 : decode cX8_levelAt 176 = .ok (.ifCond .lt 10, 3) := by decide +kernel
theorem dX8_levelAt_179 : decode cX8_levelAt 179 = .ok (.iload 10, 2) := by decide +kernel
theorem dX8_levelAt_181 : decode cX8_levelAt 181 = .ok (.istore 8, 2) := by decide +kernel
theorem dX8_levelAt_183 : decode cX8_levelAt 183 = .ok (.goto 9, 3) := by decide +kernel
theorem dX8_levelAt_186 : decode cX8_levelAt 186 = .ok (.iload 10, 2) := by decide +kernel
theorem dX8_levelAt_188 : decode cX8_levelAt 188 = .ok (.iconst 1, 1) := by decide +kernel
theorem dX8_levelAt_189 : decode cX8_levelAt 189 = .ok (.isub, 1) := by decide +kernel
theorem dX8_levelAt_190 : decode cX8_levelAt 190 = .ok (.istore 9, 2) := by decide +kernel
theorem dX8_levelAt_192 : decode cX8_levelAt 192 = .ok (.goto (-51), 3) := by decide +kernel
theorem dX8_levelAt_195 : decode cX8_levelAt 195 = .ok (.iload 8, 2) := by decide +kernel
theorem dX8_levelAt_197 : decode cX8_levelAt 197 = .ok (.iconst 1, 1) := by decide +kernel
theorem dX8_levelAt_198 : decode cX8_levelAt 198 = .ok (.if_icmp .ge 7, 3) := by decide +kernel
theorem dX8_levelAt_201 : decode cX8_levelAt 201 = .ok (.iconst 1, 1) := by decide +kernel
theorem dX8_levelAt_202 : decode cX8_levelAt 202 = .ok (.goto 5, 3) := by decide +kernel
theorem dX8_levelAt_205 : decode cX8_levelAt 205 = .ok (.iload 8, 2) := by decide +kernel
theorem dX8_levelAt_207 : decode cX8_levelAt 207 = .ok (.ireturn, 1) := by decide +kernel
theorem dX8_reading_0 : decode cX8_reading 0 = .ok (.aload_n 0, 1) := by decide +kernel
theorem dX8_reading_1 : decode cX8_reading 1 = .ok (.iload_n 1, 1) := by decide +kernel
theorem dX8_reading_2 : decode cX8_reading 2 = .ok (.invokevirtual 166, 3) := by decide +kernel
theorem dX8_reading_5 : decode cX8_reading 5 = .ok (.ifCond .ne 7, 3) := by decide +kernel
theorem dX8_reading_8 : decode cX8_reading 8 = .ok (.ldc2_w 136, 3) := by decide +kernel
theorem dX8_reading_11 : decode cX8_reading 11 = .ok (.lreturn, 1) := by decide +kernel
theorem dX8_reading_12 : decode cX8_reading 12 = .ok (.iload_n 2, 1) := by decide +kernel
theorem dX8_reading_13 : decode cX8_reading 13 = .ok (.invokestatic 169, 3) := by decide +kernel
theorem dX8_reading_16 : decode cX8_reading 16 = .ok (.ifCond .eq 15, 3) := by decide +kernel
theorem dX8_reading_19 : decode cX8_reading 19 = .ok (.iload_n 3, 1) := by decide +kernel
theorem dX8_reading_20 : decode cX8_reading 20 = .ok (.i2l, 1) := by decide +kernel
theorem dX8_reading_21 : decode cX8_reading 21 = .ok (.lconst 0, 1) := by decide +kernel
theorem dX8_reading_22 : decode cX8_reading 22 = .ok (.ldc2_w 195, 3) := by decide +kernel
theorem dX8_reading_25 : decode cX8_reading 25 = .ok (.invokestatic 102, 3) := by decide +kernel
theorem dX8_reading_28 : decode cX8_reading 28 = .ok (.ifCond .ne 7, 3) := by decide +kernel
theorem dX8_reading_31 : decode cX8_reading 31 = .ok (.ldc2_w 138, 3) := by decide +kernel
theorem dX8_reading_34 : decode cX8_reading 34 = .ok (.lreturn, 1) := by decide +kernel
theorem dX8_reading_35 : decode cX8_reading 35 = .ok (.aload_n 0, 1) := by decide +kernel
theorem dX8_reading_36 : decode cX8_reading 36 = .ok (.iload_n 1, 1) := by decide +kernel
theorem dX8_reading_37 : decode cX8_reading 37 = .ok (.iload_n 2, 1) := by decide +kernel
theorem dX8_reading_38 : decode cX8_reading 38 = .ok (.invokevirtual 172, 3) := by decide +kernel
theorem dX8_reading_41 : decode cX8_reading 41 = .ok (.ifCond .ne 7, 3) := by decide +kernel
theorem dX8_reading_44 : decode cX8_reading 44 = .ok (.ldc2_w 197, 3) := by decide +kernel
theorem dX8_reading_47 : decode cX8_reading 47 = .ok (.lreturn, 1) := by decide +kernel
theorem dX8_reading_48 : decode cX8_reading 48 = .ok (.iload_n 3, 1) := by decide +kernel
theorem dX8_reading_49 : decode cX8_reading 49 = .ok (.tableswitch 71 0 3 #[31, 44, 57, 64], 31) := by decide +kernel
theorem dX8_reading_80 : decode cX8_reading 80 = .ok (.aload_n 0, 1) := by decide +kernel
theorem dX8_reading_81 : decode cX8_reading 81 = .ok (.getfield 35, 3) := by decide +kernel
theorem dX8_reading_84 : decode cX8_reading 84 = .ok (.bipush 48, 2) := by decide +kernel
theorem dX8_reading_86 : decode cX8_reading 86 = .ok (.iload_n 1, 1) := by decide +kernel
theorem dX8_reading_87 : decode cX8_reading 87 = .ok (.imul, 1) := by decide +kernel
theorem dX8_reading_88 : decode cX8_reading 88 = .ok (.iload_n 2, 1) := by decide +kernel
theorem dX8_reading_89 : decode cX8_reading 89 = .ok (.iadd, 1) := by decide +kernel
theorem dX8_reading_90 : decode cX8_reading 90 = .ok (.iaload, 1) := by decide +kernel
theorem dX8_reading_91 : decode cX8_reading 91 = .ok (.i2l, 1) := by decide +kernel
theorem dX8_reading_92 : decode cX8_reading 92 = .ok (.lreturn, 1) := by decide +kernel
theorem dX8_reading_93 : decode cX8_reading 93 = .ok (.aload_n 0, 1) := by decide +kernel
theorem dX8_reading_94 : decode cX8_reading 94 = .ok (.getfield 38, 3) := by decide +kernel
theorem dX8_reading_97 : decode cX8_reading 97 = .ok (.bipush 48, 2) := by decide +kernel
theorem dX8_reading_99 : decode cX8_reading 99 = .ok (.iload_n 1, 1) := by decide +kernel
theorem dX8_reading_100 : decode cX8_reading 100 = .ok (.imul, 1) := by decide +kernel
theorem dX8_reading_101 : decode cX8_reading 101 = .ok (.iload_n 2, 1) := by decide +kernel
theorem dX8_reading_102 : decode cX8_reading 102 = .ok (.iadd, 1) := by decide +kernel
theorem dX8_reading_103 : decode cX8_reading 103 = .ok (.iaload, 1) := by decide +kernel
theorem dX8_reading_104 : decode cX8_reading 104 = .ok (.i2l, 1) := by decide +kernel
theorem dX8_reading_105 : decode cX8_reading 105 = .ok (.lreturn, 1) := by decide +kernel
theorem dX8_reading_106 : decode cX8_reading 106 = .ok (.aload_n 0, 1) := by decide +kernel
theorem dX8_reading_107 : decode cX8_reading 107 = .ok (.iload_n 1, 1) := by decide +kernel
theorem dX8_reading_108 : decode cX8_reading 108 = .ok (.iload_n 2, 1) := by decide +kernel
theorem dX8_reading_109 : decode cX8_reading 109 = .ok (.invokevirtual 175, 3) := by decide +kernel
theorem dX8_reading_112 : decode cX8_reading 112 = .ok (.lreturn, 1) := by decide +kernel
theorem dX8_reading_113 : decode cX8_reading 113 = .ok (.aload_n 0, 1) := by decide +kernel
theorem dX8_reading_114 : decode cX8_reading 114 = .ok (.iload_n 1, 1) := by decide +kernel
theorem dX8_reading_115 : decode cX8_reading 115 = .ok (.iload_n 2, 1) := by decide +kernel
theorem dX8_reading_116 : decode cX8_reading 116 = .ok (.invokevirtual 179, 3) := by decide +kernel
theorem dX8_reading_119 : decode cX8_reading 119 = .ok (.lreturn, 1) := by decide +kernel
theorem dX8_reading_120 : decode cX8_reading 120 = .ok (.aload_n 0, 1) := by decide +kernel
theorem dX8_reading_121 : decode cX8_reading 121 = .ok (.iload_n 1, 1) := by decide +kernel
theorem dX8_reading_122 : decode cX8_reading 122 = .ok (.iload_n 2, 1) := by decide +kernel
theorem dX8_reading_123 : decode cX8_reading 123 = .ok (.invokevirtual 199, 3) := by decide +kernel
theorem dX8_reading_126 : decode cX8_reading 126 = .ok (.i2l, 1) := by decide +kernel
theorem dX8_reading_127 : decode cX8_reading 127 = .ok (.lreturn, 1) := by decide +kernel
theorem dX8_rise_0 : decode cX8_rise 0 = .ok (.iload_n 1, 1) := by decide +kernel
theorem dX8_rise_1 : decode cX8_rise 1 = .ok (.i2l, 1) := by decide +kernel
theorem dX8_rise_2 : decode cX8_rise 2 = .ok (.lconst 1, 1) := by decide +kernel
theorem dX8_rise_3 : decode cX8_rise 3 = .ok (.ldc2_w 182, 3) := by decide +kernel
theorem dX8_rise_6 : decode cX8_rise 6 = .ok (.invokestatic 102, 3) := by decide +kernel
theorem dX8_rise_9 : decode cX8_rise 9 = .ok (.ifCond .eq 30, 3) := by decide +kernel
theorem dX8_rise_12 : decode cX8_rise 12 = .ok (.iload_n 2, 1) := by decide +kernel
theorem dX8_rise_13 : decode cX8_rise 13 = .ok (.i2l, 1) := by decide +kernel
theorem dX8_rise_14 : decode cX8_rise 14 = .ok (.lconst 1, 1) := by decide +kernel
theorem dX8_rise_15 : decode cX8_rise 15 = .ok (.iload_n 1, 1) := by decide +kernel
theorem dX8_rise_16 : decode cX8_rise 16 = .ok (.i2l, 1) := by decide +kernel
theorem dX8_rise_17 : decode cX8_rise 17 = .ok (.lconst 1, 1) := by decide +kernel
theorem dX8_rise_18 : decode cX8_rise 18 = .ok (.lsub, 1) := by decide +kernel
theorem dX8_rise_19 : decode cX8_rise 19 = .ok (.invokestatic 102, 3) := by decide +kernel
theorem dX8_rise_22 : decode cX8_rise 22 = .ok (.ifCond .eq 17, 3) := by decide +kernel
theorem dX8_rise_25 : decode cX8_rise 25 = .ok (.iload_n 3, 1) := by decide +kernel
theorem dX8_rise_26 : decode cX8_rise 26 = .ok (.i2l, 1) := by decide +kernel
theorem dX8_rise_27 : decode cX8_rise 27 = .ok (.ldc2_w 145, 3) := by decide +kernel
theorem dX8_rise_30 : decode cX8_rise 30 = .ok (.ldc2_w 108, 3) := by decide +kernel
theorem dX8_rise_33 : decode cX8_rise 33 = .ok (.invokestatic 102, 3) := by decide +kernel
theorem dX8_rise_36 : decode cX8_rise 36 = .ok (.ifCond .ne 7, 3) := by decide +kernel
theorem dX8_rise_39 : decode cX8_rise 39 = .ok (.ldc2_w 138, 3) := by decide +kernel
theorem dX8_rise_42 : decode cX8_rise 42 = .ok (.lreturn, 1) := by decide +kernel
theorem dX8_rise_43 : decode cX8_rise 43 = .ok (.aload_n 0, 1) := by decide +kernel
theorem dX8_rise_44 : decode cX8_rise 44 = .ok (.iload_n 1, 1) := by decide +kernel
theorem dX8_rise_45 : decode cX8_rise 45 = .ok (.iload_n 2, 1) := by decide +kernel
theorem dX8_rise_46 : decode cX8_rise 46 = .ok (.iload_n 3, 1) := by decide +kernel
theorem dX8_rise_47 : decode cX8_rise 47 = .ok (.invokevirtual 192, 3) := by decide +kernel
theorem dX8_rise_50 : decode cX8_rise 50 = .ok (.lreturn, 1) := by decide +kernel
theorem dX8_between_0 : decode cX8_between 0 = .ok (.aload_n 0, 1) := by decide +kernel
theorem dX8_between_1 : decode cX8_between 1 = .ok (.iload_n 1, 1) := by decide +kernel
theorem dX8_between_2 : decode cX8_between 2 = .ok (.invokevirtual 166, 3) := by decide +kernel
theorem dX8_between_5 : decode cX8_between 5 = .ok (.ifCond .eq 11, 3) := by decide +kernel
theorem dX8_between_8 : decode cX8_between 8 = .ok (.aload_n 0, 1) := by decide +kernel
theorem dX8_between_9 : decode cX8_between 9 = .ok (.iload_n 2, 1) := by decide +kernel
theorem dX8_between_10 : decode cX8_between 10 = .ok (.invokevirtual 166, 3) := by decide +kernel
theorem dX8_between_13 : decode cX8_between 13 = .ok (.ifCond .ne 7, 3) := by decide +kernel
theorem dX8_between_16 : decode cX8_between 16 = .ok (.ldc2_w 136, 3) := by decide +kernel
theorem dX8_between_19 : decode cX8_between 19 = .ok (.lreturn, 1) := by decide +kernel
theorem dX8_between_20 : decode cX8_between 20 = .ok (.iload_n 3, 1) := by decide +kernel
theorem dX8_between_21 : decode cX8_between 21 = .ok (.invokestatic 169, 3) := by decide +kernel
theorem dX8_between_24 : decode cX8_between 24 = .ok (.ifCond .ne 7, 3) := by decide +kernel
theorem dX8_between_27 : decode cX8_between 27 = .ok (.ldc2_w 138, 3) := by decide +kernel
theorem dX8_between_30 : decode cX8_between 30 = .ok (.lreturn, 1) := by decide +kernel
theorem dX8_between_31 : decode cX8_between 31 = .ok (.aload_n 0, 1) := by decide +kernel
theorem dX8_between_32 : decode cX8_between 32 = .ok (.iload_n 1, 1) := by decide +kernel
theorem dX8_between_33 : decode cX8_between 33 = .ok (.iload_n 3, 1) := by decide +kernel
theorem dX8_between_34 : decode cX8_between 34 = .ok (.invokevirtual 172, 3) := by decide +kernel
theorem dX8_between_37 : decode cX8_between 37 = .ok (.ifCond .eq 12, 3) := by decide +kernel
theorem dX8_between_40 : decode cX8_between 40 = .ok (.aload_n 0, 1) := by decide +kernel
theorem dX8_between_41 : decode cX8_between 41 = .ok (.iload_n 2, 1) := by decide +kernel
theorem dX8_between_42 : decode cX8_between 42 = .ok (.iload_n 3, 1) := by decide +kernel
theorem dX8_between_43 : decode cX8_between 43 = .ok (.invokevirtual 172, 3) := by decide +kernel
theorem dX8_between_46 : decode cX8_between 46 = .ok (.ifCond .ne 7, 3) := by decide +kernel
theorem dX8_between_49 : decode cX8_between 49 = .ok (.ldc2_w 197, 3) := by decide +kernel
theorem dX8_between_52 : decode cX8_between 52 = .ok (.lreturn, 1) := by decide +kernel
theorem dX8_between_53 : decode cX8_between 53 = .ok (.aload_n 0, 1) := by decide +kernel
theorem dX8_between_54 : decode cX8_between 54 = .ok (.iload_n 1, 1) := by decide +kernel
theorem dX8_between_55 : decode cX8_between 55 = .ok (.iload_n 3, 1) := by decide +kernel
theorem dX8_between_56 : decode cX8_between 56 = .ok (.invokevirtual 186, 3) := by decide +kernel
theorem dX8_between_59 : decode cX8_between 59 = .ok (.istore 4, 2) := by decide +kernel
theorem dX8_between_61 : decode cX8_between 61 = .ok (.aload_n 0, 1) := by decide +kernel
theorem dX8_between_62 : decode cX8_between 62 = .ok (.iload_n 2, 1) := by decide +kernel
theorem dX8_between_63 : decode cX8_between 63 = .ok (.iload_n 3, 1) := by decide +kernel
theorem dX8_between_64 : decode cX8_between 64 = .ok (.invokevirtual 186, 3) := by decide +kernel
theorem dX8_between_67 : decode cX8_between 67 = .ok (.istore 5, 2) := by decide +kernel
theorem dX8_between_69 : decode cX8_between 69 = .ok (.aload_n 0, 1) := by decide +kernel
theorem dX8_between_70 : decode cX8_between 70 = .ok (.getfield 38, 3) := by decide +kernel
theorem dX8_between_73 : decode cX8_between 73 = .ok (.bipush 48, 2) := by decide +kernel
theorem dX8_between_75 : decode cX8_between 75 = .ok (.iload_n 1, 1) := by decide +kernel
theorem dX8_between_76 : decode cX8_between 76 = .ok (.imul, 1) := by decide +kernel
theorem dX8_between_77 : decode cX8_between 77 = .ok (.iload_n 3, 1) := by decide +kernel
theorem dX8_between_78 : decode cX8_between 78 = .ok (.iadd, 1) := by decide +kernel
theorem dX8_between_79 : decode cX8_between 79 = .ok (.iaload, 1) := by decide +kernel
theorem dX8_between_80 : decode cX8_between 80 = .ok (.aload_n 0, 1) := by decide +kernel
theorem dX8_between_81 : decode cX8_between 81 = .ok (.getfield 38, 3) := by decide +kernel
theorem dX8_between_84 : decode cX8_between 84 = .ok (.bipush 48, 2) := by decide +kernel
theorem dX8_between_86 : decode cX8_between 86 = .ok (.iload_n 2, 1) := by decide +kernel
theorem dX8_between_87 : decode cX8_between 87 = .ok (.imul, 1) := by decide +kernel
theorem dX8_between_88 : decode cX8_between 88 = .ok (.iload_n 3, 1) := by decide +kernel
theorem dX8_between_89 : decode cX8_between 89 = .ok (.iadd, 1) := by decide +kernel
theorem dX8_between_90 : decode cX8_between 90 = .ok (.iaload, 1) := by decide +kernel
theorem dX8_between_91 : decode cX8_between 91 = .ok (.iadd, 1) := by decide +kernel
theorem dX8_between_92 : decode cX8_between 92 = .ok (.iconst 2, 1) := by decide +kernel
theorem dX8_between_93 : decode cX8_between 93 = .ok (.idiv, 1) := by decide +kernel
theorem dX8_between_94 : decode cX8_between 94 = .ok (.istore 6, 2) := by decide +kernel
theorem dX8_between_96 : decode cX8_between 96 = .ok (.iload 4, 2) := by decide +kernel
theorem dX8_between_98 : decode cX8_between 98 = .ok (.iload 5, 2) := by decide +kernel
theorem dX8_between_100 : decode cX8_between 100 = .ok (.if_icmp .le 16, 3) := by decide +kernel
theorem dX8_between_103 : decode cX8_between 103 = .ok (.aload_n 0, 1) := by decide +kernel
theorem dX8_between_104 : decode cX8_between 104 = .ok (.iload 4, 2) := by decide +kernel
theorem dX8_between_106 : decode cX8_between 106 = .ok (.iload 5, 2) := by decide +kernel
theorem dX8_between_108 : decode cX8_between 108 = .ok (.iload 6, 2) := by decide +kernel
theorem dX8_between_110 : decode cX8_between 110 = .ok (.invokevirtual 192, 3) := by decide +kernel
theorem dX8_between_113 : decode cX8_between 113 = .ok (.goto 25, 3) := by decide +kernel
theorem dX8_between_116 : decode cX8_between 116 = .ok (.iload 4, 2) := by decide +kernel
theorem dX8_between_118 : decode cX8_between 118 = .ok (.iload 5, 2) := by decide +kernel
theorem dX8_between_120 : decode cX8_between 120 = .ok (.if_icmp .ge 17, 3) := by decide +kernel
theorem dX8_between_123 : decode cX8_between 123 = .ok (.aload_n 0, 1) := by decide +kernel
theorem dX8_between_124 : decode cX8_between 124 = .ok (.iload 5, 2) := by decide +kernel
theorem dX8_between_126 : decode cX8_between 126 = .ok (.iload 4, 2) := by decide +kernel
theorem dX8_between_128 : decode cX8_between 128 = .ok (.iload 6, 2) := by decide +kernel
theorem dX8_between_130 : decode cX8_between 130 = .ok (.invokevirtual 192, 3) := by decide +kernel
theorem dX8_between_133 : decode cX8_between 133 = .ok (.lneg, 1) := by decide +kernel
theorem dX8_between_134 : decode cX8_between 134 = .ok (.goto 4, 3) := by decide +kernel
theorem dX8_between_137 : decode cX8_between 137 = .ok (.lconst 0, 1) := by decide +kernel
theorem dX8_between_138 : decode cX8_between 138 = .ok (.lreturn, 1) := by decide +kernel
theorem dX8_isBench_0 : decode cX8_isBench 0 = .ok (.iload_n 1, 1) := by decide +kernel
theorem dX8_isBench_1 : decode cX8_isBench 1 = .ok (.i2l, 1) := by decide +kernel
theorem dX8_isBench_2 : decode cX8_isBench 2 = .ok (.lconst 0, 1) := by decide +kernel
theorem dX8_isBench_3 : decode cX8_isBench 3 = .ok (.aload_n 0, 1) := by decide +kernel
theorem dX8_isBench_4 : decode cX8_isBench 4 = .ok (.getfield 50, 3) := by decide +kernel
theorem dX8_isBench_7 : decode cX8_isBench 7 = .ok (.iconst 1, 1) := by decide +kernel
theorem dX8_isBench_8 : decode cX8_isBench 8 = .ok (.isub, 1) := by decide +kernel
theorem dX8_isBench_9 : decode cX8_isBench 9 = .ok (.i2l, 1) := by decide +kernel
theorem dX8_isBench_10 : decode cX8_isBench 10 = .ok (.invokestatic 102, 3) := by decide +kernel
theorem dX8_isBench_13 : decode cX8_isBench 13 = .ok (.ireturn, 1) := by decide +kernel
theorem dX8_benches_0 : decode cX8_benches 0 = .ok (.iload_n 1, 1) := by decide +kernel
theorem dX8_benches_1 : decode cX8_benches 1 = .ok (.i2l, 1) := by decide +kernel
theorem dX8_benches_2 : decode cX8_benches 2 = .ok (.ldc2_w 202, 3) := by decide +kernel
theorem dX8_benches_5 : decode cX8_benches 5 = .ok (.ldc2_w 204, 3) := by decide +kernel
theorem dX8_benches_8 : decode cX8_benches 8 = .ok (.invokestatic 102, 3) := by decide +kernel
theorem dX8_benches_11 : decode cX8_benches 11 = .ok (.ifCond .ne 6, 3) := by decide +kernel
theorem dX8_benches_14 : decode cX8_benches 14 = .ok (.bipush (-2), 2) := by decide +kernel
theorem dX8_benches_16 : decode cX8_benches 16 = .ok (.ireturn, 1) := by decide +kernel
theorem dX8_benches_17 : decode cX8_benches 17 = .ok (.aload_n 0, 1) := by decide +kernel
theorem dX8_benches_18 : decode cX8_benches 18 = .ok (.getfield 50, 3) := by decide +kernel
theorem dX8_benches_21 : decode cX8_benches 21 = .ok (.istore_n 2, 1) := by decide +kernel
theorem dX8_benches_22 : decode cX8_benches 22 = .ok (.aload_n 0, 1) := by decide +kernel
theorem dX8_benches_23 : decode cX8_benches 23 = .ok (.iload_n 1, 1) := by decide +kernel
theorem dX8_benches_24 : decode cX8_benches 24 = .ok (.putfield 50, 3) := by decide +kernel
theorem dX8_benches_27 : decode cX8_benches 27 = .ok (.aload_n 0, 1) := by decide +kernel
theorem dX8_benches_28 : decode cX8_benches 28 = .ok (.iconst 0, 1) := by decide +kernel
theorem dX8_benches_29 : decode cX8_benches 29 = .ok (.putfield 206, 3) := by decide +kernel
theorem dX8_benches_32 : decode cX8_benches 32 = .ok (.iload_n 2, 1) := by decide +kernel
theorem dX8_benches_33 : decode cX8_benches 33 = .ok (.ireturn, 1) := by decide +kernel
theorem dX8_difference_0 : decode cX8_difference 0 = .ok (.aload_n 0, 1) := by decide +kernel
theorem dX8_difference_1 : decode cX8_difference 1 = .ok (.iload_n 1, 1) := by decide +kernel
theorem dX8_difference_2 : decode cX8_difference 2 = .ok (.invokevirtual 209, 3) := by decide +kernel
theorem dX8_difference_5 : decode cX8_difference 5 = .ok (.ifCond .eq 16, 3) := by decide +kernel
theorem dX8_difference_8 : decode cX8_difference 8 = .ok (.aload_n 0, 1) := by decide +kernel
theorem dX8_difference_9 : decode cX8_difference 9 = .ok (.iload_n 2, 1) := by decide +kernel
theorem dX8_difference_10 : decode cX8_difference 10 = .ok (.invokevirtual 209, 3) := by decide +kernel
theorem dX8_difference_13 : decode cX8_difference 13 = .ok (.ifCond .eq 8, 3) := by decide +kernel
theorem dX8_difference_16 : decode cX8_difference 16 = .ok (.iload_n 1, 1) := by decide +kernel
theorem dX8_difference_17 : decode cX8_difference 17 = .ok (.iload_n 2, 1) := by decide +kernel
theorem dX8_difference_18 : decode cX8_difference 18 = .ok (.if_icmp .ne 5, 3) := by decide +kernel
theorem dX8_difference_21 : decode cX8_difference 21 = .ok (.iconst (-1), 1) := by decide +kernel
theorem dX8_difference_22 : decode cX8_difference 22 = .ok (.ireturn, 1) := by decide +kernel
theorem dX8_difference_23 : decode cX8_difference 23 = .ok (.iload_n 3, 1) := by decide +kernel
theorem dX8_difference_24 : decode cX8_difference 24 = .ok (.i2l, 1) := by decide +kernel
theorem dX8_difference_25 : decode cX8_difference 25 = .ok (.ldc2_w 212, 3) := by decide +kernel
theorem dX8_difference_28 : decode cX8_difference 28 = .ok (.ldc2_w 214, 3) := by decide +kernel
theorem dX8_difference_31 : decode cX8_difference 31 = .ok (.invokestatic 102, 3) := by decide +kernel
theorem dX8_difference_34 : decode cX8_difference 34 = .ok (.ifCond .eq 16, 3) := by decide +kernel
theorem dX8_difference_37 : decode cX8_difference 37 = .ok (.iload 4, 2) := by decide +kernel
theorem dX8_difference_39 : decode cX8_difference 39 = .ok (.i2l, 1) := by decide +kernel
theorem dX8_difference_40 : decode cX8_difference 40 = .ok (.lconst 1, 1) := by decide +kernel
theorem dX8_difference_41 : decode cX8_difference 41 = .ok (.ldc2_w 216, 3) := by decide +kernel
theorem dX8_difference_44 : decode cX8_difference 44 = .ok (.invokestatic 102, 3) := by decide +kernel
theorem dX8_difference_47 : decode cX8_difference 47 = .ok (.ifCond .ne 6, 3) := by decide +kernel
theorem dX8_difference_50 : decode cX8_difference 50 = .ok (.bipush (-2), 2) := by decide +kernel
theorem dX8_difference_52 : decode cX8_difference 52 = .ok (.ireturn, 1) := by decide +kernel
theorem dX8_difference_53 : decode cX8_difference 53 = .ok (.aload_n 0, 1) := by decide +kernel
theorem dX8_difference_54 : decode cX8_difference 54 = .ok (.getfield 206, 3) := by decide +kernel
theorem dX8_difference_57 : decode cX8_difference 57 = .ok (.bipush 12, 2) := by decide +kernel
theorem dX8_difference_59 : decode cX8_difference 59 = .ok (.if_icmp .ne 6, 3) := by decide +kernel
theorem dX8_difference_62 : decode cX8_difference 62 = .ok (.bipush (-4), 2) := by decide +kernel
theorem dX8_difference_64 : decode cX8_difference 64 = .ok (.ireturn, 1) := by decide +kernel
theorem dX8_difference_65 : decode cX8_difference 65 = .ok (.aload_n 0, 1) := by decide +kernel
theorem dX8_difference_66 : decode cX8_difference 66 = .ok (.getfield 54, 3) := by decide +kernel
theorem dX8_difference_69 : decode cX8_difference 69 = .ok (.aload_n 0, 1) := by decide +kernel
theorem dX8_difference_70 : decode cX8_difference 70 = .ok (.getfield 206, 3) := by decide +kernel
theorem dX8_difference_73 : decode cX8_difference 73 = .ok (.iload_n 1, 1) := by decide +kernel
theorem dX8_difference_74 : decode cX8_difference 74 = .ok (.iastore, 1) := by decide +kernel
theorem dX8_difference_75 : decode cX8_difference 75 = .ok (.aload_n 0, 1) := by decide +kernel
theorem dX8_difference_76 : decode cX8_difference 76 = .ok (.getfield 57, 3) := by decide +kernel
theorem dX8_difference_79 : decode cX8_difference 79 = .ok (.aload_n 0, 1) := by decide +kernel
theorem dX8_difference_80 : decode cX8_difference 80 = .ok (.getfield 206, 3) := by decide +kernel
theorem dX8_difference_83 : decode cX8_difference 83 = .ok (.iload_n 2, 1) := by decide +kernel
theorem dX8_difference_84 : decode cX8_difference 84 = .ok (.iastore, 1) := by decide +kernel
theorem dX8_difference_85 : decode cX8_difference 85 = .ok (.aload_n 0, 1) := by decide +kernel
theorem dX8_difference_86 : decode cX8_difference 86 = .ok (.getfield 60, 3) := by decide +kernel
theorem dX8_difference_89 : decode cX8_difference 89 = .ok (.aload_n 0, 1) := by decide +kernel
theorem dX8_difference_90 : decode cX8_difference 90 = .ok (.getfield 206, 3) := by decide +kernel
theorem dX8_difference_93 : decode cX8_difference 93 = .ok (.iload_n 3, 1) := by decide +kernel
theorem dX8_difference_94 : decode cX8_difference 94 = .ok (.iastore, 1) := by decide +kernel
theorem dX8_difference_95 : decode cX8_difference 95 = .ok (.aload_n 0, 1) := by decide +kernel
theorem dX8_difference_96 : decode cX8_difference 96 = .ok (.getfield 63, 3) := by decide +kernel
theorem dX8_difference_99 : decode cX8_difference 99 = .ok (.aload_n 0, 1) := by decide +kernel
theorem dX8_difference_100 : decode cX8_difference 100 = .ok (.getfield 206, 3) := by decide +kernel
theorem dX8_difference_103 : decode cX8_difference 103 = .ok (.iload 4, 2) := by decide +kernel
theorem dX8_difference_105 : decode cX8_difference 105 = .ok (.iastore, 1) := by decide +kernel
theorem dX8_difference_106 : decode cX8_difference 106 = .ok (.aload_n 0, 1) := by decide +kernel
theorem dX8_difference_107 : decode cX8_difference 107 = .ok (.dup, 1) := by decide +kernel
theorem dX8_difference_108 : decode cX8_difference 108 = .ok (.getfield 206, 3) := by decide +kernel
theorem dX8_difference_111 : decode cX8_difference 111 = .ok (.iconst 1, 1) := by decide +kernel
theorem dX8_difference_112 : decode cX8_difference 112 = .ok (.iadd, 1) := by decide +kernel
theorem dX8_difference_113 : decode cX8_difference 113 = .ok (.putfield 206, 3) := by decide +kernel
