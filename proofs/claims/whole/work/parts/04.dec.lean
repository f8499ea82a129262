theorem dX6_read_45 : decode cX6_read 45 = .ok (.ifCond .ne 12, 3) := by decide +kernel
theorem dX6_read_48 : decode cX6_read 48 = .ok (.iload 4, 2) := by decide +kernel
theorem dX6_read_50 : decode cX6_read 50 = .ok (.ifCond .ne 7, 3) := by decide +kernel
theorem dX6_read_53 : decode cX6_read 53 = .ok (.iconst 1, 1) := by decide +kernel
theorem dX6_read_54 : decode cX6_read 54 = .ok (.goto 4, 3) := by decide +kernel
theorem dX6_read_57 : decode cX6_read 57 = .ok (.iconst 0, 1) := by decide +kernel
theorem dX6_read_58 : decode cX6_read 58 = .ok (.putfield 28, 3) := by decide +kernel
theorem dX6_read_61 : decode cX6_read 61 = .ok (.aload_n 0, 1) := by decide +kernel
theorem dX6_read_62 : decode cX6_read 62 = .ok (.getfield 28, 3) := by decide +kernel
theorem dX6_read_65 : decode cX6_read 65 = .ok (.ifCond .eq 82, 3) := by decide +kernel
theorem dX6_read_68 : decode cX6_read 68 = .ok (.aload_n 0, 1) := by decide +kernel
theorem dX6_read_69 : decode cX6_read 69 = .ok (.iload_n 1, 1) := by decide +kernel
theorem dX6_read_70 : decode cX6_read 70 = .ok (.iconst 3, 1) := by decide +kernel
theorem dX6_read_71 : decode cX6_read 71 = .ok (.if_icmp .eq 18, 3) := by decide +kernel
theorem dX6_read_74 : decode cX6_read 74 = .ok (.aload_n 0, 1) := by decide +kernel
theorem dX6_read_75 : decode cX6_read 75 = .ok (.getfield 9, 3) := by decide +kernel
theorem dX6_read_78 : decode cX6_read 78 = .ok (.iload_n 2, 1) := by decide +kernel
theorem dX6_read_79 : decode cX6_read 79 = .ok (.invokevirtual 59, 3) := by decide +kernel
theorem dX6_read_82 : decode cX6_read 82 = .ok (.ifCond .eq 7, 3) := by decide +kernel
theorem dX6_read_85 : decode cX6_read 85 = .ok (.iconst 1, 1) := by decide +kernel
theorem dX6_read_86 : decode cX6_read 86 = .ok (.goto 4, 3) := by decide +kernel
theorem dX6_read_89 : decode cX6_read 89 = .ok (.iconst 0, 1) := by decide +kernel
theorem dX6_read_90 : decode cX6_read 90 = .ok (.putfield 32, 3) := by decide +kernel
theorem dX6_read_93 : decode cX6_read 93 = .ok (.aload_n 0, 1) := by decide +kernel
theorem dX6_read_94 : decode cX6_read 94 = .ok (.iload_n 1, 1) := by decide +kernel
theorem dX6_read_95 : decode cX6_read 95 = .ok (.aload_n 0, 1) := by decide +kernel
theorem dX6_read_96 : decode cX6_read 96 = .ok (.getfield 9, 3) := by decide +kernel
theorem dX6_read_99 : decode cX6_read 99 = .ok (.iload_n 2, 1) := by decide +kernel
theorem dX6_read_100 : decode cX6_read 100 = .ok (.invokevirtual 65, 3) := by decide +kernel
theorem dX6_read_103 : decode cX6_read 103 = .ok (.aload_n 0, 1) := by decide +kernel
theorem dX6_read_104 : decode cX6_read 104 = .ok (.getfield 9, 3) := by decide +kernel
theorem dX6_read_107 : decode cX6_read 107 = .ok (.iload_n 2, 1) := by decide +kernel
theorem dX6_read_108 : decode cX6_read 108 = .ok (.invokevirtual 69, 3) := by decide +kernel
theorem dX6_read_111 : decode cX6_read 111 = .ok (.invokevirtual 72, 3) := by decide +kernel
theorem dX6_read_114 : decode cX6_read 114 = .ok (.aload_n 0, 1) := by decide +kernel
theorem dX6_read_115 : decode cX6_read 115 = .ok (.getfield 20, 3) := by decide +kernel
theorem dX6_read_118 : decode cX6_read 118 = .ok (.aload_n 0, 1) := by decide +kernel
theorem dX6_read_119 : decode cX6_read 119 = .ok (.getfield 76, 3) := by decide +kernel
theorem dX6_read_122 : decode cX6_read 122 = .ok (.aload_n 0, 1) := by decide +kernel
theorem dX6_read_123 : decode cX6_read 123 = .ok (.getfield 80, 3) := by decide +kernel
theorem dX6_read_126 : decode cX6_read 126 = .ok (.aload_n 0, 1) := by decide +kernel
theorem dX6_read_127 : decode cX6_read 127 = .ok (.getfield 83, 3) := by decide +kernel
theorem dX6_read_130 : decode cX6_read 130 = .ok (.invokevirtual 86, 3) := by decide +kernel
theorem dX6_read_133 : decode cX6_read 133 = .ok (.aload_n 0, 1) := by decide +kernel
theorem dX6_read_134 : decode cX6_read 134 = .ok (.aload_n 0, 1) := by decide +kernel
theorem dX6_read_135 : decode cX6_read 135 = .ok (.getfield 20, 3) := by decide +kernel
theorem dX6_read_138 : decode cX6_read 138 = .ok (.invokevirtual 90, 3) := by decide +kernel
theorem dX6_read_141 : decode cX6_read 141 = .ok (.putfield 43, 3) := by decide +kernel
theorem dX6_read_144 : decode cX6_read 144 = .ok (.goto 30, 3) := by decide +kernel
theorem dX6_read_147 : decode cX6_read 147 = .ok (.aload_n 0, 1) := by decide +kernel
theorem dX6_read_148 : decode cX6_read 148 = .ok (.aload_n 0, 1) := by decide +kernel
theorem dX6_read_149 : decode cX6_read 149 = .ok (.iload_n 1, 1) := by decide +kernel
theorem dX6_read_150 : decode cX6_read 150 = .ok (.iload_n 2, 1) := by decide +kernel
theorem dX6_read_151 : decode cX6_read 151 = .ok (.invokevirtual 93, 3) := by decide +kernel
theorem dX6_read_154 : decode cX6_read 154 = .ok (.putfield 39, 3) := by decide +kernel
theorem dX6_read_157 : decode cX6_read 157 = .ok (.aload_n 0, 1) := by decide +kernel
theorem dX6_read_158 : decode cX6_read 158 = .ok (.iload_n 3, 1) := by decide +kernel
theorem dX6_read_159 : decode cX6_read 159 = .ok (.ifCond .eq 11, 3) := by decide +kernel
theorem dX6_read_162 : decode cX6_read 162 = .ok (.iload_n 1, 1) := by decide +kernel
theorem dX6_read_163 : decode cX6_read 163 = .ok (.ifCond .eq 7, 3) := by decide +kernel
theorem dX6_read_166 : decode cX6_read 166 = .ok (.iconst 1, 1) := by decide +kernel
theorem dX6_read_167 : decode cX6_read 167 = .ok (.goto 4, 3) := by decide +kernel
theorem dX6_read_170 : decode cX6_read 170 = .ok (.iconst 0, 1) := by decide +kernel
theorem dX6_read_171 : decode cX6_read 171 = .ok (.putfield 43, 3) := by decide +kernel
theorem dX6_read_174 : decode cX6_read 174 = .ok (.return_, 1) := by decide +kernel
theorem dX6_settledResult_0 : decode cX6_settledResult 0 = .ok (.aload_n 0, 1) := by decide +kernel
theorem dX6_settledResult_1 : decode cX6_settledResult 1 = .ok (.getfield 9, 3) := by decide +kernel
theorem dX6_settledResult_4 : decode cX6_settledResult 4 = .ok (.iload_n 2, 1) := by decide +kernel
theorem dX6_settledResult_5 : decode cX6_settledResult 5 = .ok (.invokevirtual 53, 3) := by decide +kernel
theorem dX6_settledResult_8 : decode cX6_settledResult 8 = .ok (.istore_n 3, 1) := by decide +kernel
theorem dX6_settledResult_9 : decode cX6_settledResult 9 = .ok (.iload_n 1, 1) := by decide +kernel
theorem dX6_settledResult_10 : decode cX6_settledResult 10 = .ok (.iconst 1, 1) := by decide +kernel
theorem dX6_settledResult_11 : decode cX6_settledResult 11 = .ok (.if_icmp .ne 22, 3) := by decide +kernel
theorem dX6_settledResult_14 : decode cX6_settledResult 14 = .ok (.aload_n 0, 1) := by decide +kernel
theorem dX6_settledResult_15 : decode cX6_settledResult 15 = .ok (.getfield 9, 3) := by decide +kernel
theorem dX6_settledResult_18 : decode cX6_settledResult 18 = .ok (.iload_n 2, 1) := by decide +kernel
theorem dX6_settledResult_19 : decode cX6_settledResult 19 = .ok (.invokevirtual 59, 3) := by decide +kernel
theorem dX6_settledResult_22 : decode cX6_settledResult 22 = .ok (.ifCond .eq 11, 3) := by decide +kernel
theorem dX6_settledResult_25 : decode cX6_settledResult 25 = .ok (.iload_n 3, 1) := by decide +kernel
theorem dX6_settledResult_26 : decode cX6_settledResult 26 = .ok (.ifCond .ne 7, 3) := by decide +kernel
theorem dX6_settledResult_29 : decode cX6_settledResult 29 = .ok (.iconst 1, 1) := by decide +kernel
theorem dX6_settledResult_30 : decode cX6_settledResult 30 = .ok (.goto 4, 3) := by decide +kernel
theorem dX6_settledResult_33 : decode cX6_settledResult 33 = .ok (.iconst 0, 1) := by decide +kernel
theorem dX6_settledResult_34 : decode cX6_settledResult 34 = .ok (.istore 4, 2) := by decide +kernel
theorem dX6_settledResult_36 : decode cX6_settledResult 36 = .ok (.aload_n 0, 1) := by decide +kernel
theorem dX6_settledResult_37 : decode cX6_settledResult 37 = .ok (.getfield 9, 3) := by decide +kernel
theorem dX6_settledResult_40 : decode cX6_settledResult 40 = .ok (.iload_n 2, 1) := by decide +kernel
theorem dX6_settledResult_41 : decode cX6_settledResult 41 = .ok (.invokevirtual 97, 3) := by decide +kernel
theorem dX6_settledResult_44 : decode cX6_settledResult 44 = .ok (.ifCond .ne 8, 3) := by decide +kernel
theorem dX6_settledResult_47 : decode cX6_settledResult 47 = .ok (.iload 4, 2) := by decide +kernel
theorem dX6_settledResult_49 : decode cX6_settledResult 49 = .ok (.ifCond .eq 11, 3) := by decide +kernel
theorem dX6_settledResult_52 : decode cX6_settledResult 52 = .ok (.aload_n 0, 1) := by decide +kernel
theorem dX6_settledResult_53 : decode cX6_settledResult 53 = .ok (.getfield 9, 3) := by decide +kernel
theorem dX6_settledResult_56 : decode cX6_settledResult 56 = .ok (.invokevirtual 100, 3) := by decide +kernel
theorem dX6_settledResult_59 : decode cX6_settledResult 59 = .ok (.ireturn, 1) := by decide +kernel
theorem dX6_settledResult_60 : decode cX6_settledResult 60 = .ok (.iload_n 1, 1) := by decide +kernel
theorem dX6_settledResult_61 : decode cX6_settledResult 61 = .ok (.iconst 3, 1) := by decide +kernel
theorem dX6_settledResult_62 : decode cX6_settledResult 62 = .ok (.if_icmp .ne 7, 3) := by decide +kernel
theorem dX6_settledResult_65 : decode cX6_settledResult 65 = .ok (.iconst 0, 1) := by decide +kernel
theorem dX6_settledResult_66 : decode cX6_settledResult 66 = .ok (.goto 12, 3) := by decide +kernel
theorem dX6_settledResult_69 : decode cX6_settledResult 69 = .ok (.iload_n 2, 1) := by decide +kernel
theorem dX6_settledResult_70 : decode cX6_settledResult 70 = .ok (.aload_n 0, 1) := by decide +kernel
theorem dX6_settledResult_71 : decode cX6_settledResult 71 = .ok (.getfield 9, 3) := by decide +kernel
theorem dX6_settledResult_74 : decode cX6_settledResult 74 = .ok (.getfield 103, 3) := by decide +kernel
theorem dX6_settledResult_77 : decode cX6_settledResult 77 = .ok (.iand, 1) := by decide +kernel
theorem dX6_settledResult_78 : decode cX6_settledResult 78 = .ok (.istore 5, 2) := by decide +kernel
theorem dX6_settledResult_80 : decode cX6_settledResult 80 = .ok (.iload_n 3, 1) := by decide +kernel
theorem dX6_settledResult_81 : decode cX6_settledResult 81 = .ok (.iload_n 1, 1) := by decide +kernel
theorem dX6_settledResult_82 : decode cX6_settledResult 82 = .ok (.ifCond .ne 7, 3) := by decide +kernel
theorem dX6_settledResult_85 : decode cX6_settledResult 85 = .ok (.iconst 1, 1) := by decide +kernel
theorem dX6_settledResult_86 : decode cX6_settledResult 86 = .ok (.goto 4, 3) := by decide +kernel
theorem dX6_settledResult_89 : decode cX6_settledResult 89 = .ok (.iconst 0, 1) := by decide +kernel
theorem dX6_settledResult_90 : decode cX6_settledResult 90 = .ok (.if_icmp .eq 7, 3) := by decide +kernel
theorem dX6_settledResult_93 : decode cX6_settledResult 93 = .ok (.iconst 1, 1) := by decide +kernel
theorem dX6_settledResult_94 : decode cX6_settledResult 94 = .ok (.goto 4, 3) := by decide +kernel
theorem dX6_settledResult_97 : decode cX6_settledResult 97 = .ok (.iconst 0, 1) := by decide +kernel
theorem dX6_settledResult_98 : decode cX6_settledResult 98 = .ok (.istore 6, 2) := by decide +kernel
theorem dX6_settledResult_100 : decode cX6_settledResult 100 = .ok (.iload 6, 2) := by decide +kernel
theorem dX6_settledResult_102 : decode cX6_settledResult 102 = .ok (.ifCond .eq 8, 3) := by decide +kernel
theorem dX6_settledResult_105 : decode cX6_settledResult 105 = .ok (.iload 5, 2) := by decide +kernel
theorem dX6_settledResult_107 : decode cX6_settledResult 107 = .ok (.goto 13, 3) := by decide +kernel
theorem dX6_settledResult_110 : decode cX6_settledResult 110 = .ok (.iload 5, 2) := by decide +kernel
theorem dX6_settledResult_112 : decode cX6_settledResult 112 = .ok (.aload_n 0, 1) := by decide +kernel
theorem dX6_settledResult_113 : decode cX6_settledResult 113 = .ok (.getfield 9, 3) := by decide +kernel
theorem dX6_settledResult_116 : decode cX6_settledResult 116 = .ok (.getfield 106, 3) := by decide +kernel
theorem dX6_settledResult_119 : decode cX6_settledResult 119 = .ok (.iadd, 1) := by decide +kernel
theorem dX6_settledResult_120 : decode cX6_settledResult 120 = .ok (.ireturn, 1) := by decide +kernel
theorem dX6_reckon_0 : decode cX6_reckon 0 = .ok (.iload_n 2, 1) := by decide +kernel
theorem dX6_reckon_1 : decode cX6_reckon 1 = .ok (.i2l, 1) := by decide +kernel
theorem dX6_reckon_2 : decode cX6_reckon 2 = .ok (.lstore 4, 2) := by decide +kernel
theorem dX6_reckon_4 : decode cX6_reckon 4 = .ok (.iload_n 1, 1) := by decide +kernel
theorem dX6_reckon_5 : decode cX6_reckon 5 = .ok (.tableswitch 74 0 3 #[31, 40, 49, 58], 31) := by decide +kernel
theorem dX6_reckon_36 : decode cX6_reckon 36 = .ok (.aload_n 0, 1) := by decide +kernel
theorem dX6_reckon_37 : decode cX6_reckon 37 = .ok (.iload_n 2, 1) := by decide +kernel
theorem dX6_reckon_38 : decode cX6_reckon 38 = .ok (.iload_n 3, 1) := by decide +kernel
theorem dX6_reckon_39 : decode cX6_reckon 39 = .ok (.invokevirtual 109, 3) := by decide +kernel
theorem dX6_reckon_42 : decode cX6_reckon 42 = .ok (.goto 53, 3) := by decide +kernel
theorem dX6_reckon_45 : decode cX6_reckon 45 = .ok (.aload_n 0, 1) := by decide +kernel
theorem dX6_reckon_46 : decode cX6_reckon 46 = .ok (.iload_n 2, 1) := by decide +kernel
theorem dX6_reckon_47 : decode cX6_reckon 47 = .ok (.iload_n 3, 1) := by decide +kernel
theorem dX6_reckon_48 : decode cX6_reckon 48 = .ok (.invokevirtual 112, 3) := by decide +kernel
theorem dX6_reckon_51 : decode cX6_reckon 51 = .ok (.goto 44, 3) := by decide +kernel
theorem dX6_reckon_54 : decode cX6_reckon 54 = .ok (.aload_n 0, 1) := by decide +kernel
theorem dX6_reckon_55 : decode cX6_reckon 55 = .ok (.iload_n 2, 1) := by decide +kernel
theorem dX6_reckon_56 : decode cX6_reckon 56 = .ok (.iload_n 3, 1) := by decide +kernel
theorem dX6_reckon_57 : decode cX6_reckon 57 = .ok (.invokevirtual 115, 3) := by decide +kernel
theorem dX6_reckon_60 : decode cX6_reckon 60 = .ok (.goto 35, 3) := by decide +kernel
theorem dX6_reckon_63 : decode cX6_reckon 63 = .ok (.aload_n 0, 1) := by decide +kernel
theorem dX6_reckon_64 : decode cX6_reckon 64 = .ok (.lload 4, 2) := by decide +kernel
theorem dX6_reckon_66 : decode cX6_reckon 66 = .ok (.lload 4, 2) := by decide +kernel
theorem dX6_reckon_68 : decode cX6_reckon 68 = .ok (.lmul, 1) := by decide +kernel
theorem dX6_reckon_69 : decode cX6_reckon 69 = .ok (.iconst 2, 1) := by decide +kernel
theorem dX6_reckon_70 : decode cX6_reckon 70 = .ok (.iload_n 3, 1) := by decide +kernel
theorem dX6_reckon_71 : decode cX6_reckon 71 = .ok (.imul, 1) := by decide +kernel
theorem dX6_reckon_72 : decode cX6_reckon 72 = .ok (.iconst 0, 1) := by decide +kernel
theorem dX6_reckon_73 : decode cX6_reckon 73 = .ok (.invokevirtual 118, 3) := by decide +kernel
theorem dX6_reckon_76 : decode cX6_reckon 76 = .ok (.goto 19, 3) := by decide +kernel
theorem dX6_reckon_79 : decode cX6_reckon 79 = .ok (.aload_n 0, 1) := by decide +kernel
theorem dX6_reckon_80 : decode cX6_reckon 80 = .ok (.lload 4, 2) := by decide +kernel
theorem dX6_reckon_82 : decode cX6_reckon 82 = .ok (.lload 4, 2) := by decide +kernel
theorem dX6_reckon_84 : decode cX6_reckon 84 = .ok (.lmul, 1) := by decide +kernel
theorem dX6_reckon_85 : decode cX6_reckon 85 = .ok (.lload 4, 2) := by decide +kernel
theorem dX6_reckon_87 : decode cX6_reckon 87 = .ok (.lmul, 1) := by decide +kernel
theorem dX6_reckon_88 : decode cX6_reckon 88 = .ok (.iconst 3, 1) := by decide +kernel
theorem dX6_reckon_89 : decode cX6_reckon 89 = .ok (.iload_n 3, 1) := by decide +kernel
theorem dX6_reckon_90 : decode cX6_reckon 90 = .ok (.imul, 1) := by decide +kernel
theorem dX6_reckon_91 : decode cX6_reckon 91 = .ok (.iconst 0, 1) := by decide +kernel
theorem dX6_reckon_92 : decode cX6_reckon 92 = .ok (.invokevirtual 118, 3) := by decide +kernel
theorem dX6_reckon_95 : decode cX6_reckon 95 = .ok (.return_, 1) := by decide +kernel
theorem dX6_keep_0 : decode cX6_keep 0 = .ok (.aload_n 0, 1) := by decide +kernel
theorem dX6_keep_1 : decode cX6_keep 1 = .ok (.lload_n 1, 1) := by decide +kernel
theorem dX6_keep_2 : decode cX6_keep 2 = .ok (.putfield 76, 3) := by decide +kernel
theorem dX6_keep_5 : decode cX6_keep 5 = .ok (.aload_n 0, 1) := by decide +kernel
theorem dX6_keep_6 : decode cX6_keep 6 = .ok (.iload_n 3, 1) := by decide +kernel
theorem dX6_keep_7 : decode cX6_keep 7 = .ok (.putfield 80, 3) := by decide +kernel
theorem dX6_keep_10 : decode cX6_keep 10 = .ok (.aload_n 0, 1) := by decide +kernel
theorem dX6_keep_11 : decode cX6_keep 11 = .ok (.iload 4, 2) := by decide +kernel
theorem dX6_keep_13 : decode cX6_keep 13 = .ok (.putfield 83, 3) := by decide +kernel
theorem dX6_keep_16 : decode cX6_keep 16 = .ok (.return_, 1) := by decide +kernel
theorem dX6_reckonOver_0 : decode cX6_reckonOver 0 = .ok (.ldc2_w 121, 3) := by decide +kernel
theorem dX6_reckonOver_3 : decode cX6_reckonOver 3 = .ok (.lstore_n 3, 1) := by decide +kernel
theorem dX6_reckonOver_4 : decode cX6_reckonOver 4 = .ok (.iload_n 1, 1) := by decide +kernel
theorem dX6_reckonOver_5 : decode cX6_reckonOver 5 = .ok (.ifCond .le 10, 3) := by decide +kernel
theorem dX6_reckonOver_8 : decode cX6_reckonOver 8 = .ok (.lload_n 3, 1) := by decide +kernel
theorem dX6_reckonOver_9 : decode cX6_reckonOver 9 = .ok (.iload_n 1, 1) := by decide +kernel
theorem dX6_reckonOver_10 : decode cX6_reckonOver 10 = .ok (.i2l, 1) := by decide +kernel
theorem dX6_reckonOver_11 : decode cX6_reckonOver 11 = .ok (.ldiv, 1) := by decide +kernel
theorem dX6_reckonOver_12 : decode cX6_reckonOver 12 = .ok (.goto 4, 3) := by decide +kernel
theorem dX6_reckonOver_15 : decode cX6_reckonOver 15 = .ok (.lload_n 3, 1) := by decide +kernel
theorem dX6_reckonOver_16 : decode cX6_reckonOver 16 = .ok (.lstore 5, 2) := by decide +kernel
theorem dX6_reckonOver_18 : decode cX6_reckonOver 18 = .ok (.aload_n 0, 1) := by decide +kernel
theorem dX6_reckonOver_19 : decode cX6_reckonOver 19 = .ok (.lload 5, 2) := by decide +kernel
theorem dX6_reckonOver_21 : decode cX6_reckonOver 21 = .ok (.iload_n 2, 1) := by decide +kernel
theorem dX6_reckonOver_22 : decode cX6_reckonOver 22 = .ok (.ineg, 1) := by decide +kernel
theorem dX6_reckonOver_23 : decode cX6_reckonOver 23 = .ok (.bipush 40, 2) := by decide +kernel
theorem dX6_reckonOver_25 : decode cX6_reckonOver 25 = .ok (.isub, 1) := by decide +kernel
theorem dX6_reckonOver_26 : decode cX6_reckonOver 26 = .ok (.lload 5, 2) := by decide +kernel
theorem dX6_reckonOver_28 : decode cX6_reckonOver 28 = .ok (.iload_n 1, 1) := by decide +kernel
theorem dX6_reckonOver_29 : decode cX6_reckonOver 29 = .ok (.i2l, 1) := by decide +kernel
theorem dX6_reckonOver_30 : decode cX6_reckonOver 30 = .ok (.lmul, 1) := by decide +kernel
theorem dX6_reckonOver_31 : decode cX6_reckonOver 31 = .ok (.lload_n 3, 1) := by decide +kernel
theorem dX6_reckonOver_32 : decode cX6_reckonOver 32 = .ok (.lcmp, 1) := by decide +kernel
theorem dX6_reckonOver_33 : decode cX6_reckonOver 33 = .ok (.ifCond .eq 7, 3) := by decide +kernel
theorem dX6_reckonOver_36 : decode cX6_reckonOver 36 = .ok (.iconst 1, 1) := by decide +kernel
theorem dX6_reckonOver_37 : decode cX6_reckonOver 37 = .ok (.goto 4, 3) := by decide +kernel
theorem dX6_reckonOver_40 : decode cX6_reckonOver 40 = .ok (.iconst 0, 1) := by decide +kernel
theorem dX6_reckonOver_41 : decode cX6_reckonOver 41 = .ok (.invokevirtual 118, 3) := by decide +kernel
theorem dX6_reckonOver_44 : decode cX6_reckonOver 44 = .ok (.return_, 1) := by decide +kernel
theorem dX6_reckonRoot_0 : decode cX6_reckonRoot 0 = .ok (.bipush 7, 2) := by decide +kernel
theorem dX6_reckonRoot_2 : decode cX6_reckonRoot 2 = .ok (.iload_n 1, 1) := by decide +kernel
theorem dX6_reckonRoot_3 : decode cX6_reckonRoot 3 = .ok (.invokestatic 123, 3) := by decide +kernel
theorem dX6_reckonRoot_6 : decode cX6_reckonRoot 6 = .ok (.iadd, 1) := by decide +kernel
theorem dX6_reckonRoot_7 : decode cX6_reckonRoot 7 = .ok (.istore_n 3, 1) := by decide +kernel
theorem dX6_reckonRoot_8 : decode cX6_reckonRoot 8 = .ok (.iload_n 3, 1) := by decide +kernel
theorem dX6_reckonRoot_9 : decode cX6_reckonRoot 9 = .ok (.iload_n 2, 1) := by decide +kernel
theorem dX6_reckonRoot_10 : decode cX6_reckonRoot 10 = .ok (.iload_n 3, 1) := by decide +kernel
theorem dX6_reckonRoot_11 : decode cX6_reckonRoot 11 = .ok (.isub, 1) := by decide +kernel
theorem dX6_reckonRoot_12 : decode cX6_reckonRoot 12 = .ok (.iconst 2, 1) := by decide +kernel
theorem dX6_reckonRoot_13 : decode cX6_reckonRoot 13 = .ok (.invokestatic 128, 3) := by decide +kernel
theorem dX6_reckonRoot_16 : decode cX6_reckonRoot 16 = .ok (.iadd, 1) := by decide +kernel
theorem dX6_reckonRoot_17 : decode cX6_reckonRoot 17 = .ok (.istore_n 3, 1) := by decide +kernel
theorem dX6_reckonRoot_18 : decode cX6_reckonRoot 18 = .ok (.iload_n 1, 1) := by decide +kernel
theorem dX6_reckonRoot_19 : decode cX6_reckonRoot 19 = .ok (.i2l, 1) := by decide +kernel
theorem dX6_reckonRoot_20 : decode cX6_reckonRoot 20 = .ok (.iload_n 3, 1) := by decide +kernel
theorem dX6_reckonRoot_21 : decode cX6_reckonRoot 21 = .ok (.lshl, 1) := by decide +kernel
theorem dX6_reckonRoot_22 : decode cX6_reckonRoot 22 = .ok (.lstore 4, 2) := by decide +kernel
theorem dX6_reckonRoot_24 : decode cX6_reckonRoot 24 = .ok (.lconst 0, 1) := by decide +kernel
theorem dX6_reckonRoot_25 : decode cX6_reckonRoot 25 = .ok (.lstore 6, 2) := by decide +kernel
theorem dX6_reckonRoot_27 : decode cX6_reckonRoot 27 = .ok (.bipush 19, 2) := by decide +kernel
theorem dX6_reckonRoot_29 : decode cX6_reckonRoot 29 = .ok (.istore 8, 2) := by decide +kernel
theorem dX6_reckonRoot_31 : decode cX6_reckonRoot 31 = .ok (.iload 8, 2) := by decide +kernel
theorem dX6_reckonRoot_33 : decode cX6_reckonRoot 33 = .ok (.ifCond .lt 33, 3) := by decide +kernel
theorem dX6_reckonRoot_36 : decode cX6_reckonRoot 36 = .ok (.lload 6, 2) := by decide +kernel
theorem dX6_reckonRoot_38 : decode cX6_reckonRoot 38 = .ok (.lconst 1, 1) := by decide +kernel
theorem dX6_reckonRoot_39 : decode cX6_reckonRoot 39 = .ok (.iload 8, 2) := by decide +kernel
theorem dX6_reckonRoot_41 : decode cX6_reckonRoot 41 = .ok (.lshl, 1) := by decide +kernel
theorem dX6_reckonRoot_42 : decode cX6_reckonRoot 42 = .ok (.ladd, 1) := by decide +kernel
theorem dX6_reckonRoot_43 : decode cX6_reckonRoot 43 = .ok (.lstore 9, 2) := by decide +kernel
theorem dX6_reckonRoot_45 : decode cX6_reckonRoot 45 = .ok (.lload 9, 2) := by decide +kernel
theorem dX6_reckonRoot_47 : decode cX6_reckonRoot 47 = .ok (.lload 9, 2) := by decide +kernel
theorem dX6_reckonRoot_49 : decode cX6_reckonRoot 49 = .ok (.lmul, 1) := by decide +kernel
theorem dX6_reckonRoot_50 : decode cX6_reckonRoot 50 = .ok (.lload 4, 2) := by decide +kernel
theorem dX6_reckonRoot_52 : decode cX6_reckonRoot 52 = .ok (.lcmp, 1) := by decide +kernel
theorem dX6_reckonRoot_53 : decode cX6_reckonRoot 53 = .ok (.ifCond .gt 7, 3) := by decide +kernel
theorem dX6_reckonRoot_56 : decode cX6_reckonRoot 56 = .ok (.lload 9, 2) := by decide +kernel
theorem dX6_reckonRoot_58 : decode cX6_reckonRoot 58 = .ok (.lstore 6, 2) := by decide +kernel
theorem dX6_reckonRoot_60 : decode cX6_reckonRoot 60 = .ok (.iinc 8 (-1), 3) := by decide +kernel
theorem dX6_reckonRoot_63 : decode cX6_reckonRoot 63 = .ok (.goto (-32), 3) := by decide +kernel
theorem dX6_reckonRoot_66 : decode cX6_reckonRoot 66 = .ok (.aload_n 0, 1) := by decide +kernel
theorem dX6_reckonRoot_67 : decode cX6_reckonRoot 67 = .ok (.lload 6, 2) := by decide +kernel
theorem dX6_reckonRoot_69 : decode cX6_reckonRoot 69 = .ok (.iload_n 2, 1) := by decide +kernel
theorem dX6_reckonRoot_70 : decode cX6_reckonRoot 70 = .ok (.iload_n 3, 1) := by decide +kernel
theorem dX6_reckonRoot_71 : decode cX6_reckonRoot 71 = .ok (.isub, 1) := by decide +kernel
theorem dX6_reckonRoot_72 : decode cX6_reckonRoot 72 = .ok (.iconst 2, 1) := by decide +kernel
theorem dX6_reckonRoot_73 : decode cX6_reckonRoot 73 = .ok (.invokestatic 133, 3) := by decide +kernel
theorem dX6_reckonRoot_76 : decode cX6_reckonRoot 76 = .ok (.lload 6, 2) := by decide +kernel
theorem dX6_reckonRoot_78 : decode cX6_reckonRoot 78 = .ok (.lload 6, 2) := by decide +kernel
theorem dX6_reckonRoot_80 : decode cX6_reckonRoot 80 = .ok (.lmul, 1) := by decide +kernel
theorem dX6_reckonRoot_81 : decode cX6_reckonRoot 81 = .ok (.lload 4, 2) := by decide +kernel
theorem dX6_reckonRoot_83 : decode cX6_reckonRoot 83 = .ok (.lcmp, 1) := by decide +kernel
theorem dX6_reckonRoot_84 : decode cX6_reckonRoot 84 = .ok (.ifCond .eq 7, 3) := by decide +kernel
theorem dX6_reckonRoot_87 : decode cX6_reckonRoot 87 = .ok (.iconst 1, 1) := by decide +kernel
theorem dX6_reckonRoot_88 : decode cX6_reckonRoot 88 = .ok (.goto 4, 3) := by decide +kernel
theorem dX6_reckonRoot_91 : decode cX6_reckonRoot 91 = .ok (.iconst 0, 1) := by decide +kernel
theorem dX6_reckonRoot_92 : decode cX6_reckonRoot 92 = .ok (.invokevirtual 118, 3) := by decide +kernel
theorem dX6_reckonRoot_95 : decode cX6_reckonRoot 95 = .ok (.return_, 1) := by decide +kernel
theorem dX6_reckonThird_0 : decode cX6_reckonThird 0 = .ok (.bipush 26, 2) := by decide +kernel
theorem dX6_reckonThird_2 : decode cX6_reckonThird 2 = .ok (.iload_n 1, 1) := by decide +kernel
theorem dX6_reckonThird_3 : decode cX6_reckonThird 3 = .ok (.invokestatic 123, 3) := by decide +kernel
theorem dX6_reckonThird_6 : decode cX6_reckonThird 6 = .ok (.iadd, 1) := by decide +kernel
theorem dX6_reckonThird_7 : decode cX6_reckonThird 7 = .ok (.istore_n 3, 1) := by decide +kernel
theorem dX6_reckonThird_8 : decode cX6_reckonThird 8 = .ok (.iload_n 3, 1) := by decide +kernel
theorem dX6_reckonThird_9 : decode cX6_reckonThird 9 = .ok (.iload_n 2, 1) := by decide +kernel
theorem dX6_reckonThird_10 : decode cX6_reckonThird 10 = .ok (.iload_n 3, 1) := by decide +kernel
theorem dX6_reckonThird_11 : decode cX6_reckonThird 11 = .ok (.isub, 1) := by decide +kernel
theorem dX6_reckonThird_12 : decode cX6_reckonThird 12 = .ok (.iconst 3, 1) := by decide +kernel
theorem dX6_reckonThird_13 : decode cX6_reckonThird 13 = .ok (.invokestatic 128, 3) := by decide +kernel
theorem dX6_reckonThird_16 : decode cX6_reckonThird 16 = .ok (.iadd, 1) := by decide +kernel
theorem dX6_reckonThird_17 : decode cX6_reckonThird 17 = .ok (.istore_n 3, 1) := by decide +kernel
theorem dX6_reckonThird_18 : decode cX6_reckonThird 18 = .ok (.iload_n 1, 1) := by decide +kernel
theorem dX6_reckonThird_19 : decode cX6_reckonThird 19 = .ok (.i2l, 1) := by decide +kernel
theorem dX6_reckonThird_20 : decode cX6_reckonThird 20 = .ok (.iload_n 3, 1) := by decide +kernel
theorem dX6_reckonThird_21 : decode cX6_reckonThird 21 = .ok (.lshl, 1) := by decide +kernel
theorem dX6_reckonThird_22 : decode cX6_reckonThird 22 = .ok (.lstore 4, 2) := by decide +kernel
theorem dX6_reckonThird_24 : decode cX6_reckonThird 24 = .ok (.lconst 0, 1) := by decide +kernel
theorem dX6_reckonThird_25 : decode cX6_reckonThird 25 = .ok (.lstore 6, 2) := by decide +kernel
theorem dX6_reckonThird_27 : decode cX6_reckonThird 27 = .ok (.bipush 19, 2) := by decide +kernel
theorem dX6_reckonThird_29 : decode cX6_reckonThird 29 = .ok (.istore 8, 2) := by decide +kernel
theorem dX6_reckonThird_31 : decode cX6_reckonThird 31 = .ok (.iload 8, 2) := by decide +kernel
theorem dX6_reckonThird_33 : decode cX6_reckonThird 33 = .ok (.ifCond .lt 36, 3) := by decide +kernel
theorem dX6_reckonThird_36 : decode cX6_reckonThird 36 = .ok (.lload 6, 2) := by decide +kernel
theorem dX6_reckonThird_38 : decode cX6_reckonThird 38 = .ok (.lconst 1, 1) := by decide +kernel
theorem dX6_reckonThird_39 : decode cX6_reckonThird 39 = .ok (.iload 8, 2) := by decide +kernel
theorem dX6_reckonThird_41 : decode cX6_reckonThird 41 = .ok (.lshl, 1) := by decide +kernel
theorem dX6_reckonThird_42 : decode cX6_reckonThird 42 = .ok (.ladd, 1) := by decide +kernel
theorem dX6_reckonThird_43 : decode cX6_reckonThird 43 = .ok (.lstore 9, 2) := by decide +kernel
theorem dX6_reckonThird_45 : decode cX6_reckonThird 45 = .ok (.lload 9, 2) := by decide +kernel
theorem dX6_reckonThird_47 : decode cX6_reckonThird 47 = .ok (.lload 9, 2) := by decide +kernel
theorem dX6_reckonThird_49 : decode cX6_reckonThird 49 = .ok (.lmul, 1) := by decide +kernel
theorem dX6_reckonThird_50 : decode cX6_reckonThird 50 = .ok (.lload 9, 2) := by decide +kernel
theorem dX6_reckonThird_52 : decode cX6_reckonThird 52 = .ok (.lmul, 1) := by decide +kernel
theorem dX6_reckonThird_53 : decode cX6_reckonThird 53 = .ok (.lload 4, 2) := by decide +kernel
theorem dX6_reckonThird_55 : decode cX6_reckonThird 55 = .ok (.lcmp, 1) := by decide +kernel
theorem dX6_reckonThird_56 : decode cX6_reckonThird 56 = .ok (.ifCond .gt 7, 3) := by decide +kernel
theorem dX6_reckonThird_59 : decode cX6_reckonThird 59 = .ok (.lload 9, 2) := by decide +kernel
theorem dX6_reckonThird_61 : decode cX6_reckonThird 61 = .ok (.lstore 6, 2) := by decide +kernel
theorem dX6_reckonThird_63 : decode cX6_reckonThird 63 = .ok (.iinc 8 (-1), 3) := by decide +kernel
theorem dX6_reckonThird_66 : decode cX6_reckonThird 66 = .ok (.goto (-35), 3) := by decide +kernel
theorem dX6_reckonThird_69 : decode cX6_reckonThird 69 = .ok (.aload_n 0, 1) := by decide +kernel
theorem dX6_reckonThird_70 : decode cX6_reckonThird 70 = .ok (.lload 6, 2) := by decide +kernel
theorem dX6_reckonThird_72 : decode cX6_reckonThird 72 = .ok (.iload_n 2, 1) := by decide +kernel
theorem dX6_reckonThird_73 : decode cX6_reckonThird 73 = .ok (.iload_n 3, 1) := by decide +kernel
theorem dX6_reckonThird_74 : decode cX6_reckonThird 74 = .ok (.isub, 1) := by decide +kernel
theorem dX6_reckonThird_75 : decode cX6_reckonThird 75 = .ok (.iconst 3, 1) := by decide +kernel
theorem dX6_reckonThird_76 : decode cX6_reckonThird 76 = .ok (.invokestatic 133, 3) := by decide +kernel
theorem dX6_reckonThird_79 : decode cX6_reckonThird 79 = .ok (.lload 6, 2) := by decide +kernel
theorem dX6_reckonThird_81 : decode cX6_reckonThird 81 = .ok (.lload 6, 2) := by decide +kernel
theorem dX6_reckonThird_83 : decode cX6_reckonThird 83 = .ok (.lmul, 1) := by decide +kernel
theorem dX6_reckonThird_84 : decode cX6_reckonThird 84 = .ok (.lload 6, 2) := by decide +kernel
theorem dX6_reckonThird_86 : decode cX6_reckonThird 86 = .ok (.lmul, 1) := by decide +kernel
theorem dX6_reckonThird_87 : decode cX6_reckonThird 87 = .ok (.lload 4, 2) := by decide +kernel
theorem dX6_reckonThird_89 : decode cX6_reckonThird 89 = .ok (.lcmp, 1) := by decide +kernel
theorem dX6_reckonThird_90 : decode cX6_reckonThird 90 = .ok (.ifCond .eq 7, 3) := by decide +kernel
theorem dX6_reckonThird_93 : decode cX6_reckonThird 93 = .ok (.iconst 1, 1) := by decide +kernel
theorem dX6_reckonThird_94 : decode cX6_reckonThird 94 = .ok (.goto 4, 3) := by decide +kernel
theorem dX6_reckonThird_97 : decode cX6_reckonThird 97 = .ok (.iconst 0, 1) := by decide +kernel
theorem dX6_reckonThird_98 : decode cX6_reckonThird 98 = .ok (.invokevirtual 118, 3) := by decide +kernel
theorem dX6_reckonThird_101 : decode cX6_reckonThird 101 = .ok (.return_, 1) := by decide +kernel
theorem dX7_init_0 : decode cX7_init 0 = .ok (.aload_n 0, 1) := by decide +kernel
theorem dX7_init_1 : decode cX7_init 1 = .ok (.invokespecial 3, 3) := by decide +kernel
theorem dX7_init_4 : decode cX7_init 4 = .ok (.aload_n 0, 1) := by decide +kernel
theorem dX7_init_5 : decode cX7_init 5 = .ok (.new 9, 3) := by decide +kernel
theorem dX7_init_8 : decode cX7_init 8 = .ok (.dup, 1) := by decide +kernel
theorem dX7_init_9 : decode cX7_init 9 = .ok (.invokespecial 11, 3) := by decide +kernel
theorem dX7_init_12 : decode cX7_init 12 = .ok (.putfield 12, 3) := by decide +kernel
theorem dX7_init_15 : decode cX7_init 15 = .ok (.aload_n 0, 1) := by decide +kernel
theorem dX7_init_16 : decode cX7_init 16 = .ok (.new 16, 3) := by decide +kernel
theorem dX7_init_19 : decode cX7_init 19 = .ok (.dup, 1) := by decide +kernel
theorem dX7_init_20 : decode cX7_init 20 = .ok (.aload_n 0, 1) := by decide +kernel
theorem dX7_init_21 : decode cX7_init 21 = .ok (.getfield 12, 3) := by decide +kernel
theorem dX7_init_24 : decode cX7_init 24 = .ok (.invokespecial 18, 3) := by decide +kernel
theorem dX7_init_27 : decode cX7_init 27 = .ok (.putfield 21, 3) := by decide +kernel
theorem dX7_init_30 : decode cX7_init 30 = .ok (.aload_n 0, 1) := by decide +kernel
theorem dX7_init_31 : decode cX7_init 31 = .ok (.new 25, 3) := by decide +kernel
theorem dX7_init_34 : decode cX7_init 34 = .ok (.dup, 1) := by decide +kernel
theorem dX7_init_35 : decode cX7_init 35 = .ok (.aload_n 0, 1) := by decide +kernel
theorem dX7_init_36 : decode cX7_init 36 = .ok (.getfield 12, 3) := by decide +kernel
theorem dX7_init_39 : decode cX7_init 39 = .ok (.invokespecial 27, 3) := by decide +kernel
theorem dX7_init_42 : decode cX7_init 42 = .ok (.putfield 28, 3) := by decide +kernel
theorem dX7_init_45 : decode cX7_init 45 = .ok (.aload_n 0, 1) := by decide +kernel
theorem dX7_init_46 : decode cX7_init 46 = .ok (.new 32, 3) := by decide +kernel
theorem dX7_init_49 : decode cX7_init 49 = .ok (.dup, 1) := by decide +kernel
theorem dX7_init_50 : decode cX7_init 50 = .ok (.aload_n 0, 1) := by decide +kernel
theorem dX7_init_51 : decode cX7_init 51 = .ok (.getfield 12, 3) := by decide +kernel
theorem dX7_init_54 : decode cX7_init 54 = .ok (.aload_n 0, 1) := by decide +kernel
theorem dX7_init_55 : decode cX7_init 55 = .ok (.getfield 28, 3) := by decide +kernel
theorem dX7_init_58 : decode cX7_init 58 = .ok (.invokespecial 34, 3) := by decide +kernel
theorem dX7_init_61 : decode cX7_init 61 = .ok (.putfield 37, 3) := by decide +kernel
theorem dX7_init_64 : decode cX7_init 64 = .ok (.aload_n 0, 1) := by decide +kernel
theorem dX7_init_65 : decode cX7_init 65 = .ok (.new 41, 3) := by decide +kernel
theorem dX7_init_68 : decode cX7_init 68 = .ok (.dup, 1) := by decide +kernel
theorem dX7_init_69 : decode cX7_init 69 = .ok (.aload_n 0, 1) := by decide +kernel
theorem dX7_init_70 : decode cX7_init 70 = .ok (.getfield 12, 3) := by decide +kernel
theorem dX7_init_73 : decode cX7_init 73 = .ok (.aload_n 0, 1) := by decide +kernel
theorem dX7_init_74 : decode cX7_init 74 = .ok (.getfield 28, 3) := by decide +kernel
theorem dX7_init_77 : decode cX7_init 77 = .ok (.invokespecial 43, 3) := by decide +kernel
theorem dX7_init_80 : decode cX7_init 80 = .ok (.putfield 44, 3) := by decide +kernel
theorem dX7_init_83 : decode cX7_init 83 = .ok (.aload_n 0, 1) := by decide +kernel
theorem dX7_init_84 : decode cX7_init 84 = .ok (.new 48, 3) := by decide +kernel
theorem dX7_init_87 : decode cX7_init 87 = .ok (.dup, 1) := by decide +kernel
theorem dX7_init_88 : decode cX7_init 88 = .ok (.aload_n 0, 1) := by decide +kernel
theorem dX7_init_89 : decode cX7_init 89 = .ok (.getfield 12, 3) := by decide +kernel
theorem dX7_init_92 : decode cX7_init 92 = .ok (.aload_n 0, 1) := by decide +kernel
theorem dX7_init_93 : decode cX7_init 93 = .ok (.getfield 28, 3) := by decide +kernel
theorem dX7_init_96 : decode cX7_init 96 = .ok (.invokespecial 50, 3) := by decide +kernel
theorem dX7_init_99 : decode cX7_init 99 = .ok (.putfield 51, 3) := by decide +kernel
theorem dX7_init_102 : decode cX7_init 102 = .ok (.aload_n 0, 1) := by decide +kernel
theorem dX7_init_103 : decode cX7_init 103 = .ok (.bipush 7, 2) := by decide +kernel
theorem dX7_init_105 : decode cX7_init 105 = .ok (.newarray .int, 2) := by decide +kernel
theorem dX7_init_107 : decode cX7_init 107 = .ok (.putfield 55, 3) := by decide +kernel
theorem dX7_init_110 : decode cX7_init 110 = .ok (.return_, 1) := by decide +kernel
theorem dX7_make_0 : decode cX7_make 0 = .ok (.iload_n 1, 1) := by decide +kernel
theorem dX7_make_1 : decode cX7_make 1 = .ok (.iconst 2, 1) := by decide +kernel
theorem dX7_make_2 : decode cX7_make 2 = .ok (.if_icmp .lt 8, 3) := by decide +kernel
theorem dX7_make_5 : decode cX7_make 5 = .ok (.iload_n 2, 1) := by decide +kernel
theorem dX7_make_6 : decode cX7_make 6 = .ok (.iconst 1, 1) := by decide +kernel
theorem dX7_make_7 : decode cX7_make 7 = .ok (.if_icmp .ge 10, 3) := by decide +kernel
theorem dX7_make_10 : decode cX7_make 10 = .ok (.aload_n 0, 1) := by decide +kernel
theorem dX7_make_11 : decode cX7_make 11 = .ok (.bipush (-4), 2) := by decide +kernel
theorem dX7_make_13 : decode cX7_make 13 = .ok (.invokevirtual 59, 3) := by decide +kernel
theorem dX7_make_16 : decode cX7_make 16 = .ok (.ireturn, 1) := by decide +kernel
theorem dX7_make_17 : decode cX7_make 17 = .ok (.iload_n 1, 1) := by decide +kernel
theorem dX7_make_18 : decode cX7_make 18 = .ok (.iconst 5, 1) := by decide +kernel
theorem dX7_make_19 : decode cX7_make 19 = .ok (.if_icmp .gt 9, 3) := by decide +kernel
theorem dX7_make_22 : decode cX7_make 22 = .ok (.iload_n 2, 1) := by decide +kernel
theorem dX7_make_23 : decode cX7_make 23 = .ok (.bipush 8, 2) := by decide +kernel
theorem dX7_make_25 : decode cX7_make 25 = .ok (.if_icmp .le 10, 3) := by decide +kernel
theorem dX7_make_28 : decode cX7_make 28 = .ok (.aload_n 0, 1) := by decide +kernel
theorem dX7_make_29 : decode cX7_make 29 = .ok (.bipush (-6), 2) := by decide +kernel
theorem dX7_make_31 : decode cX7_make 31 = .ok (.invokevirtual 59, 3) := by decide +kernel
theorem dX7_make_34 : decode cX7_make 34 = .ok (.ireturn, 1) := by decide +kernel
theorem dX7_make_35 : decode cX7_make 35 = .ok (.iload_n 1, 1) := by decide +kernel
theorem dX7_make_36 : decode cX7_make 36 = .ok (.aload_n 0, 1) := by decide +kernel
theorem dX7_make_37 : decode cX7_make 37 = .ok (.getfield 12, 3) := by decide +kernel
theorem dX7_make_40 : decode cX7_make 40 = .ok (.getfield 63, 3) := by decide +kernel
theorem dX7_make_43 : decode cX7_make 43 = .ok (.if_icmp .ne 14, 3) := by decide +kernel
theorem dX7_make_46 : decode cX7_make 46 = .ok (.iload_n 2, 1) := by decide +kernel
theorem dX7_make_47 : decode cX7_make 47 = .ok (.aload_n 0, 1) := by decide +kernel
theorem dX7_make_48 : decode cX7_make 48 = .ok (.getfield 12, 3) := by decide +kernel
theorem dX7_make_51 : decode cX7_make 51 = .ok (.getfield 67, 3) := by decide +kernel
theorem dX7_make_54 : decode cX7_make 54 = .ok (.if_icmp .eq 26, 3) := by decide +kernel
theorem dX7_make_57 : decode cX7_make 57 = .ok (.aload_n 0, 1) := by decide +kernel
theorem dX7_make_58 : decode cX7_make 58 = .ok (.getfield 12, 3) := by decide +kernel
theorem dX7_make_61 : decode cX7_make 61 = .ok (.iload_n 1, 1) := by decide +kernel
theorem dX7_make_62 : decode cX7_make 62 = .ok (.iload_n 2, 1) := by decide +kernel
theorem dX7_make_63 : decode cX7_make 63 = .ok (.invokevirtual 70, 3) := by decide +kernel
theorem dX7_make_66 : decode cX7_make 66 = .ok (.aload_n 0, 1) := by decide +kernel
theorem dX7_make_67 : decode cX7_make 67 = .ok (.getfield 37, 3) := by decide +kernel
theorem dX7_make_70 : decode cX7_make 70 = .ok (.invokevirtual 74, 3) := by decide +kernel
theorem dX7_make_73 : decode cX7_make 73 = .ok (.aload_n 0, 1) := by decide +kernel
theorem dX7_make_74 : decode cX7_make 74 = .ok (.getfield 44, 3) := by decide +kernel
theorem dX7_make_77 : decode cX7_make 77 = .ok (.invokevirtual 77, 3) := by decide +kernel
theorem dX7_make_80 : decode cX7_make 80 = .ok (.aload_n 0, 1) := by decide +kernel
theorem dX7_make_81 : decode cX7_make 81 = .ok (.getfield 51, 3) := by decide +kernel
theorem dX7_make_84 : decode cX7_make 84 = .ok (.invokevirtual 78, 3) := by decide +kernel
theorem dX7_make_87 : decode cX7_make 87 = .ok (.aload_n 0, 1) := by decide +kernel
theorem dX7_make_88 : decode cX7_make 88 = .ok (.getfield 12, 3) := by decide +kernel
theorem dX7_make_91 : decode cX7_make 91 = .ok (.getfield 79, 3) := by decide +kernel
theorem dX7_make_94 : decode cX7_make 94 = .ok (.ireturn, 1) := by decide +kernel
theorem dX7_about_0 : decode cX7_about 0 = .ok (.aload_n 0, 1) := by decide +kernel
theorem dX7_about_1 : decode cX7_about 1 = .ok (.getfield 12, 3) := by decide +kernel
theorem dX7_about_4 : decode cX7_about 4 = .ok (.iload_n 1, 1) := by decide +kernel
theorem dX7_about_5 : decode cX7_about 5 = .ok (.invokevirtual 82, 3) := by decide +kernel
theorem dX7_about_8 : decode cX7_about 8 = .ok (.ifCond .ne 9, 3) := by decide +kernel
theorem dX7_about_11 : decode cX7_about 11 = .ok (.aload_n 0, 1) := by decide +kernel
theorem dX7_about_12 : decode cX7_about 12 = .ok (.iconst (-1), 1) := by decide +kernel
theorem dX7_about_13 : decode cX7_about 13 = .ok (.invokevirtual 86, 3) := by decide +kernel
theorem dX7_about_16 : decode cX7_about 16 = .ok (.ireturn, 1) := by decide +kernel
theorem dX7_about_17 : decode cX7_about 17 = .ok (.iload_n 2, 1) := by decide +kernel
theorem dX7_about_18 : decode cX7_about 18 = .ok (.ifCond .lt 8, 3) := by decide +kernel
theorem dX7_about_21 : decode cX7_about 21 = .ok (.iload_n 2, 1) := by decide +kernel
theorem dX7_about_22 : decode cX7_about 22 = .ok (.iconst 5, 1) := by decide +kernel
theorem dX7_about_23 : decode cX7_about 23 = .ok (.if_icmp .le 10, 3) := by decide +kernel
theorem dX7_about_26 : decode cX7_about 26 = .ok (.aload_n 0, 1) := by decide +kernel
theorem dX7_about_27 : decode cX7_about 27 = .ok (.bipush (-2), 2) := by decide +kernel
theorem dX7_about_29 : decode cX7_about 29 = .ok (.invokevirtual 86, 3) := by decide +kernel
theorem dX7_about_32 : decode cX7_about 32 = .ok (.ireturn, 1) := by decide +kernel
theorem dX7_about_33 : decode cX7_about 33 = .ok (.iload_n 2, 1) := by decide +kernel
theorem dX7_about_34 : decode cX7_about 34 = .ok (.iconst 4, 1) := by decide +kernel
theorem dX7_about_35 : decode cX7_about 35 = .ok (.if_icmp .lt 21, 3) := by decide +kernel
theorem dX7_about_38 : decode cX7_about 38 = .ok (.aload_n 0, 1) := by decide +kernel
theorem dX7_about_39 : decode cX7_about 39 = .ok (.getfield 12, 3) := by decide +kernel
theorem dX7_about_42 : decode cX7_about 42 = .ok (.iload_n 1, 1) := by decide +kernel
theorem dX7_about_43 : decode cX7_about 43 = .ok (.invokevirtual 89, 3) := by decide +kernel
theorem dX7_about_46 : decode cX7_about 46 = .ok (.ifCond .ne 10, 3) := by decide +kernel
theorem dX7_about_49 : decode cX7_about 49 = .ok (.aload_n 0, 1) := by decide +kernel
theorem dX7_about_50 : decode cX7_about 50 = .ok (.bipush (-3), 2) := by decide +kernel
theorem dX7_about_52 : decode cX7_about 52 = .ok (.invokevirtual 86, 3) := by decide +kernel
theorem dX7_about_55 : decode cX7_about 55 = .ok (.ireturn, 1) := by decide +kernel
theorem dX7_about_56 : decode cX7_about 56 = .ok (.iload_n 2, 1) := by decide +kernel
theorem dX7_about_57 : decode cX7_about 57 = .ok (.tableswitch 88 0 4 #[35, 44, 61, 70, 79], 35) := by decide +kernel
theorem dX7_about_92 : decode cX7_about 92 = .ok (.aload_n 0, 1) := by decide +kernel
theorem dX7_about_93 : decode cX7_about 93 = .ok (.getfield 12, 3) := by decide +kernel
theorem dX7_about_96 : decode cX7_about 96 = .ok (.iload_n 1, 1) := by decide +kernel
theorem dX7_about_97 : decode cX7_about 97 = .ok (.invokevirtual 92, 3) := by decide +kernel
theorem dX7_about_100 : decode cX7_about 100 = .ok (.ireturn, 1) := by decide +kernel
theorem dX7_about_101 : decode cX7_about 101 = .ok (.aload_n 0, 1) := by decide +kernel
theorem dX7_about_102 : decode cX7_about 102 = .ok (.getfield 12, 3) := by decide +kernel
theorem dX7_about_105 : decode cX7_about 105 = .ok (.iload_n 1, 1) := by decide +kernel
theorem dX7_about_106 : decode cX7_about 106 = .ok (.invokevirtual 95, 3) := by decide +kernel
theorem dX7_about_109 : decode cX7_about 109 = .ok (.ifCond .eq 7, 3) := by decide +kernel
theorem dX7_about_112 : decode cX7_about 112 = .ok (.iconst 1, 1) := by decide +kernel
theorem dX7_about_113 : decode cX7_about 113 = .ok (.goto 4, 3) := by decide +kernel
theorem dX7_about_116 : decode cX7_about 116 = .ok (.iconst 0, 1) := by decide +kernel
theorem dX7_about_117 : decode cX7_about 117 = .ok (.ireturn, 1) := by decide +kernel
theorem dX7_about_118 : decode cX7_about 118 = .ok (.aload_n 0, 1) := by decide +kernel
theorem dX7_about_119 : decode cX7_about 119 = .ok (.getfield 12, 3) := by decide +kernel
theorem dX7_about_122 : decode cX7_about 122 = .ok (.iload_n 1, 1) := by decide +kernel
theorem dX7_about_123 : decode cX7_about 123 = .ok (.invokevirtual 98, 3) := by decide +kernel
theorem dX7_about_126 : decode cX7_about 126 = .ok (.ireturn, 1) := by decide +kernel
theorem dX7_about_127 : decode cX7_about 127 = .ok (.aload_n 0, 1) := by decide +kernel
theorem dX7_about_128 : decode cX7_about 128 = .ok (.getfield 12, 3) := by decide +kernel
theorem dX7_about_131 : decode cX7_about 131 = .ok (.iload_n 1, 1) := by decide +kernel
theorem dX7_about_132 : decode cX7_about 132 = .ok (.invokevirtual 101, 3) := by decide +kernel
theorem dX7_about_135 : decode cX7_about 135 = .ok (.ireturn, 1) := by decide +kernel
theorem dX7_about_136 : decode cX7_about 136 = .ok (.aload_n 0, 1) := by decide +kernel
theorem dX7_about_137 : decode cX7_about 137 = .ok (.getfield 12, 3) := by decide +kernel
theorem dX7_about_140 : decode cX7_about 140 = .ok (.iload_n 1, 1) := by decide +kernel
theorem dX7_about_141 : decode cX7_about 141 = .ok (.invokevirtual 104, 3) := by decide +kernel
theorem dX7_about_144 : decode cX7_about 144 = .ok (.ireturn, 1) := by decide +kernel
theorem dX7_about_145 : decode cX7_about 145 = .ok (.aload_n 0, 1) := by decide +kernel
theorem dX7_about_146 : decode cX7_about 146 = .ok (.getfield 12, 3) := by decide +kernel
theorem dX7_about_149 : decode cX7_about 149 = .ok (.iload_n 1, 1) := by decide +kernel
theorem dX7_about_150 : decode cX7_about 150 = .ok (.invokevirtual 107, 3) := by decide +kernel
theorem dX7_about_153 : decode cX7_about 153 = .ok (.ireturn, 1) := by decide +kernel
theorem dX7_next_0 : decode cX7_next 0 = .ok (.aload_n 0, 1) := by decide +kernel
theorem dX7_next_1 : decode cX7_next 1 = .ok (.getfield 12, 3) := by decide +kernel
theorem dX7_next_4 : decode cX7_next 4 = .ok (.iload_n 1, 1) := by decide +kernel
theorem dX7_next_5 : decode cX7_next 5 = .ok (.invokevirtual 82, 3) := by decide +kernel
theorem dX7_next_8 : decode cX7_next 8 = .ok (.ifCond .ne 9, 3) := by decide +kernel
theorem dX7_next_11 : decode cX7_next 11 = .ok (.aload_n 0, 1) := by decide +kernel
theorem dX7_next_12 : decode cX7_next 12 = .ok (.iconst (-1), 1) := by decide +kernel
theorem dX7_next_13 : decode cX7_next 13 = .ok (.invokevirtual 59, 3) := by decide +kernel
theorem dX7_next_16 : decode cX7_next 16 = .ok (.ireturn, 1) := by decide +kernel
theorem dX7_next_17 : decode cX7_next 17 = .ok (.aload_n 0, 1) := by decide +kernel
theorem dX7_next_18 : decode cX7_next 18 = .ok (.getfield 12, 3) := by decide +kernel
theorem dX7_next_21 : decode cX7_next 21 = .ok (.iload_n 1, 1) := by decide +kernel
theorem dX7_next_22 : decode cX7_next 22 = .ok (.invokevirtual 89, 3) := by decide +kernel
theorem dX7_next_25 : decode cX7_next 25 = .ok (.ifCond .ne 10, 3) := by decide +kernel
theorem dX7_next_28 : decode cX7_next 28 = .ok (.aload_n 0, 1) := by decide +kernel
theorem dX7_next_29 : decode cX7_next 29 = .ok (.bipush (-3), 2) := by decide +kernel
theorem dX7_next_31 : decode cX7_next 31 = .ok (.invokevirtual 59, 3) := by decide +kernel
theorem dX7_next_34 : decode cX7_next 34 = .ok (.ireturn, 1) := by decide +kernel
theorem dX7_next_35 : decode cX7_next 35 = .ok (.aload_n 0, 1) := by decide +kernel
theorem dX7_next_36 : decode cX7_next 36 = .ok (.getfield 12, 3) := by decide +kernel
theorem dX7_next_39 : decode cX7_next 39 = .ok (.iload_n 1, 1) := by decide +kernel
theorem dX7_next_40 : decode cX7_next 40 = .ok (.invokevirtual 110, 3) := by decide +kernel
theorem dX7_next_43 : decode cX7_next 43 = .ok (.ireturn, 1) := by decide +kernel
theorem dX7_between_0 : decode cX7_between 0 = .ok (.aload_n 0, 1) := by decide +kernel
theorem dX7_between_1 : decode cX7_between 1 = .ok (.getfield 12, 3) := by decide +kernel
theorem dX7_between_4 : decode cX7_between 4 = .ok (.iload_n 1, 1) := by decide +kernel
theorem dX7_between_5 : decode cX7_between 5 = .ok (.invokevirtual 82, 3) := by decide +kernel
theorem dX7_between_8 : decode cX7_between 8 = .ok (.ifCond .eq 14, 3) := by decide +kernel
theorem dX7_between_11 : decode cX7_between 11 = .ok (.aload_n 0, 1) := by decide +kernel
theorem dX7_between_12 : decode cX7_between 12 = .ok (.getfield 12, 3) := by decide +kernel
theorem dX7_between_15 : decode cX7_between 15 = .ok (.iload_n 2, 1) := by decide +kernel
theorem dX7_between_16 : decode cX7_between 16 = .ok (.invokevirtual 82, 3) := by decide +kernel
theorem dX7_between_19 : decode cX7_between 19 = .ok (.ifCond .ne 9, 3) := by decide +kernel
theorem dX7_between_22 : decode cX7_between 22 = .ok (.aload_n 0, 1) := by decide +kernel
theorem dX7_between_23 : decode cX7_between 23 = .ok (.iconst (-1), 1) := by decide +kernel
theorem dX7_between_24 : decode cX7_between 24 = .ok (.invokevirtual 59, 3) := by decide +kernel
theorem dX7_between_27 : decode cX7_between 27 = .ok (.ireturn, 1) := by decide +kernel
theorem dX7_between_28 : decode cX7_between 28 = .ok (.aload_n 0, 1) := by decide +kernel
theorem dX7_between_29 : decode cX7_between 29 = .ok (.getfield 12, 3) := by decide +kernel
theorem dX7_between_32 : decode cX7_between 32 = .ok (.iload_n 1, 1) := by decide +kernel
theorem dX7_between_33 : decode cX7_between 33 = .ok (.invokevirtual 89, 3) := by decide +kernel
theorem dX7_between_36 : decode cX7_between 36 = .ok (.ifCond .eq 14, 3) := by decide +kernel
theorem dX7_between_39 : decode cX7_between 39 = .ok (.aload_n 0, 1) := by decide +kernel
theorem dX7_between_40 : decode cX7_between 40 = .ok (.getfield 12, 3) := by decide +kernel
theorem dX7_between_43 : decode cX7_between 43 = .ok (.iload_n 2, 1) := by decide +kernel
theorem dX7_between_44 : decode cX7_between 44 = .ok (.invokevirtual 89, 3) := by decide +kernel
theorem dX7_between_47 : decode cX7_between 47 = .ok (.ifCond .ne 10, 3) := by decide +kernel
theorem dX7_between_50 : decode cX7_between 50 = .ok (.aload_n 0, 1) := by decide +kernel
theorem dX7_between_51 : decode cX7_between 51 = .ok (.bipush (-3), 2) := by decide +kernel
theorem dX7_between_53 : decode cX7_between 53 = .ok (.invokevirtual 59, 3) := by decide +kernel
theorem dX7_between_56 : decode cX7_between 56 = .ok (.ireturn, 1) := by decide +kernel
theorem dX7_between_57 : decode cX7_between 57 = .ok (.aload_n 0, 1) := by decide +kernel
theorem dX7_between_58 : decode cX7_between 58 = .ok (.getfield 12, 3) := by decide +kernel
theorem dX7_between_61 : decode cX7_between 61 = .ok (.iload_n 1, 1) := by decide +kernel
theorem dX7_between_62 : decode cX7_between 62 = .ok (.invokevirtual 113, 3) := by decide +kernel
theorem dX7_between_65 : decode cX7_between 65 = .ok (.aload_n 0, 1) := by decide +kernel
theorem dX7_between_66 : decode cX7_between 66 = .ok (.getfield 12, 3) := by decide +kernel
theorem dX7_between_69 : decode cX7_between 69 = .ok (.iload_n 2, 1) := by decide +kernel
theorem dX7_between_70 : decode cX7_between 70 = .ok (.invokevirtual 113, 3) := by decide +kernel
theorem dX7_between_73 : decode cX7_between 73 = .ok (.isub, 1) := by decide +kernel
theorem dX7_between_74 : decode cX7_between 74 = .ok (.invokestatic 116, 3) := by decide +kernel
theorem dX7_between_77 : decode cX7_between 77 = .ok (.istore_n 3, 1) := by decide +kernel
theorem dX7_between_78 : decode cX7_between 78 = .ok (.iload_n 3, 1) := by decide +kernel
theorem dX7_between_79 : decode cX7_between 79 = .ok (.iconst 1, 1) := by decide +kernel
theorem dX7_between_80 : decode cX7_between 80 = .ok (.isub, 1) := by decide +kernel
theorem dX7_between_81 : decode cX7_between 81 = .ok (.iconst 0, 1) := by decide +kernel
theorem dX7_between_82 : decode cX7_between 82 = .ok (.invokestatic 121, 3) := by decide +kernel
theorem dX7_between_85 : decode cX7_between 85 = .ok (.ireturn, 1) := by decide +kernel
theorem dX7_round_0 : decode cX7_round 0 = .ok (.iload_n 3, 1) := by decide +kernel
theorem dX7_round_1 : decode cX7_round 1 = .ok (.invokestatic 125, 3) := by decide +kernel
theorem dX7_round_4 : decode cX7_round 4 = .ok (.ifCond .ne 9, 3) := by decide +kernel
theorem dX7_round_7 : decode cX7_round 7 = .ok (.aload_n 0, 1) := by decide +kernel
theorem dX7_round_8 : decode cX7_round 8 = .ok (.iconst (-1), 1) := by decide +kernel
theorem dX7_round_9 : decode cX7_round 9 = .ok (.invokevirtual 59, 3) := by decide +kernel
theorem dX7_round_12 : decode cX7_round 12 = .ok (.ireturn, 1) := by decide +kernel
theorem dX7_round_13 : decode cX7_round 13 = .ok (.iload_n 1, 1) := by decide +kernel
theorem dX7_round_14 : decode cX7_round 14 = .ok (.ldc 128, 2) := by decide +kernel
theorem dX7_round_16 : decode cX7_round 16 = .ok (.if_icmp .lt 9, 3) := by decide +kernel
theorem dX7_round_19 : decode cX7_round 19 = .ok (.iload_n 2, 1) := by decide +kernel
theorem dX7_round_20 : decode cX7_round 20 = .ok (.bipush (-60), 2) := by decide +kernel
theorem dX7_round_22 : decode cX7_round 22 = .ok (.if_icmp .ge 10, 3) := by decide +kernel
theorem dX7_round_25 : decode cX7_round 25 = .ok (.aload_n 0, 1) := by decide +kernel
theorem dX7_round_26 : decode cX7_round 26 = .ok (.bipush (-4), 2) := by decide +kernel
theorem dX7_round_28 : decode cX7_round 28 = .ok (.invokevirtual 59, 3) := by decide +kernel
theorem dX7_round_31 : decode cX7_round 31 = .ok (.ireturn, 1) := by decide +kernel
theorem dX7_round_32 : decode cX7_round 32 = .ok (.iload_n 1, 1) := by decide +kernel
theorem dX7_round_33 : decode cX7_round 33 = .ok (.ldc 129, 2) := by decide +kernel
theorem dX7_round_35 : decode cX7_round 35 = .ok (.if_icmp .gt 9, 3) := by decide +kernel
theorem dX7_round_38 : decode cX7_round 38 = .ok (.iload_n 2, 1) := by decide +kernel
theorem dX7_round_39 : decode cX7_round 39 = .ok (.bipush 60, 2) := by decide +kernel
theorem dX7_round_41 : decode cX7_round 41 = .ok (.if_icmp .le 10, 3) := by decide +kernel
theorem dX7_round_44 : decode cX7_round 44 = .ok (.aload_n 0, 1) := by decide +kernel
theorem dX7_round_45 : decode cX7_round 45 = .ok (.bipush (-6), 2) := by decide +kernel
theorem dX7_round_47 : decode cX7_round 47 = .ok (.invokevirtual 59, 3) := by decide +kernel
theorem dX7_round_50 : decode cX7_round 50 = .ok (.ireturn, 1) := by decide +kernel
theorem dX7_round_51 : decode cX7_round 51 = .ok (.iload_n 1, 1) := by decide +kernel
theorem dX7_round_52 : decode cX7_round 52 = .ok (.ifCond .ne 5, 3) := by decide +kernel
theorem dX7_round_55 : decode cX7_round 55 = .ok (.iconst 0, 1) := by decide +kernel
theorem dX7_round_56 : decode cX7_round 56 = .ok (.ireturn, 1) := by decide +kernel
theorem dX7_round_57 : decode cX7_round 57 = .ok (.aload_n 0, 1) := by decide +kernel
theorem dX7_round_58 : decode cX7_round 58 = .ok (.getfield 21, 3) := by decide +kernel
theorem dX7_round_61 : decode cX7_round 61 = .ok (.iload_n 1, 1) := by decide +kernel
theorem dX7_round_62 : decode cX7_round 62 = .ok (.invokestatic 116, 3) := by decide +kernel
theorem dX7_round_65 : decode cX7_round 65 = .ok (.i2l, 1) := by decide +kernel
theorem dX7_round_66 : decode cX7_round 66 = .ok (.iload_n 2, 1) := by decide +kernel
theorem dX7_round_67 : decode cX7_round 67 = .ok (.iconst 0, 1) := by decide +kernel
theorem dX7_round_68 : decode cX7_round 68 = .ok (.invokevirtual 130, 3) := by decide +kernel
theorem dX7_round_71 : decode cX7_round 71 = .ok (.aload_n 0, 1) := by decide +kernel
theorem dX7_round_72 : decode cX7_round 72 = .ok (.getfield 21, 3) := by decide +kernel
theorem dX7_round_75 : decode cX7_round 75 = .ok (.iload_n 1, 1) := by decide +kernel
theorem dX7_round_76 : decode cX7_round 76 = .ok (.ifCond .ge 7, 3) := by decide +kernel
theorem dX7_round_79 : decode cX7_round 79 = .ok (.iconst 1, 1) := by decide +kernel
theorem dX7_round_80 : decode cX7_round 80 = .ok (.goto 4, 3) := by decide +kernel
theorem dX7_round_83 : decode cX7_round 83 = .ok (.iconst 0, 1) := by decide +kernel
theorem dX7_round_84 : decode cX7_round 84 = .ok (.iload_n 3, 1) := by decide +kernel
theorem dX7_round_85 : decode cX7_round 85 = .ok (.invokevirtual 134, 3) := by decide +kernel
theorem dX7_round_88 : decode cX7_round 88 = .ok (.ireturn, 1) := by decide +kernel
theorem dX7_right_0 : decode cX7_right 0 = .ok (.iload_n 1, 1) := by decide +kernel
theorem dX7_right_1 : decode cX7_right 1 = .ok (.invokestatic 138, 3) := by decide +kernel
theorem dX7_right_4 : decode cX7_right 4 = .ok (.ifCond .eq 21, 3) := by decide +kernel
theorem dX7_right_7 : decode cX7_right 7 = .ok (.aload_n 0, 1) := by decide +kernel
theorem dX7_right_8 : decode cX7_right 8 = .ok (.getfield 12, 3) := by decide +kernel
theorem dX7_right_11 : decode cX7_right 11 = .ok (.iload_n 2, 1) := by decide +kernel
theorem dX7_right_12 : decode cX7_right 12 = .ok (.invokevirtual 82, 3) := by decide +kernel
theorem dX7_right_15 : decode cX7_right 15 = .ok (.ifCond .eq 10, 3) := by decide +kernel
theorem dX7_right_18 : decode cX7_right 18 = .ok (.iload_n 3, 1) := by decide +kernel
theorem dX7_right_19 : decode cX7_right 19 = .ok (.invokestatic 125, 3) := by decide +kernel
theorem dX7_right_22 : decode cX7_right 22 = .ok (.ifCond .ne 9, 3) := by decide +kernel
theorem dX7_right_25 : decode cX7_right 25 = .ok (.aload_n 0, 1) := by decide +kernel
theorem dX7_right_26 : decode cX7_right 26 = .ok (.iconst (-1), 1) := by decide +kernel
theorem dX7_right_27 : decode cX7_right 27 = .ok (.invokevirtual 59, 3) := by decide +kernel
theorem dX7_right_30 : decode cX7_right 30 = .ok (.ireturn, 1) := by decide +kernel
theorem dX7_right_31 : decode cX7_right 31 = .ok (.aload_n 0, 1) := by decide +kernel
theorem dX7_right_32 : decode cX7_right 32 = .ok (.getfield 28, 3) := by decide +kernel
theorem dX7_right_35 : decode cX7_right 35 = .ok (.iload_n 1, 1) := by decide +kernel
theorem dX7_right_36 : decode cX7_right 36 = .ok (.iload_n 2, 1) := by decide +kernel
theorem dX7_right_37 : decode cX7_right 37 = .ok (.iload_n 3, 1) := by decide +kernel
theorem dX7_right_38 : decode cX7_right 38 = .ok (.invokevirtual 141, 3) := by decide +kernel
theorem dX7_right_41 : decode cX7_right 41 = .ok (.ireturn, 1) := by decide +kernel
theorem dX7_sort_0 : decode cX7_sort 0 = .ok (.iload_n 1, 1) := by decide +kernel
theorem dX7_sort_1 : decode cX7_sort 1 = .ok (.invokestatic 138, 3) := by decide +kernel
theorem dX7_sort_4 : decode cX7_sort 4 = .ok (.ifCond .eq 14, 3) := by decide +kernel
theorem dX7_sort_7 : decode cX7_sort 7 = .ok (.aload_n 0, 1) := by decide +kernel
theorem dX7_sort_8 : decode cX7_sort 8 = .ok (.getfield 12, 3) := by decide +kernel
theorem dX7_sort_11 : decode cX7_sort 11 = .ok (.iload_n 2, 1) := by decide +kernel
theorem dX7_sort_12 : decode cX7_sort 12 = .ok (.invokevirtual 82, 3) := by decide +kernel
theorem dX7_sort_15 : decode cX7_sort 15 = .ok (.ifCond .ne 9, 3) := by decide +kernel
theorem dX7_sort_18 : decode cX7_sort 18 = .ok (.aload_n 0, 1) := by decide +kernel
theorem dX7_sort_19 : decode cX7_sort 19 = .ok (.iconst (-1), 1) := by decide +kernel
theorem dX7_sort_20 : decode cX7_sort 20 = .ok (.invokevirtual 59, 3) := by decide +kernel
theorem dX7_sort_23 : decode cX7_sort 23 = .ok (.ireturn, 1) := by decide +kernel
theorem dX7_sort_24 : decode cX7_sort 24 = .ok (.aload_n 0, 1) := by decide +kernel
theorem dX7_sort_25 : decode cX7_sort 25 = .ok (.getfield 28, 3) := by decide +kernel
theorem dX7_sort_28 : decode cX7_sort 28 = .ok (.iload_n 1, 1) := by decide +kernel
theorem dX7_sort_29 : decode cX7_sort 29 = .ok (.iload_n 2, 1) := by decide +kernel
theorem dX7_sort_30 : decode cX7_sort 30 = .ok (.invokevirtual 145, 3) := by decide +kernel
theorem dX7_sort_33 : decode cX7_sort 33 = .ok (.aload_n 0, 1) := by decide +kernel
theorem dX7_sort_34 : decode cX7_sort 34 = .ok (.getfield 28, 3) := by decide +kernel
theorem dX7_sort_37 : decode cX7_sort 37 = .ok (.invokevirtual 148, 3) := by decide +kernel
theorem dX7_sort_40 : decode cX7_sort 40 = .ok (.ireturn, 1) := by decide +kernel
theorem dX7_figures_0 : decode cX7_figures 0 = .ok (.iload_n 1, 1) := by decide +kernel
theorem dX7_figures_1 : decode cX7_figures 1 = .ok (.invokestatic 138, 3) := by decide +kernel
theorem dX7_figures_4 : decode cX7_figures 4 = .ok (.ifCond .eq 14, 3) := by decide +kernel
theorem dX7_figures_7 : decode cX7_figures 7 = .ok (.aload_n 0, 1) := by decide +kernel
theorem dX7_figures_8 : decode cX7_figures 8 = .ok (.getfield 12, 3) := by decide +kernel
theorem dX7_figures_11 : decode cX7_figures 11 = .ok (.iload_n 2, 1) := by decide +kernel
theorem dX7_figures_12 : decode cX7_figures 12 = .ok (.invokevirtual 82, 3) := by decide +kernel
theorem dX7_figures_15 : decode cX7_figures 15 = .ok (.ifCond .ne 9, 3) := by decide +kernel
theorem dX7_figures_18 : decode cX7_figures 18 = .ok (.aload_n 0, 1) := by decide +kernel
theorem dX7_figures_19 : decode cX7_figures 19 = .ok (.iconst (-1), 1) := by decide +kernel
theorem dX7_figures_20 : decode cX7_figures 20 = .ok (.invokevirtual 59, 3) := by decide +kernel
theorem dX7_figures_23 : decode cX7_figures 23 = .ok (.ireturn, 1) := by decide +kernel
theorem dX7_figures_24 : decode cX7_figures 24 = .ok (.aload_n 0, 1) := by decide +kernel
theorem dX7_figures_25 : decode cX7_figures 25 = .ok (.getfield 28, 3) := by decide +kernel
theorem dX7_figures_28 : decode cX7_figures 28 = .ok (.iload_n 1, 1) := by decide +kernel
theorem dX7_figures_29 : decode cX7_figures 29 = .ok (.iload_n 2, 1) := by decide +kernel
theorem dX7_figures_30 : decode cX7_figures 30 = .ok (.invokevirtual 145, 3) := by decide +kernel
theorem dX7_figures_33 : decode cX7_figures 33 = .ok (.aload_n 0, 1) := by decide +kernel
theorem dX7_figures_34 : decode cX7_figures 34 = .ok (.getfield 28, 3) := by decide +kernel
theorem dX7_figures_37 : decode cX7_figures 37 = .ok (.invokevirtual 152, 3) := by decide +kernel
theorem dX7_figures_40 : decode cX7_figures 40 = .ok (.ireturn, 1) := by decide +kernel
theorem dX7_hard_0 : decode cX7_hard 0 = .ok (.iload_n 1, 1) := by decide +kernel
theorem dX7_hard_1 : decode cX7_hard 1 = .ok (.invokestatic 138, 3) := by decide +kernel
theorem dX7_hard_4 : decode cX7_hard 4 = .ok (.ifCond .eq 14, 3) := by decide +kernel
theorem dX7_hard_7 : decode cX7_hard 7 = .ok (.aload_n 0, 1) := by decide +kernel
theorem dX7_hard_8 : decode cX7_hard 8 = .ok (.getfield 12, 3) := by decide +kernel
theorem dX7_hard_11 : decode cX7_hard 11 = .ok (.iload_n 2, 1) := by decide +kernel
theorem dX7_hard_12 : decode cX7_hard 12 = .ok (.invokevirtual 82, 3) := by decide +kernel
theorem dX7_hard_15 : decode cX7_hard 15 = .ok (.ifCond .ne 9, 3) := by decide +kernel
theorem dX7_hard_18 : decode cX7_hard 18 = .ok (.aload_n 0, 1) := by decide +kernel
theorem dX7_hard_19 : decode cX7_hard 19 = .ok (.iconst (-1), 1) := by decide +kernel
theorem dX7_hard_20 : decode cX7_hard 20 = .ok (.invokevirtual 59, 3) := by decide +kernel
theorem dX7_hard_23 : decode cX7_hard 23 = .ok (.ireturn, 1) := by decide +kernel
theorem dX7_hard_24 : decode cX7_hard 24 = .ok (.aload_n 0, 1) := by decide +kernel
theorem dX7_hard_25 : decode cX7_hard 25 = .ok (.getfield 28, 3) := by decide +kernel
theorem dX7_hard_28 : decode cX7_hard 28 = .ok (.iload_n 1, 1) := by decide +kernel
theorem dX7_hard_29 : decode cX7_hard 29 = .ok (.iload_n 2, 1) := by decide +kernel
theorem dX7_hard_30 : decode cX7_hard 30 = .ok (.invokevirtual 145, 3) := by decide +kernel
theorem dX7_hard_33 : decode cX7_hard 33 = .ok (.aload_n 0, 1) := by decide +kernel
theorem dX7_hard_34 : decode cX7_hard 34 = .ok (.getfield 28, 3) := by decide +kernel
theorem dX7_hard_37 : decode cX7_hard 37 = .ok (.invokevirtual 155, 3) := by decide +kernel
theorem dX7_hard_40 : decode cX7_hard 40 = .ok (.ireturn, 1) := by decide +kernel
theorem dX7_hardest_0 : decode cX7_hardest 0 = .ok (.iload_n 1, 1) := by decide +kernel
theorem dX7_hardest_1 : decode cX7_hardest 1 = .ok (.invokestatic 138, 3) := by decide +kernel
theorem dX7_hardest_4 : decode cX7_hardest 4 = .ok (.ifCond .ne 9, 3) := by decide +kernel
theorem dX7_hardest_7 : decode cX7_hardest 7 = .ok (.aload_n 0, 1) := by decide +kernel
theorem dX7_hardest_8 : decode cX7_hardest 8 = .ok (.iconst (-1), 1) := by decide +kernel
theorem dX7_hardest_9 : decode cX7_hardest 9 = .ok (.invokevirtual 59, 3) := by decide +kernel
theorem dX7_hardest_12 : decode cX7_hardest 12 = .ok (.ireturn, 1) := by decide +kernel
theorem dX7_hardest_13 : decode cX7_hardest 13 = .ok (.aload_n 0, 1) := by decide +kernel
theorem dX7_hardest_14 : decode cX7_hardest 14 = .ok (.getfield 37, 3) := by decide +kernel
theorem dX7_hardest_17 : decode cX7_hardest 17 = .ok (.iload_n 1, 1) := by decide +kernel
theorem dX7_hardest_18 : decode cX7_hardest 18 = .ok (.invokevirtual 158, 3) := by decide +kernel
theorem dX7_hardest_21 : decode cX7_hardest 21 = .ok (.aload_n 0, 1) := by decide +kernel
theorem dX7_hardest_22 : decode cX7_hardest 22 = .ok (.getfield 37, 3) := by decide +kernel
theorem dX7_hardest_25 : decode cX7_hardest 25 = .ok (.iload_n 1, 1) := by decide +kernel
theorem dX7_hardest_26 : decode cX7_hardest 26 = .ok (.iload_n 2, 1) := by decide +kernel
theorem dX7_hardest_27 : decode cX7_hardest 27 = .ok (.invokevirtual 162, 3) := by decide +kernel
theorem dX7_hardest_30 : decode cX7_hardest 30 = .ok (.ireturn, 1) := by decide +kernel
theorem dX7_count_0 : decode cX7_count 0 = .ok (.iload_n 1, 1) := by decide +kernel
theorem dX7_count_1 : decode cX7_count 1 = .ok (.invokestatic 138, 3) := by decide +kernel
theorem dX7_count_4 : decode cX7_count 4 = .ok (.ifCond .ne 9, 3) := by decide +kernel
theorem dX7_count_7 : decode cX7_count 7 = .ok (.aload_n 0, 1) := by decide +kernel
theorem dX7_count_8 : decode cX7_count 8 = .ok (.iconst (-1), 1) := by decide +kernel
theorem dX7_count_9 : decode cX7_count 9 = .ok (.invokevirtual 59, 3) := by decide +kernel
theorem dX7_count_12 : decode cX7_count 12 = .ok (.ireturn, 1) := by decide +kernel
theorem dX7_count_13 : decode cX7_count 13 = .ok (.iload_n 2, 1) := by decide +kernel
theorem dX7_count_14 : decode cX7_count 14 = .ok (.ifCond .ge 10, 3) := by decide +kernel
theorem dX7_count_17 : decode cX7_count 17 = .ok (.aload_n 0, 1) := by decide +kernel
theorem dX7_count_18 : decode cX7_count 18 = .ok (.bipush (-4), 2) := by decide +kernel
theorem dX7_count_20 : decode cX7_count 20 = .ok (.invokevirtual 59, 3) := by decide +kernel
theorem dX7_count_23 : decode cX7_count 23 = .ok (.ireturn, 1) := by decide +kernel
theorem dX7_count_24 : decode cX7_count 24 = .ok (.iload_n 2, 1) := by decide +kernel
theorem dX7_count_25 : decode cX7_count 25 = .ok (.bipush 10, 2) := by decide +kernel
theorem dX7_count_27 : decode cX7_count 27 = .ok (.if_icmp .lt 10, 3) := by decide +kernel
theorem dX7_count_30 : decode cX7_count 30 = .ok (.aload_n 0, 1) := by decide +kernel
theorem dX7_count_31 : decode cX7_count 31 = .ok (.bipush (-6), 2) := by decide +kernel
theorem dX7_count_33 : decode cX7_count 33 = .ok (.invokevirtual 59, 3) := by decide +kernel
theorem dX7_count_36 : decode cX7_count 36 = .ok (.ireturn, 1) := by decide +kernel
theorem dX7_count_37 : decode cX7_count 37 = .ok (.aload_n 0, 1) := by decide +kernel
theorem dX7_count_38 : decode cX7_count 38 = .ok (.getfield 37, 3) := by decide +kernel
theorem dX7_count_41 : decode cX7_count 41 = .ok (.iload_n 1, 1) := by decide +kernel
theorem dX7_count_42 : decode cX7_count 42 = .ok (.invokevirtual 158, 3) := by decide +kernel
theorem dX7_count_45 : decode cX7_count 45 = .ok (.aload_n 0, 1) := by decide +kernel
theorem dX7_count_46 : decode cX7_count 46 = .ok (.getfield 37, 3) := by decide +kernel
theorem dX7_count_49 : decode cX7_count 49 = .ok (.iload_n 1, 1) := by decide +kernel
theorem dX7_count_50 : decode cX7_count 50 = .ok (.iload_n 2, 1) := by decide +kernel
theorem dX7_count_51 : decode cX7_count 51 = .ok (.invokevirtual 165, 3) := by decide +kernel
theorem dX7_count_54 : decode cX7_count 54 = .ok (.ireturn, 1) := by decide +kernel
theorem dX7_all_0 : decode cX7_all 0 = .ok (.iload_n 1, 1) := by decide +kernel
theorem dX7_all_1 : decode cX7_all 1 = .ok (.invokestatic 138, 3) := by decide +kernel
theorem dX7_all_4 : decode cX7_all 4 = .ok (.ifCond .ne 9, 3) := by decide +kernel
theorem dX7_all_7 : decode cX7_all 7 = .ok (.aload_n 0, 1) := by decide +kernel
theorem dX7_all_8 : decode cX7_all 8 = .ok (.iconst (-1), 1) := by decide +kernel
theorem dX7_all_9 : decode cX7_all 9 = .ok (.invokevirtual 59, 3) := by decide +kernel
theorem dX7_all_12 : decode cX7_all 12 = .ok (.ireturn, 1) := by decide +kernel
theorem dX7_all_13 : decode cX7_all 13 = .ok (.iload_n 2, 1) := by decide +kernel
theorem dX7_all_14 : decode cX7_all 14 = .ok (.ifCond .lt 8, 3) := by decide +kernel
theorem dX7_all_17 : decode cX7_all 17 = .ok (.iload_n 2, 1) := by decide +kernel
theorem dX7_all_18 : decode cX7_all 18 = .ok (.iconst 4, 1) := by decide +kernel
theorem dX7_all_19 : decode cX7_all 19 = .ok (.if_icmp .lt 10, 3) := by decide +kernel
theorem dX7_all_22 : decode cX7_all 22 = .ok (.aload_n 0, 1) := by decide +kernel
theorem dX7_all_23 : decode cX7_all 23 = .ok (.bipush (-2), 2) := by decide +kernel
theorem dX7_all_25 : decode cX7_all 25 = .ok (.invokevirtual 59, 3) := by decide +kernel
theorem dX7_all_28 : decode cX7_all 28 = .ok (.ireturn, 1) := by decide +kernel
theorem dX7_all_29 : decode cX7_all 29 = .ok (.aload_n 0, 1) := by decide +kernel
theorem dX7_all_30 : decode cX7_all 30 = .ok (.getfield 37, 3) := by decide +kernel
theorem dX7_all_33 : decode cX7_all 33 = .ok (.iload_n 1, 1) := by decide +kernel
theorem dX7_all_34 : decode cX7_all 34 = .ok (.invokevirtual 158, 3) := by decide +kernel
theorem dX7_all_37 : decode cX7_all 37 = .ok (.aload_n 0, 1) := by decide +kernel
theorem dX7_all_38 : decode cX7_all 38 = .ok (.getfield 37, 3) := by decide +kernel
theorem dX7_all_41 : decode cX7_all 41 = .ok (.iload_n 1, 1) := by decide +kernel
theorem dX7_all_42 : decode cX7_all 42 = .ok (.iload_n 2, 1) := by decide +kernel
theorem dX7_all_43 : decode cX7_all 43 = .ok (.invokevirtual 168, 3) := by decide +kernel
theorem dX7_all_46 : decode cX7_all 46 = .ok (.ireturn, 1) := by decide +kernel
theorem dX7_spans_0 : decode cX7_spans 0 = .ok (.iload_n 1, 1) := by decide +kernel
theorem dX7_spans_1 : decode cX7_spans 1 = .ok (.invokestatic 138, 3) := by decide +kernel
theorem dX7_spans_4 : decode cX7_spans 4 = .ok (.ifCond .eq 10, 3) := by decide +kernel
theorem dX7_spans_7 : decode cX7_spans 7 = .ok (.iload_n 2, 1) := by decide +kernel
theorem dX7_spans_8 : decode cX7_spans 8 = .ok (.invokestatic 125, 3) := by decide +kernel
theorem dX7_spans_11 : decode cX7_spans 11 = .ok (.ifCond .ne 9, 3) := by decide +kernel
theorem dX7_spans_14 : decode cX7_spans 14 = .ok (.aload_n 0, 1) := by decide +kernel
theorem dX7_spans_15 : decode cX7_spans 15 = .ok (.iconst (-1), 1) := by decide +kernel
theorem dX7_spans_16 : decode cX7_spans 16 = .ok (.invokevirtual 59, 3) := by decide +kernel
theorem dX7_spans_19 : decode cX7_spans 19 = .ok (.ireturn, 1) := by decide +kernel
theorem dX7_spans_20 : decode cX7_spans 20 = .ok (.aload_n 0, 1) := by decide +kernel
theorem dX7_spans_21 : decode cX7_spans 21 = .ok (.getfield 44, 3) := by decide +kernel
theorem dX7_spans_24 : decode cX7_spans 24 = .ok (.iload_n 1, 1) := by decide +kernel
theorem dX7_spans_25 : decode cX7_spans 25 = .ok (.iload_n 2, 1) := by decide +kernel
theorem dX7_spans_26 : decode cX7_spans 26 = .ok (.invokevirtual 171, 3) := by decide +kernel
theorem dX7_spans_29 : decode cX7_spans 29 = .ok (.aload_n 0, 1) := by decide +kernel
theorem dX7_spans_30 : decode cX7_spans 30 = .ok (.getfield 44, 3) := by decide +kernel
theorem dX7_spans_33 : decode cX7_spans 33 = .ok (.iload_n 1, 1) := by decide +kernel
theorem dX7_spans_34 : decode cX7_spans 34 = .ok (.iload_n 2, 1) := by decide +kernel
theorem dX7_spans_35 : decode cX7_spans 35 = .ok (.invokevirtual 173, 3) := by decide +kernel
theorem dX7_spans_38 : decode cX7_spans 38 = .ok (.ireturn, 1) := by decide +kernel
theorem dX7_span_0 : decode cX7_span 0 = .ok (.iload_n 1, 1) := by decide +kernel
theorem dX7_span_1 : decode cX7_span 1 = .ok (.invokestatic 138, 3) := by decide +kernel
theorem dX7_span_4 : decode cX7_span 4 = .ok (.ifCond .eq 10, 3) := by decide +kernel
theorem dX7_span_7 : decode cX7_span 7 = .ok (.iload_n 2, 1) := by decide +kernel
theorem dX7_span_8 : decode cX7_span 8 = .ok (.invokestatic 125, 3) := by decide +kernel
theorem dX7_span_11 : decode cX7_span 11 = .ok (.ifCond .ne 9, 3) := by decide +kernel
theorem dX7_span_14 : decode cX7_span 14 = .ok (.aload_n 0, 1) := by decide +kernel
theorem dX7_span_15 : decode cX7_span 15 = .ok (.iconst (-1), 1) := by decide +kernel
theorem dX7_span_16 : decode cX7_span 16 = .ok (.invokevirtual 59, 3) := by decide +kernel
theorem dX7_span_19 : decode cX7_span 19 = .ok (.ireturn, 1) := by decide +kernel
theorem dX7_span_20 : decode cX7_span 20 = .ok (.aload_n 0, 1) := by decide +kernel
theorem dX7_span_21 : decode cX7_span 21 = .ok (.getfield 44, 3) := by decide +kernel
theorem dX7_span_24 : decode cX7_span 24 = .ok (.iload_n 1, 1) := by decide +kernel
theorem dX7_span_25 : decode cX7_span 25 = .ok (.iload_n 2, 1) := by decide +kernel
theorem dX7_span_26 : decode cX7_span 26 = .ok (.invokevirtual 171, 3) := by decide +kernel
theorem dX7_span_29 : decode cX7_span 29 = .ok (.iload_n 3, 1) := by decide +kernel
theorem dX7_span_30 : decode cX7_span 30 = .ok (.ifCond .lt 16, 3) := by decide +kernel
theorem dX7_span_33 : decode cX7_span 33 = .ok (.iload_n 3, 1) := by decide +kernel
theorem dX7_span_34 : decode cX7_span 34 = .ok (.aload_n 0, 1) := by decide +kernel
theorem dX7_span_35 : decode cX7_span 35 = .ok (.getfield 44, 3) := by decide +kernel
theorem dX7_span_38 : decode cX7_span 38 = .ok (.iload_n 1, 1) := by decide +kernel
theorem dX7_span_39 : decode cX7_span 39 = .ok (.iload_n 2, 1) := by decide +kernel
theorem dX7_span_40 : decode cX7_span 40 = .ok (.invokevirtual 173, 3) := by decide +kernel
theorem dX7_span_43 : decode cX7_span 43 = .ok (.if_icmp .lt 9, 3) := by decide +kernel
theorem dX7_span_46 : decode cX7_span 46 = .ok (.aload_n 0, 1) := by decide +kernel
theorem dX7_span_47 : decode cX7_span 47 = .ok (.iconst (-1), 1) := by decide +kernel
theorem dX7_span_48 : decode cX7_span 48 = .ok (.invokevirtual 59, 3) := by decide +kernel
theorem dX7_span_51 : decode cX7_span 51 = .ok (.ireturn, 1) := by decide +kernel
theorem dX7_span_52 : decode cX7_span 52 = .ok (.iload 4, 2) := by decide +kernel
theorem dX7_span_54 : decode cX7_span 54 = .ok (.ifCond .lt 9, 3) := by decide +kernel
theorem dX7_span_57 : decode cX7_span 57 = .ok (.iload 4, 2) := by decide +kernel
theorem dX7_span_59 : decode cX7_span 59 = .ok (.iconst 2, 1) := by decide +kernel
theorem dX7_span_60 : decode cX7_span 60 = .ok (.if_icmp .le 10, 3) := by decide +kernel
theorem dX7_span_63 : decode cX7_span 63 = .ok (.aload_n 0, 1) := by decide +kernel
theorem dX7_span_64 : decode cX7_span 64 = .ok (.bipush (-2), 2) := by decide +kernel
theorem dX7_span_66 : decode cX7_span 66 = .ok (.invokevirtual 59, 3) := by decide +kernel
theorem dX7_span_69 : decode cX7_span 69 = .ok (.ireturn, 1) := by decide +kernel
theorem dX7_span_70 : decode cX7_span 70 = .ok (.iload 4, 2) := by decide +kernel
theorem dX7_span_72 : decode cX7_span 72 = .ok (.iconst 1, 1) := by decide +kernel
theorem dX7_span_73 : decode cX7_span 73 = .ok (.if_icmp .ne 55, 3) := by decide +kernel
theorem dX7_span_76 : decode cX7_span 76 = .ok (.iload_n 3, 1) := by decide +kernel
theorem dX7_span_77 : decode cX7_span 77 = .ok (.iconst 1, 1) := by decide +kernel
theorem dX7_span_78 : decode cX7_span 78 = .ok (.iadd, 1) := by decide +kernel
theorem dX7_span_79 : decode cX7_span 79 = .ok (.aload_n 0, 1) := by decide +kernel
theorem dX7_span_80 : decode cX7_span 80 = .ok (.getfield 44, 3) := by decide +kernel
theorem dX7_span_83 : decode cX7_span 83 = .ok (.iload_n 1, 1) := by decide +kernel
theorem dX7_span_84 : decode cX7_span 84 = .ok (.iload_n 2, 1) := by decide +kernel
theorem dX7_span_85 : decode cX7_span 85 = .ok (.invokevirtual 173, 3) := by decide +kernel
theorem dX7_span_88 : decode cX7_span 88 = .ok (.if_icmp .ne 7, 3) := by decide +kernel
theorem dX7_span_91 : decode cX7_span 91 = .ok (.iconst 1, 1) := by decide +kernel
theorem dX7_span_92 : decode cX7_span 92 = .ok (.goto 4, 3) := by decide +kernel
theorem dX7_span_95 : decode cX7_span 95 = .ok (.iconst 0, 1) := by decide +kernel
theorem dX7_span_96 : decode cX7_span 96 = .ok (.istore 5, 2) := by decide +kernel
theorem dX7_span_98 : decode cX7_span 98 = .ok (.iload 5, 2) := by decide +kernel
theorem dX7_span_100 : decode cX7_span 100 = .ok (.ifCond .eq 13, 3) := by decide +kernel
theorem dX7_span_103 : decode cX7_span 103 = .ok (.aload_n 0, 1) := by decide +kernel
theorem dX7_span_104 : decode cX7_span 104 = .ok (.getfield 12, 3) := by decide +kernel
theorem dX7_span_107 : decode cX7_span 107 = .ok (.invokevirtual 176, 3) := by decide +kernel
theorem dX7_span_110 : decode cX7_span 110 = .ok (.goto 17, 3) := by decide +kernel
theorem dX7_span_113 : decode cX7_span 113 = .ok (.aload_n 0, 1) := by decide +kernel
theorem dX7_span_114 : decode cX7_span 114 = .ok (.getfield 44, 3) := by decide +kernel
theorem dX7_span_117 : decode cX7_span 117 = .ok (.iload_n 1, 1) := by decide +kernel
theorem dX7_span_118 : decode cX7_span 118 = .ok (.iload_n 2, 1) := by decide +kernel
theorem dX7_span_119 : decode cX7_span 119 = .ok (.iload_n 3, 1) := by decide +kernel
theorem dX7_span_120 : decode cX7_span 120 = .ok (.iconst 1, 1) := by decide +kernel
theorem dX7_span_121 : decode cX7_span 121 = .ok (.iadd, 1) := by decide +kernel
theorem dX7_span_122 : decode cX7_span 122 = .ok (.invokevirtual 179, 3) := by decide +kernel
theorem dX7_span_125 : decode cX7_span 125 = .ok (.iconst 1, 1) := by decide +kernel
theorem dX7_span_126 : decode cX7_span 126 = .ok (.isub, 1) := by decide +kernel
theorem dX7_span_127 : decode cX7_span 127 = .ok (.ireturn, 1) := by decide +kernel
theorem dX7_span_128 : decode cX7_span 128 = .ok (.aload_n 0, 1) := by decide +kernel
theorem dX7_span_129 : decode cX7_span 129 = .ok (.getfield 44, 3) := by decide +kernel
theorem dX7_span_132 : decode cX7_span 132 = .ok (.iload_n 1, 1) := by decide +kernel
theorem dX7_span_133 : decode cX7_span 133 = .ok (.iload_n 2, 1) := by decide +kernel
theorem dX7_span_134 : decode cX7_span 134 = .ok (.iload_n 3, 1) := by decide +kernel
theorem dX7_span_135 : decode cX7_span 135 = .ok (.invokevirtual 179, 3) := by decide +kernel
theorem dX7_span_138 : decode cX7_span 138 = .ok (.istore 5, 2) := by decide +kernel
theorem dX7_span_140 : decode cX7_span 140 = .ok (.iload 4, 2) := by decide +kernel
theorem dX7_span_142 : decode cX7_span 142 = .ok (.ifCond .ne 8, 3) := by decide +kernel
theorem dX7_span_145 : decode cX7_span 145 = .ok (.iload 5, 2) := by decide +kernel
theorem dX7_span_147 : decode cX7_span 147 = .ok (.goto 14, 3) := by decide +kernel
theorem dX7_span_150 : decode cX7_span 150 = .ok (.aload_n 0, 1) := by decide +kernel
theorem dX7_span_151 : decode cX7_span 151 = .ok (.getfield 28, 3) := by decide +kernel
theorem dX7_span_154 : decode cX7_span 154 = .ok (.iload_n 1, 1) := by decide +kernel
theorem dX7_span_155 : decode cX7_span 155 = .ok (.iload 5, 2) := by decide +kernel
theorem dX7_span_157 : decode cX7_span 157 = .ok (.iload_n 2, 1) := by decide +kernel
theorem dX7_span_158 : decode cX7_span 158 = .ok (.invokevirtual 141, 3) := by decide +kernel
theorem dX7_span_161 : decode cX7_span 161 = .ok (.ireturn, 1) := by decide +kernel
theorem dX7_table_0 : decode cX7_table 0 = .ok (.iload_n 1, 1) := by decide +kernel
theorem dX7_table_1 : decode cX7_table 1 = .ok (.invokestatic 138, 3) := by decide +kernel
theorem dX7_table_4 : decode cX7_table 4 = .ok (.ifCond .eq 21, 3) := by decide +kernel
theorem dX7_table_7 : decode cX7_table 7 = .ok (.iload_n 2, 1) := by decide +kernel
theorem dX7_table_8 : decode cX7_table 8 = .ok (.invokestatic 125, 3) := by decide +kernel
theorem dX7_table_11 : decode cX7_table 11 = .ok (.ifCond .eq 14, 3) := by decide +kernel
theorem dX7_table_14 : decode cX7_table 14 = .ok (.aload_n 0, 1) := by decide +kernel
theorem dX7_table_15 : decode cX7_table 15 = .ok (.getfield 12, 3) := by decide +kernel
theorem dX7_table_18 : decode cX7_table 18 = .ok (.iload_n 3, 1) := by decide +kernel
theorem dX7_table_19 : decode cX7_table 19 = .ok (.invokevirtual 182, 3) := by decide +kernel
theorem dX7_table_22 : decode cX7_table 22 = .ok (.ifCond .ne 9, 3) := by decide +kernel
theorem dX7_table_25 : decode cX7_table 25 = .ok (.aload_n 0, 1) := by decide +kernel
theorem dX7_table_26 : decode cX7_table 26 = .ok (.iconst (-1), 1) := by decide +kernel
theorem dX7_table_27 : decode cX7_table 27 = .ok (.invokevirtual 59, 3) := by decide +kernel
theorem dX7_table_30 : decode cX7_table 30 = .ok (.ireturn, 1) := by decide +kernel
theorem dX7_table_31 : decode cX7_table 31 = .ok (.iload 4, 2) := by decide +kernel
theorem dX7_table_33 : decode cX7_table 33 = .ok (.ifCond .lt 9, 3) := by decide +kernel
theorem dX7_table_36 : decode cX7_table 36 = .ok (.iload 4, 2) := by decide +kernel
theorem dX7_table_38 : decode cX7_table 38 = .ok (.iconst 1, 1) := by decide +kernel
theorem dX7_table_39 : decode cX7_table 39 = .ok (.if_icmp .le 10, 3) := by decide +kernel
theorem dX7_table_42 : decode cX7_table 42 = .ok (.aload_n 0, 1) := by decide +kernel
theorem dX7_table_43 : decode cX7_table 43 = .ok (.bipush (-2), 2) := by decide +kernel
theorem dX7_table_45 : decode cX7_table 45 = .ok (.invokevirtual 59, 3) := by decide +kernel
theorem dX7_table_48 : decode cX7_table 48 = .ok (.ireturn, 1) := by decide +kernel
theorem dX7_table_49 : decode cX7_table 49 = .ok (.iload 5, 2) := by decide +kernel
theorem dX7_table_51 : decode cX7_table 51 = .ok (.ifCond .ge 10, 3) := by decide +kernel
theorem dX7_table_54 : decode cX7_table 54 = .ok (.aload_n 0, 1) := by decide +kernel
theorem dX7_table_55 : decode cX7_table 55 = .ok (.bipush (-4), 2) := by decide +kernel
theorem dX7_table_57 : decode cX7_table 57 = .ok (.invokevirtual 59, 3) := by decide +kernel
theorem dX7_table_60 : decode cX7_table 60 = .ok (.ireturn, 1) := by decide +kernel
theorem dX7_table_61 : decode cX7_table 61 = .ok (.iload 5, 2) := by decide +kernel
theorem dX7_table_63 : decode cX7_table 63 = .ok (.bipush 10, 2) := by decide +kernel
theorem dX7_table_65 : decode cX7_table 65 = .ok (.if_icmp .le 10, 3) := by decide +kernel
theorem dX7_table_68 : decode cX7_table 68 = .ok (.aload_n 0, 1) := by decide +kernel
theorem dX7_table_69 : decode cX7_table 69 = .ok (.bipush (-6), 2) := by decide +kernel
theorem dX7_table_71 : decode cX7_table 71 = .ok (.invokevirtual 59, 3) := by decide +kernel
theorem dX7_table_74 : decode cX7_table 74 = .ok (.ireturn, 1) := by decide +kernel
theorem dX7_table_75 : decode cX7_table 75 = .ok (.aload_n 0, 1) := by decide +kernel
theorem dX7_table_76 : decode cX7_table 76 = .ok (.getfield 51, 3) := by decide +kernel
theorem dX7_table_79 : decode cX7_table 79 = .ok (.iload_n 1, 1) := by decide +kernel
theorem dX7_table_80 : decode cX7_table 80 = .ok (.iload_n 2, 1) := by decide +kernel
theorem dX7_table_81 : decode cX7_table 81 = .ok (.iload_n 3, 1) := by decide +kernel
theorem dX7_table_82 : decode cX7_table 82 = .ok (.invokevirtual 185, 3) := by decide +kernel
theorem dX7_table_85 : decode cX7_table 85 = .ok (.aload_n 0, 1) := by decide +kernel
theorem dX7_table_86 : decode cX7_table 86 = .ok (.getfield 51, 3) := by decide +kernel
theorem dX7_table_89 : decode cX7_table 89 = .ok (.iload 4, 2) := by decide +kernel
theorem dX7_table_91 : decode cX7_table 91 = .ok (.iload 5, 2) := by decide +kernel
theorem dX7_table_93 : decode cX7_table 93 = .ok (.invokevirtual 189, 3) := by decide +kernel
theorem dX7_table_96 : decode cX7_table 96 = .ok (.aload_n 0, 1) := by decide +kernel
theorem dX7_table_97 : decode cX7_table 97 = .ok (.getfield 51, 3) := by decide +kernel
theorem dX7_table_100 : decode cX7_table 100 = .ok (.invokevirtual 192, 3) := by decide +kernel
theorem dX7_table_103 : decode cX7_table 103 = .ok (.ireturn, 1) := by decide +kernel
theorem dX7_part_0 : decode cX7_part 0 = .ok (.aload_n 0, 1) := by decide +kernel
theorem dX7_part_1 : decode cX7_part 1 = .ok (.getfield 51, 3) := by decide +kernel
theorem dX7_part_4 : decode cX7_part 4 = .ok (.invokevirtual 192, 3) := by decide +kernel
theorem dX7_part_7 : decode cX7_part 7 = .ok (.ifCond .ne 10, 3) := by decide +kernel
theorem dX7_part_10 : decode cX7_part 10 = .ok (.aload_n 0, 1) := by decide +kernel
theorem dX7_part_11 : decode cX7_part 11 = .ok (.bipush (-3), 2) := by decide +kernel
theorem dX7_part_13 : decode cX7_part 13 = .ok (.invokevirtual 86, 3) := by decide +kernel
theorem dX7_part_16 : decode cX7_part 16 = .ok (.ireturn, 1) := by decide +kernel
theorem dX7_part_17 : decode cX7_part 17 = .ok (.iload_n 1, 1) := by decide +kernel
theorem dX7_part_18 : decode cX7_part 18 = .ok (.ifCond .lt 14, 3) := by decide +kernel
theorem dX7_part_21 : decode cX7_part 21 = .ok (.iload_n 1, 1) := by decide +kernel
theorem dX7_part_22 : decode cX7_part 22 = .ok (.aload_n 0, 1) := by decide +kernel
theorem dX7_part_23 : decode cX7_part 23 = .ok (.getfield 51, 3) := by decide +kernel
theorem dX7_part_26 : decode cX7_part 26 = .ok (.invokevirtual 192, 3) := by decide +kernel
theorem dX7_part_29 : decode cX7_part 29 = .ok (.if_icmp .lt 9, 3) := by decide +kernel
theorem dX7_part_32 : decode cX7_part 32 = .ok (.aload_n 0, 1) := by decide +kernel
theorem dX7_part_33 : decode cX7_part 33 = .ok (.iconst (-1), 1) := by decide +kernel
theorem dX7_part_34 : decode cX7_part 34 = .ok (.invokevirtual 86, 3) := by decide +kernel
theorem dX7_part_37 : decode cX7_part 37 = .ok (.ireturn, 1) := by decide +kernel
theorem dX7_part_38 : decode cX7_part 38 = .ok (.iload_n 2, 1) := by decide +kernel
theorem dX7_part_39 : decode cX7_part 39 = .ok (.tableswitch 65 0 3 #[29, 38, 47, 56], 29) := by decide +kernel
theorem dX7_part_68 : decode cX7_part 68 = .ok (.aload_n 0, 1) := by decide +kernel
theorem dX7_part_69 : decode cX7_part 69 = .ok (.getfield 51, 3) := by decide +kernel
theorem dX7_part_72 : decode cX7_part 72 = .ok (.iload_n 1, 1) := by decide +kernel
theorem dX7_part_73 : decode cX7_part 73 = .ok (.invokevirtual 195, 3) := by decide +kernel
theorem dX7_part_76 : decode cX7_part 76 = .ok (.ireturn, 1) := by decide +kernel
theorem dX7_part_77 : decode cX7_part 77 = .ok (.aload_n 0, 1) := by decide +kernel
theorem dX7_part_78 : decode cX7_part 78 = .ok (.getfield 51, 3) := by decide +kernel
theorem dX7_part_81 : decode cX7_part 81 = .ok (.iload_n 1, 1) := by decide +kernel
theorem dX7_part_82 : decode cX7_part 82 = .ok (.invokevirtual 198, 3) := by decide +kernel
theorem dX7_part_85 : decode cX7_part 85 = .ok (.ireturn, 1) := by decide +kernel
theorem dX7_part_86 : decode cX7_part 86 = .ok (.aload_n 0, 1) := by decide +kernel
theorem dX7_part_87 : decode cX7_part 87 = .ok (.getfield 51, 3) := by decide +kernel
theorem dX7_part_90 : decode cX7_part 90 = .ok (.iload_n 1, 1) := by decide +kernel
theorem dX7_part_91 : decode cX7_part 91 = .ok (.invokevirtual 201, 3) := by decide +kernel
theorem dX7_part_94 : decode cX7_part 94 = .ok (.ireturn, 1) := by decide +kernel
theorem dX7_part_95 : decode cX7_part 95 = .ok (.aload_n 0, 1) := by decide +kernel
theorem dX7_part_96 : decode cX7_part 96 = .ok (.getfield 51, 3) := by decide +kernel
theorem dX7_part_99 : decode cX7_part 99 = .ok (.iload_n 1, 1) := by decide +kernel
theorem dX7_part_100 : decode cX7_part 100 = .ok (.invokevirtual 204, 3) := by decide +kernel
theorem dX7_part_103 : decode cX7_part 103 = .ok (.ireturn, 1) := by decide +kernel
theorem dX7_part_104 : decode cX7_part 104 = .ok (.aload_n 0, 1) := by decide +kernel
theorem dX7_part_105 : decode cX7_part 105 = .ok (.bipush (-2), 2) := by decide +kernel
theorem dX7_part_107 : decode cX7_part 107 = .ok (.invokevirtual 86, 3) := by decide +kernel
theorem dX7_part_110 : decode cX7_part 110 = .ok (.ireturn, 1) := by decide +kernel
theorem dX7_look_0 : decode cX7_look 0 = .ok (.aload_n 0, 1) := by decide +kernel
theorem dX7_look_1 : decode cX7_look 1 = .ok (.getfield 51, 3) := by decide +kernel
theorem dX7_look_4 : decode cX7_look 4 = .ok (.invokevirtual 192, 3) := by decide +kernel
theorem dX7_look_7 : decode cX7_look 7 = .ok (.ifCond .ne 10, 3) := by decide +kernel
theorem dX7_look_10 : decode cX7_look 10 = .ok (.aload_n 0, 1) := by decide +kernel
theorem dX7_look_11 : decode cX7_look 11 = .ok (.bipush (-3), 2) := by decide +kernel
theorem dX7_look_13 : decode cX7_look 13 = .ok (.invokevirtual 59, 3) := by decide +kernel
theorem dX7_look_16 : decode cX7_look 16 = .ok (.ireturn, 1) := by decide +kernel
theorem dX7_look_17 : decode cX7_look 17 = .ok (.aload_n 0, 1) := by decide +kernel
theorem dX7_look_18 : decode cX7_look 18 = .ok (.getfield 12, 3) := by decide +kernel
theorem dX7_look_21 : decode cX7_look 21 = .ok (.iload_n 1, 1) := by decide +kernel
theorem dX7_look_22 : decode cX7_look 22 = .ok (.invokevirtual 207, 3) := by decide +kernel
theorem dX7_look_25 : decode cX7_look 25 = .ok (.ifCond .ne 9, 3) := by decide +kernel
theorem dX7_look_28 : decode cX7_look 28 = .ok (.aload_n 0, 1) := by decide +kernel
theorem dX7_look_29 : decode cX7_look 29 = .ok (.iconst (-1), 1) := by decide +kernel
theorem dX7_look_30 : decode cX7_look 30 = .ok (.invokevirtual 59, 3) := by decide +kernel
theorem dX7_look_33 : decode cX7_look 33 = .ok (.ireturn, 1) := by decide +kernel
theorem dX7_look_34 : decode cX7_look 34 = .ok (.aload_n 0, 1) := by decide +kernel
theorem dX7_look_35 : decode cX7_look 35 = .ok (.getfield 51, 3) := by decide +kernel
theorem dX7_look_38 : decode cX7_look 38 = .ok (.iload_n 1, 1) := by decide +kernel
theorem dX7_look_39 : decode cX7_look 39 = .ok (.invokevirtual 210, 3) := by decide +kernel
theorem dX7_look_42 : decode cX7_look 42 = .ok (.ireturn, 1) := by decide +kernel
theorem dX7_fits_0 : decode cX7_fits 0 = .ok (.iload_n 1, 1) := by decide +kernel
theorem dX7_fits_1 : decode cX7_fits 1 = .ok (.invokestatic 138, 3) := by decide +kernel
theorem dX7_fits_4 : decode cX7_fits 4 = .ok (.ifCond .eq 21, 3) := by decide +kernel
theorem dX7_fits_7 : decode cX7_fits 7 = .ok (.iload_n 2, 1) := by decide +kernel
theorem dX7_fits_8 : decode cX7_fits 8 = .ok (.invokestatic 125, 3) := by decide +kernel
theorem dX7_fits_11 : decode cX7_fits 11 = .ok (.ifCond .eq 14, 3) := by decide +kernel
theorem dX7_fits_14 : decode cX7_fits 14 = .ok (.aload_n 0, 1) := by decide +kernel
theorem dX7_fits_15 : decode cX7_fits 15 = .ok (.getfield 12, 3) := by decide +kernel
theorem dX7_fits_18 : decode cX7_fits 18 = .ok (.iload_n 3, 1) := by decide +kernel
theorem dX7_fits_19 : decode cX7_fits 19 = .ok (.invokevirtual 182, 3) := by decide +kernel
theorem dX7_fits_22 : decode cX7_fits 22 = .ok (.ifCond .ne 9, 3) := by decide +kernel
theorem dX7_fits_25 : decode cX7_fits 25 = .ok (.aload_n 0, 1) := by decide +kernel
theorem dX7_fits_26 : decode cX7_fits 26 = .ok (.iconst (-1), 1) := by decide +kernel
theorem dX7_fits_27 : decode cX7_fits 27 = .ok (.invokevirtual 59, 3) := by decide +kernel
theorem dX7_fits_30 : decode cX7_fits 30 = .ok (.ireturn, 1) := by decide +kernel
theorem dX7_fits_31 : decode cX7_fits 31 = .ok (.aload_n 0, 1) := by decide +kernel
theorem dX7_fits_32 : decode cX7_fits 32 = .ok (.getfield 12, 3) := by decide +kernel
theorem dX7_fits_35 : decode cX7_fits 35 = .ok (.iload 4, 2) := by decide +kernel
theorem dX7_fits_37 : decode cX7_fits 37 = .ok (.invokevirtual 207, 3) := by decide +kernel
theorem dX7_fits_40 : decode cX7_fits 40 = .ok (.ifCond .eq 22, 3) := by decide +kernel
theorem dX7_fits_43 : decode cX7_fits 43 = .ok (.aload_n 0, 1) := by decide +kernel
theorem dX7_fits_44 : decode cX7_fits 44 = .ok (.getfield 12, 3) := by decide +kernel
theorem dX7_fits_47 : decode cX7_fits 47 = .ok (.iload 5, 2) := by decide +kernel
theorem dX7_fits_49 : decode cX7_fits 49 = .ok (.invokevirtual 207, 3) := by decide +kernel
theorem dX7_fits_52 : decode cX7_fits 52 = .ok (.ifCond .eq 10, 3) := by decide +kernel
theorem dX7_fits_55 : decode cX7_fits 55 = .ok (.iload 4, 2) := by decide +kernel
theorem dX7_fits_57 : decode cX7_fits 57 = .ok (.iload 5, 2) := by decide +kernel
theorem dX7_fits_59 : decode cX7_fits 59 = .ok (.if_icmp .le 9, 3) := by decide +kernel
theorem dX7_fits_62 : decode cX7_fits 62 = .ok (.aload_n 0, 1) := by decide +kernel
theorem dX7_fits_63 : decode cX7_fits 63 = .ok (.iconst (-1), 1) := by decide +kernel
theorem dX7_fits_64 : decode cX7_fits 64 = .ok (.invokevirtual 59, 3) := by decide +kernel
theorem dX7_fits_67 : decode cX7_fits 67 = .ok (.ireturn, 1) := by decide +kernel
theorem dX7_fits_68 : decode cX7_fits 68 = .ok (.iload 6, 2) := by decide +kernel
theorem dX7_fits_70 : decode cX7_fits 70 = .ok (.ldc 213, 2) := by decide +kernel
theorem dX7_fits_72 : decode cX7_fits 72 = .ok (.if_icmp .lt 15, 3) := by decide +kernel
theorem dX7_fits_75 : decode cX7_fits 75 = .ok (.iload 7, 2) := by decide +kernel
theorem dX7_fits_77 : decode cX7_fits 77 = .ok (.ldc 213, 2) := by decide +kernel
theorem dX7_fits_79 : decode cX7_fits 79 = .ok (.if_icmp .lt 8, 3) := by decide +kernel
theorem dX7_fits_82 : decode cX7_fits 82 = .ok (.iload 8, 2) := by decide +kernel
theorem dX7_fits_84 : decode cX7_fits 84 = .ok (.ifCond .ge 10, 3) := by decide +kernel
theorem dX7_fits_87 : decode cX7_fits 87 = .ok (.aload_n 0, 1) := by decide +kernel
theorem dX7_fits_88 : decode cX7_fits 88 = .ok (.bipush (-4), 2) := by decide +kernel
theorem dX7_fits_90 : decode cX7_fits 90 = .ok (.invokevirtual 59, 3) := by decide +kernel
theorem dX7_fits_93 : decode cX7_fits 93 = .ok (.ireturn, 1) := by decide +kernel
theorem dX7_fits_94 : decode cX7_fits 94 = .ok (.iload 6, 2) := by decide +kernel
theorem dX7_fits_96 : decode cX7_fits 96 = .ok (.ldc 214, 2) := by decide +kernel
theorem dX7_fits_98 : decode cX7_fits 98 = .ok (.if_icmp .gt 17, 3) := by decide +kernel
theorem dX7_fits_101 : decode cX7_fits 101 = .ok (.iload 7, 2) := by decide +kernel
theorem dX7_fits_103 : decode cX7_fits 103 = .ok (.ldc 214, 2) := by decide +kernel
theorem dX7_fits_105 : decode cX7_fits 105 = .ok (.if_icmp .gt 10, 3) := by decide +kernel
theorem dX7_fits_108 : decode cX7_fits 108 = .ok (.iload 8, 2) := by decide +kernel
theorem dX7_fits_110 : decode cX7_fits 110 = .ok (.bipush 10, 2) := by decide +kernel
theorem dX7_fits_112 : decode cX7_fits 112 = .ok (.if_icmp .le 10, 3) := by decide +kernel
theorem dX7_fits_115 : decode cX7_fits 115 = .ok (.aload_n 0, 1) := by decide +kernel
theorem dX7_fits_116 : decode cX7_fits 116 = .ok (.bipush (-6), 2) := by decide +kernel
theorem dX7_fits_118 : decode cX7_fits 118 = .ok (.invokevirtual 59, 3) := by decide +kernel
theorem dX7_fits_121 : decode cX7_fits 121 = .ok (.ireturn, 1) := by decide +kernel
theorem dX7_fits_122 : decode cX7_fits 122 = .ok (.iload 4, 2) := by decide +kernel
theorem dX7_fits_124 : decode cX7_fits 124 = .ok (.istore 9, 2) := by decide +kernel
theorem dX7_fits_126 : decode cX7_fits 126 = .ok (.iload 9, 2) := by decide +kernel
theorem dX7_fits_128 : decode cX7_fits 128 = .ok (.iload 5, 2) := by decide +kernel
theorem dX7_fits_130 : decode cX7_fits 130 = .ok (.if_icmp .gt 54, 3) := by decide +kernel
theorem dX7_fits_133 : decode cX7_fits 133 = .ok (.aload_n 0, 1) := by decide +kernel
theorem dX7_fits_134 : decode cX7_fits 134 = .ok (.getfield 28, 3) := by decide +kernel
theorem dX7_fits_137 : decode cX7_fits 137 = .ok (.iload_n 1, 1) := by decide +kernel
theorem dX7_fits_138 : decode cX7_fits 138 = .ok (.aload_n 0, 1) := by decide +kernel
theorem dX7_fits_139 : decode cX7_fits 139 = .ok (.getfield 12, 3) := by decide +kernel
theorem dX7_fits_142 : decode cX7_fits 142 = .ok (.iload_n 3, 1) := by decide +kernel
theorem dX7_fits_143 : decode cX7_fits 143 = .ok (.iload 9, 2) := by decide +kernel
theorem dX7_fits_145 : decode cX7_fits 145 = .ok (.invokevirtual 215, 3) := by decide +kernel
theorem dX7_fits_148 : decode cX7_fits 148 = .ok (.iload_n 2, 1) := by decide +kernel
theorem dX7_fits_149 : decode cX7_fits 149 = .ok (.invokevirtual 141, 3) := by decide +kernel
theorem dX7_fits_152 : decode cX7_fits 152 = .ok (.i2l, 1) := by decide +kernel
theorem dX7_fits_153 : decode cX7_fits 153 = .ok (.lstore 10, 2) := by decide +kernel
theorem dX7_fits_155 : decode cX7_fits 155 = .ok (.iload 6, 2) := by decide +kernel
theorem dX7_fits_157 : decode cX7_fits 157 = .ok (.i2l, 1) := by decide +kernel
theorem dX7_fits_158 : decode cX7_fits 158 = .ok (.iload 7, 2) := by decide +kernel
theorem dX7_fits_160 : decode cX7_fits 160 = .ok (.i2l, 1) := by decide +kernel
theorem dX7_fits_161 : decode cX7_fits 161 = .ok (.iload 9, 2) := by decide +kernel
theorem dX7_fits_163 : decode cX7_fits 163 = .ok (.i2l, 1) := by decide +kernel
theorem dX7_fits_164 : decode cX7_fits 164 = .ok (.iload 8, 2) := by decide +kernel
theorem dX7_fits_166 : decode cX7_fits 166 = .ok (.invokestatic 218, 3) := by decide +kernel
theorem dX7_fits_169 : decode cX7_fits 169 = .ok (.lload 10, 2) := by decide +kernel
theorem dX7_fits_171 : decode cX7_fits 171 = .ok (.lcmp, 1) := by decide +kernel
theorem dX7_fits_172 : decode cX7_fits 172 = .ok (.ifCond .eq 6, 3) := by decide +kernel
theorem dX7_fits_175 : decode cX7_fits 175 = .ok (.iload 9, 2) := by decide +kernel
theorem dX7_fits_177 : decode cX7_fits 177 = .ok (.ireturn, 1) := by decide +kernel
theorem dX7_fits_178 : decode cX7_fits 178 = .ok (.iinc 9 1, 3) := by decide +kernel
theorem dX7_fits_181 : decode cX7_fits 181 = .ok (.goto (-55), 3) := by decide +kernel
theorem dX7_fits_184 : decode cX7_fits 184 = .ok (.bipush (-9), 2) := by decide +kernel
theorem dX7_fits_186 : decode cX7_fits 186 = .ok (.ireturn, 1) := by decide +kernel
theorem dX7_status_0 : decode cX7_status 0 = .ok (.iload_n 1, 1) := by decide +kernel
theorem dX7_status_1 : decode cX7_status 1 = .ok (.tableswitch 83 0 4 #[35, 43, 51, 59, 75], 35) := by decide +kernel
theorem dX7_status_36 : decode cX7_status 36 = .ok (.aload_n 0, 1) := by decide +kernel
theorem dX7_status_37 : decode cX7_status 37 = .ok (.getfield 12, 3) := by decide +kernel
theorem dX7_status_40 : decode cX7_status 40 = .ok (.getfield 63, 3) := by decide +kernel
theorem dX7_status_43 : decode cX7_status 43 = .ok (.ireturn, 1) := by decide +kernel
theorem dX7_status_44 : decode cX7_status 44 = .ok (.aload_n 0, 1) := by decide +kernel
theorem dX7_status_45 : decode cX7_status 45 = .ok (.getfield 12, 3) := by decide +kernel
theorem dX7_status_48 : decode cX7_status 48 = .ok (.getfield 67, 3) := by decide +kernel
theorem dX7_status_51 : decode cX7_status 51 = .ok (.ireturn, 1) := by decide +kernel
theorem dX7_status_52 : decode cX7_status 52 = .ok (.aload_n 0, 1) := by decide +kernel
theorem dX7_status_53 : decode cX7_status 53 = .ok (.getfield 12, 3) := by decide +kernel
theorem dX7_status_56 : decode cX7_status 56 = .ok (.getfield 79, 3) := by decide +kernel
theorem dX7_status_59 : decode cX7_status 59 = .ok (.ireturn, 1) := by decide +kernel
theorem dX7_status_60 : decode cX7_status 60 = .ok (.aload_n 0, 1) := by decide +kernel
theorem dX7_status_61 : decode cX7_status 61 = .ok (.getfield 51, 3) := by decide +kernel
theorem dX7_status_64 : decode cX7_status 64 = .ok (.invokevirtual 192, 3) := by decide +kernel
theorem dX7_status_67 : decode cX7_status 67 = .ok (.ifCond .le 7, 3) := by decide +kernel
theorem dX7_status_70 : decode cX7_status 70 = .ok (.iconst 1, 1) := by decide +kernel
theorem dX7_status_71 : decode cX7_status 71 = .ok (.goto 4, 3) := by decide +kernel
theorem dX7_status_74 : decode cX7_status 74 = .ok (.iconst 0, 1) := by decide +kernel
theorem dX7_status_75 : decode cX7_status 75 = .ok (.ireturn, 1) := by decide +kernel
theorem dX7_status_76 : decode cX7_status 76 = .ok (.aload_n 0, 1) := by decide +kernel
theorem dX7_status_77 : decode cX7_status 77 = .ok (.getfield 51, 3) := by decide +kernel
theorem dX7_status_80 : decode cX7_status 80 = .ok (.invokevirtual 192, 3) := by decide +kernel
theorem dX7_status_83 : decode cX7_status 83 = .ok (.ireturn, 1) := by decide +kernel
theorem dX7_status_84 : decode cX7_status 84 = .ok (.iload_n 1, 1) := by decide +kernel
theorem dX7_status_85 : decode cX7_status 85 = .ok (.bipush 11, 2) := by decide +kernel
theorem dX7_status_87 : decode cX7_status 87 = .ok (.if_icmp .lt 23, 3) := by decide +kernel
theorem dX7_status_90 : decode cX7_status 90 = .ok (.iload_n 1, 1) := by decide +kernel
theorem dX7_status_91 : decode cX7_status 91 = .ok (.bipush 16, 2) := by decide +kernel
theorem dX7_status_93 : decode cX7_status 93 = .ok (.if_icmp .gt 17, 3) := by decide +kernel
theorem dX7_status_96 : decode cX7_status 96 = .ok (.aload_n 0, 1) := by decide +kernel
theorem dX7_status_97 : decode cX7_status 97 = .ok (.getfield 55, 3) := by decide +kernel
theorem dX7_status_100 : decode cX7_status 100 = .ok (.iload_n 1, 1) := by decide +kernel
theorem dX7_status_101 : decode cX7_status 101 = .ok (.bipush 10, 2) := by decide +kernel
theorem dX7_status_103 : decode cX7_status 103 = .ok (.isub, 1) := by decide +kernel
theorem dX7_status_104 : decode cX7_status 104 = .ok (.invokestatic 222, 3) := by decide +kernel
theorem dX7_status_107 : decode cX7_status 107 = .ok (.goto 5, 3) := by decide +kernel
theorem dX7_status_110 : decode cX7_status 110 = .ok (.bipush (-9), 2) := by decide +kernel
theorem dX7_status_112 : decode cX7_status 112 = .ok (.ireturn, 1) := by decide +kernel
theorem dX7_refuse_0 : decode cX7_refuse 0 = .ok (.aload_n 0, 1) := by decide +kernel
theorem dX7_refuse_1 : decode cX7_refuse 1 = .ok (.getfield 55, 3) := by decide +kernel
theorem dX7_refuse_4 : decode cX7_refuse 4 = .ok (.iload_n 1, 1) := by decide +kernel
theorem dX7_refuse_5 : decode cX7_refuse 5 = .ok (.ineg, 1) := by decide +kernel
theorem dX7_refuse_6 : decode cX7_refuse 6 = .ok (.invokestatic 228, 3) := by decide +kernel
theorem dX7_refuse_9 : decode cX7_refuse 9 = .ok (.iload_n 1, 1) := by decide +kernel
theorem dX7_refuse_10 : decode cX7_refuse 10 = .ok (.ireturn, 1) := by decide +kernel
theorem dX7_refuseAsTold_0 : decode cX7_refuseAsTold 0 = .ok (.ldc 214, 2) := by decide +kernel
theorem dX7_refuseAsTold_2 : decode cX7_refuseAsTold 2 = .ok (.aload_n 0, 1) := by decide +kernel
theorem dX7_refuseAsTold_3 : decode cX7_refuseAsTold 3 = .ok (.iload_n 1, 1) := by decide +kernel
theorem dX7_refuseAsTold_4 : decode cX7_refuseAsTold 4 = .ok (.invokevirtual 59, 3) := by decide +kernel
theorem dX7_refuseAsTold_7 : decode cX7_refuseAsTold 7 = .ok (.isub, 1) := by decide +kernel
theorem dX7_refuseAsTold_8 : decode cX7_refuseAsTold 8 = .ok (.ireturn, 1) := by decide +kernel
theorem dX7_isFunction_0 : decode cX7_isFunction 0 = .ok (.iload_n 0, 1) := by decide +kernel
theorem dX7_isFunction_1 : decode cX7_isFunction 1 = .ok (.ifCond .lt 12, 3) := by decide +kernel
theorem dX7_isFunction_4 : decode cX7_isFunction 4 = .ok (.iload_n 0, 1) := by decide +kernel
theorem dX7_isFunction_5 : decode cX7_isFunction 5 = .ok (.iconst 5, 1) := by decide +kernel
theorem dX7_isFunction_6 : decode cX7_isFunction 6 = .ok (.if_icmp .ge 7, 3) := by decide +kernel
theorem dX7_isFunction_9 : decode cX7_isFunction 9 = .ok (.iconst 1, 1) := by decide +kernel
theorem dX7_isFunction_10 : decode cX7_isFunction 10 = .ok (.goto 4, 3) := by decide +kernel
theorem dX7_isFunction_13 : decode cX7_isFunction 13 = .ok (.iconst 0, 1) := by decide +kernel
theorem dX7_isFunction_14 : decode cX7_isFunction 14 = .ok (.ireturn, 1) := by decide +kernel
theorem dX7_isRounding_0 : decode cX7_isRounding 0 = .ok (.iload_n 0, 1) := by decide +kernel
theorem dX7_isRounding_1 : decode cX7_isRounding 1 = .ok (.ifCond .lt 12, 3) := by decide +kernel
theorem dX7_isRounding_4 : decode cX7_isRounding 4 = .ok (.iload_n 0, 1) := by decide +kernel
theorem dX7_isRounding_5 : decode cX7_isRounding 5 = .ok (.iconst 5, 1) := by decide +kernel
theorem dX7_isRounding_6 : decode cX7_isRounding 6 = .ok (.if_icmp .ge 7, 3) := by decide +kernel
theorem dX7_isRounding_9 : decode cX7_isRounding 9 = .ok (.iconst 1, 1) := by decide +kernel
theorem dX7_isRounding_10 : decode cX7_isRounding 10 = .ok (.goto 4, 3) := by decide +kernel
theorem dX7_isRounding_13 : decode cX7_isRounding 13 = .ok (.iconst 0, 1) := by decide +kernel
theorem dX7_isRounding_14 : decode cX7_isRounding 14 = .ok (.ireturn, 1) := by decide +kernel
theorem dX8_init_0 : decode cX8_init 0 = .ok (.aload_n 0, 1) := by decide +kernel
theorem dX8_init_1 : decode cX8_init 1 = .ok (.invokespecial 1, 3) := by decide +kernel
theorem dX8_init_4 : decode cX8_init 4 = .ok (.aload_n 0, 1) := by decide +kernel
theorem dX8_init_5 : decode cX8_init 5 = .ok (.bipush 7, 2) := by decide +kernel
theorem dX8_init_7 : decode cX8_init 7 = .ok (.newarray .int, 2) := by decide +kernel
theorem dX8_init_9 : decode cX8_init 9 = .ok (.putfield 7, 3) := by decide +kernel
theorem dX8_init_12 : decode cX8_init 12 = .ok (.aload_n 0, 1) := by decide +kernel
theorem dX8_init_13 : decode cX8_init 13 = .ok (.iconst 5, 1) := by decide +kernel
theorem dX8_init_14 : decode cX8_init 14 = .ok (.newarray .boolean, 2) := by decide +kernel
theorem dX8_init_16 : decode cX8_init 16 = .ok (.putfield 13, 3) := by decide +kernel
theorem dX8_init_19 : decode cX8_init 19 = .ok (.aload_n 0, 1) := by decide +kernel
theorem dX8_init_20 : decode cX8_init 20 = .ok (.ldc 17, 2) := by decide +kernel
theorem dX8_init_22 : decode cX8_init 22 = .ok (.newarray .int, 2) := by decide +kernel
theorem dX8_init_24 : decode cX8_init 24 = .ok (.putfield 18, 3) := by decide +kernel
theorem dX8_init_27 : decode cX8_init 27 = .ok (.aload_n 0, 1) := by decide +kernel
theorem dX8_init_28 : decode cX8_init 28 = .ok (.ldc 17, 2) := by decide +kernel
theorem dX8_init_30 : decode cX8_init 30 = .ok (.newarray .int, 2) := by decide +kernel
theorem dX8_init_32 : decode cX8_init 32 = .ok (.putfield 21, 3) := by decide +kernel
theorem dX8_init_35 : decode cX8_init 35 = .ok (.aload_n 0, 1) := by decide +kernel
theorem dX8_init_36 : decode cX8_init 36 = .ok (.sipush 16384, 3) := by decide +kernel
theorem dX8_init_39 : decode cX8_init 39 = .ok (.newarray .int, 2) := by decide +kernel
theorem dX8_init_41 : decode cX8_init 41 = .ok (.putfield 24, 3) := by decide +kernel
theorem dX8_init_44 : decode cX8_init 44 = .ok (.aload_n 0, 1) := by decide +kernel
theorem dX8_init_45 : decode cX8_init 45 = .ok (.sipush 16384, 3) := by decide +kernel
theorem dX8_init_48 : decode cX8_init 48 = .ok (.newarray .int, 2) := by decide +kernel
theorem dX8_init_50 : decode cX8_init 50 = .ok (.putfield 27, 3) := by decide +kernel
theorem dX8_init_53 : decode cX8_init 53 = .ok (.aload_n 0, 1) := by decide +kernel
theorem dX8_init_54 : decode cX8_init 54 = .ok (.sipush 256, 3) := by decide +kernel
theorem dX8_init_57 : decode cX8_init 57 = .ok (.newarray .int, 2) := by decide +kernel
theorem dX8_init_59 : decode cX8_init 59 = .ok (.putfield 30, 3) := by decide +kernel
theorem dX8_init_62 : decode cX8_init 62 = .ok (.aload_n 0, 1) := by decide +kernel
theorem dX8_init_63 : decode cX8_init 63 = .ok (.sipush 256, 3) := by decide +kernel
theorem dX8_init_66 : decode cX8_init 66 = .ok (.newarray .int, 2) := by decide +kernel
theorem dX8_init_68 : decode cX8_init 68 = .ok (.putfield 33, 3) := by decide +kernel
theorem dX8_init_71 : decode cX8_init 71 = .ok (.aload_n 0, 1) := by decide +kernel
theorem dX8_init_72 : decode cX8_init 72 = .ok (.sipush 256, 3) := by decide +kernel
theorem dX8_init_75 : decode cX8_init 75 = .ok (.newarray .long, 2) := by decide +kernel
theorem dX8_init_77 : decode cX8_init 77 = .ok (.putfield 36, 3) := by decide +kernel
theorem dX8_init_80 : decode cX8_init 80 = .ok (.aload_n 0, 1) := by decide +kernel
theorem dX8_init_81 : decode cX8_init 81 = .ok (.sipush 256, 3) := by decide +kernel
theorem dX8_init_84 : decode cX8_init 84 = .ok (.newarray .long, 2) := by decide +kernel
theorem dX8_init_86 : decode cX8_init 86 = .ok (.putfield 40, 3) := by decide +kernel
theorem dX8_init_89 : decode cX8_init 89 = .ok (.aload_n 0, 1) := by decide +kernel
theorem dX8_init_90 : decode cX8_init 90 = .ok (.sipush 256, 3) := by decide +kernel
theorem dX8_init_93 : decode cX8_init 93 = .ok (.newarray .long, 2) := by decide +kernel
theorem dX8_init_95 : decode cX8_init 95 = .ok (.putfield 43, 3) := by decide +kernel
theorem dX8_init_98 : decode cX8_init 98 = .ok (.aload_n 0, 1) := by decide +kernel
theorem dX8_init_99 : decode cX8_init 99 = .ok (.iconst 3, 1) := by decide +kernel
theorem dX8_init_100 : decode cX8_init 100 = .ok (.iconst 3, 1) := by decide +kernel
theorem dX8_init_101 : decode cX8_init 101 = .ok (.invokevirtual 46, 3) := by decide +kernel
theorem dX8_init_104 : decode cX8_init 104 = .ok (.return_, 1) := by decide +kernel
theorem dX8_refuse_0 : decode cX8_refuse 0 = .ok (.aload_n 0, 1) := by decide +kernel
theorem dX8_refuse_1 : decode cX8_refuse 1 = .ok (.getfield 7, 3) := by decide +kernel
theorem dX8_refuse_4 : decode cX8_refuse 4 = .ok (.iload_n 1, 1) := by decide +kernel
theorem dX8_refuse_5 : decode cX8_refuse 5 = .ok (.ineg, 1) := by decide +kernel
theorem dX8_refuse_6 : decode cX8_refuse 6 = .ok (.dup2, 1) := by decide +kernel
theorem dX8_refuse_7 : decode cX8_refuse 7 = .ok (.iaload, 1) := by decide +kernel
theorem dX8_refuse_8 : decode cX8_refuse 8 = .ok (.iconst 1, 1) := by decide +kernel
theorem dX8_refuse_9 : decode cX8_refuse 9 = .ok (.iadd, 1) := by decide +kernel
theorem dX8_refuse_10 : decode cX8_refuse 10 = .ok (.iastore, 1) := by decide +kernel
theorem dX8_refuse_11 : decode cX8_refuse 11 = .ok (.iload_n 1, 1) := by decide +kernel
theorem dX8_refuse_12 : decode cX8_refuse 12 = .ok (.ireturn, 1) := by decide +kernel
theorem dX8_refuseFar_0 : decode cX8_refuseFar 0 = .ok (.ldc 50, 2) := by decide +kernel
theorem dX8_refuseFar_2 : decode cX8_refuseFar 2 = .ok (.aload_n 0, 1) := by decide +kernel
theorem dX8_refuseFar_3 : decode cX8_refuseFar 3 = .ok (.iload_n 1, 1) := by decide +kernel
theorem dX8_refuseFar_4 : decode cX8_refuseFar 4 = .ok (.invokevirtual 51, 3) := by decide +kernel
theorem dX8_refuseFar_7 : decode cX8_refuseFar 7 = .ok (.isub, 1) := by decide +kernel
theorem dX8_refuseFar_8 : decode cX8_refuseFar 8 = .ok (.ireturn, 1) := by decide +kernel
theorem dX8_isIn_0 : decode cX8_isIn 0 = .ok (.iload_n 0, 1) := by decide +kernel
theorem dX8_isIn_1 : decode cX8_isIn 1 = .ok (.ifCond .lt 12, 3) := by decide +kernel
theorem dX8_isIn_4 : decode cX8_isIn 4 = .ok (.iload_n 0, 1) := by decide +kernel
theorem dX8_isIn_5 : decode cX8_isIn 5 = .ok (.iload_n 1, 1) := by decide +kernel
theorem dX8_isIn_6 : decode cX8_isIn 6 = .ok (.if_icmp .ge 7, 3) := by decide +kernel
theorem dX8_isIn_9 : decode cX8_isIn 9 = .ok (.iconst 1, 1) := by decide +kernel
theorem dX8_isIn_10 : decode cX8_isIn 10 = .ok (.goto 4, 3) := by decide +kernel
theorem dX8_isIn_13 : decode cX8_isIn 13 = .ok (.iconst 0, 1) := by decide +kernel
theorem dX8_isIn_14 : decode cX8_isIn 14 = .ok (.ireturn, 1) := by decide +kernel
theorem dX8_makes_0 : decode cX8_makes 0 = .ok (.aload_n 0, 1) := by decide +kernel
theorem dX8_makes_1 : decode cX8_makes 1 = .ok (.iload_n 1, 1) := by decide +kernel
theorem dX8_makes_2 : decode cX8_makes 2 = .ok (.putfield 55, 3) := by decide +kernel
theorem dX8_makes_5 : decode cX8_makes 5 = .ok (.aload_n 0, 1) := by decide +kernel
theorem dX8_makes_6 : decode cX8_makes 6 = .ok (.iload_n 2, 1) := by decide +kernel
theorem dX8_makes_7 : decode cX8_makes 7 = .ok (.putfield 59, 3) := by decide +kernel
theorem dX8_makes_10 : decode cX8_makes 10 = .ok (.aload_n 0, 1) := by decide +kernel
theorem dX8_makes_11 : decode cX8_makes 11 = .ok (.iconst 1, 1) := by decide +kernel
theorem dX8_makes_12 : decode cX8_makes 12 = .ok (.iconst 1, 1) := by decide +kernel
theorem dX8_makes_13 : decode cX8_makes 13 = .ok (.aload_n 0, 1) := by decide +kernel
theorem dX8_makes_14 : decode cX8_makes 14 = .ok (.getfield 55, 3) := by decide +kernel
theorem dX8_makes_17 : decode cX8_makes 17 = .ok (.iadd, 1) := by decide +kernel
theorem dX8_makes_18 : decode cX8_makes 18 = .ok (.aload_n 0, 1) := by decide +kernel
theorem dX8_makes_19 : decode cX8_makes 19 = .ok (.getfield 59, 3) := by decide +kernel
theorem dX8_makes_22 : decode cX8_makes 22 = .ok (.iadd, 1) := by decide +kernel
theorem dX8_makes_23 : decode cX8_makes 23 = .ok (.ishl, 1) := by decide +kernel
theorem dX8_makes_24 : decode cX8_makes 24 = .ok (.putfield 62, 3) := by decide +kernel
theorem dX8_makes_27 : decode cX8_makes 27 = .ok (.aload_n 0, 1) := by decide +kernel
theorem dX8_makes_28 : decode cX8_makes 28 = .ok (.aload_n 0, 1) := by decide +kernel
theorem dX8_makes_29 : decode cX8_makes 29 = .ok (.getfield 62, 3) := by decide +kernel
theorem dX8_makes_32 : decode cX8_makes 32 = .ok (.iconst 2, 1) := by decide +kernel
theorem dX8_makes_33 : decode cX8_makes 33 = .ok (.idiv, 1) := by decide +kernel
theorem dX8_makes_34 : decode cX8_makes 34 = .ok (.putfield 65, 3) := by decide +kernel
theorem dX8_makes_37 : decode cX8_makes 37 = .ok (.aload_n 0, 1) := by decide +kernel
theorem dX8_makes_38 : decode cX8_makes 38 = .ok (.iconst 1, 1) := by decide +kernel
theorem dX8_makes_39 : decode cX8_makes 39 = .ok (.aload_n 0, 1) := by decide +kernel
theorem dX8_makes_40 : decode cX8_makes 40 = .ok (.getfield 55, 3) := by decide +kernel
theorem dX8_makes_43 : decode cX8_makes 43 = .ok (.ishl, 1) := by decide +kernel
theorem dX8_makes_44 : decode cX8_makes 44 = .ok (.iconst 1, 1) := by decide +kernel
theorem dX8_makes_45 : decode cX8_makes 45 = .ok (.isub, 1) := by decide +kernel
theorem dX8_makes_46 : decode cX8_makes 46 = .ok (.aload_n 0, 1) := by decide +kernel
theorem dX8_makes_47 : decode cX8_makes 47 = .ok (.getfield 59, 3) := by decide +kernel
theorem dX8_makes_50 : decode cX8_makes 50 = .ok (.ishl, 1) := by decide +kernel
theorem dX8_makes_51 : decode cX8_makes 51 = .ok (.iconst 1, 1) := by decide +kernel
theorem dX8_makes_52 : decode cX8_makes 52 = .ok (.isub, 1) := by decide +kernel
theorem dX8_makes_53 : decode cX8_makes 53 = .ok (.putfield 68, 3) := by decide +kernel
theorem dX8_makes_56 : decode cX8_makes 56 = .ok (.aload_n 0, 1) := by decide +kernel
theorem dX8_makes_57 : decode cX8_makes 57 = .ok (.iconst 2, 1) := by decide +kernel
theorem dX8_makes_58 : decode cX8_makes 58 = .ok (.iconst 1, 1) := by decide +kernel
theorem dX8_makes_59 : decode cX8_makes 59 = .ok (.aload_n 0, 1) := by decide +kernel
theorem dX8_makes_60 : decode cX8_makes 60 = .ok (.getfield 55, 3) := by decide +kernel
theorem dX8_makes_63 : decode cX8_makes 63 = .ok (.iconst 1, 1) := by decide +kernel
theorem dX8_makes_64 : decode cX8_makes 64 = .ok (.isub, 1) := by decide +kernel
theorem dX8_makes_65 : decode cX8_makes 65 = .ok (.ishl, 1) := by decide +kernel
theorem dX8_makes_66 : decode cX8_makes 66 = .ok (.isub, 1) := by decide +kernel
theorem dX8_makes_67 : decode cX8_makes 67 = .ok (.aload_n 0, 1) := by decide +kernel
theorem dX8_makes_68 : decode cX8_makes 68 = .ok (.getfield 59, 3) := by decide +kernel
theorem dX8_makes_71 : decode cX8_makes 71 = .ok (.isub, 1) := by decide +kernel
theorem dX8_makes_72 : decode cX8_makes 72 = .ok (.putfield 71, 3) := by decide +kernel
theorem dX8_makes_75 : decode cX8_makes 75 = .ok (.aload_n 0, 1) := by decide +kernel
theorem dX8_makes_76 : decode cX8_makes 76 = .ok (.iconst (-1), 1) := by decide +kernel
theorem dX8_makes_77 : decode cX8_makes 77 = .ok (.putfield 74, 3) := by decide +kernel
theorem dX8_makes_80 : decode cX8_makes 80 = .ok (.aload_n 0, 1) := by decide +kernel
theorem dX8_makes_81 : decode cX8_makes 81 = .ok (.iconst (-1), 1) := by decide +kernel
theorem dX8_makes_82 : decode cX8_makes 82 = .ok (.putfield 77, 3) := by decide +kernel
theorem dX8_makes_85 : decode cX8_makes 85 = .ok (.iconst 0, 1) := by decide +kernel
theorem dX8_makes_86 : decode cX8_makes 86 = .ok (.istore_n 3, 1) := by decide +kernel
theorem dX8_makes_87 : decode cX8_makes 87 = .ok (.iload_n 3, 1) := by decide +kernel
theorem dX8_makes_88 : decode cX8_makes 88 = .ok (.iconst 5, 1) := by decide +kernel
theorem dX8_makes_89 : decode cX8_makes 89 = .ok (.if_icmp .ge 16, 3) := by decide +kernel
theorem dX8_makes_92 : decode cX8_makes 92 = .ok (.aload_n 0, 1) := by decide +kernel
theorem dX8_makes_93 : decode cX8_makes 93 = .ok (.getfield 13, 3) := by decide +kernel
theorem dX8_makes_96 : decode cX8_makes 96 = .ok (.iload_n 3, 1) := by decide +kernel
theorem dX8_makes_97 : decode cX8_makes 97 = .ok (.iconst 0, 1) := by decide +kernel
theorem dX8_makes_98 : decode cX8_makes 98 = .ok (.bastore, 1) := by decide +kernel
theorem dX8_makes_99 : decode cX8_makes 99 = .ok (.iinc 3 1, 3) := by decide +kernel
theorem dX8_makes_102 : decode cX8_makes 102 = .ok (.goto (-15), 3) := by decide +kernel
theorem dX8_makes_105 : decode cX8_makes 105 = .ok (.return_, 1) := by decide +kernel
theorem dX8_make_0 : decode cX8_make 0 = .ok (.iload_n 1, 1) := by decide +kernel
theorem dX8_make_1 : decode cX8_make 1 = .ok (.iconst 2, 1) := by decide +kernel
theorem dX8_make_2 : decode cX8_make 2 = .ok (.if_icmp .lt 8, 3) := by decide +kernel
theorem dX8_make_5 : decode cX8_make 5 = .ok (.iload_n 2, 1) := by decide +kernel
theorem dX8_make_6 : decode cX8_make 6 = .ok (.iconst 1, 1) := by decide +kernel
theorem dX8_make_7 : decode cX8_make 7 = .ok (.if_icmp .ge 10, 3) := by decide +kernel
theorem dX8_make_10 : decode cX8_make 10 = .ok (.aload_n 0, 1) := by decide +kernel
theorem dX8_make_11 : decode cX8_make 11 = .ok (.bipush (-4), 2) := by decide +kernel
theorem dX8_make_13 : decode cX8_make 13 = .ok (.invokevirtual 51, 3) := by decide +kernel
theorem dX8_make_16 : decode cX8_make 16 = .ok (.ireturn, 1) := by decide +kernel
theorem dX8_make_17 : decode cX8_make 17 = .ok (.iload_n 1, 1) := by decide +kernel
theorem dX8_make_18 : decode cX8_make 18 = .ok (.iconst 5, 1) := by decide +kernel
theorem dX8_make_19 : decode cX8_make 19 = .ok (.if_icmp .gt 9, 3) := by decide +kernel
theorem dX8_make_22 : decode cX8_make 22 = .ok (.iload_n 2, 1) := by decide +kernel
theorem dX8_make_23 : decode cX8_make 23 = .ok (.bipush 8, 2) := by decide +kernel
theorem dX8_make_25 : decode cX8_make 25 = .ok (.if_icmp .le 10, 3) := by decide +kernel
theorem dX8_make_28 : decode cX8_make 28 = .ok (.aload_n 0, 1) := by decide +kernel
theorem dX8_make_29 : decode cX8_make 29 = .ok (.bipush (-6), 2) := by decide +kernel
theorem dX8_make_31 : decode cX8_make 31 = .ok (.invokevirtual 51, 3) := by decide +kernel
theorem dX8_make_34 : decode cX8_make 34 = .ok (.ireturn, 1) := by decide +kernel
theorem dX8_make_35 : decode cX8_make 35 = .ok (.aload_n 0, 1) := by decide +kernel
theorem dX8_make_36 : decode cX8_make 36 = .ok (.iload_n 1, 1) := by decide +kernel
theorem dX8_make_37 : decode cX8_make 37 = .ok (.iload_n 2, 1) := by decide +kernel
theorem dX8_make_38 : decode cX8_make 38 = .ok (.invokevirtual 46, 3) := by decide +kernel
theorem dX8_make_41 : decode cX8_make 41 = .ok (.aload_n 0, 1) := by decide +kernel
theorem dX8_make_42 : decode cX8_make 42 = .ok (.getfield 62, 3) := by decide +kernel
theorem dX8_make_45 : decode cX8_make 45 = .ok (.ireturn, 1) := by decide +kernel
theorem dX8_isCode_0 : decode cX8_isCode 0 = .ok (.iload_n 1, 1) := by decide +kernel
theorem dX8_isCode_1 : decode cX8_isCode 1 = .ok (.aload_n 0, 1) := by decide +kernel
theorem dX8_isCode_2 : decode cX8_isCode 2 = .ok (.getfield 62, 3) := by decide +kernel
theorem dX8_isCode_5 : decode cX8_isCode 5 = .ok (.invokestatic 80, 3) := by decide +kernel
theorem dX8_isCode_8 : decode cX8_isCode 8 = .ok (.ireturn, 1) := by decide +kernel
theorem dX8_size_0 : decode cX8_size 0 = .ok (.iload_n 1, 1) := by decide +kernel
theorem dX8_size_1 : decode cX8_size 1 = .ok (.aload_n 0, 1) := by decide +kernel
theorem dX8_size_2 : decode cX8_size 2 = .ok (.getfield 65, 3) := by decide +kernel
theorem dX8_size_5 : decode cX8_size 5 = .ok (.iconst 1, 1) := by decide +kernel
theorem dX8_size_6 : decode cX8_size 6 = .ok (.isub, 1) := by decide +kernel
theorem dX8_size_7 : decode cX8_size 7 = .ok (.iand, 1) := by decide +kernel
theorem dX8_size_8 : decode cX8_size 8 = .ok (.ireturn, 1) := by decide +kernel
theorem dX8_isPlain_0 : decode cX8_isPlain 0 = .ok (.aload_n 0, 1) := by decide +kernel
theorem dX8_isPlain_1 : decode cX8_isPlain 1 = .ok (.iload_n 1, 1) := by decide +kernel
theorem dX8_isPlain_2 : decode cX8_isPlain 2 = .ok (.invokevirtual 84, 3) := by decide +kernel
theorem dX8_isPlain_5 : decode cX8_isPlain 5 = .ok (.aload_n 0, 1) := by decide +kernel
theorem dX8_isPlain_6 : decode cX8_isPlain 6 = .ok (.getfield 68, 3) := by decide +kernel
theorem dX8_isPlain_9 : decode cX8_isPlain 9 = .ok (.if_icmp .gt 7, 3) := by decide +kernel
theorem dX8_isPlain_12 : decode cX8_isPlain 12 = .ok (.iconst 1, 1) := by decide +kernel
theorem dX8_isPlain_13 : decode cX8_isPlain 13 = .ok (.goto 4, 3) := by decide +kernel
theorem dX8_isPlain_16 : decode cX8_isPlain 16 = .ok (.iconst 0, 1) := by decide +kernel
theorem dX8_isPlain_17 : decode cX8_isPlain 17 = .ok (.ireturn, 1) := by decide +kernel
theorem dX8_figure_0 : decode cX8_figure 0 = .ok (.iload_n 1, 1) := by decide +kernel
theorem dX8_figure_1 : decode cX8_figure 1 = .ok (.aload_n 0, 1) := by decide +kernel
theorem dX8_figure_2 : decode cX8_figure 2 = .ok (.getfield 59, 3) := by decide +kernel
theorem dX8_figure_5 : decode cX8_figure 5 = .ok (.ishr, 1) := by decide +kernel
theorem dX8_figure_6 : decode cX8_figure 6 = .ok (.ifCond .ne 7, 3) := by decide +kernel
theorem dX8_figure_9 : decode cX8_figure 9 = .ok (.iload_n 1, 1) := by decide +kernel
theorem dX8_figure_10 : decode cX8_figure 10 = .ok (.goto 20, 3) := by decide +kernel
theorem dX8_figure_13 : decode cX8_figure 13 = .ok (.iconst 1, 1) := by decide +kernel
theorem dX8_figure_14 : decode cX8_figure 14 = .ok (.aload_n 0, 1) := by decide +kernel
theorem dX8_figure_15 : decode cX8_figure 15 = .ok (.getfield 59, 3) := by decide +kernel
theorem dX8_figure_18 : decode cX8_figure 18 = .ok (.ishl, 1) := by decide +kernel
theorem dX8_figure_19 : decode cX8_figure 19 = .ok (.iload_n 1, 1) := by decide +kernel
theorem dX8_figure_20 : decode cX8_figure 20 = .ok (.iconst 1, 1) := by decide +kernel
theorem dX8_figure_21 : decode cX8_figure 21 = .ok (.aload_n 0, 1) := by decide +kernel
theorem dX8_figure_22 : decode cX8_figure 22 = .ok (.getfield 59, 3) := by decide +kernel
theorem dX8_figure_25 : decode cX8_figure 25 = .ok (.ishl, 1) := by decide +kernel
theorem dX8_figure_26 : decode cX8_figure 26 = .ok (.iconst 1, 1) := by decide +kernel
theorem dX8_figure_27 : decode cX8_figure 27 = .ok (.isub, 1) := by decide +kernel
theorem dX8_figure_28 : decode cX8_figure 28 = .ok (.iand, 1) := by decide +kernel
theorem dX8_figure_29 : decode cX8_figure 29 = .ok (.iadd, 1) := by decide +kernel
theorem dX8_figure_30 : decode cX8_figure 30 = .ok (.ireturn, 1) := by decide +kernel
theorem dX8_power_0 : decode cX8_power 0 = .ok (.aload_n 0, 1) := by decide +kernel
theorem dX8_power_1 : decode cX8_power 1 = .ok (.getfield 71, 3) := by decide +kernel
theorem dX8_power_4 : decode cX8_power 4 = .ok (.iload_n 1, 1) := by decide +kernel
theorem dX8_power_5 : decode cX8_power 5 = .ok (.aload_n 0, 1) := by decide +kernel
theorem dX8_power_6 : decode cX8_power 6 = .ok (.getfield 59, 3) := by decide +kernel
theorem dX8_power_9 : decode cX8_power 9 = .ok (.ishr, 1) := by decide +kernel
theorem dX8_power_10 : decode cX8_power 10 = .ok (.ifCond .ne 7, 3) := by decide +kernel
theorem dX8_power_13 : decode cX8_power 13 = .ok (.iconst 0, 1) := by decide +kernel
theorem dX8_power_14 : decode cX8_power 14 = .ok (.goto 11, 3) := by decide +kernel
theorem dX8_power_17 : decode cX8_power 17 = .ok (.iload_n 1, 1) := by decide +kernel
theorem dX8_power_18 : decode cX8_power 18 = .ok (.aload_n 0, 1) := by decide +kernel
theorem dX8_power_19 : decode cX8_power 19 = .ok (.getfield 59, 3) := by decide +kernel
theorem dX8_power_22 : decode cX8_power 22 = .ok (.ishr, 1) := by decide +kernel
theorem dX8_power_23 : decode cX8_power 23 = .ok (.iconst 1, 1) := by decide +kernel
theorem dX8_power_24 : decode cX8_power 24 = .ok (.isub, 1) := by decide +kernel
theorem dX8_power_25 : decode cX8_power 25 = .ok (.iadd, 1) := by decide +kernel
theorem dX8_power_26 : decode cX8_power 26 = .ok (.ireturn, 1) := by decide +kernel
theorem dX8_kind_0 : decode cX8_kind 0 = .ok (.aload_n 0, 1) := by decide +kernel
theorem dX8_kind_1 : decode cX8_kind 1 = .ok (.iload_n 1, 1) := by decide +kernel
theorem dX8_kind_2 : decode cX8_kind 2 = .ok (.invokevirtual 84, 3) := by decide +kernel
theorem dX8_kind_5 : decode cX8_kind 5 = .ok (.istore_n 2, 1) := by decide +kernel
theorem dX8_kind_6 : decode cX8_kind 6 = .ok (.iload_n 2, 1) := by decide +kernel
theorem dX8_kind_7 : decode cX8_kind 7 = .ok (.ifCond .ne 7, 3) := by decide +kernel
theorem dX8_kind_10 : decode cX8_kind 10 = .ok (.iconst 1, 1) := by decide +kernel
