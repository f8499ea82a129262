theorem dX8_kind_11 : decode cX8_kind 11 = .ok (.goto 30, 3) := by decide +kernel
theorem dX8_kind_14 : decode cX8_kind 14 = .ok (.iload_n 2, 1) := by decide +kernel
theorem dX8_kind_15 : decode cX8_kind 15 = .ok (.aload_n 0, 1) := by decide +kernel
theorem dX8_kind_16 : decode cX8_kind 16 = .ok (.getfield 68, 3) := by decide +kernel
theorem dX8_kind_19 : decode cX8_kind 19 = .ok (.if_icmp .gt 7, 3) := by decide +kernel
theorem dX8_kind_22 : decode cX8_kind 22 = .ok (.iconst 0, 1) := by decide +kernel
theorem dX8_kind_23 : decode cX8_kind 23 = .ok (.goto 18, 3) := by decide +kernel
theorem dX8_kind_26 : decode cX8_kind 26 = .ok (.iload_n 2, 1) := by decide +kernel
theorem dX8_kind_27 : decode cX8_kind 27 = .ok (.aload_n 0, 1) := by decide +kernel
theorem dX8_kind_28 : decode cX8_kind 28 = .ok (.getfield 68, 3) := by decide +kernel
theorem dX8_kind_31 : decode cX8_kind 31 = .ok (.iconst 1, 1) := by decide +kernel
theorem dX8_kind_32 : decode cX8_kind 32 = .ok (.iadd, 1) := by decide +kernel
theorem dX8_kind_33 : decode cX8_kind 33 = .ok (.if_icmp .ne 7, 3) := by decide +kernel
theorem dX8_kind_36 : decode cX8_kind 36 = .ok (.iconst 2, 1) := by decide +kernel
theorem dX8_kind_37 : decode cX8_kind 37 = .ok (.goto 4, 3) := by decide +kernel
theorem dX8_kind_40 : decode cX8_kind 40 = .ok (.iconst 3, 1) := by decide +kernel
theorem dX8_kind_41 : decode cX8_kind 41 = .ok (.ireturn, 1) := by decide +kernel
theorem dX8_about_0 : decode cX8_about 0 = .ok (.aload_n 0, 1) := by decide +kernel
theorem dX8_about_1 : decode cX8_about 1 = .ok (.iload_n 1, 1) := by decide +kernel
theorem dX8_about_2 : decode cX8_about 2 = .ok (.invokevirtual 87, 3) := by decide +kernel
theorem dX8_about_5 : decode cX8_about 5 = .ok (.ifCond .ne 9, 3) := by decide +kernel
theorem dX8_about_8 : decode cX8_about 8 = .ok (.aload_n 0, 1) := by decide +kernel
theorem dX8_about_9 : decode cX8_about 9 = .ok (.iconst (-1), 1) := by decide +kernel
theorem dX8_about_10 : decode cX8_about 10 = .ok (.invokevirtual 91, 3) := by decide +kernel
theorem dX8_about_13 : decode cX8_about 13 = .ok (.ireturn, 1) := by decide +kernel
theorem dX8_about_14 : decode cX8_about 14 = .ok (.iload_n 2, 1) := by decide +kernel
theorem dX8_about_15 : decode cX8_about 15 = .ok (.bipush 6, 2) := by decide +kernel
theorem dX8_about_17 : decode cX8_about 17 = .ok (.invokestatic 80, 3) := by decide +kernel
theorem dX8_about_20 : decode cX8_about 20 = .ok (.ifCond .ne 10, 3) := by decide +kernel
theorem dX8_about_23 : decode cX8_about 23 = .ok (.aload_n 0, 1) := by decide +kernel
theorem dX8_about_24 : decode cX8_about 24 = .ok (.bipush (-2), 2) := by decide +kernel
theorem dX8_about_26 : decode cX8_about 26 = .ok (.invokevirtual 91, 3) := by decide +kernel
theorem dX8_about_29 : decode cX8_about 29 = .ok (.ireturn, 1) := by decide +kernel
theorem dX8_about_30 : decode cX8_about 30 = .ok (.aload_n 0, 1) := by decide +kernel
theorem dX8_about_31 : decode cX8_about 31 = .ok (.iload_n 1, 1) := by decide +kernel
theorem dX8_about_32 : decode cX8_about 32 = .ok (.invokevirtual 84, 3) := by decide +kernel
theorem dX8_about_35 : decode cX8_about 35 = .ok (.istore_n 3, 1) := by decide +kernel
theorem dX8_about_36 : decode cX8_about 36 = .ok (.iload_n 2, 1) := by decide +kernel
theorem dX8_about_37 : decode cX8_about 37 = .ok (.tableswitch 62 0 3 #[31, 37, 44, 51], 31) := by decide +kernel
theorem dX8_about_68 : decode cX8_about 68 = .ok (.aload_n 0, 1) := by decide +kernel
theorem dX8_about_69 : decode cX8_about 69 = .ok (.iload_n 1, 1) := by decide +kernel
theorem dX8_about_70 : decode cX8_about 70 = .ok (.invokevirtual 94, 3) := by decide +kernel
theorem dX8_about_73 : decode cX8_about 73 = .ok (.ireturn, 1) := by decide +kernel
theorem dX8_about_74 : decode cX8_about 74 = .ok (.iload_n 1, 1) := by decide +kernel
theorem dX8_about_75 : decode cX8_about 75 = .ok (.aload_n 0, 1) := by decide +kernel
theorem dX8_about_76 : decode cX8_about 76 = .ok (.getfield 65, 3) := by decide +kernel
theorem dX8_about_79 : decode cX8_about 79 = .ok (.idiv, 1) := by decide +kernel
theorem dX8_about_80 : decode cX8_about 80 = .ok (.ireturn, 1) := by decide +kernel
theorem dX8_about_81 : decode cX8_about 81 = .ok (.iload_n 3, 1) := by decide +kernel
theorem dX8_about_82 : decode cX8_about 82 = .ok (.aload_n 0, 1) := by decide +kernel
theorem dX8_about_83 : decode cX8_about 83 = .ok (.getfield 59, 3) := by decide +kernel
theorem dX8_about_86 : decode cX8_about 86 = .ok (.ishr, 1) := by decide +kernel
theorem dX8_about_87 : decode cX8_about 87 = .ok (.ireturn, 1) := by decide +kernel
theorem dX8_about_88 : decode cX8_about 88 = .ok (.iload_n 3, 1) := by decide +kernel
theorem dX8_about_89 : decode cX8_about 89 = .ok (.iconst 1, 1) := by decide +kernel
theorem dX8_about_90 : decode cX8_about 90 = .ok (.aload_n 0, 1) := by decide +kernel
theorem dX8_about_91 : decode cX8_about 91 = .ok (.getfield 59, 3) := by decide +kernel
theorem dX8_about_94 : decode cX8_about 94 = .ok (.ishl, 1) := by decide +kernel
theorem dX8_about_95 : decode cX8_about 95 = .ok (.iconst 1, 1) := by decide +kernel
theorem dX8_about_96 : decode cX8_about 96 = .ok (.isub, 1) := by decide +kernel
theorem dX8_about_97 : decode cX8_about 97 = .ok (.iand, 1) := by decide +kernel
theorem dX8_about_98 : decode cX8_about 98 = .ok (.ireturn, 1) := by decide +kernel
theorem dX8_about_99 : decode cX8_about 99 = .ok (.aload_n 0, 1) := by decide +kernel
theorem dX8_about_100 : decode cX8_about 100 = .ok (.iload_n 1, 1) := by decide +kernel
theorem dX8_about_101 : decode cX8_about 101 = .ok (.invokevirtual 97, 3) := by decide +kernel
theorem dX8_about_104 : decode cX8_about 104 = .ok (.ifCond .ne 10, 3) := by decide +kernel
theorem dX8_about_107 : decode cX8_about 107 = .ok (.aload_n 0, 1) := by decide +kernel
theorem dX8_about_108 : decode cX8_about 108 = .ok (.bipush (-3), 2) := by decide +kernel
theorem dX8_about_110 : decode cX8_about 110 = .ok (.invokevirtual 91, 3) := by decide +kernel
theorem dX8_about_113 : decode cX8_about 113 = .ok (.ireturn, 1) := by decide +kernel
theorem dX8_about_114 : decode cX8_about 114 = .ok (.aload_n 0, 1) := by decide +kernel
theorem dX8_about_115 : decode cX8_about 115 = .ok (.iload_n 3, 1) := by decide +kernel
theorem dX8_about_116 : decode cX8_about 116 = .ok (.invokevirtual 100, 3) := by decide +kernel
theorem dX8_about_119 : decode cX8_about 119 = .ok (.istore 4, 2) := by decide +kernel
theorem dX8_about_121 : decode cX8_about 121 = .ok (.aload_n 0, 1) := by decide +kernel
theorem dX8_about_122 : decode cX8_about 122 = .ok (.iload_n 3, 1) := by decide +kernel
theorem dX8_about_123 : decode cX8_about 123 = .ok (.invokevirtual 103, 3) := by decide +kernel
theorem dX8_about_126 : decode cX8_about 126 = .ok (.istore 5, 2) := by decide +kernel
theorem dX8_about_128 : decode cX8_about 128 = .ok (.iload 4, 2) := by decide +kernel
theorem dX8_about_130 : decode cX8_about 130 = .ok (.ifCond .le 22, 3) := by decide +kernel
theorem dX8_about_133 : decode cX8_about 133 = .ok (.iload 4, 2) := by decide +kernel
theorem dX8_about_135 : decode cX8_about 135 = .ok (.iconst 2, 1) := by decide +kernel
theorem dX8_about_136 : decode cX8_about 136 = .ok (.irem, 1) := by decide +kernel
theorem dX8_about_137 : decode cX8_about 137 = .ok (.ifCond .ne 15, 3) := by decide +kernel
theorem dX8_about_140 : decode cX8_about 140 = .ok (.iload 4, 2) := by decide +kernel
theorem dX8_about_142 : decode cX8_about 142 = .ok (.iconst 2, 1) := by decide +kernel
theorem dX8_about_143 : decode cX8_about 143 = .ok (.idiv, 1) := by decide +kernel
theorem dX8_about_144 : decode cX8_about 144 = .ok (.istore 4, 2) := by decide +kernel
theorem dX8_about_146 : decode cX8_about 146 = .ok (.iinc 5 1, 3) := by decide +kernel
theorem dX8_about_149 : decode cX8_about 149 = .ok (.goto (-21), 3) := by decide +kernel
theorem dX8_about_152 : decode cX8_about 152 = .ok (.iload_n 2, 1) := by decide +kernel
theorem dX8_about_153 : decode cX8_about 153 = .ok (.iconst 4, 1) := by decide +kernel
theorem dX8_about_154 : decode cX8_about 154 = .ok (.if_icmp .ne 8, 3) := by decide +kernel
theorem dX8_about_157 : decode cX8_about 157 = .ok (.iload 4, 2) := by decide +kernel
theorem dX8_about_159 : decode cX8_about 159 = .ok (.goto 14, 3) := by decide +kernel
theorem dX8_about_162 : decode cX8_about 162 = .ok (.iload 4, 2) := by decide +kernel
theorem dX8_about_164 : decode cX8_about 164 = .ok (.ifCond .ne 7, 3) := by decide +kernel
theorem dX8_about_167 : decode cX8_about 167 = .ok (.iconst 0, 1) := by decide +kernel
theorem dX8_about_168 : decode cX8_about 168 = .ok (.goto 5, 3) := by decide +kernel
theorem dX8_about_171 : decode cX8_about 171 = .ok (.iload 5, 2) := by decide +kernel
theorem dX8_about_173 : decode cX8_about 173 = .ok (.ireturn, 1) := by decide +kernel
theorem dX8_next_0 : decode cX8_next 0 = .ok (.aload_n 0, 1) := by decide +kernel
theorem dX8_next_1 : decode cX8_next 1 = .ok (.iload_n 1, 1) := by decide +kernel
theorem dX8_next_2 : decode cX8_next 2 = .ok (.invokevirtual 87, 3) := by decide +kernel
theorem dX8_next_5 : decode cX8_next 5 = .ok (.ifCond .ne 9, 3) := by decide +kernel
theorem dX8_next_8 : decode cX8_next 8 = .ok (.aload_n 0, 1) := by decide +kernel
theorem dX8_next_9 : decode cX8_next 9 = .ok (.iconst (-1), 1) := by decide +kernel
theorem dX8_next_10 : decode cX8_next 10 = .ok (.invokevirtual 51, 3) := by decide +kernel
theorem dX8_next_13 : decode cX8_next 13 = .ok (.ireturn, 1) := by decide +kernel
theorem dX8_next_14 : decode cX8_next 14 = .ok (.aload_n 0, 1) := by decide +kernel
theorem dX8_next_15 : decode cX8_next 15 = .ok (.iload_n 1, 1) := by decide +kernel
theorem dX8_next_16 : decode cX8_next 16 = .ok (.invokevirtual 97, 3) := by decide +kernel
theorem dX8_next_19 : decode cX8_next 19 = .ok (.ifCond .ne 10, 3) := by decide +kernel
theorem dX8_next_22 : decode cX8_next 22 = .ok (.aload_n 0, 1) := by decide +kernel
theorem dX8_next_23 : decode cX8_next 23 = .ok (.bipush (-3), 2) := by decide +kernel
theorem dX8_next_25 : decode cX8_next 25 = .ok (.invokevirtual 51, 3) := by decide +kernel
theorem dX8_next_28 : decode cX8_next 28 = .ok (.ireturn, 1) := by decide +kernel
theorem dX8_next_29 : decode cX8_next 29 = .ok (.aload_n 0, 1) := by decide +kernel
theorem dX8_next_30 : decode cX8_next 30 = .ok (.iload_n 1, 1) := by decide +kernel
theorem dX8_next_31 : decode cX8_next 31 = .ok (.invokevirtual 84, 3) := by decide +kernel
theorem dX8_next_34 : decode cX8_next 34 = .ok (.istore_n 2, 1) := by decide +kernel
theorem dX8_next_35 : decode cX8_next 35 = .ok (.iload_n 2, 1) := by decide +kernel
theorem dX8_next_36 : decode cX8_next 36 = .ok (.ifCond .ne 5, 3) := by decide +kernel
theorem dX8_next_39 : decode cX8_next 39 = .ok (.iconst 1, 1) := by decide +kernel
theorem dX8_next_40 : decode cX8_next 40 = .ok (.ireturn, 1) := by decide +kernel
theorem dX8_next_41 : decode cX8_next 41 = .ok (.iload_n 1, 1) := by decide +kernel
theorem dX8_next_42 : decode cX8_next 42 = .ok (.aload_n 0, 1) := by decide +kernel
theorem dX8_next_43 : decode cX8_next 43 = .ok (.getfield 65, 3) := by decide +kernel
theorem dX8_next_46 : decode cX8_next 46 = .ok (.if_icmp .ge 7, 3) := by decide +kernel
theorem dX8_next_49 : decode cX8_next 49 = .ok (.iload_n 1, 1) := by decide +kernel
theorem dX8_next_50 : decode cX8_next 50 = .ok (.iconst 1, 1) := by decide +kernel
theorem dX8_next_51 : decode cX8_next 51 = .ok (.iadd, 1) := by decide +kernel
theorem dX8_next_52 : decode cX8_next 52 = .ok (.ireturn, 1) := by decide +kernel
theorem dX8_next_53 : decode cX8_next 53 = .ok (.iload_n 2, 1) := by decide +kernel
theorem dX8_next_54 : decode cX8_next 54 = .ok (.iconst 1, 1) := by decide +kernel
theorem dX8_next_55 : decode cX8_next 55 = .ok (.if_icmp .ne 7, 3) := by decide +kernel
theorem dX8_next_58 : decode cX8_next 58 = .ok (.iconst 0, 1) := by decide +kernel
theorem dX8_next_59 : decode cX8_next 59 = .ok (.goto 6, 3) := by decide +kernel
theorem dX8_next_62 : decode cX8_next 62 = .ok (.iload_n 1, 1) := by decide +kernel
theorem dX8_next_63 : decode cX8_next 63 = .ok (.iconst 1, 1) := by decide +kernel
theorem dX8_next_64 : decode cX8_next 64 = .ok (.isub, 1) := by decide +kernel
theorem dX8_next_65 : decode cX8_next 65 = .ok (.ireturn, 1) := by decide +kernel
theorem dX8_placeOf_0 : decode cX8_placeOf 0 = .ok (.iload_n 1, 1) := by decide +kernel
theorem dX8_placeOf_1 : decode cX8_placeOf 1 = .ok (.aload_n 0, 1) := by decide +kernel
theorem dX8_placeOf_2 : decode cX8_placeOf 2 = .ok (.getfield 65, 3) := by decide +kernel
theorem dX8_placeOf_5 : decode cX8_placeOf 5 = .ok (.if_icmp .ge 7, 3) := by decide +kernel
theorem dX8_placeOf_8 : decode cX8_placeOf 8 = .ok (.iload_n 1, 1) := by decide +kernel
theorem dX8_placeOf_9 : decode cX8_placeOf 9 = .ok (.goto 9, 3) := by decide +kernel
theorem dX8_placeOf_12 : decode cX8_placeOf 12 = .ok (.aload_n 0, 1) := by decide +kernel
theorem dX8_placeOf_13 : decode cX8_placeOf 13 = .ok (.iload_n 1, 1) := by decide +kernel
theorem dX8_placeOf_14 : decode cX8_placeOf 14 = .ok (.invokevirtual 84, 3) := by decide +kernel
theorem dX8_placeOf_17 : decode cX8_placeOf 17 = .ok (.ineg, 1) := by decide +kernel
theorem dX8_placeOf_18 : decode cX8_placeOf 18 = .ok (.ireturn, 1) := by decide +kernel
theorem dX8_between_0 : decode cX8_between 0 = .ok (.aload_n 0, 1) := by decide +kernel
theorem dX8_between_1 : decode cX8_between 1 = .ok (.iload_n 1, 1) := by decide +kernel
theorem dX8_between_2 : decode cX8_between 2 = .ok (.invokevirtual 87, 3) := by decide +kernel
theorem dX8_between_5 : decode cX8_between 5 = .ok (.ifCond .eq 11, 3) := by decide +kernel
theorem dX8_between_8 : decode cX8_between 8 = .ok (.aload_n 0, 1) := by decide +kernel
theorem dX8_between_9 : decode cX8_between 9 = .ok (.iload_n 2, 1) := by decide +kernel
theorem dX8_between_10 : decode cX8_between 10 = .ok (.invokevirtual 87, 3) := by decide +kernel
theorem dX8_between_13 : decode cX8_between 13 = .ok (.ifCond .ne 9, 3) := by decide +kernel
theorem dX8_between_16 : decode cX8_between 16 = .ok (.aload_n 0, 1) := by decide +kernel
theorem dX8_between_17 : decode cX8_between 17 = .ok (.iconst (-1), 1) := by decide +kernel
theorem dX8_between_18 : decode cX8_between 18 = .ok (.invokevirtual 51, 3) := by decide +kernel
theorem dX8_between_21 : decode cX8_between 21 = .ok (.ireturn, 1) := by decide +kernel
theorem dX8_between_22 : decode cX8_between 22 = .ok (.aload_n 0, 1) := by decide +kernel
theorem dX8_between_23 : decode cX8_between 23 = .ok (.iload_n 1, 1) := by decide +kernel
theorem dX8_between_24 : decode cX8_between 24 = .ok (.invokevirtual 97, 3) := by decide +kernel
theorem dX8_between_27 : decode cX8_between 27 = .ok (.ifCond .eq 11, 3) := by decide +kernel
theorem dX8_between_30 : decode cX8_between 30 = .ok (.aload_n 0, 1) := by decide +kernel
theorem dX8_between_31 : decode cX8_between 31 = .ok (.iload_n 2, 1) := by decide +kernel
theorem dX8_between_32 : decode cX8_between 32 = .ok (.invokevirtual 97, 3) := by decide +kernel
theorem dX8_between_35 : decode cX8_between 35 = .ok (.ifCond .ne 10, 3) := by decide +kernel
theorem dX8_between_38 : decode cX8_between 38 = .ok (.aload_n 0, 1) := by decide +kernel
theorem dX8_between_39 : decode cX8_between 39 = .ok (.bipush (-3), 2) := by decide +kernel
theorem dX8_between_41 : decode cX8_between 41 = .ok (.invokevirtual 51, 3) := by decide +kernel
theorem dX8_between_44 : decode cX8_between 44 = .ok (.ireturn, 1) := by decide +kernel
theorem dX8_between_45 : decode cX8_between 45 = .ok (.aload_n 0, 1) := by decide +kernel
theorem dX8_between_46 : decode cX8_between 46 = .ok (.iload_n 1, 1) := by decide +kernel
theorem dX8_between_47 : decode cX8_between 47 = .ok (.invokevirtual 106, 3) := by decide +kernel
theorem dX8_between_50 : decode cX8_between 50 = .ok (.aload_n 0, 1) := by decide +kernel
theorem dX8_between_51 : decode cX8_between 51 = .ok (.iload_n 2, 1) := by decide +kernel
theorem dX8_between_52 : decode cX8_between 52 = .ok (.invokevirtual 106, 3) := by decide +kernel
theorem dX8_between_55 : decode cX8_between 55 = .ok (.isub, 1) := by decide +kernel
theorem dX8_between_56 : decode cX8_between 56 = .ok (.invokestatic 109, 3) := by decide +kernel
theorem dX8_between_59 : decode cX8_between 59 = .ok (.istore_n 3, 1) := by decide +kernel
theorem dX8_between_60 : decode cX8_between 60 = .ok (.iload_n 3, 1) := by decide +kernel
theorem dX8_between_61 : decode cX8_between 61 = .ok (.ifCond .ne 7, 3) := by decide +kernel
theorem dX8_between_64 : decode cX8_between 64 = .ok (.iconst 0, 1) := by decide +kernel
theorem dX8_between_65 : decode cX8_between 65 = .ok (.goto 6, 3) := by decide +kernel
theorem dX8_between_68 : decode cX8_between 68 = .ok (.iload_n 3, 1) := by decide +kernel
theorem dX8_between_69 : decode cX8_between 69 = .ok (.iconst 1, 1) := by decide +kernel
theorem dX8_between_70 : decode cX8_between 70 = .ok (.isub, 1) := by decide +kernel
theorem dX8_between_71 : decode cX8_between 71 = .ok (.ireturn, 1) := by decide +kernel
theorem dX8_bits_0 : decode cX8_bits 0 = .ok (.iconst 0, 1) := by decide +kernel
theorem dX8_bits_1 : decode cX8_bits 1 = .ok (.istore_n 2, 1) := by decide +kernel
theorem dX8_bits_2 : decode cX8_bits 2 = .ok (.lload_n 0, 1) := by decide +kernel
theorem dX8_bits_3 : decode cX8_bits 3 = .ok (.lstore_n 3, 1) := by decide +kernel
theorem dX8_bits_4 : decode cX8_bits 4 = .ok (.lload_n 3, 1) := by decide +kernel
theorem dX8_bits_5 : decode cX8_bits 5 = .ok (.lconst 0, 1) := by decide +kernel
theorem dX8_bits_6 : decode cX8_bits 6 = .ok (.lcmp, 1) := by decide +kernel
theorem dX8_bits_7 : decode cX8_bits 7 = .ok (.ifCond .le 13, 3) := by decide +kernel
theorem dX8_bits_10 : decode cX8_bits 10 = .ok (.iinc 2 1, 3) := by decide +kernel
theorem dX8_bits_13 : decode cX8_bits 13 = .ok (.lload_n 3, 1) := by decide +kernel
theorem dX8_bits_14 : decode cX8_bits 14 = .ok (.iconst 1, 1) := by decide +kernel
theorem dX8_bits_15 : decode cX8_bits 15 = .ok (.lshr, 1) := by decide +kernel
theorem dX8_bits_16 : decode cX8_bits 16 = .ok (.lstore_n 3, 1) := by decide +kernel
theorem dX8_bits_17 : decode cX8_bits 17 = .ok (.goto (-13), 3) := by decide +kernel
theorem dX8_bits_20 : decode cX8_bits 20 = .ok (.iload_n 2, 1) := by decide +kernel
theorem dX8_bits_21 : decode cX8_bits 21 = .ok (.ireturn, 1) := by decide +kernel
theorem dX8_compare_0 : decode cX8_compare 0 = .ok (.lload_n 0, 1) := by decide +kernel
theorem dX8_compare_1 : decode cX8_compare 1 = .ok (.lconst 0, 1) := by decide +kernel
theorem dX8_compare_2 : decode cX8_compare 2 = .ok (.lcmp, 1) := by decide +kernel
theorem dX8_compare_3 : decode cX8_compare 3 = .ok (.ifCond .eq 9, 3) := by decide +kernel
theorem dX8_compare_6 : decode cX8_compare 6 = .ok (.lload_n 3, 1) := by decide +kernel
theorem dX8_compare_7 : decode cX8_compare 7 = .ok (.lconst 0, 1) := by decide +kernel
theorem dX8_compare_8 : decode cX8_compare 8 = .ok (.lcmp, 1) := by decide +kernel
theorem dX8_compare_9 : decode cX8_compare 9 = .ok (.ifCond .ne 25, 3) := by decide +kernel
theorem dX8_compare_12 : decode cX8_compare 12 = .ok (.lload_n 0, 1) := by decide +kernel
theorem dX8_compare_13 : decode cX8_compare 13 = .ok (.lload_n 3, 1) := by decide +kernel
theorem dX8_compare_14 : decode cX8_compare 14 = .ok (.lcmp, 1) := by decide +kernel
theorem dX8_compare_15 : decode cX8_compare 15 = .ok (.ifCond .ne 7, 3) := by decide +kernel
theorem dX8_compare_18 : decode cX8_compare 18 = .ok (.iconst 0, 1) := by decide +kernel
theorem dX8_compare_19 : decode cX8_compare 19 = .ok (.goto 14, 3) := by decide +kernel
theorem dX8_compare_22 : decode cX8_compare 22 = .ok (.lload_n 0, 1) := by decide +kernel
theorem dX8_compare_23 : decode cX8_compare 23 = .ok (.lconst 0, 1) := by decide +kernel
theorem dX8_compare_24 : decode cX8_compare 24 = .ok (.lcmp, 1) := by decide +kernel
theorem dX8_compare_25 : decode cX8_compare 25 = .ok (.ifCond .ne 7, 3) := by decide +kernel
theorem dX8_compare_28 : decode cX8_compare 28 = .ok (.iconst (-1), 1) := by decide +kernel
theorem dX8_compare_29 : decode cX8_compare 29 = .ok (.goto 4, 3) := by decide +kernel
theorem dX8_compare_32 : decode cX8_compare 32 = .ok (.iconst 1, 1) := by decide +kernel
theorem dX8_compare_33 : decode cX8_compare 33 = .ok (.ireturn, 1) := by decide +kernel
theorem dX8_compare_34 : decode cX8_compare 34 = .ok (.lload_n 0, 1) := by decide +kernel
theorem dX8_compare_35 : decode cX8_compare 35 = .ok (.invokestatic 114, 3) := by decide +kernel
theorem dX8_compare_38 : decode cX8_compare 38 = .ok (.iload_n 2, 1) := by decide +kernel
theorem dX8_compare_39 : decode cX8_compare 39 = .ok (.iadd, 1) := by decide +kernel
theorem dX8_compare_40 : decode cX8_compare 40 = .ok (.istore 6, 2) := by decide +kernel
theorem dX8_compare_42 : decode cX8_compare 42 = .ok (.lload_n 3, 1) := by decide +kernel
theorem dX8_compare_43 : decode cX8_compare 43 = .ok (.invokestatic 114, 3) := by decide +kernel
theorem dX8_compare_46 : decode cX8_compare 46 = .ok (.iload 5, 2) := by decide +kernel
theorem dX8_compare_48 : decode cX8_compare 48 = .ok (.iadd, 1) := by decide +kernel
theorem dX8_compare_49 : decode cX8_compare 49 = .ok (.istore 7, 2) := by decide +kernel
theorem dX8_compare_51 : decode cX8_compare 51 = .ok (.iload 6, 2) := by decide +kernel
theorem dX8_compare_53 : decode cX8_compare 53 = .ok (.iload 7, 2) := by decide +kernel
theorem dX8_compare_55 : decode cX8_compare 55 = .ok (.if_icmp .eq 16, 3) := by decide +kernel
theorem dX8_compare_58 : decode cX8_compare 58 = .ok (.iload 6, 2) := by decide +kernel
theorem dX8_compare_60 : decode cX8_compare 60 = .ok (.iload 7, 2) := by decide +kernel
theorem dX8_compare_62 : decode cX8_compare 62 = .ok (.if_icmp .ge 7, 3) := by decide +kernel
theorem dX8_compare_65 : decode cX8_compare 65 = .ok (.iconst (-1), 1) := by decide +kernel
theorem dX8_compare_66 : decode cX8_compare 66 = .ok (.goto 4, 3) := by decide +kernel
theorem dX8_compare_69 : decode cX8_compare 69 = .ok (.iconst 1, 1) := by decide +kernel
theorem dX8_compare_70 : decode cX8_compare 70 = .ok (.ireturn, 1) := by decide +kernel
theorem dX8_compare_71 : decode cX8_compare 71 = .ok (.iload_n 2, 1) := by decide +kernel
theorem dX8_compare_72 : decode cX8_compare 72 = .ok (.iload 5, 2) := by decide +kernel
theorem dX8_compare_74 : decode cX8_compare 74 = .ok (.if_icmp .le 12, 3) := by decide +kernel
theorem dX8_compare_77 : decode cX8_compare 77 = .ok (.lload_n 0, 1) := by decide +kernel
theorem dX8_compare_78 : decode cX8_compare 78 = .ok (.iload_n 2, 1) := by decide +kernel
theorem dX8_compare_79 : decode cX8_compare 79 = .ok (.iload 5, 2) := by decide +kernel
theorem dX8_compare_81 : decode cX8_compare 81 = .ok (.isub, 1) := by decide +kernel
theorem dX8_compare_82 : decode cX8_compare 82 = .ok (.lshl, 1) := by decide +kernel
theorem dX8_compare_83 : decode cX8_compare 83 = .ok (.goto 4, 3) := by decide +kernel
theorem dX8_compare_86 : decode cX8_compare 86 = .ok (.lload_n 0, 1) := by decide +kernel
theorem dX8_compare_87 : decode cX8_compare 87 = .ok (.lstore 8, 2) := by decide +kernel
theorem dX8_compare_89 : decode cX8_compare 89 = .ok (.iload 5, 2) := by decide +kernel
theorem dX8_compare_91 : decode cX8_compare 91 = .ok (.iload_n 2, 1) := by decide +kernel
theorem dX8_compare_92 : decode cX8_compare 92 = .ok (.if_icmp .le 12, 3) := by decide +kernel
theorem dX8_compare_95 : decode cX8_compare 95 = .ok (.lload_n 3, 1) := by decide +kernel
theorem dX8_compare_96 : decode cX8_compare 96 = .ok (.iload 5, 2) := by decide +kernel
theorem dX8_compare_98 : decode cX8_compare 98 = .ok (.iload_n 2, 1) := by decide +kernel
theorem dX8_compare_99 : decode cX8_compare 99 = .ok (.isub, 1) := by decide +kernel
theorem dX8_compare_100 : decode cX8_compare 100 = .ok (.lshl, 1) := by decide +kernel
theorem dX8_compare_101 : decode cX8_compare 101 = .ok (.goto 4, 3) := by decide +kernel
theorem dX8_compare_104 : decode cX8_compare 104 = .ok (.lload_n 3, 1) := by decide +kernel
theorem dX8_compare_105 : decode cX8_compare 105 = .ok (.lstore 10, 2) := by decide +kernel
theorem dX8_compare_107 : decode cX8_compare 107 = .ok (.lload 8, 2) := by decide +kernel
theorem dX8_compare_109 : decode cX8_compare 109 = .ok (.lload 10, 2) := by decide +kernel
theorem dX8_compare_111 : decode cX8_compare 111 = .ok (.lcmp, 1) := by decide +kernel
theorem dX8_compare_112 : decode cX8_compare 112 = .ok (.ifCond .ge 7, 3) := by decide +kernel
theorem dX8_compare_115 : decode cX8_compare 115 = .ok (.iconst (-1), 1) := by decide +kernel
theorem dX8_compare_116 : decode cX8_compare 116 = .ok (.goto 16, 3) := by decide +kernel
theorem dX8_compare_119 : decode cX8_compare 119 = .ok (.lload 8, 2) := by decide +kernel
theorem dX8_compare_121 : decode cX8_compare 121 = .ok (.lload 10, 2) := by decide +kernel
theorem dX8_compare_123 : decode cX8_compare 123 = .ok (.lcmp, 1) := by decide +kernel
theorem dX8_compare_124 : decode cX8_compare 124 = .ok (.ifCond .le 7, 3) := by decide +kernel
theorem dX8_compare_127 : decode cX8_compare 127 = .ok (.iconst 1, 1) := by decide +kernel
theorem dX8_compare_128 : decode cX8_compare 128 = .ok (.goto 4, 3) := by decide +kernel
theorem dX8_compare_131 : decode cX8_compare 131 = .ok (.iconst 0, 1) := by decide +kernel
theorem dX8_compare_132 : decode cX8_compare 132 = .ok (.ireturn, 1) := by decide +kernel
theorem dX8_stands_0 : decode cX8_stands 0 = .ok (.aload_n 0, 1) := by decide +kernel
theorem dX8_stands_1 : decode cX8_stands 1 = .ok (.getfield 118, 3) := by decide +kernel
theorem dX8_stands_4 : decode cX8_stands 4 = .ok (.tableswitch 139 0 4 #[36, 54, 72, 92, 113], 36) := by decide +kernel
theorem dX8_stands_40 : decode cX8_stands 40 = .ok (.lconst 1, 1) := by decide +kernel
theorem dX8_stands_41 : decode cX8_stands 41 = .ok (.iconst 0, 1) := by decide +kernel
theorem dX8_stands_42 : decode cX8_stands 42 = .ok (.aload_n 0, 1) := by decide +kernel
theorem dX8_stands_43 : decode cX8_stands 43 = .ok (.getfield 121, 3) := by decide +kernel
theorem dX8_stands_46 : decode cX8_stands 46 = .ok (.lload_n 1, 1) := by decide +kernel
theorem dX8_stands_47 : decode cX8_stands 47 = .ok (.lmul, 1) := by decide +kernel
theorem dX8_stands_48 : decode cX8_stands 48 = .ok (.aload_n 0, 1) := by decide +kernel
theorem dX8_stands_49 : decode cX8_stands 49 = .ok (.getfield 125, 3) := by decide +kernel
theorem dX8_stands_52 : decode cX8_stands 52 = .ok (.iload_n 3, 1) := by decide +kernel
theorem dX8_stands_53 : decode cX8_stands 53 = .ok (.iadd, 1) := by decide +kernel
theorem dX8_stands_54 : decode cX8_stands 54 = .ok (.invokestatic 128, 3) := by decide +kernel
theorem dX8_stands_57 : decode cX8_stands 57 = .ok (.ireturn, 1) := by decide +kernel
theorem dX8_stands_58 : decode cX8_stands 58 = .ok (.aload_n 0, 1) := by decide +kernel
theorem dX8_stands_59 : decode cX8_stands 59 = .ok (.getfield 121, 3) := by decide +kernel
theorem dX8_stands_62 : decode cX8_stands 62 = .ok (.aload_n 0, 1) := by decide +kernel
theorem dX8_stands_63 : decode cX8_stands 63 = .ok (.getfield 125, 3) := by decide +kernel
theorem dX8_stands_66 : decode cX8_stands 66 = .ok (.lload_n 1, 1) := by decide +kernel
theorem dX8_stands_67 : decode cX8_stands 67 = .ok (.lload_n 1, 1) := by decide +kernel
theorem dX8_stands_68 : decode cX8_stands 68 = .ok (.lmul, 1) := by decide +kernel
theorem dX8_stands_69 : decode cX8_stands 69 = .ok (.iconst 2, 1) := by decide +kernel
theorem dX8_stands_70 : decode cX8_stands 70 = .ok (.iload_n 3, 1) := by decide +kernel
theorem dX8_stands_71 : decode cX8_stands 71 = .ok (.imul, 1) := by decide +kernel
theorem dX8_stands_72 : decode cX8_stands 72 = .ok (.invokestatic 128, 3) := by decide +kernel
theorem dX8_stands_75 : decode cX8_stands 75 = .ok (.ireturn, 1) := by decide +kernel
theorem dX8_stands_76 : decode cX8_stands 76 = .ok (.aload_n 0, 1) := by decide +kernel
theorem dX8_stands_77 : decode cX8_stands 77 = .ok (.getfield 121, 3) := by decide +kernel
theorem dX8_stands_80 : decode cX8_stands 80 = .ok (.aload_n 0, 1) := by decide +kernel
theorem dX8_stands_81 : decode cX8_stands 81 = .ok (.getfield 125, 3) := by decide +kernel
theorem dX8_stands_84 : decode cX8_stands 84 = .ok (.lload_n 1, 1) := by decide +kernel
theorem dX8_stands_85 : decode cX8_stands 85 = .ok (.lload_n 1, 1) := by decide +kernel
theorem dX8_stands_86 : decode cX8_stands 86 = .ok (.lmul, 1) := by decide +kernel
theorem dX8_stands_87 : decode cX8_stands 87 = .ok (.lload_n 1, 1) := by decide +kernel
theorem dX8_stands_88 : decode cX8_stands 88 = .ok (.lmul, 1) := by decide +kernel
theorem dX8_stands_89 : decode cX8_stands 89 = .ok (.iconst 3, 1) := by decide +kernel
theorem dX8_stands_90 : decode cX8_stands 90 = .ok (.iload_n 3, 1) := by decide +kernel
theorem dX8_stands_91 : decode cX8_stands 91 = .ok (.imul, 1) := by decide +kernel
theorem dX8_stands_92 : decode cX8_stands 92 = .ok (.invokestatic 128, 3) := by decide +kernel
theorem dX8_stands_95 : decode cX8_stands 95 = .ok (.ireturn, 1) := by decide +kernel
theorem dX8_stands_96 : decode cX8_stands 96 = .ok (.aload_n 0, 1) := by decide +kernel
theorem dX8_stands_97 : decode cX8_stands 97 = .ok (.getfield 121, 3) := by decide +kernel
theorem dX8_stands_100 : decode cX8_stands 100 = .ok (.aload_n 0, 1) := by decide +kernel
theorem dX8_stands_101 : decode cX8_stands 101 = .ok (.getfield 121, 3) := by decide +kernel
theorem dX8_stands_104 : decode cX8_stands 104 = .ok (.lmul, 1) := by decide +kernel
theorem dX8_stands_105 : decode cX8_stands 105 = .ok (.iconst 2, 1) := by decide +kernel
theorem dX8_stands_106 : decode cX8_stands 106 = .ok (.aload_n 0, 1) := by decide +kernel
theorem dX8_stands_107 : decode cX8_stands 107 = .ok (.getfield 125, 3) := by decide +kernel
theorem dX8_stands_110 : decode cX8_stands 110 = .ok (.imul, 1) := by decide +kernel
theorem dX8_stands_111 : decode cX8_stands 111 = .ok (.lload_n 1, 1) := by decide +kernel
theorem dX8_stands_112 : decode cX8_stands 112 = .ok (.iload_n 3, 1) := by decide +kernel
theorem dX8_stands_113 : decode cX8_stands 113 = .ok (.invokestatic 128, 3) := by decide +kernel
theorem dX8_stands_116 : decode cX8_stands 116 = .ok (.ireturn, 1) := by decide +kernel
theorem dX8_stands_117 : decode cX8_stands 117 = .ok (.aload_n 0, 1) := by decide +kernel
theorem dX8_stands_118 : decode cX8_stands 118 = .ok (.getfield 121, 3) := by decide +kernel
theorem dX8_stands_121 : decode cX8_stands 121 = .ok (.aload_n 0, 1) := by decide +kernel
theorem dX8_stands_122 : decode cX8_stands 122 = .ok (.getfield 121, 3) := by decide +kernel
theorem dX8_stands_125 : decode cX8_stands 125 = .ok (.lmul, 1) := by decide +kernel
theorem dX8_stands_126 : decode cX8_stands 126 = .ok (.aload_n 0, 1) := by decide +kernel
theorem dX8_stands_127 : decode cX8_stands 127 = .ok (.getfield 121, 3) := by decide +kernel
theorem dX8_stands_130 : decode cX8_stands 130 = .ok (.lmul, 1) := by decide +kernel
theorem dX8_stands_131 : decode cX8_stands 131 = .ok (.iconst 3, 1) := by decide +kernel
theorem dX8_stands_132 : decode cX8_stands 132 = .ok (.aload_n 0, 1) := by decide +kernel
theorem dX8_stands_133 : decode cX8_stands 133 = .ok (.getfield 125, 3) := by decide +kernel
theorem dX8_stands_136 : decode cX8_stands 136 = .ok (.imul, 1) := by decide +kernel
theorem dX8_stands_137 : decode cX8_stands 137 = .ok (.lload_n 1, 1) := by decide +kernel
theorem dX8_stands_138 : decode cX8_stands 138 = .ok (.iload_n 3, 1) := by decide +kernel
theorem dX8_stands_139 : decode cX8_stands 139 = .ok (.invokestatic 128, 3) := by decide +kernel
theorem dX8_stands_142 : decode cX8_stands 142 = .ok (.ireturn, 1) := by decide +kernel
theorem dX8_stands_143 : decode cX8_stands 143 = .ok (.aload_n 0, 1) := by decide +kernel
theorem dX8_stands_144 : decode cX8_stands 144 = .ok (.getfield 121, 3) := by decide +kernel
theorem dX8_stands_147 : decode cX8_stands 147 = .ok (.aload_n 0, 1) := by decide +kernel
theorem dX8_stands_148 : decode cX8_stands 148 = .ok (.getfield 125, 3) := by decide +kernel
theorem dX8_stands_151 : decode cX8_stands 151 = .ok (.lload_n 1, 1) := by decide +kernel
theorem dX8_stands_152 : decode cX8_stands 152 = .ok (.iload_n 3, 1) := by decide +kernel
theorem dX8_stands_153 : decode cX8_stands 153 = .ok (.invokestatic 128, 3) := by decide +kernel
theorem dX8_stands_156 : decode cX8_stands 156 = .ok (.ireturn, 1) := by decide +kernel
theorem dX8_floor_0 : decode cX8_floor 0 = .ok (.iconst 0, 1) := by decide +kernel
theorem dX8_floor_1 : decode cX8_floor 1 = .ok (.istore_n 1, 1) := by decide +kernel
theorem dX8_floor_2 : decode cX8_floor 2 = .ok (.aload_n 0, 1) := by decide +kernel
theorem dX8_floor_3 : decode cX8_floor 3 = .ok (.getfield 68, 3) := by decide +kernel
theorem dX8_floor_6 : decode cX8_floor 6 = .ok (.iconst 1, 1) := by decide +kernel
theorem dX8_floor_7 : decode cX8_floor 7 = .ok (.iadd, 1) := by decide +kernel
theorem dX8_floor_8 : decode cX8_floor 8 = .ok (.istore_n 2, 1) := by decide +kernel
theorem dX8_floor_9 : decode cX8_floor 9 = .ok (.iload_n 2, 1) := by decide +kernel
theorem dX8_floor_10 : decode cX8_floor 10 = .ok (.iload_n 1, 1) := by decide +kernel
theorem dX8_floor_11 : decode cX8_floor 11 = .ok (.isub, 1) := by decide +kernel
theorem dX8_floor_12 : decode cX8_floor 12 = .ok (.iconst 1, 1) := by decide +kernel
theorem dX8_floor_13 : decode cX8_floor 13 = .ok (.if_icmp .le 37, 3) := by decide +kernel
theorem dX8_floor_16 : decode cX8_floor 16 = .ok (.iload_n 1, 1) := by decide +kernel
theorem dX8_floor_17 : decode cX8_floor 17 = .ok (.iload_n 2, 1) := by decide +kernel
theorem dX8_floor_18 : decode cX8_floor 18 = .ok (.iadd, 1) := by decide +kernel
theorem dX8_floor_19 : decode cX8_floor 19 = .ok (.iconst 2, 1) := by decide +kernel
theorem dX8_floor_20 : decode cX8_floor 20 = .ok (.idiv, 1) := by decide +kernel
theorem dX8_floor_21 : decode cX8_floor 21 = .ok (.istore_n 3, 1) := by decide +kernel
theorem dX8_floor_22 : decode cX8_floor 22 = .ok (.aload_n 0, 1) := by decide +kernel
theorem dX8_floor_23 : decode cX8_floor 23 = .ok (.aload_n 0, 1) := by decide +kernel
theorem dX8_floor_24 : decode cX8_floor 24 = .ok (.iload_n 3, 1) := by decide +kernel
theorem dX8_floor_25 : decode cX8_floor 25 = .ok (.invokevirtual 100, 3) := by decide +kernel
theorem dX8_floor_28 : decode cX8_floor 28 = .ok (.i2l, 1) := by decide +kernel
theorem dX8_floor_29 : decode cX8_floor 29 = .ok (.aload_n 0, 1) := by decide +kernel
theorem dX8_floor_30 : decode cX8_floor 30 = .ok (.iload_n 3, 1) := by decide +kernel
theorem dX8_floor_31 : decode cX8_floor 31 = .ok (.invokevirtual 103, 3) := by decide +kernel
theorem dX8_floor_34 : decode cX8_floor 34 = .ok (.invokevirtual 132, 3) := by decide +kernel
theorem dX8_floor_37 : decode cX8_floor 37 = .ok (.ifCond .lt 8, 3) := by decide +kernel
theorem dX8_floor_40 : decode cX8_floor 40 = .ok (.iload_n 3, 1) := by decide +kernel
theorem dX8_floor_41 : decode cX8_floor 41 = .ok (.istore_n 1, 1) := by decide +kernel
theorem dX8_floor_42 : decode cX8_floor 42 = .ok (.goto 5, 3) := by decide +kernel
theorem dX8_floor_45 : decode cX8_floor 45 = .ok (.iload_n 3, 1) := by decide +kernel
theorem dX8_floor_46 : decode cX8_floor 46 = .ok (.istore_n 2, 1) := by decide +kernel
theorem dX8_floor_47 : decode cX8_floor 47 = .ok (.goto (-38), 3) := by decide +kernel
theorem dX8_floor_50 : decode cX8_floor 50 = .ok (.iload_n 1, 1) := by decide +kernel
theorem dX8_floor_51 : decode cX8_floor 51 = .ok (.ireturn, 1) := by decide +kernel
theorem dX8_isFloat_0 : decode cX8_isFloat 0 = .ok (.iload_n 1, 1) := by decide +kernel
theorem dX8_isFloat_1 : decode cX8_isFloat 1 = .ok (.ifCond .le 25, 3) := by decide +kernel
theorem dX8_isFloat_4 : decode cX8_isFloat 4 = .ok (.aload_n 0, 1) := by decide +kernel
theorem dX8_isFloat_5 : decode cX8_isFloat 5 = .ok (.aload_n 0, 1) := by decide +kernel
theorem dX8_isFloat_6 : decode cX8_isFloat 6 = .ok (.iload_n 1, 1) := by decide +kernel
theorem dX8_isFloat_7 : decode cX8_isFloat 7 = .ok (.invokevirtual 100, 3) := by decide +kernel
theorem dX8_isFloat_10 : decode cX8_isFloat 10 = .ok (.i2l, 1) := by decide +kernel
theorem dX8_isFloat_11 : decode cX8_isFloat 11 = .ok (.aload_n 0, 1) := by decide +kernel
theorem dX8_isFloat_12 : decode cX8_isFloat 12 = .ok (.iload_n 1, 1) := by decide +kernel
theorem dX8_isFloat_13 : decode cX8_isFloat 13 = .ok (.invokevirtual 103, 3) := by decide +kernel
theorem dX8_isFloat_16 : decode cX8_isFloat 16 = .ok (.invokevirtual 132, 3) := by decide +kernel
theorem dX8_isFloat_19 : decode cX8_isFloat 19 = .ok (.ifCond .ne 7, 3) := by decide +kernel
theorem dX8_isFloat_22 : decode cX8_isFloat 22 = .ok (.iconst 1, 1) := by decide +kernel
theorem dX8_isFloat_23 : decode cX8_isFloat 23 = .ok (.goto 4, 3) := by decide +kernel
theorem dX8_isFloat_26 : decode cX8_isFloat 26 = .ok (.iconst 0, 1) := by decide +kernel
theorem dX8_isFloat_27 : decode cX8_isFloat 27 = .ok (.ireturn, 1) := by decide +kernel
theorem dX8_middle_0 : decode cX8_middle 0 = .ok (.aload_n 0, 1) := by decide +kernel
theorem dX8_middle_1 : decode cX8_middle 1 = .ok (.ldc2_w 136, 3) := by decide +kernel
theorem dX8_middle_4 : decode cX8_middle 4 = .ok (.aload_n 0, 1) := by decide +kernel
theorem dX8_middle_5 : decode cX8_middle 5 = .ok (.iload_n 1, 1) := by decide +kernel
theorem dX8_middle_6 : decode cX8_middle 6 = .ok (.invokevirtual 100, 3) := by decide +kernel
theorem dX8_middle_9 : decode cX8_middle 9 = .ok (.i2l, 1) := by decide +kernel
theorem dX8_middle_10 : decode cX8_middle 10 = .ok (.lmul, 1) := by decide +kernel
theorem dX8_middle_11 : decode cX8_middle 11 = .ok (.lconst 1, 1) := by decide +kernel
theorem dX8_middle_12 : decode cX8_middle 12 = .ok (.ladd, 1) := by decide +kernel
theorem dX8_middle_13 : decode cX8_middle 13 = .ok (.aload_n 0, 1) := by decide +kernel
theorem dX8_middle_14 : decode cX8_middle 14 = .ok (.iload_n 1, 1) := by decide +kernel
theorem dX8_middle_15 : decode cX8_middle 15 = .ok (.invokevirtual 103, 3) := by decide +kernel
theorem dX8_middle_18 : decode cX8_middle 18 = .ok (.iconst 1, 1) := by decide +kernel
theorem dX8_middle_19 : decode cX8_middle 19 = .ok (.isub, 1) := by decide +kernel
theorem dX8_middle_20 : decode cX8_middle 20 = .ok (.invokevirtual 132, 3) := by decide +kernel
theorem dX8_middle_23 : decode cX8_middle 23 = .ok (.ireturn, 1) := by decide +kernel
theorem dX8_rounded_0 : decode cX8_rounded 0 = .ok (.aload_n 0, 1) := by decide +kernel
theorem dX8_rounded_1 : decode cX8_rounded 1 = .ok (.invokevirtual 138, 3) := by decide +kernel
theorem dX8_rounded_4 : decode cX8_rounded 4 = .ok (.istore_n 3, 1) := by decide +kernel
theorem dX8_rounded_5 : decode cX8_rounded 5 = .ok (.iload_n 2, 1) := by decide +kernel
theorem dX8_rounded_6 : decode cX8_rounded 6 = .ok (.ifCond .eq 10, 3) := by decide +kernel
theorem dX8_rounded_9 : decode cX8_rounded 9 = .ok (.aload_n 0, 1) := by decide +kernel
theorem dX8_rounded_10 : decode cX8_rounded 10 = .ok (.getfield 65, 3) := by decide +kernel
theorem dX8_rounded_13 : decode cX8_rounded 13 = .ok (.goto 4, 3) := by decide +kernel
theorem dX8_rounded_16 : decode cX8_rounded 16 = .ok (.iconst 0, 1) := by decide +kernel
theorem dX8_rounded_17 : decode cX8_rounded 17 = .ok (.istore 4, 2) := by decide +kernel
theorem dX8_rounded_19 : decode cX8_rounded 19 = .ok (.aload_n 0, 1) := by decide +kernel
theorem dX8_rounded_20 : decode cX8_rounded 20 = .ok (.iload_n 3, 1) := by decide +kernel
theorem dX8_rounded_21 : decode cX8_rounded 21 = .ok (.invokevirtual 142, 3) := by decide +kernel
theorem dX8_rounded_24 : decode cX8_rounded 24 = .ok (.ifCond .eq 8, 3) := by decide +kernel
theorem dX8_rounded_27 : decode cX8_rounded 27 = .ok (.iload 4, 2) := by decide +kernel
theorem dX8_rounded_29 : decode cX8_rounded 29 = .ok (.iload_n 3, 1) := by decide +kernel
theorem dX8_rounded_30 : decode cX8_rounded 30 = .ok (.iadd, 1) := by decide +kernel
theorem dX8_rounded_31 : decode cX8_rounded 31 = .ok (.ireturn, 1) := by decide +kernel
theorem dX8_rounded_32 : decode cX8_rounded 32 = .ok (.iload_n 2, 1) := by decide +kernel
theorem dX8_rounded_33 : decode cX8_rounded 33 = .ok (.ifCond .eq 19, 3) := by decide +kernel
theorem dX8_rounded_36 : decode cX8_rounded 36 = .ok (.iload_n 1, 1) := by decide +kernel
theorem dX8_rounded_37 : decode cX8_rounded 37 = .ok (.iconst 1, 1) := by decide +kernel
theorem dX8_rounded_38 : decode cX8_rounded 38 = .ok (.if_icmp .le 14, 3) := by decide +kernel
theorem dX8_rounded_41 : decode cX8_rounded 41 = .ok (.iload_n 1, 1) := by decide +kernel
theorem dX8_rounded_42 : decode cX8_rounded 42 = .ok (.iconst 4, 1) := by decide +kernel
theorem dX8_rounded_43 : decode cX8_rounded 43 = .ok (.if_icmp .ge 9, 3) := by decide +kernel
theorem dX8_rounded_46 : decode cX8_rounded 46 = .ok (.iconst 5, 1) := by decide +kernel
theorem dX8_rounded_47 : decode cX8_rounded 47 = .ok (.iload_n 1, 1) := by decide +kernel
theorem dX8_rounded_48 : decode cX8_rounded 48 = .ok (.isub, 1) := by decide +kernel
theorem dX8_rounded_49 : decode cX8_rounded 49 = .ok (.goto 4, 3) := by decide +kernel
theorem dX8_rounded_52 : decode cX8_rounded 52 = .ok (.iload_n 1, 1) := by decide +kernel
theorem dX8_rounded_53 : decode cX8_rounded 53 = .ok (.istore 5, 2) := by decide +kernel
theorem dX8_rounded_55 : decode cX8_rounded 55 = .ok (.iload 5, 2) := by decide +kernel
theorem dX8_rounded_57 : decode cX8_rounded 57 = .ok (.tableswitch 107 0 4 #[35, 107, 70, 107, 77], 35) := by decide +kernel
theorem dX8_rounded_92 : decode cX8_rounded 92 = .ok (.aload_n 0, 1) := by decide +kernel
theorem dX8_rounded_93 : decode cX8_rounded 93 = .ok (.iload_n 3, 1) := by decide +kernel
theorem dX8_rounded_94 : decode cX8_rounded 94 = .ok (.invokevirtual 145, 3) := by decide +kernel
theorem dX8_rounded_97 : decode cX8_rounded 97 = .ok (.istore 6, 2) := by decide +kernel
theorem dX8_rounded_99 : decode cX8_rounded 99 = .ok (.iload 4, 2) := by decide +kernel
theorem dX8_rounded_101 : decode cX8_rounded 101 = .ok (.iload 6, 2) := by decide +kernel
theorem dX8_rounded_103 : decode cX8_rounded 103 = .ok (.ifCond .gt 15, 3) := by decide +kernel
theorem dX8_rounded_106 : decode cX8_rounded 106 = .ok (.iload 6, 2) := by decide +kernel
theorem dX8_rounded_108 : decode cX8_rounded 108 = .ok (.ifCond .ne 16, 3) := by decide +kernel
theorem dX8_rounded_111 : decode cX8_rounded 111 = .ok (.iload_n 3, 1) := by decide +kernel
theorem dX8_rounded_112 : decode cX8_rounded 112 = .ok (.iconst 2, 1) := by decide +kernel
theorem dX8_rounded_113 : decode cX8_rounded 113 = .ok (.irem, 1) := by decide +kernel
theorem dX8_rounded_114 : decode cX8_rounded 114 = .ok (.iconst 1, 1) := by decide +kernel
theorem dX8_rounded_115 : decode cX8_rounded 115 = .ok (.if_icmp .ne 9, 3) := by decide +kernel
theorem dX8_rounded_118 : decode cX8_rounded 118 = .ok (.iload_n 3, 1) := by decide +kernel
theorem dX8_rounded_119 : decode cX8_rounded 119 = .ok (.iconst 1, 1) := by decide +kernel
theorem dX8_rounded_120 : decode cX8_rounded 120 = .ok (.iadd, 1) := by decide +kernel
theorem dX8_rounded_121 : decode cX8_rounded 121 = .ok (.goto 4, 3) := by decide +kernel
theorem dX8_rounded_124 : decode cX8_rounded 124 = .ok (.iload_n 3, 1) := by decide +kernel
theorem dX8_rounded_125 : decode cX8_rounded 125 = .ok (.iadd, 1) := by decide +kernel
theorem dX8_rounded_126 : decode cX8_rounded 126 = .ok (.ireturn, 1) := by decide +kernel
theorem dX8_rounded_127 : decode cX8_rounded 127 = .ok (.iload 4, 2) := by decide +kernel
theorem dX8_rounded_129 : decode cX8_rounded 129 = .ok (.iload_n 3, 1) := by decide +kernel
theorem dX8_rounded_130 : decode cX8_rounded 130 = .ok (.iadd, 1) := by decide +kernel
theorem dX8_rounded_131 : decode cX8_rounded 131 = .ok (.iconst 1, 1) := by decide +kernel
theorem dX8_rounded_132 : decode cX8_rounded 132 = .ok (.iadd, 1) := by decide +kernel
theorem dX8_rounded_133 : decode cX8_rounded 133 = .ok (.ireturn, 1) := by decide +kernel
theorem dX8_rounded_134 : decode cX8_rounded 134 = .ok (.iload 4, 2) := by decide +kernel
theorem dX8_rounded_136 : decode cX8_rounded 136 = .ok (.iload_n 3, 1) := by decide +kernel
theorem dX8_rounded_137 : decode cX8_rounded 137 = .ok (.iconst 2, 1) := by decide +kernel
theorem dX8_rounded_138 : decode cX8_rounded 138 = .ok (.irem, 1) := by decide +kernel
theorem dX8_rounded_139 : decode cX8_rounded 139 = .ok (.iconst 1, 1) := by decide +kernel
theorem dX8_rounded_140 : decode cX8_rounded 140 = .ok (.if_icmp .ne 7, 3) := by decide +kernel
theorem dX8_rounded_143 : decode cX8_rounded 143 = .ok (.iload_n 3, 1) := by decide +kernel
theorem dX8_rounded_144 : decode cX8_rounded 144 = .ok (.goto 18, 3) := by decide +kernel
theorem dX8_rounded_147 : decode cX8_rounded 147 = .ok (.iload_n 3, 1) := by decide +kernel
theorem dX8_rounded_148 : decode cX8_rounded 148 = .ok (.aload_n 0, 1) := by decide +kernel
theorem dX8_rounded_149 : decode cX8_rounded 149 = .ok (.getfield 68, 3) := by decide +kernel
theorem dX8_rounded_152 : decode cX8_rounded 152 = .ok (.if_icmp .ne 7, 3) := by decide +kernel
theorem dX8_rounded_155 : decode cX8_rounded 155 = .ok (.iload_n 3, 1) := by decide +kernel
theorem dX8_rounded_156 : decode cX8_rounded 156 = .ok (.goto 6, 3) := by decide +kernel
theorem dX8_rounded_159 : decode cX8_rounded 159 = .ok (.iload_n 3, 1) := by decide +kernel
theorem dX8_rounded_160 : decode cX8_rounded 160 = .ok (.iconst 1, 1) := by decide +kernel
theorem dX8_rounded_161 : decode cX8_rounded 161 = .ok (.iadd, 1) := by decide +kernel
theorem dX8_rounded_162 : decode cX8_rounded 162 = .ok (.iadd, 1) := by decide +kernel
theorem dX8_rounded_163 : decode cX8_rounded 163 = .ok (.ireturn, 1) := by decide +kernel
theorem dX8_rounded_164 : decode cX8_rounded 164 = .ok (.iload 4, 2) := by decide +kernel
theorem dX8_rounded_166 : decode cX8_rounded 166 = .ok (.iload_n 3, 1) := by decide +kernel
theorem dX8_rounded_167 : decode cX8_rounded 167 = .ok (.iadd, 1) := by decide +kernel
theorem dX8_rounded_168 : decode cX8_rounded 168 = .ok (.ireturn, 1) := by decide +kernel
theorem dX8_round_0 : decode cX8_round 0 = .ok (.iload_n 3, 1) := by decide +kernel
theorem dX8_round_1 : decode cX8_round 1 = .ok (.iconst 5, 1) := by decide +kernel
theorem dX8_round_2 : decode cX8_round 2 = .ok (.invokestatic 80, 3) := by decide +kernel
theorem dX8_round_5 : decode cX8_round 5 = .ok (.ifCond .ne 9, 3) := by decide +kernel
theorem dX8_round_8 : decode cX8_round 8 = .ok (.aload_n 0, 1) := by decide +kernel
theorem dX8_round_9 : decode cX8_round 9 = .ok (.iconst (-1), 1) := by decide +kernel
theorem dX8_round_10 : decode cX8_round 10 = .ok (.invokevirtual 51, 3) := by decide +kernel
theorem dX8_round_13 : decode cX8_round 13 = .ok (.ireturn, 1) := by decide +kernel
theorem dX8_round_14 : decode cX8_round 14 = .ok (.iload_n 1, 1) := by decide +kernel
theorem dX8_round_15 : decode cX8_round 15 = .ok (.ldc 148, 2) := by decide +kernel
theorem dX8_round_17 : decode cX8_round 17 = .ok (.if_icmp .lt 9, 3) := by decide +kernel
theorem dX8_round_20 : decode cX8_round 20 = .ok (.iload_n 2, 1) := by decide +kernel
theorem dX8_round_21 : decode cX8_round 21 = .ok (.bipush (-60), 2) := by decide +kernel
theorem dX8_round_23 : decode cX8_round 23 = .ok (.if_icmp .ge 10, 3) := by decide +kernel
theorem dX8_round_26 : decode cX8_round 26 = .ok (.aload_n 0, 1) := by decide +kernel
theorem dX8_round_27 : decode cX8_round 27 = .ok (.bipush (-4), 2) := by decide +kernel
theorem dX8_round_29 : decode cX8_round 29 = .ok (.invokevirtual 51, 3) := by decide +kernel
theorem dX8_round_32 : decode cX8_round 32 = .ok (.ireturn, 1) := by decide +kernel
theorem dX8_round_33 : decode cX8_round 33 = .ok (.iload_n 1, 1) := by decide +kernel
theorem dX8_round_34 : decode cX8_round 34 = .ok (.ldc 149, 2) := by decide +kernel
theorem dX8_round_36 : decode cX8_round 36 = .ok (.if_icmp .gt 9, 3) := by decide +kernel
theorem dX8_round_39 : decode cX8_round 39 = .ok (.iload_n 2, 1) := by decide +kernel
theorem dX8_round_40 : decode cX8_round 40 = .ok (.bipush 60, 2) := by decide +kernel
theorem dX8_round_42 : decode cX8_round 42 = .ok (.if_icmp .le 10, 3) := by decide +kernel
theorem dX8_round_45 : decode cX8_round 45 = .ok (.aload_n 0, 1) := by decide +kernel
theorem dX8_round_46 : decode cX8_round 46 = .ok (.bipush (-6), 2) := by decide +kernel
theorem dX8_round_48 : decode cX8_round 48 = .ok (.invokevirtual 51, 3) := by decide +kernel
theorem dX8_round_51 : decode cX8_round 51 = .ok (.ireturn, 1) := by decide +kernel
theorem dX8_round_52 : decode cX8_round 52 = .ok (.iload_n 1, 1) := by decide +kernel
theorem dX8_round_53 : decode cX8_round 53 = .ok (.ifCond .ne 5, 3) := by decide +kernel
theorem dX8_round_56 : decode cX8_round 56 = .ok (.iconst 0, 1) := by decide +kernel
theorem dX8_round_57 : decode cX8_round 57 = .ok (.ireturn, 1) := by decide +kernel
theorem dX8_round_58 : decode cX8_round 58 = .ok (.aload_n 0, 1) := by decide +kernel
theorem dX8_round_59 : decode cX8_round 59 = .ok (.iconst (-1), 1) := by decide +kernel
theorem dX8_round_60 : decode cX8_round 60 = .ok (.putfield 118, 3) := by decide +kernel
theorem dX8_round_63 : decode cX8_round 63 = .ok (.aload_n 0, 1) := by decide +kernel
theorem dX8_round_64 : decode cX8_round 64 = .ok (.iload_n 1, 1) := by decide +kernel
theorem dX8_round_65 : decode cX8_round 65 = .ok (.invokestatic 109, 3) := by decide +kernel
theorem dX8_round_68 : decode cX8_round 68 = .ok (.i2l, 1) := by decide +kernel
theorem dX8_round_69 : decode cX8_round 69 = .ok (.putfield 121, 3) := by decide +kernel
theorem dX8_round_72 : decode cX8_round 72 = .ok (.aload_n 0, 1) := by decide +kernel
theorem dX8_round_73 : decode cX8_round 73 = .ok (.iload_n 2, 1) := by decide +kernel
theorem dX8_round_74 : decode cX8_round 74 = .ok (.putfield 125, 3) := by decide +kernel
theorem dX8_round_77 : decode cX8_round 77 = .ok (.aload_n 0, 1) := by decide +kernel
theorem dX8_round_78 : decode cX8_round 78 = .ok (.iload_n 3, 1) := by decide +kernel
theorem dX8_round_79 : decode cX8_round 79 = .ok (.iload_n 1, 1) := by decide +kernel
theorem dX8_round_80 : decode cX8_round 80 = .ok (.ifCond .ge 7, 3) := by decide +kernel
theorem dX8_round_83 : decode cX8_round 83 = .ok (.iconst 1, 1) := by decide +kernel
theorem dX8_round_84 : decode cX8_round 84 = .ok (.goto 4, 3) := by decide +kernel
theorem dX8_round_87 : decode cX8_round 87 = .ok (.iconst 0, 1) := by decide +kernel
theorem dX8_round_88 : decode cX8_round 88 = .ok (.invokevirtual 150, 3) := by decide +kernel
theorem dX8_round_91 : decode cX8_round 91 = .ok (.ireturn, 1) := by decide +kernel
theorem dX8_plainly_0 : decode cX8_plainly 0 = .ok (.iload_n 2, 1) := by decide +kernel
theorem dX8_plainly_1 : decode cX8_plainly 1 = .ok (.aload_n 0, 1) := by decide +kernel
theorem dX8_plainly_2 : decode cX8_plainly 2 = .ok (.getfield 65, 3) := by decide +kernel
theorem dX8_plainly_5 : decode cX8_plainly 5 = .ok (.idiv, 1) := by decide +kernel
theorem dX8_plainly_6 : decode cX8_plainly 6 = .ok (.aload_n 0, 1) := by decide +kernel
theorem dX8_plainly_7 : decode cX8_plainly 7 = .ok (.getfield 65, 3) := by decide +kernel
theorem dX8_plainly_10 : decode cX8_plainly 10 = .ok (.imul, 1) := by decide +kernel
theorem dX8_plainly_11 : decode cX8_plainly 11 = .ok (.istore_n 3, 1) := by decide +kernel
theorem dX8_plainly_12 : decode cX8_plainly 12 = .ok (.aload_n 0, 1) := by decide +kernel
theorem dX8_plainly_13 : decode cX8_plainly 13 = .ok (.iload_n 2, 1) := by decide +kernel
theorem dX8_plainly_14 : decode cX8_plainly 14 = .ok (.invokevirtual 94, 3) := by decide +kernel
theorem dX8_plainly_17 : decode cX8_plainly 17 = .ok (.istore 4, 2) := by decide +kernel
theorem dX8_plainly_19 : decode cX8_plainly 19 = .ok (.aload_n 0, 1) := by decide +kernel
theorem dX8_plainly_20 : decode cX8_plainly 20 = .ok (.getfield 68, 3) := by decide +kernel
theorem dX8_plainly_23 : decode cX8_plainly 23 = .ok (.iconst 1, 1) := by decide +kernel
theorem dX8_plainly_24 : decode cX8_plainly 24 = .ok (.iadd, 1) := by decide +kernel
theorem dX8_plainly_25 : decode cX8_plainly 25 = .ok (.istore 5, 2) := by decide +kernel
theorem dX8_plainly_27 : decode cX8_plainly 27 = .ok (.iload 4, 2) := by decide +kernel
theorem dX8_plainly_29 : decode cX8_plainly 29 = .ok (.iconst 3, 1) := by decide +kernel
theorem dX8_plainly_30 : decode cX8_plainly 30 = .ok (.if_icmp .eq 18, 3) := by decide +kernel
theorem dX8_plainly_33 : decode cX8_plainly 33 = .ok (.iload_n 1, 1) := by decide +kernel
theorem dX8_plainly_34 : decode cX8_plainly 34 = .ok (.iconst 1, 1) := by decide +kernel
theorem dX8_plainly_35 : decode cX8_plainly 35 = .ok (.if_icmp .ne 18, 3) := by decide +kernel
theorem dX8_plainly_38 : decode cX8_plainly 38 = .ok (.iload_n 3, 1) := by decide +kernel
theorem dX8_plainly_39 : decode cX8_plainly 39 = .ok (.ifCond .le 14, 3) := by decide +kernel
theorem dX8_plainly_42 : decode cX8_plainly 42 = .ok (.iload 4, 2) := by decide +kernel
theorem dX8_plainly_44 : decode cX8_plainly 44 = .ok (.iconst 1, 1) := by decide +kernel
theorem dX8_plainly_45 : decode cX8_plainly 45 = .ok (.if_icmp .eq 8, 3) := by decide +kernel
theorem dX8_plainly_48 : decode cX8_plainly 48 = .ok (.iload 5, 2) := by decide +kernel
theorem dX8_plainly_50 : decode cX8_plainly 50 = .ok (.iconst 1, 1) := by decide +kernel
theorem dX8_plainly_51 : decode cX8_plainly 51 = .ok (.iadd, 1) := by decide +kernel
theorem dX8_plainly_52 : decode cX8_plainly 52 = .ok (.ireturn, 1) := by decide +kernel
theorem dX8_plainly_53 : decode cX8_plainly 53 = .ok (.iload 4, 2) := by decide +kernel
theorem dX8_plainly_55 : decode cX8_plainly 55 = .ok (.iconst 1, 1) := by decide +kernel
theorem dX8_plainly_56 : decode cX8_plainly 56 = .ok (.if_icmp .ne 25, 3) := by decide +kernel
theorem dX8_plainly_59 : decode cX8_plainly 59 = .ok (.iload_n 1, 1) := by decide +kernel
theorem dX8_plainly_60 : decode cX8_plainly 60 = .ok (.ifCond .ne 10, 3) := by decide +kernel
theorem dX8_plainly_63 : decode cX8_plainly 63 = .ok (.iload_n 3, 1) := by decide +kernel
theorem dX8_plainly_64 : decode cX8_plainly 64 = .ok (.iload 5, 2) := by decide +kernel
theorem dX8_plainly_66 : decode cX8_plainly 66 = .ok (.iadd, 1) := by decide +kernel
theorem dX8_plainly_67 : decode cX8_plainly 67 = .ok (.goto 13, 3) := by decide +kernel
theorem dX8_plainly_70 : decode cX8_plainly 70 = .ok (.iload_n 1, 1) := by decide +kernel
theorem dX8_plainly_71 : decode cX8_plainly 71 = .ok (.iconst 3, 1) := by decide +kernel
theorem dX8_plainly_72 : decode cX8_plainly 72 = .ok (.if_icmp .ne 7, 3) := by decide +kernel
theorem dX8_plainly_75 : decode cX8_plainly 75 = .ok (.iconst 0, 1) := by decide +kernel
theorem dX8_plainly_76 : decode cX8_plainly 76 = .ok (.goto 4, 3) := by decide +kernel
theorem dX8_plainly_79 : decode cX8_plainly 79 = .ok (.iload_n 3, 1) := by decide +kernel
theorem dX8_plainly_80 : decode cX8_plainly 80 = .ok (.ireturn, 1) := by decide +kernel
theorem dX8_plainly_81 : decode cX8_plainly 81 = .ok (.iload 4, 2) := by decide +kernel
theorem dX8_plainly_83 : decode cX8_plainly 83 = .ok (.iconst 2, 1) := by decide +kernel
theorem dX8_plainly_84 : decode cX8_plainly 84 = .ok (.if_icmp .ne 26, 3) := by decide +kernel
theorem dX8_plainly_87 : decode cX8_plainly 87 = .ok (.iload_n 1, 1) := by decide +kernel
theorem dX8_plainly_88 : decode cX8_plainly 88 = .ok (.ifCond .ne 7, 3) := by decide +kernel
theorem dX8_plainly_91 : decode cX8_plainly 91 = .ok (.iload_n 3, 1) := by decide +kernel
theorem dX8_plainly_92 : decode cX8_plainly 92 = .ok (.goto 17, 3) := by decide +kernel
theorem dX8_plainly_95 : decode cX8_plainly 95 = .ok (.iload_n 1, 1) := by decide +kernel
theorem dX8_plainly_96 : decode cX8_plainly 96 = .ok (.iconst 3, 1) := by decide +kernel
theorem dX8_plainly_97 : decode cX8_plainly 97 = .ok (.if_icmp .ne 8, 3) := by decide +kernel
theorem dX8_plainly_100 : decode cX8_plainly 100 = .ok (.iload 5, 2) := by decide +kernel
theorem dX8_plainly_102 : decode cX8_plainly 102 = .ok (.goto 7, 3) := by decide +kernel
theorem dX8_plainly_105 : decode cX8_plainly 105 = .ok (.iload_n 3, 1) := by decide +kernel
theorem dX8_plainly_106 : decode cX8_plainly 106 = .ok (.iload 5, 2) := by decide +kernel
theorem dX8_plainly_108 : decode cX8_plainly 108 = .ok (.iadd, 1) := by decide +kernel
theorem dX8_plainly_109 : decode cX8_plainly 109 = .ok (.ireturn, 1) := by decide +kernel
theorem dX8_plainly_110 : decode cX8_plainly 110 = .ok (.iconst (-1), 1) := by decide +kernel
theorem dX8_plainly_111 : decode cX8_plainly 111 = .ok (.ireturn, 1) := by decide +kernel
theorem dX8_sets_0 : decode cX8_sets 0 = .ok (.aload_n 0, 1) := by decide +kernel
theorem dX8_sets_1 : decode cX8_sets 1 = .ok (.iload_n 1, 1) := by decide +kernel
theorem dX8_sets_2 : decode cX8_sets 2 = .ok (.putfield 118, 3) := by decide +kernel
theorem dX8_sets_5 : decode cX8_sets 5 = .ok (.aload_n 0, 1) := by decide +kernel
theorem dX8_sets_6 : decode cX8_sets 6 = .ok (.aload_n 0, 1) := by decide +kernel
theorem dX8_sets_7 : decode cX8_sets 7 = .ok (.aload_n 0, 1) := by decide +kernel
theorem dX8_sets_8 : decode cX8_sets 8 = .ok (.iload_n 2, 1) := by decide +kernel
theorem dX8_sets_9 : decode cX8_sets 9 = .ok (.invokevirtual 84, 3) := by decide +kernel
theorem dX8_sets_12 : decode cX8_sets 12 = .ok (.invokevirtual 100, 3) := by decide +kernel
theorem dX8_sets_15 : decode cX8_sets 15 = .ok (.i2l, 1) := by decide +kernel
theorem dX8_sets_16 : decode cX8_sets 16 = .ok (.putfield 121, 3) := by decide +kernel
theorem dX8_sets_19 : decode cX8_sets 19 = .ok (.aload_n 0, 1) := by decide +kernel
theorem dX8_sets_20 : decode cX8_sets 20 = .ok (.aload_n 0, 1) := by decide +kernel
theorem dX8_sets_21 : decode cX8_sets 21 = .ok (.aload_n 0, 1) := by decide +kernel
theorem dX8_sets_22 : decode cX8_sets 22 = .ok (.iload_n 2, 1) := by decide +kernel
theorem dX8_sets_23 : decode cX8_sets 23 = .ok (.invokevirtual 84, 3) := by decide +kernel
theorem dX8_sets_26 : decode cX8_sets 26 = .ok (.invokevirtual 103, 3) := by decide +kernel
theorem dX8_sets_29 : decode cX8_sets 29 = .ok (.putfield 125, 3) := by decide +kernel
theorem dX8_sets_32 : decode cX8_sets 32 = .ok (.return_, 1) := by decide +kernel
theorem dX8_rightOf_0 : decode cX8_rightOf 0 = .ok (.aload_n 0, 1) := by decide +kernel
theorem dX8_rightOf_1 : decode cX8_rightOf 1 = .ok (.iload_n 1, 1) := by decide +kernel
theorem dX8_rightOf_2 : decode cX8_rightOf 2 = .ok (.iload_n 2, 1) := by decide +kernel
theorem dX8_rightOf_3 : decode cX8_rightOf 3 = .ok (.invokevirtual 154, 3) := by decide +kernel
theorem dX8_rightOf_6 : decode cX8_rightOf 6 = .ok (.istore 4, 2) := by decide +kernel
theorem dX8_rightOf_8 : decode cX8_rightOf 8 = .ok (.iload 4, 2) := by decide +kernel
theorem dX8_rightOf_10 : decode cX8_rightOf 10 = .ok (.ifCond .lt 6, 3) := by decide +kernel
theorem dX8_rightOf_13 : decode cX8_rightOf 13 = .ok (.iload 4, 2) := by decide +kernel
theorem dX8_rightOf_15 : decode cX8_rightOf 15 = .ok (.ireturn, 1) := by decide +kernel
theorem dX8_rightOf_16 : decode cX8_rightOf 16 = .ok (.aload_n 0, 1) := by decide +kernel
theorem dX8_rightOf_17 : decode cX8_rightOf 17 = .ok (.iload_n 1, 1) := by decide +kernel
theorem dX8_rightOf_18 : decode cX8_rightOf 18 = .ok (.iload_n 2, 1) := by decide +kernel
theorem dX8_rightOf_19 : decode cX8_rightOf 19 = .ok (.invokevirtual 158, 3) := by decide +kernel
theorem dX8_rightOf_22 : decode cX8_rightOf 22 = .ok (.aload_n 0, 1) := by decide +kernel
theorem dX8_rightOf_23 : decode cX8_rightOf 23 = .ok (.iload_n 3, 1) := by decide +kernel
theorem dX8_rightOf_24 : decode cX8_rightOf 24 = .ok (.iload_n 2, 1) := by decide +kernel
theorem dX8_rightOf_25 : decode cX8_rightOf 25 = .ok (.aload_n 0, 1) := by decide +kernel
theorem dX8_rightOf_26 : decode cX8_rightOf 26 = .ok (.getfield 65, 3) := by decide +kernel
theorem dX8_rightOf_29 : decode cX8_rightOf 29 = .ok (.if_icmp .lt 12, 3) := by decide +kernel
theorem dX8_rightOf_32 : decode cX8_rightOf 32 = .ok (.iload_n 1, 1) := by decide +kernel
theorem dX8_rightOf_33 : decode cX8_rightOf 33 = .ok (.iconst 3, 1) := by decide +kernel
theorem dX8_rightOf_34 : decode cX8_rightOf 34 = .ok (.if_icmp .eq 7, 3) := by decide +kernel
theorem dX8_rightOf_37 : decode cX8_rightOf 37 = .ok (.iconst 1, 1) := by decide +kernel
theorem dX8_rightOf_38 : decode cX8_rightOf 38 = .ok (.goto 4, 3) := by decide +kernel
theorem dX8_rightOf_41 : decode cX8_rightOf 41 = .ok (.iconst 0, 1) := by decide +kernel
theorem dX8_rightOf_42 : decode cX8_rightOf 42 = .ok (.invokevirtual 150, 3) := by decide +kernel
theorem dX8_rightOf_45 : decode cX8_rightOf 45 = .ok (.ireturn, 1) := by decide +kernel
theorem dX8_isFunction_0 : decode cX8_isFunction 0 = .ok (.iload_n 0, 1) := by decide +kernel
theorem dX8_isFunction_1 : decode cX8_isFunction 1 = .ok (.iconst 5, 1) := by decide +kernel
theorem dX8_isFunction_2 : decode cX8_isFunction 2 = .ok (.invokestatic 80, 3) := by decide +kernel
theorem dX8_isFunction_5 : decode cX8_isFunction 5 = .ok (.ireturn, 1) := by decide +kernel
theorem dX8_right_0 : decode cX8_right 0 = .ok (.iload_n 1, 1) := by decide +kernel
theorem dX8_right_1 : decode cX8_right 1 = .ok (.invokestatic 161, 3) := by decide +kernel
theorem dX8_right_4 : decode cX8_right 4 = .ok (.ifCond .eq 29, 3) := by decide +kernel
theorem dX8_right_7 : decode cX8_right 7 = .ok (.aload_n 0, 1) := by decide +kernel
theorem dX8_right_8 : decode cX8_right 8 = .ok (.iload_n 2, 1) := by decide +kernel
theorem dX8_right_9 : decode cX8_right 9 = .ok (.invokevirtual 87, 3) := by decide +kernel
theorem dX8_right_12 : decode cX8_right 12 = .ok (.ifCond .eq 21, 3) := by decide +kernel
theorem dX8_right_15 : decode cX8_right 15 = .ok (.iload_n 3, 1) := by decide +kernel
theorem dX8_right_16 : decode cX8_right 16 = .ok (.iconst 5, 1) := by decide +kernel
theorem dX8_right_17 : decode cX8_right 17 = .ok (.invokestatic 80, 3) := by decide +kernel
theorem dX8_right_20 : decode cX8_right 20 = .ok (.ifCond .eq 13, 3) := by decide +kernel
theorem dX8_right_23 : decode cX8_right 23 = .ok (.aload_n 0, 1) := by decide +kernel
theorem dX8_right_24 : decode cX8_right 24 = .ok (.iload_n 1, 1) := by decide +kernel
theorem dX8_right_25 : decode cX8_right 25 = .ok (.iload_n 2, 1) := by decide +kernel
theorem dX8_right_26 : decode cX8_right 26 = .ok (.iload_n 3, 1) := by decide +kernel
theorem dX8_right_27 : decode cX8_right 27 = .ok (.invokevirtual 164, 3) := by decide +kernel
theorem dX8_right_30 : decode cX8_right 30 = .ok (.goto 8, 3) := by decide +kernel
theorem dX8_right_33 : decode cX8_right 33 = .ok (.aload_n 0, 1) := by decide +kernel
theorem dX8_right_34 : decode cX8_right 34 = .ok (.iconst (-1), 1) := by decide +kernel
theorem dX8_right_35 : decode cX8_right 35 = .ok (.invokevirtual 51, 3) := by decide +kernel
theorem dX8_right_38 : decode cX8_right 38 = .ok (.ireturn, 1) := by decide +kernel
theorem dX8_sortOf_0 : decode cX8_sortOf 0 = .ok (.aload_n 0, 1) := by decide +kernel
theorem dX8_sortOf_1 : decode cX8_sortOf 1 = .ok (.iload_n 1, 1) := by decide +kernel
theorem dX8_sortOf_2 : decode cX8_sortOf 2 = .ok (.iload_n 2, 1) := by decide +kernel
theorem dX8_sortOf_3 : decode cX8_sortOf 3 = .ok (.invokevirtual 154, 3) := by decide +kernel
theorem dX8_sortOf_6 : decode cX8_sortOf 6 = .ok (.ifCond .lt 22, 3) := by decide +kernel
theorem dX8_sortOf_9 : decode cX8_sortOf 9 = .ok (.aload_n 0, 1) := by decide +kernel
theorem dX8_sortOf_10 : decode cX8_sortOf 10 = .ok (.iload_n 2, 1) := by decide +kernel
theorem dX8_sortOf_11 : decode cX8_sortOf 11 = .ok (.invokevirtual 94, 3) := by decide +kernel
theorem dX8_sortOf_14 : decode cX8_sortOf 14 = .ok (.iconst 1, 1) := by decide +kernel
theorem dX8_sortOf_15 : decode cX8_sortOf 15 = .ok (.if_icmp .ne 11, 3) := by decide +kernel
theorem dX8_sortOf_18 : decode cX8_sortOf 18 = .ok (.iload_n 1, 1) := by decide +kernel
theorem dX8_sortOf_19 : decode cX8_sortOf 19 = .ok (.ifCond .eq 7, 3) := by decide +kernel
theorem dX8_sortOf_22 : decode cX8_sortOf 22 = .ok (.iconst 1, 1) := by decide +kernel
theorem dX8_sortOf_23 : decode cX8_sortOf 23 = .ok (.goto 4, 3) := by decide +kernel
theorem dX8_sortOf_26 : decode cX8_sortOf 26 = .ok (.iconst 0, 1) := by decide +kernel
theorem dX8_sortOf_27 : decode cX8_sortOf 27 = .ok (.ireturn, 1) := by decide +kernel
theorem dX8_sortOf_28 : decode cX8_sortOf 28 = .ok (.aload_n 0, 1) := by decide +kernel
theorem dX8_sortOf_29 : decode cX8_sortOf 29 = .ok (.iload_n 1, 1) := by decide +kernel
theorem dX8_sortOf_30 : decode cX8_sortOf 30 = .ok (.iload_n 2, 1) := by decide +kernel
theorem dX8_sortOf_31 : decode cX8_sortOf 31 = .ok (.invokevirtual 158, 3) := by decide +kernel
theorem dX8_sortOf_34 : decode cX8_sortOf 34 = .ok (.aload_n 0, 1) := by decide +kernel
theorem dX8_sortOf_35 : decode cX8_sortOf 35 = .ok (.invokevirtual 138, 3) := by decide +kernel
theorem dX8_sortOf_38 : decode cX8_sortOf 38 = .ok (.istore_n 3, 1) := by decide +kernel
theorem dX8_sortOf_39 : decode cX8_sortOf 39 = .ok (.aload_n 0, 1) := by decide +kernel
theorem dX8_sortOf_40 : decode cX8_sortOf 40 = .ok (.iload_n 3, 1) := by decide +kernel
theorem dX8_sortOf_41 : decode cX8_sortOf 41 = .ok (.invokevirtual 142, 3) := by decide +kernel
theorem dX8_sortOf_44 : decode cX8_sortOf 44 = .ok (.ifCond .eq 7, 3) := by decide +kernel
theorem dX8_sortOf_47 : decode cX8_sortOf 47 = .ok (.iconst 1, 1) := by decide +kernel
theorem dX8_sortOf_48 : decode cX8_sortOf 48 = .ok (.goto 16, 3) := by decide +kernel
theorem dX8_sortOf_51 : decode cX8_sortOf 51 = .ok (.aload_n 0, 1) := by decide +kernel
theorem dX8_sortOf_52 : decode cX8_sortOf 52 = .ok (.iload_n 3, 1) := by decide +kernel
theorem dX8_sortOf_53 : decode cX8_sortOf 53 = .ok (.invokevirtual 145, 3) := by decide +kernel
theorem dX8_sortOf_56 : decode cX8_sortOf 56 = .ok (.ifCond .ne 7, 3) := by decide +kernel
theorem dX8_sortOf_59 : decode cX8_sortOf 59 = .ok (.iconst 2, 1) := by decide +kernel
theorem dX8_sortOf_60 : decode cX8_sortOf 60 = .ok (.goto 4, 3) := by decide +kernel
theorem dX8_sortOf_63 : decode cX8_sortOf 63 = .ok (.iconst 3, 1) := by decide +kernel
theorem dX8_sortOf_64 : decode cX8_sortOf 64 = .ok (.ireturn, 1) := by decide +kernel
theorem dX8_sort_0 : decode cX8_sort 0 = .ok (.iload_n 1, 1) := by decide +kernel
theorem dX8_sort_1 : decode cX8_sort 1 = .ok (.invokestatic 161, 3) := by decide +kernel
theorem dX8_sort_4 : decode cX8_sort 4 = .ok (.ifCond .eq 20, 3) := by decide +kernel
theorem dX8_sort_7 : decode cX8_sort 7 = .ok (.aload_n 0, 1) := by decide +kernel
theorem dX8_sort_8 : decode cX8_sort 8 = .ok (.iload_n 2, 1) := by decide +kernel
theorem dX8_sort_9 : decode cX8_sort 9 = .ok (.invokevirtual 87, 3) := by decide +kernel
theorem dX8_sort_12 : decode cX8_sort 12 = .ok (.ifCond .eq 12, 3) := by decide +kernel
theorem dX8_sort_15 : decode cX8_sort 15 = .ok (.aload_n 0, 1) := by decide +kernel
theorem dX8_sort_16 : decode cX8_sort 16 = .ok (.iload_n 1, 1) := by decide +kernel
theorem dX8_sort_17 : decode cX8_sort 17 = .ok (.iload_n 2, 1) := by decide +kernel
theorem dX8_sort_18 : decode cX8_sort 18 = .ok (.invokevirtual 168, 3) := by decide +kernel
theorem dX8_sort_21 : decode cX8_sort 21 = .ok (.goto 8, 3) := by decide +kernel
theorem dX8_sort_24 : decode cX8_sort 24 = .ok (.aload_n 0, 1) := by decide +kernel
theorem dX8_sort_25 : decode cX8_sort 25 = .ok (.iconst (-1), 1) := by decide +kernel
theorem dX8_sort_26 : decode cX8_sort 26 = .ok (.invokevirtual 51, 3) := by decide +kernel
theorem dX8_sort_29 : decode cX8_sort 29 = .ok (.ireturn, 1) := by decide +kernel
theorem dX8_figuresOf_0 : decode cX8_figuresOf 0 = .ok (.aload_n 0, 1) := by decide +kernel
theorem dX8_figuresOf_1 : decode cX8_figuresOf 1 = .ok (.iload_n 1, 1) := by decide +kernel
theorem dX8_figuresOf_2 : decode cX8_figuresOf 2 = .ok (.iload_n 2, 1) := by decide +kernel
theorem dX8_figuresOf_3 : decode cX8_figuresOf 3 = .ok (.invokevirtual 154, 3) := by decide +kernel
theorem dX8_figuresOf_6 : decode cX8_figuresOf 6 = .ok (.ifCond .lt 6, 3) := by decide +kernel
theorem dX8_figuresOf_9 : decode cX8_figuresOf 9 = .ok (.bipush (-9), 2) := by decide +kernel
theorem dX8_figuresOf_11 : decode cX8_figuresOf 11 = .ok (.ireturn, 1) := by decide +kernel
theorem dX8_figuresOf_12 : decode cX8_figuresOf 12 = .ok (.aload_n 0, 1) := by decide +kernel
theorem dX8_figuresOf_13 : decode cX8_figuresOf 13 = .ok (.iload_n 1, 1) := by decide +kernel
theorem dX8_figuresOf_14 : decode cX8_figuresOf 14 = .ok (.iload_n 2, 1) := by decide +kernel
theorem dX8_figuresOf_15 : decode cX8_figuresOf 15 = .ok (.invokevirtual 158, 3) := by decide +kernel
theorem dX8_figuresOf_18 : decode cX8_figuresOf 18 = .ok (.aload_n 0, 1) := by decide +kernel
theorem dX8_figuresOf_19 : decode cX8_figuresOf 19 = .ok (.invokevirtual 138, 3) := by decide +kernel
theorem dX8_figuresOf_22 : decode cX8_figuresOf 22 = .ok (.istore_n 3, 1) := by decide +kernel
theorem dX8_figuresOf_23 : decode cX8_figuresOf 23 = .ok (.iload_n 3, 1) := by decide +kernel
theorem dX8_figuresOf_24 : decode cX8_figuresOf 24 = .ok (.aload_n 0, 1) := by decide +kernel
theorem dX8_figuresOf_25 : decode cX8_figuresOf 25 = .ok (.getfield 68, 3) := by decide +kernel
theorem dX8_figuresOf_28 : decode cX8_figuresOf 28 = .ok (.if_icmp .eq 11, 3) := by decide +kernel
theorem dX8_figuresOf_31 : decode cX8_figuresOf 31 = .ok (.aload_n 0, 1) := by decide +kernel
theorem dX8_figuresOf_32 : decode cX8_figuresOf 32 = .ok (.iload_n 3, 1) := by decide +kernel
theorem dX8_figuresOf_33 : decode cX8_figuresOf 33 = .ok (.invokevirtual 142, 3) := by decide +kernel
theorem dX8_figuresOf_36 : decode cX8_figuresOf 36 = .ok (.ifCond .eq 6, 3) := by decide +kernel
theorem dX8_figuresOf_39 : decode cX8_figuresOf 39 = .ok (.bipush (-9), 2) := by decide +kernel
theorem dX8_figuresOf_41 : decode cX8_figuresOf 41 = .ok (.ireturn, 1) := by decide +kernel
theorem dX8_figuresOf_42 : decode cX8_figuresOf 42 = .ok (.aload_n 0, 1) := by decide +kernel
theorem dX8_figuresOf_43 : decode cX8_figuresOf 43 = .ok (.iload_n 3, 1) := by decide +kernel
theorem dX8_figuresOf_44 : decode cX8_figuresOf 44 = .ok (.invokevirtual 100, 3) := by decide +kernel
theorem dX8_figuresOf_47 : decode cX8_figuresOf 47 = .ok (.i2l, 1) := by decide +kernel
theorem dX8_figuresOf_48 : decode cX8_figuresOf 48 = .ok (.lstore 4, 2) := by decide +kernel
theorem dX8_figuresOf_50 : decode cX8_figuresOf 50 = .ok (.iconst 0, 1) := by decide +kernel
theorem dX8_figuresOf_51 : decode cX8_figuresOf 51 = .ok (.istore 6, 2) := by decide +kernel
theorem dX8_figuresOf_53 : decode cX8_figuresOf 53 = .ok (.iconst 1, 1) := by decide +kernel
theorem dX8_figuresOf_54 : decode cX8_figuresOf 54 = .ok (.istore 7, 2) := by decide +kernel
theorem dX8_figuresOf_56 : decode cX8_figuresOf 56 = .ok (.iload 7, 2) := by decide +kernel
theorem dX8_figuresOf_58 : decode cX8_figuresOf 58 = .ok (.bipush 10, 2) := by decide +kernel
theorem dX8_figuresOf_60 : decode cX8_figuresOf 60 = .ok (.if_icmp .gt 75, 3) := by decide +kernel
theorem dX8_figuresOf_63 : decode cX8_figuresOf 63 = .ok (.ldc2_w 136, 3) := by decide +kernel
theorem dX8_figuresOf_66 : decode cX8_figuresOf 66 = .ok (.lload 4, 2) := by decide +kernel
theorem dX8_figuresOf_68 : decode cX8_figuresOf 68 = .ok (.lmul, 1) := by decide +kernel
theorem dX8_figuresOf_69 : decode cX8_figuresOf 69 = .ok (.lconst 1, 1) := by decide +kernel
theorem dX8_figuresOf_70 : decode cX8_figuresOf 70 = .ok (.ladd, 1) := by decide +kernel
theorem dX8_figuresOf_71 : decode cX8_figuresOf 71 = .ok (.lstore 4, 2) := by decide +kernel
theorem dX8_figuresOf_73 : decode cX8_figuresOf 73 = .ok (.aload_n 0, 1) := by decide +kernel
theorem dX8_figuresOf_74 : decode cX8_figuresOf 74 = .ok (.lload 4, 2) := by decide +kernel
theorem dX8_figuresOf_76 : decode cX8_figuresOf 76 = .ok (.aload_n 0, 1) := by decide +kernel
theorem dX8_figuresOf_77 : decode cX8_figuresOf 77 = .ok (.iload_n 3, 1) := by decide +kernel
theorem dX8_figuresOf_78 : decode cX8_figuresOf 78 = .ok (.invokevirtual 103, 3) := by decide +kernel
theorem dX8_figuresOf_81 : decode cX8_figuresOf 81 = .ok (.iload 7, 2) := by decide +kernel
theorem dX8_figuresOf_83 : decode cX8_figuresOf 83 = .ok (.isub, 1) := by decide +kernel
theorem dX8_figuresOf_84 : decode cX8_figuresOf 84 = .ok (.invokevirtual 132, 3) := by decide +kernel
theorem dX8_figuresOf_87 : decode cX8_figuresOf 87 = .ok (.ifCond .lt 7, 3) := by decide +kernel
theorem dX8_figuresOf_90 : decode cX8_figuresOf 90 = .ok (.iconst 1, 1) := by decide +kernel
theorem dX8_figuresOf_91 : decode cX8_figuresOf 91 = .ok (.goto 4, 3) := by decide +kernel
theorem dX8_figuresOf_94 : decode cX8_figuresOf 94 = .ok (.iconst 0, 1) := by decide +kernel
theorem dX8_figuresOf_95 : decode cX8_figuresOf 95 = .ok (.istore 8, 2) := by decide +kernel
theorem dX8_figuresOf_97 : decode cX8_figuresOf 97 = .ok (.lload 4, 2) := by decide +kernel
theorem dX8_figuresOf_99 : decode cX8_figuresOf 99 = .ok (.iload 8, 2) := by decide +kernel
theorem dX8_figuresOf_101 : decode cX8_figuresOf 101 = .ok (.ifCond .eq 7, 3) := by decide +kernel
theorem dX8_figuresOf_104 : decode cX8_figuresOf 104 = .ok (.lconst 0, 1) := by decide +kernel
theorem dX8_figuresOf_105 : decode cX8_figuresOf 105 = .ok (.goto 4, 3) := by decide +kernel
theorem dX8_figuresOf_108 : decode cX8_figuresOf 108 = .ok (.lconst 1, 1) := by decide +kernel
theorem dX8_figuresOf_109 : decode cX8_figuresOf 109 = .ok (.lsub, 1) := by decide +kernel
theorem dX8_figuresOf_110 : decode cX8_figuresOf 110 = .ok (.lstore 4, 2) := by decide +kernel
theorem dX8_figuresOf_112 : decode cX8_figuresOf 112 = .ok (.iconst 2, 1) := by decide +kernel
theorem dX8_figuresOf_113 : decode cX8_figuresOf 113 = .ok (.iload 6, 2) := by decide +kernel
theorem dX8_figuresOf_115 : decode cX8_figuresOf 115 = .ok (.imul, 1) := by decide +kernel
theorem dX8_figuresOf_116 : decode cX8_figuresOf 116 = .ok (.iload 8, 2) := by decide +kernel
theorem dX8_figuresOf_118 : decode cX8_figuresOf 118 = .ok (.ifCond .eq 7, 3) := by decide +kernel
theorem dX8_figuresOf_121 : decode cX8_figuresOf 121 = .ok (.iconst 1, 1) := by decide +kernel
theorem dX8_figuresOf_122 : decode cX8_figuresOf 122 = .ok (.goto 4, 3) := by decide +kernel
theorem dX8_figuresOf_125 : decode cX8_figuresOf 125 = .ok (.iconst 0, 1) := by decide +kernel
theorem dX8_figuresOf_126 : decode cX8_figuresOf 126 = .ok (.iadd, 1) := by decide +kernel
theorem dX8_figuresOf_127 : decode cX8_figuresOf 127 = .ok (.istore 6, 2) := by decide +kernel
theorem dX8_figuresOf_129 : decode cX8_figuresOf 129 = .ok (.iinc 7 1, 3) := by decide +kernel
theorem dX8_figuresOf_132 : decode cX8_figuresOf 132 = .ok (.goto (-76), 3) := by decide +kernel
theorem dX8_figuresOf_135 : decode cX8_figuresOf 135 = .ok (.iload 6, 2) := by decide +kernel
theorem dX8_figuresOf_137 : decode cX8_figuresOf 137 = .ok (.ireturn, 1) := by decide +kernel
theorem dX8_figures_0 : decode cX8_figures 0 = .ok (.iload_n 1, 1) := by decide +kernel
theorem dX8_figures_1 : decode cX8_figures 1 = .ok (.invokestatic 161, 3) := by decide +kernel
theorem dX8_figures_4 : decode cX8_figures 4 = .ok (.ifCond .eq 20, 3) := by decide +kernel
theorem dX8_figures_7 : decode cX8_figures 7 = .ok (.aload_n 0, 1) := by decide +kernel
theorem dX8_figures_8 : decode cX8_figures 8 = .ok (.iload_n 2, 1) := by decide +kernel
theorem dX8_figures_9 : decode cX8_figures 9 = .ok (.invokevirtual 87, 3) := by decide +kernel
theorem dX8_figures_12 : decode cX8_figures 12 = .ok (.ifCond .eq 12, 3) := by decide +kernel
theorem dX8_figures_15 : decode cX8_figures 15 = .ok (.aload_n 0, 1) := by decide +kernel
theorem dX8_figures_16 : decode cX8_figures 16 = .ok (.iload_n 1, 1) := by decide +kernel
theorem dX8_figures_17 : decode cX8_figures 17 = .ok (.iload_n 2, 1) := by decide +kernel
theorem dX8_figures_18 : decode cX8_figures 18 = .ok (.invokevirtual 171, 3) := by decide +kernel
theorem dX8_figures_21 : decode cX8_figures 21 = .ok (.goto 8, 3) := by decide +kernel
theorem dX8_figures_24 : decode cX8_figures 24 = .ok (.aload_n 0, 1) := by decide +kernel
theorem dX8_figures_25 : decode cX8_figures 25 = .ok (.iconst (-1), 1) := by decide +kernel
theorem dX8_figures_26 : decode cX8_figures 26 = .ok (.invokevirtual 51, 3) := by decide +kernel
theorem dX8_figures_29 : decode cX8_figures 29 = .ok (.ireturn, 1) := by decide +kernel
theorem dX8_hardOf_0 : decode cX8_hardOf 0 = .ok (.aload_n 0, 1) := by decide +kernel
theorem dX8_hardOf_1 : decode cX8_hardOf 1 = .ok (.iload_n 1, 1) := by decide +kernel
theorem dX8_hardOf_2 : decode cX8_hardOf 2 = .ok (.iload_n 2, 1) := by decide +kernel
theorem dX8_hardOf_3 : decode cX8_hardOf 3 = .ok (.invokevirtual 171, 3) := by decide +kernel
theorem dX8_hardOf_6 : decode cX8_hardOf 6 = .ok (.istore_n 3, 1) := by decide +kernel
theorem dX8_hardOf_7 : decode cX8_hardOf 7 = .ok (.iload_n 3, 1) := by decide +kernel
theorem dX8_hardOf_8 : decode cX8_hardOf 8 = .ok (.ifCond .ge 5, 3) := by decide +kernel
theorem dX8_hardOf_11 : decode cX8_hardOf 11 = .ok (.iconst 0, 1) := by decide +kernel
theorem dX8_hardOf_12 : decode cX8_hardOf 12 = .ok (.ireturn, 1) := by decide +kernel
theorem dX8_hardOf_13 : decode cX8_hardOf 13 = .ok (.iconst 1, 1) := by decide +kernel
theorem dX8_hardOf_14 : decode cX8_hardOf 14 = .ok (.istore 4, 2) := by decide +kernel
theorem dX8_hardOf_16 : decode cX8_hardOf 16 = .ok (.iload 4, 2) := by decide +kernel
theorem dX8_hardOf_18 : decode cX8_hardOf 18 = .ok (.bipush 9, 2) := by decide +kernel
theorem dX8_hardOf_20 : decode cX8_hardOf 20 = .ok (.if_icmp .ge 27, 3) := by decide +kernel
theorem dX8_hardOf_23 : decode cX8_hardOf 23 = .ok (.iload_n 3, 1) := by decide +kernel
theorem dX8_hardOf_24 : decode cX8_hardOf 24 = .ok (.bipush 8, 2) := by decide +kernel
theorem dX8_hardOf_26 : decode cX8_hardOf 26 = .ok (.iload 4, 2) := by decide +kernel
theorem dX8_hardOf_28 : decode cX8_hardOf 28 = .ok (.isub, 1) := by decide +kernel
theorem dX8_hardOf_29 : decode cX8_hardOf 29 = .ok (.ishr, 1) := by decide +kernel
theorem dX8_hardOf_30 : decode cX8_hardOf 30 = .ok (.iconst 1, 1) := by decide +kernel
theorem dX8_hardOf_31 : decode cX8_hardOf 31 = .ok (.iand, 1) := by decide +kernel
theorem dX8_hardOf_32 : decode cX8_hardOf 32 = .ok (.iload_n 3, 1) := by decide +kernel
theorem dX8_hardOf_33 : decode cX8_hardOf 33 = .ok (.bipush 8, 2) := by decide +kernel
theorem dX8_hardOf_35 : decode cX8_hardOf 35 = .ok (.ishr, 1) := by decide +kernel
theorem dX8_hardOf_36 : decode cX8_hardOf 36 = .ok (.iconst 1, 1) := by decide +kernel
theorem dX8_hardOf_37 : decode cX8_hardOf 37 = .ok (.iand, 1) := by decide +kernel
theorem dX8_hardOf_38 : decode cX8_hardOf 38 = .ok (.if_icmp .ne 9, 3) := by decide +kernel
theorem dX8_hardOf_41 : decode cX8_hardOf 41 = .ok (.iinc 4 1, 3) := by decide +kernel
theorem dX8_hardOf_44 : decode cX8_hardOf 44 = .ok (.goto (-28), 3) := by decide +kernel
theorem dX8_hardOf_47 : decode cX8_hardOf 47 = .ok (.iload 4, 2) := by decide +kernel
theorem dX8_hardOf_49 : decode cX8_hardOf 49 = .ok (.ireturn, 1) := by decide +kernel
theorem dX8_hard_0 : decode cX8_hard 0 = .ok (.iload_n 1, 1) := by decide +kernel
theorem dX8_hard_1 : decode cX8_hard 1 = .ok (.invokestatic 161, 3) := by decide +kernel
theorem dX8_hard_4 : decode cX8_hard 4 = .ok (.ifCond .eq 20, 3) := by decide +kernel
theorem dX8_hard_7 : decode cX8_hard 7 = .ok (.aload_n 0, 1) := by decide +kernel
theorem dX8_hard_8 : decode cX8_hard 8 = .ok (.iload_n 2, 1) := by decide +kernel
theorem dX8_hard_9 : decode cX8_hard 9 = .ok (.invokevirtual 87, 3) := by decide +kernel
theorem dX8_hard_12 : decode cX8_hard 12 = .ok (.ifCond .eq 12, 3) := by decide +kernel
theorem dX8_hard_15 : decode cX8_hard 15 = .ok (.aload_n 0, 1) := by decide +kernel
theorem dX8_hard_16 : decode cX8_hard 16 = .ok (.iload_n 1, 1) := by decide +kernel
theorem dX8_hard_17 : decode cX8_hard 17 = .ok (.iload_n 2, 1) := by decide +kernel
theorem dX8_hard_18 : decode cX8_hard 18 = .ok (.invokevirtual 174, 3) := by decide +kernel
theorem dX8_hard_21 : decode cX8_hard 21 = .ok (.goto 8, 3) := by decide +kernel
theorem dX8_hard_24 : decode cX8_hard 24 = .ok (.aload_n 0, 1) := by decide +kernel
theorem dX8_hard_25 : decode cX8_hard 25 = .ok (.iconst (-1), 1) := by decide +kernel
theorem dX8_hard_26 : decode cX8_hard 26 = .ok (.invokevirtual 51, 3) := by decide +kernel
theorem dX8_hard_29 : decode cX8_hard 29 = .ok (.ireturn, 1) := by decide +kernel
theorem dX8_know_0 : decode cX8_know 0 = .ok (.aload_n 0, 1) := by decide +kernel
theorem dX8_know_1 : decode cX8_know 1 = .ok (.getfield 13, 3) := by decide +kernel
theorem dX8_know_4 : decode cX8_know 4 = .ok (.iload_n 1, 1) := by decide +kernel
theorem dX8_know_5 : decode cX8_know 5 = .ok (.baload, 1) := by decide +kernel
theorem dX8_know_6 : decode cX8_know 6 = .ok (.ifCond .eq 4, 3) := by decide +kernel
theorem dX8_know_9 : decode cX8_know 9 = .ok (.return_, 1) := by decide +kernel
theorem dX8_know_10 : decode cX8_know 10 = .ok (.aload_n 0, 1) := by decide +kernel
theorem dX8_know_11 : decode cX8_know 11 = .ok (.getfield 13, 3) := by decide +kernel
theorem dX8_know_14 : decode cX8_know 14 = .ok (.iload_n 1, 1) := by decide +kernel
theorem dX8_know_15 : decode cX8_know 15 = .ok (.iconst 1, 1) := by decide +kernel
theorem dX8_know_16 : decode cX8_know 16 = .ok (.bastore, 1) := by decide +kernel
theorem dX8_know_17 : decode cX8_know 17 = .ok (.iconst 0, 1) := by decide +kernel
theorem dX8_know_18 : decode cX8_know 18 = .ok (.istore_n 2, 1) := by decide +kernel
theorem dX8_know_19 : decode cX8_know 19 = .ok (.iload_n 2, 1) := by decide +kernel
theorem dX8_know_20 : decode cX8_know 20 = .ok (.aload_n 0, 1) := by decide +kernel
theorem dX8_know_21 : decode cX8_know 21 = .ok (.getfield 62, 3) := by decide +kernel
theorem dX8_know_24 : decode cX8_know 24 = .ok (.if_icmp .ge 45, 3) := by decide +kernel
theorem dX8_know_27 : decode cX8_know 27 = .ok (.aload_n 0, 1) := by decide +kernel
theorem dX8_know_28 : decode cX8_know 28 = .ok (.getfield 18, 3) := by decide +kernel
theorem dX8_know_31 : decode cX8_know 31 = .ok (.sipush 16384, 3) := by decide +kernel
theorem dX8_know_34 : decode cX8_know 34 = .ok (.iload_n 1, 1) := by decide +kernel
theorem dX8_know_35 : decode cX8_know 35 = .ok (.imul, 1) := by decide +kernel
theorem dX8_know_36 : decode cX8_know 36 = .ok (.iload_n 2, 1) := by decide +kernel
theorem dX8_know_37 : decode cX8_know 37 = .ok (.iadd, 1) := by decide +kernel
theorem dX8_know_38 : decode cX8_know 38 = .ok (.aload_n 0, 1) := by decide +kernel
theorem dX8_know_39 : decode cX8_know 39 = .ok (.iload_n 1, 1) := by decide +kernel
theorem dX8_know_40 : decode cX8_know 40 = .ok (.iload_n 2, 1) := by decide +kernel
theorem dX8_know_41 : decode cX8_know 41 = .ok (.invokevirtual 174, 3) := by decide +kernel
theorem dX8_know_44 : decode cX8_know 44 = .ok (.iastore, 1) := by decide +kernel
theorem dX8_know_45 : decode cX8_know 45 = .ok (.aload_n 0, 1) := by decide +kernel
theorem dX8_know_46 : decode cX8_know 46 = .ok (.getfield 21, 3) := by decide +kernel
theorem dX8_know_49 : decode cX8_know 49 = .ok (.sipush 16384, 3) := by decide +kernel
theorem dX8_know_52 : decode cX8_know 52 = .ok (.iload_n 1, 1) := by decide +kernel
theorem dX8_know_53 : decode cX8_know 53 = .ok (.imul, 1) := by decide +kernel
theorem dX8_know_54 : decode cX8_know 54 = .ok (.iload_n 2, 1) := by decide +kernel
theorem dX8_know_55 : decode cX8_know 55 = .ok (.iadd, 1) := by decide +kernel
theorem dX8_know_56 : decode cX8_know 56 = .ok (.aload_n 0, 1) := by decide +kernel
theorem dX8_know_57 : decode cX8_know 57 = .ok (.iload_n 1, 1) := by decide +kernel
theorem dX8_know_58 : decode cX8_know 58 = .ok (.iload_n 2, 1) := by decide +kernel
theorem dX8_know_59 : decode cX8_know 59 = .ok (.invokevirtual 168, 3) := by decide +kernel
theorem dX8_know_62 : decode cX8_know 62 = .ok (.iastore, 1) := by decide +kernel
theorem dX8_know_63 : decode cX8_know 63 = .ok (.iinc 2 1, 3) := by decide +kernel
theorem dX8_know_66 : decode cX8_know 66 = .ok (.goto (-47), 3) := by decide +kernel
theorem dX8_know_69 : decode cX8_know 69 = .ok (.return_, 1) := by decide +kernel
theorem dX8_hardest_0 : decode cX8_hardest 0 = .ok (.iload_n 1, 1) := by decide +kernel
theorem dX8_hardest_1 : decode cX8_hardest 1 = .ok (.invokestatic 161, 3) := by decide +kernel
theorem dX8_hardest_4 : decode cX8_hardest 4 = .ok (.ifCond .ne 9, 3) := by decide +kernel
theorem dX8_hardest_7 : decode cX8_hardest 7 = .ok (.aload_n 0, 1) := by decide +kernel
theorem dX8_hardest_8 : decode cX8_hardest 8 = .ok (.iconst (-1), 1) := by decide +kernel
theorem dX8_hardest_9 : decode cX8_hardest 9 = .ok (.invokevirtual 51, 3) := by decide +kernel
theorem dX8_hardest_12 : decode cX8_hardest 12 = .ok (.ireturn, 1) := by decide +kernel
theorem dX8_hardest_13 : decode cX8_hardest 13 = .ok (.aload_n 0, 1) := by decide +kernel
theorem dX8_hardest_14 : decode cX8_hardest 14 = .ok (.iload_n 1, 1) := by decide +kernel
theorem dX8_hardest_15 : decode cX8_hardest 15 = .ok (.invokevirtual 177, 3) := by decide +kernel
theorem dX8_hardest_18 : decode cX8_hardest 18 = .ok (.iconst 0, 1) := by decide +kernel
theorem dX8_hardest_19 : decode cX8_hardest 19 = .ok (.istore_n 3, 1) := by decide +kernel
theorem dX8_hardest_20 : decode cX8_hardest 20 = .ok (.iconst 0, 1) := by decide +kernel
theorem dX8_hardest_21 : decode cX8_hardest 21 = .ok (.istore 4, 2) := by decide +kernel
theorem dX8_hardest_23 : decode cX8_hardest 23 = .ok (.iload 4, 2) := by decide +kernel
theorem dX8_hardest_25 : decode cX8_hardest 25 = .ok (.aload_n 0, 1) := by decide +kernel
theorem dX8_hardest_26 : decode cX8_hardest 26 = .ok (.getfield 62, 3) := by decide +kernel
theorem dX8_hardest_29 : decode cX8_hardest 29 = .ok (.if_icmp .ge 27, 3) := by decide +kernel
theorem dX8_hardest_32 : decode cX8_hardest 32 = .ok (.iload_n 3, 1) := by decide +kernel
theorem dX8_hardest_33 : decode cX8_hardest 33 = .ok (.aload_n 0, 1) := by decide +kernel
theorem dX8_hardest_34 : decode cX8_hardest 34 = .ok (.getfield 18, 3) := by decide +kernel
theorem dX8_hardest_37 : decode cX8_hardest 37 = .ok (.sipush 16384, 3) := by decide +kernel
theorem dX8_hardest_40 : decode cX8_hardest 40 = .ok (.iload_n 1, 1) := by decide +kernel
theorem dX8_hardest_41 : decode cX8_hardest 41 = .ok (.imul, 1) := by decide +kernel
theorem dX8_hardest_42 : decode cX8_hardest 42 = .ok (.iload 4, 2) := by decide +kernel
theorem dX8_hardest_44 : decode cX8_hardest 44 = .ok (.iadd, 1) := by decide +kernel
theorem dX8_hardest_45 : decode cX8_hardest 45 = .ok (.iaload, 1) := by decide +kernel
theorem dX8_hardest_46 : decode cX8_hardest 46 = .ok (.invokestatic 181, 3) := by decide +kernel
theorem dX8_hardest_49 : decode cX8_hardest 49 = .ok (.istore_n 3, 1) := by decide +kernel
theorem dX8_hardest_50 : decode cX8_hardest 50 = .ok (.iinc 4 1, 3) := by decide +kernel
theorem dX8_hardest_53 : decode cX8_hardest 53 = .ok (.goto (-30), 3) := by decide +kernel
theorem dX8_hardest_56 : decode cX8_hardest 56 = .ok (.iload_n 2, 1) := by decide +kernel
theorem dX8_hardest_57 : decode cX8_hardest 57 = .ok (.istore 4, 2) := by decide +kernel
theorem dX8_hardest_59 : decode cX8_hardest 59 = .ok (.iconst 0, 1) := by decide +kernel
theorem dX8_hardest_60 : decode cX8_hardest 60 = .ok (.istore 5, 2) := by decide +kernel
theorem dX8_hardest_62 : decode cX8_hardest 62 = .ok (.iload 5, 2) := by decide +kernel
theorem dX8_hardest_64 : decode cX8_hardest 64 = .ok (.aload_n 0, 1) := by decide +kernel
theorem dX8_hardest_65 : decode cX8_hardest 65 = .ok (.getfield 62, 3) := by decide +kernel
theorem dX8_hardest_68 : decode cX8_hardest 68 = .ok (.if_icmp .ge 44, 3) := by decide +kernel
theorem dX8_hardest_71 : decode cX8_hardest 71 = .ok (.iload_n 2, 1) := by decide +kernel
theorem dX8_hardest_72 : decode cX8_hardest 72 = .ok (.ifCond .lt 40, 3) := by decide +kernel
theorem dX8_hardest_75 : decode cX8_hardest 75 = .ok (.aload_n 0, 1) := by decide +kernel
theorem dX8_hardest_76 : decode cX8_hardest 76 = .ok (.getfield 18, 3) := by decide +kernel
theorem dX8_hardest_79 : decode cX8_hardest 79 = .ok (.sipush 16384, 3) := by decide +kernel
theorem dX8_hardest_82 : decode cX8_hardest 82 = .ok (.iload_n 1, 1) := by decide +kernel
theorem dX8_hardest_83 : decode cX8_hardest 83 = .ok (.imul, 1) := by decide +kernel
theorem dX8_hardest_84 : decode cX8_hardest 84 = .ok (.iload 5, 2) := by decide +kernel
theorem dX8_hardest_86 : decode cX8_hardest 86 = .ok (.iadd, 1) := by decide +kernel
theorem dX8_hardest_87 : decode cX8_hardest 87 = .ok (.iaload, 1) := by decide +kernel
theorem dX8_hardest_88 : decode cX8_hardest 88 = .ok (.iload_n 3, 1) := by decide +kernel
theorem dX8_hardest_89 : decode cX8_hardest 89 = .ok (.if_icmp .eq 6, 3) := by decide +kernel
theorem dX8_hardest_92 : decode cX8_hardest 92 = .ok (.goto 14, 3) := by decide +kernel
theorem dX8_hardest_95 : decode cX8_hardest 95 = .ok (.iload 4, 2) := by decide +kernel
theorem dX8_hardest_97 : decode cX8_hardest 97 = .ok (.ifCond .ne 6, 3) := by decide +kernel
theorem dX8_hardest_100 : decode cX8_hardest 100 = .ok (.iload 5, 2) := by decide +kernel
theorem dX8_hardest_102 : decode cX8_hardest 102 = .ok (.ireturn, 1) := by decide +kernel
theorem dX8_hardest_103 : decode cX8_hardest 103 = .ok (.iinc 4 (-1), 3) := by decide +kernel
theorem dX8_hardest_106 : decode cX8_hardest 106 = .ok (.iinc 5 1, 3) := by decide +kernel
theorem dX8_hardest_109 : decode cX8_hardest 109 = .ok (.goto (-47), 3) := by decide +kernel
theorem dX8_hardest_112 : decode cX8_hardest 112 = .ok (.bipush (-9), 2) := by decide +kernel
theorem dX8_hardest_114 : decode cX8_hardest 114 = .ok (.ireturn, 1) := by decide +kernel
theorem dX8_count_0 : decode cX8_count 0 = .ok (.iload_n 1, 1) := by decide +kernel
theorem dX8_count_1 : decode cX8_count 1 = .ok (.invokestatic 161, 3) := by decide +kernel
theorem dX8_count_4 : decode cX8_count 4 = .ok (.ifCond .ne 9, 3) := by decide +kernel
theorem dX8_count_7 : decode cX8_count 7 = .ok (.aload_n 0, 1) := by decide +kernel
theorem dX8_count_8 : decode cX8_count 8 = .ok (.iconst (-1), 1) := by decide +kernel
theorem dX8_count_9 : decode cX8_count 9 = .ok (.invokevirtual 51, 3) := by decide +kernel
theorem dX8_count_12 : decode cX8_count 12 = .ok (.ireturn, 1) := by decide +kernel
theorem dX8_count_13 : decode cX8_count 13 = .ok (.iload_n 2, 1) := by decide +kernel
theorem dX8_count_14 : decode cX8_count 14 = .ok (.ifCond .ge 10, 3) := by decide +kernel
theorem dX8_count_17 : decode cX8_count 17 = .ok (.aload_n 0, 1) := by decide +kernel
theorem dX8_count_18 : decode cX8_count 18 = .ok (.bipush (-4), 2) := by decide +kernel
theorem dX8_count_20 : decode cX8_count 20 = .ok (.invokevirtual 51, 3) := by decide +kernel
theorem dX8_count_23 : decode cX8_count 23 = .ok (.ireturn, 1) := by decide +kernel
theorem dX8_count_24 : decode cX8_count 24 = .ok (.iload_n 2, 1) := by decide +kernel
theorem dX8_count_25 : decode cX8_count 25 = .ok (.bipush 9, 2) := by decide +kernel
theorem dX8_count_27 : decode cX8_count 27 = .ok (.if_icmp .le 10, 3) := by decide +kernel
theorem dX8_count_30 : decode cX8_count 30 = .ok (.aload_n 0, 1) := by decide +kernel
theorem dX8_count_31 : decode cX8_count 31 = .ok (.bipush (-6), 2) := by decide +kernel
theorem dX8_count_33 : decode cX8_count 33 = .ok (.invokevirtual 51, 3) := by decide +kernel
theorem dX8_count_36 : decode cX8_count 36 = .ok (.ireturn, 1) := by decide +kernel
theorem dX8_count_37 : decode cX8_count 37 = .ok (.aload_n 0, 1) := by decide +kernel
theorem dX8_count_38 : decode cX8_count 38 = .ok (.iload_n 1, 1) := by decide +kernel
theorem dX8_count_39 : decode cX8_count 39 = .ok (.invokevirtual 177, 3) := by decide +kernel
theorem dX8_count_42 : decode cX8_count 42 = .ok (.iconst 0, 1) := by decide +kernel
theorem dX8_count_43 : decode cX8_count 43 = .ok (.istore_n 3, 1) := by decide +kernel
theorem dX8_count_44 : decode cX8_count 44 = .ok (.iconst 0, 1) := by decide +kernel
theorem dX8_count_45 : decode cX8_count 45 = .ok (.istore 4, 2) := by decide +kernel
theorem dX8_count_47 : decode cX8_count 47 = .ok (.iload 4, 2) := by decide +kernel
theorem dX8_count_49 : decode cX8_count 49 = .ok (.aload_n 0, 1) := by decide +kernel
theorem dX8_count_50 : decode cX8_count 50 = .ok (.getfield 62, 3) := by decide +kernel
theorem dX8_count_53 : decode cX8_count 53 = .ok (.if_icmp .ge 34, 3) := by decide +kernel
theorem dX8_count_56 : decode cX8_count 56 = .ok (.iload_n 3, 1) := by decide +kernel
theorem dX8_count_57 : decode cX8_count 57 = .ok (.aload_n 0, 1) := by decide +kernel
theorem dX8_count_58 : decode cX8_count 58 = .ok (.getfield 18, 3) := by decide +kernel
theorem dX8_count_61 : decode cX8_count 61 = .ok (.sipush 16384, 3) := by decide +kernel
theorem dX8_count_64 : decode cX8_count 64 = .ok (.iload_n 1, 1) := by decide +kernel
theorem dX8_count_65 : decode cX8_count 65 = .ok (.imul, 1) := by decide +kernel
theorem dX8_count_66 : decode cX8_count 66 = .ok (.iload 4, 2) := by decide +kernel
theorem dX8_count_68 : decode cX8_count 68 = .ok (.iadd, 1) := by decide +kernel
theorem dX8_count_69 : decode cX8_count 69 = .ok (.iaload, 1) := by decide +kernel
theorem dX8_count_70 : decode cX8_count 70 = .ok (.iload_n 2, 1) := by decide +kernel
theorem dX8_count_71 : decode cX8_count 71 = .ok (.if_icmp .ne 7, 3) := by decide +kernel
theorem dX8_count_74 : decode cX8_count 74 = .ok (.iconst 1, 1) := by decide +kernel
theorem dX8_count_75 : decode cX8_count 75 = .ok (.goto 4, 3) := by decide +kernel
theorem dX8_count_78 : decode cX8_count 78 = .ok (.iconst 0, 1) := by decide +kernel
theorem dX8_count_79 : decode cX8_count 79 = .ok (.iadd, 1) := by decide +kernel
theorem dX8_count_80 : decode cX8_count 80 = .ok (.istore_n 3, 1) := by decide +kernel
theorem dX8_count_81 : decode cX8_count 81 = .ok (.iinc 4 1, 3) := by decide +kernel
theorem dX8_count_84 : decode cX8_count 84 = .ok (.goto (-37), 3) := by decide +kernel
theorem dX8_count_87 : decode cX8_count 87 = .ok (.iload_n 3, 1) := by decide +kernel
theorem dX8_count_88 : decode cX8_count 88 = .ok (.ireturn, 1) := by decide +kernel
theorem dX8_all_0 : decode cX8_all 0 = .ok (.iload_n 1, 1) := by decide +kernel
theorem dX8_all_1 : decode cX8_all 1 = .ok (.invokestatic 161, 3) := by decide +kernel
theorem dX8_all_4 : decode cX8_all 4 = .ok (.ifCond .ne 9, 3) := by decide +kernel
theorem dX8_all_7 : decode cX8_all 7 = .ok (.aload_n 0, 1) := by decide +kernel
theorem dX8_all_8 : decode cX8_all 8 = .ok (.iconst (-1), 1) := by decide +kernel
theorem dX8_all_9 : decode cX8_all 9 = .ok (.invokevirtual 51, 3) := by decide +kernel
theorem dX8_all_12 : decode cX8_all 12 = .ok (.ireturn, 1) := by decide +kernel
theorem dX8_all_13 : decode cX8_all 13 = .ok (.iload_n 2, 1) := by decide +kernel
theorem dX8_all_14 : decode cX8_all 14 = .ok (.iconst 4, 1) := by decide +kernel
theorem dX8_all_15 : decode cX8_all 15 = .ok (.invokestatic 80, 3) := by decide +kernel
theorem dX8_all_18 : decode cX8_all 18 = .ok (.ifCond .ne 10, 3) := by decide +kernel
theorem dX8_all_21 : decode cX8_all 21 = .ok (.aload_n 0, 1) := by decide +kernel
theorem dX8_all_22 : decode cX8_all 22 = .ok (.bipush (-2), 2) := by decide +kernel
theorem dX8_all_24 : decode cX8_all 24 = .ok (.invokevirtual 51, 3) := by decide +kernel
theorem dX8_all_27 : decode cX8_all 27 = .ok (.ireturn, 1) := by decide +kernel
theorem dX8_all_28 : decode cX8_all 28 = .ok (.aload_n 0, 1) := by decide +kernel
theorem dX8_all_29 : decode cX8_all 29 = .ok (.iload_n 1, 1) := by decide +kernel
theorem dX8_all_30 : decode cX8_all 30 = .ok (.invokevirtual 177, 3) := by decide +kernel
theorem dX8_all_33 : decode cX8_all 33 = .ok (.iconst 0, 1) := by decide +kernel
theorem dX8_all_34 : decode cX8_all 34 = .ok (.istore_n 3, 1) := by decide +kernel
theorem dX8_all_35 : decode cX8_all 35 = .ok (.iconst 0, 1) := by decide +kernel
theorem dX8_all_36 : decode cX8_all 36 = .ok (.istore 4, 2) := by decide +kernel
theorem dX8_all_38 : decode cX8_all 38 = .ok (.iload 4, 2) := by decide +kernel
theorem dX8_all_40 : decode cX8_all 40 = .ok (.aload_n 0, 1) := by decide +kernel
theorem dX8_all_41 : decode cX8_all 41 = .ok (.getfield 62, 3) := by decide +kernel
theorem dX8_all_44 : decode cX8_all 44 = .ok (.if_icmp .ge 34, 3) := by decide +kernel
theorem dX8_all_47 : decode cX8_all 47 = .ok (.iload_n 3, 1) := by decide +kernel
theorem dX8_all_48 : decode cX8_all 48 = .ok (.aload_n 0, 1) := by decide +kernel
theorem dX8_all_49 : decode cX8_all 49 = .ok (.getfield 21, 3) := by decide +kernel
theorem dX8_all_52 : decode cX8_all 52 = .ok (.sipush 16384, 3) := by decide +kernel
theorem dX8_all_55 : decode cX8_all 55 = .ok (.iload_n 1, 1) := by decide +kernel
theorem dX8_all_56 : decode cX8_all 56 = .ok (.imul, 1) := by decide +kernel
theorem dX8_all_57 : decode cX8_all 57 = .ok (.iload 4, 2) := by decide +kernel
theorem dX8_all_59 : decode cX8_all 59 = .ok (.iadd, 1) := by decide +kernel
theorem dX8_all_60 : decode cX8_all 60 = .ok (.iaload, 1) := by decide +kernel
theorem dX8_all_61 : decode cX8_all 61 = .ok (.iload_n 2, 1) := by decide +kernel
theorem dX8_all_62 : decode cX8_all 62 = .ok (.if_icmp .ne 7, 3) := by decide +kernel
theorem dX8_all_65 : decode cX8_all 65 = .ok (.iconst 1, 1) := by decide +kernel
theorem dX8_all_66 : decode cX8_all 66 = .ok (.goto 4, 3) := by decide +kernel
theorem dX8_all_69 : decode cX8_all 69 = .ok (.iconst 0, 1) := by decide +kernel
theorem dX8_all_70 : decode cX8_all 70 = .ok (.iadd, 1) := by decide +kernel
theorem dX8_all_71 : decode cX8_all 71 = .ok (.istore_n 3, 1) := by decide +kernel
theorem dX8_all_72 : decode cX8_all 72 = .ok (.iinc 4 1, 3) := by decide +kernel
theorem dX8_all_75 : decode cX8_all 75 = .ok (.goto (-37), 3) := by decide +kernel
theorem dX8_all_78 : decode cX8_all 78 = .ok (.iload_n 3, 1) := by decide +kernel
theorem dX8_all_79 : decode cX8_all 79 = .ok (.ireturn, 1) := by decide +kernel
theorem dX8_findSpans_0 : decode cX8_findSpans 0 = .ok (.aload_n 0, 1) := by decide +kernel
theorem dX8_findSpans_1 : decode cX8_findSpans 1 = .ok (.getfield 77, 3) := by decide +kernel
theorem dX8_findSpans_4 : decode cX8_findSpans 4 = .ok (.iload_n 1, 1) := by decide +kernel
theorem dX8_findSpans_5 : decode cX8_findSpans 5 = .ok (.if_icmp .ne 12, 3) := by decide +kernel
theorem dX8_findSpans_8 : decode cX8_findSpans 8 = .ok (.aload_n 0, 1) := by decide +kernel
theorem dX8_findSpans_9 : decode cX8_findSpans 9 = .ok (.getfield 184, 3) := by decide +kernel
theorem dX8_findSpans_12 : decode cX8_findSpans 12 = .ok (.iload_n 2, 1) := by decide +kernel
theorem dX8_findSpans_13 : decode cX8_findSpans 13 = .ok (.if_icmp .ne 4, 3) := by decide +kernel
theorem dX8_findSpans_16 : decode cX8_findSpans 16 = .ok (.return_, 1) := by decide +kernel
theorem dX8_findSpans_17 : decode cX8_findSpans 17 = .ok (.aload_n 0, 1) := by decide +kernel
theorem dX8_findSpans_18 : decode cX8_findSpans 18 = .ok (.iload_n 1, 1) := by decide +kernel
theorem dX8_findSpans_19 : decode cX8_findSpans 19 = .ok (.putfield 77, 3) := by decide +kernel
theorem dX8_findSpans_22 : decode cX8_findSpans 22 = .ok (.aload_n 0, 1) := by decide +kernel
theorem dX8_findSpans_23 : decode cX8_findSpans 23 = .ok (.iload_n 2, 1) := by decide +kernel
theorem dX8_findSpans_24 : decode cX8_findSpans 24 = .ok (.putfield 184, 3) := by decide +kernel
theorem dX8_findSpans_27 : decode cX8_findSpans 27 = .ok (.aload_n 0, 1) := by decide +kernel
theorem dX8_findSpans_28 : decode cX8_findSpans 28 = .ok (.iconst 0, 1) := by decide +kernel
theorem dX8_findSpans_29 : decode cX8_findSpans 29 = .ok (.putfield 187, 3) := by decide +kernel
theorem dX8_findSpans_32 : decode cX8_findSpans 32 = .ok (.iconst (-1), 1) := by decide +kernel
theorem dX8_findSpans_33 : decode cX8_findSpans 33 = .ok (.istore_n 3, 1) := by decide +kernel
theorem dX8_findSpans_34 : decode cX8_findSpans 34 = .ok (.iconst 1, 1) := by decide +kernel
theorem dX8_findSpans_35 : decode cX8_findSpans 35 = .ok (.istore 4, 2) := by decide +kernel
theorem dX8_findSpans_37 : decode cX8_findSpans 37 = .ok (.iload 4, 2) := by decide +kernel
theorem dX8_findSpans_39 : decode cX8_findSpans 39 = .ok (.aload_n 0, 1) := by decide +kernel
theorem dX8_findSpans_40 : decode cX8_findSpans 40 = .ok (.getfield 68, 3) := by decide +kernel
theorem dX8_findSpans_43 : decode cX8_findSpans 43 = .ok (.if_icmp .gt 69, 3) := by decide +kernel
theorem dX8_findSpans_46 : decode cX8_findSpans 46 = .ok (.aload_n 0, 1) := by decide +kernel
theorem dX8_findSpans_47 : decode cX8_findSpans 47 = .ok (.iload_n 1, 1) := by decide +kernel
theorem dX8_findSpans_48 : decode cX8_findSpans 48 = .ok (.iload 4, 2) := by decide +kernel
theorem dX8_findSpans_50 : decode cX8_findSpans 50 = .ok (.iload_n 2, 1) := by decide +kernel
theorem dX8_findSpans_51 : decode cX8_findSpans 51 = .ok (.invokevirtual 164, 3) := by decide +kernel
theorem dX8_findSpans_54 : decode cX8_findSpans 54 = .ok (.istore 5, 2) := by decide +kernel
theorem dX8_findSpans_56 : decode cX8_findSpans 56 = .ok (.aload_n 0, 1) := by decide +kernel
theorem dX8_findSpans_57 : decode cX8_findSpans 57 = .ok (.getfield 187, 3) := by decide +kernel
theorem dX8_findSpans_60 : decode cX8_findSpans 60 = .ok (.ifCond .eq 9, 3) := by decide +kernel
theorem dX8_findSpans_63 : decode cX8_findSpans 63 = .ok (.iload 5, 2) := by decide +kernel
theorem dX8_findSpans_65 : decode cX8_findSpans 65 = .ok (.iload_n 3, 1) := by decide +kernel
theorem dX8_findSpans_66 : decode cX8_findSpans 66 = .ok (.if_icmp .eq 24, 3) := by decide +kernel
theorem dX8_findSpans_69 : decode cX8_findSpans 69 = .ok (.aload_n 0, 1) := by decide +kernel
theorem dX8_findSpans_70 : decode cX8_findSpans 70 = .ok (.getfield 24, 3) := by decide +kernel
theorem dX8_findSpans_73 : decode cX8_findSpans 73 = .ok (.aload_n 0, 1) := by decide +kernel
theorem dX8_findSpans_74 : decode cX8_findSpans 74 = .ok (.getfield 187, 3) := by decide +kernel
theorem dX8_findSpans_77 : decode cX8_findSpans 77 = .ok (.iload 4, 2) := by decide +kernel
theorem dX8_findSpans_79 : decode cX8_findSpans 79 = .ok (.iastore, 1) := by decide +kernel
theorem dX8_findSpans_80 : decode cX8_findSpans 80 = .ok (.aload_n 0, 1) := by decide +kernel
theorem dX8_findSpans_81 : decode cX8_findSpans 81 = .ok (.dup, 1) := by decide +kernel
theorem dX8_findSpans_82 : decode cX8_findSpans 82 = .ok (.getfield 187, 3) := by decide +kernel
theorem dX8_findSpans_85 : decode cX8_findSpans 85 = .ok (.iconst 1, 1) := by decide +kernel
theorem dX8_findSpans_86 : decode cX8_findSpans 86 = .ok (.iadd, 1) := by decide +kernel
theorem dX8_findSpans_87 : decode cX8_findSpans 87 = .ok (.putfield 187, 3) := by decide +kernel
theorem dX8_findSpans_90 : decode cX8_findSpans 90 = .ok (.aload_n 0, 1) := by decide +kernel
theorem dX8_findSpans_91 : decode cX8_findSpans 91 = .ok (.getfield 27, 3) := by decide +kernel
theorem dX8_findSpans_94 : decode cX8_findSpans 94 = .ok (.aload_n 0, 1) := by decide +kernel
theorem dX8_findSpans_95 : decode cX8_findSpans 95 = .ok (.getfield 187, 3) := by decide +kernel
theorem dX8_findSpans_98 : decode cX8_findSpans 98 = .ok (.iconst 1, 1) := by decide +kernel
theorem dX8_findSpans_99 : decode cX8_findSpans 99 = .ok (.isub, 1) := by decide +kernel
theorem dX8_findSpans_100 : decode cX8_findSpans 100 = .ok (.iload 4, 2) := by decide +kernel
theorem dX8_findSpans_102 : decode cX8_findSpans 102 = .ok (.iastore, 1) := by decide +kernel
theorem dX8_findSpans_103 : decode cX8_findSpans 103 = .ok (.iload 5, 2) := by decide +kernel
theorem dX8_findSpans_105 : decode cX8_findSpans 105 = .ok (.istore_n 3, 1) := by decide +kernel
theorem dX8_findSpans_106 : decode cX8_findSpans 106 = .ok (.iinc 4 1, 3) := by decide +kernel
theorem dX8_findSpans_109 : decode cX8_findSpans 109 = .ok (.goto (-72), 3) := by decide +kernel
theorem dX8_findSpans_112 : decode cX8_findSpans 112 = .ok (.return_, 1) := by decide +kernel
theorem dX8_spans_0 : decode cX8_spans 0 = .ok (.iload_n 1, 1) := by decide +kernel
theorem dX8_spans_1 : decode cX8_spans 1 = .ok (.invokestatic 161, 3) := by decide +kernel
theorem dX8_spans_4 : decode cX8_spans 4 = .ok (.ifCond .eq 11, 3) := by decide +kernel
theorem dX8_spans_7 : decode cX8_spans 7 = .ok (.iload_n 2, 1) := by decide +kernel
theorem dX8_spans_8 : decode cX8_spans 8 = .ok (.iconst 5, 1) := by decide +kernel
theorem dX8_spans_9 : decode cX8_spans 9 = .ok (.invokestatic 80, 3) := by decide +kernel
theorem dX8_spans_12 : decode cX8_spans 12 = .ok (.ifCond .ne 9, 3) := by decide +kernel
theorem dX8_spans_15 : decode cX8_spans 15 = .ok (.aload_n 0, 1) := by decide +kernel
theorem dX8_spans_16 : decode cX8_spans 16 = .ok (.iconst (-1), 1) := by decide +kernel
theorem dX8_spans_17 : decode cX8_spans 17 = .ok (.invokevirtual 51, 3) := by decide +kernel
theorem dX8_spans_20 : decode cX8_spans 20 = .ok (.ireturn, 1) := by decide +kernel
theorem dX8_spans_21 : decode cX8_spans 21 = .ok (.aload_n 0, 1) := by decide +kernel
theorem dX8_spans_22 : decode cX8_spans 22 = .ok (.iload_n 1, 1) := by decide +kernel
theorem dX8_spans_23 : decode cX8_spans 23 = .ok (.iload_n 2, 1) := by decide +kernel
theorem dX8_spans_24 : decode cX8_spans 24 = .ok (.invokevirtual 190, 3) := by decide +kernel
theorem dX8_spans_27 : decode cX8_spans 27 = .ok (.aload_n 0, 1) := by decide +kernel
theorem dX8_spans_28 : decode cX8_spans 28 = .ok (.getfield 187, 3) := by decide +kernel
theorem dX8_spans_31 : decode cX8_spans 31 = .ok (.ireturn, 1) := by decide +kernel
theorem dX8_span_0 : decode cX8_span 0 = .ok (.iload_n 1, 1) := by decide +kernel
theorem dX8_span_1 : decode cX8_span 1 = .ok (.invokestatic 161, 3) := by decide +kernel
theorem dX8_span_4 : decode cX8_span 4 = .ok (.ifCond .eq 11, 3) := by decide +kernel
theorem dX8_span_7 : decode cX8_span 7 = .ok (.iload_n 2, 1) := by decide +kernel
theorem dX8_span_8 : decode cX8_span 8 = .ok (.iconst 5, 1) := by decide +kernel
theorem dX8_span_9 : decode cX8_span 9 = .ok (.invokestatic 80, 3) := by decide +kernel
theorem dX8_span_12 : decode cX8_span 12 = .ok (.ifCond .ne 9, 3) := by decide +kernel
theorem dX8_span_15 : decode cX8_span 15 = .ok (.aload_n 0, 1) := by decide +kernel
theorem dX8_span_16 : decode cX8_span 16 = .ok (.iconst (-1), 1) := by decide +kernel
theorem dX8_span_17 : decode cX8_span 17 = .ok (.invokevirtual 51, 3) := by decide +kernel
theorem dX8_span_20 : decode cX8_span 20 = .ok (.ireturn, 1) := by decide +kernel
theorem dX8_span_21 : decode cX8_span 21 = .ok (.aload_n 0, 1) := by decide +kernel
theorem dX8_span_22 : decode cX8_span 22 = .ok (.iload_n 1, 1) := by decide +kernel
theorem dX8_span_23 : decode cX8_span 23 = .ok (.iload_n 2, 1) := by decide +kernel
theorem dX8_span_24 : decode cX8_span 24 = .ok (.invokevirtual 190, 3) := by decide +kernel
theorem dX8_span_27 : decode cX8_span 27 = .ok (.iload_n 3, 1) := by decide +kernel
theorem dX8_span_28 : decode cX8_span 28 = .ok (.aload_n 0, 1) := by decide +kernel
theorem dX8_span_29 : decode cX8_span 29 = .ok (.getfield 187, 3) := by decide +kernel
theorem dX8_span_32 : decode cX8_span 32 = .ok (.invokestatic 80, 3) := by decide +kernel
theorem dX8_span_35 : decode cX8_span 35 = .ok (.ifCond .ne 9, 3) := by decide +kernel
theorem dX8_span_38 : decode cX8_span 38 = .ok (.aload_n 0, 1) := by decide +kernel
theorem dX8_span_39 : decode cX8_span 39 = .ok (.iconst (-1), 1) := by decide +kernel
theorem dX8_span_40 : decode cX8_span 40 = .ok (.invokevirtual 51, 3) := by decide +kernel
theorem dX8_span_43 : decode cX8_span 43 = .ok (.ireturn, 1) := by decide +kernel
theorem dX8_span_44 : decode cX8_span 44 = .ok (.iload 4, 2) := by decide +kernel
theorem dX8_span_46 : decode cX8_span 46 = .ok (.tableswitch 53 0 2 #[26, 33, 40], 26) := by decide +kernel
theorem dX8_span_72 : decode cX8_span 72 = .ok (.aload_n 0, 1) := by decide +kernel
theorem dX8_span_73 : decode cX8_span 73 = .ok (.getfield 24, 3) := by decide +kernel
theorem dX8_span_76 : decode cX8_span 76 = .ok (.iload_n 3, 1) := by decide +kernel
theorem dX8_span_77 : decode cX8_span 77 = .ok (.iaload, 1) := by decide +kernel
theorem dX8_span_78 : decode cX8_span 78 = .ok (.ireturn, 1) := by decide +kernel
theorem dX8_span_79 : decode cX8_span 79 = .ok (.aload_n 0, 1) := by decide +kernel
theorem dX8_span_80 : decode cX8_span 80 = .ok (.getfield 27, 3) := by decide +kernel
theorem dX8_span_83 : decode cX8_span 83 = .ok (.iload_n 3, 1) := by decide +kernel
theorem dX8_span_84 : decode cX8_span 84 = .ok (.iaload, 1) := by decide +kernel
theorem dX8_span_85 : decode cX8_span 85 = .ok (.ireturn, 1) := by decide +kernel
theorem dX8_span_86 : decode cX8_span 86 = .ok (.aload_n 0, 1) := by decide +kernel
theorem dX8_span_87 : decode cX8_span 87 = .ok (.iload_n 1, 1) := by decide +kernel
theorem dX8_span_88 : decode cX8_span 88 = .ok (.aload_n 0, 1) := by decide +kernel
theorem dX8_span_89 : decode cX8_span 89 = .ok (.getfield 24, 3) := by decide +kernel
theorem dX8_span_92 : decode cX8_span 92 = .ok (.iload_n 3, 1) := by decide +kernel
theorem dX8_span_93 : decode cX8_span 93 = .ok (.iaload, 1) := by decide +kernel
theorem dX8_span_94 : decode cX8_span 94 = .ok (.iload_n 2, 1) := by decide +kernel
theorem dX8_span_95 : decode cX8_span 95 = .ok (.invokevirtual 164, 3) := by decide +kernel
theorem dX8_span_98 : decode cX8_span 98 = .ok (.ireturn, 1) := by decide +kernel
theorem dX8_span_99 : decode cX8_span 99 = .ok (.aload_n 0, 1) := by decide +kernel
theorem dX8_span_100 : decode cX8_span 100 = .ok (.bipush (-2), 2) := by decide +kernel
theorem dX8_span_102 : decode cX8_span 102 = .ok (.invokevirtual 51, 3) := by decide +kernel
theorem dX8_span_105 : decode cX8_span 105 = .ok (.ireturn, 1) := by decide +kernel
theorem dX8_isPower_0 : decode cX8_isPower 0 = .ok (.iload_n 1, 1) := by decide +kernel
theorem dX8_isPower_1 : decode cX8_isPower 1 = .ok (.ifCond .le 19, 3) := by decide +kernel
theorem dX8_isPower_4 : decode cX8_isPower 4 = .ok (.iload_n 1, 1) := by decide +kernel
theorem dX8_isPower_5 : decode cX8_isPower 5 = .ok (.iconst 1, 1) := by decide +kernel
theorem dX8_isPower_6 : decode cX8_isPower 6 = .ok (.aload_n 0, 1) := by decide +kernel
theorem dX8_isPower_7 : decode cX8_isPower 7 = .ok (.getfield 55, 3) := by decide +kernel
theorem dX8_isPower_10 : decode cX8_isPower 10 = .ok (.ishl, 1) := by decide +kernel
theorem dX8_isPower_11 : decode cX8_isPower 11 = .ok (.iconst 1, 1) := by decide +kernel
theorem dX8_isPower_12 : decode cX8_isPower 12 = .ok (.isub, 1) := by decide +kernel
theorem dX8_isPower_13 : decode cX8_isPower 13 = .ok (.if_icmp .ge 7, 3) := by decide +kernel
theorem dX8_isPower_16 : decode cX8_isPower 16 = .ok (.iconst 1, 1) := by decide +kernel
theorem dX8_isPower_17 : decode cX8_isPower 17 = .ok (.goto 4, 3) := by decide +kernel
theorem dX8_isPower_20 : decode cX8_isPower 20 = .ok (.iconst 0, 1) := by decide +kernel
theorem dX8_isPower_21 : decode cX8_isPower 21 = .ok (.ireturn, 1) := by decide +kernel
theorem dX8_table_0 : decode cX8_table 0 = .ok (.iload_n 1, 1) := by decide +kernel
theorem dX8_table_1 : decode cX8_table 1 = .ok (.invokestatic 161, 3) := by decide +kernel
theorem dX8_table_4 : decode cX8_table 4 = .ok (.ifCond .eq 19, 3) := by decide +kernel
theorem dX8_table_7 : decode cX8_table 7 = .ok (.iload_n 2, 1) := by decide +kernel
theorem dX8_table_8 : decode cX8_table 8 = .ok (.iconst 5, 1) := by decide +kernel
theorem dX8_table_9 : decode cX8_table 9 = .ok (.invokestatic 80, 3) := by decide +kernel
theorem dX8_table_12 : decode cX8_table 12 = .ok (.ifCond .eq 11, 3) := by decide +kernel
theorem dX8_table_15 : decode cX8_table 15 = .ok (.aload_n 0, 1) := by decide +kernel
theorem dX8_table_16 : decode cX8_table 16 = .ok (.iload_n 3, 1) := by decide +kernel
theorem dX8_table_17 : decode cX8_table 17 = .ok (.invokevirtual 193, 3) := by decide +kernel
theorem dX8_table_20 : decode cX8_table 20 = .ok (.ifCond .ne 9, 3) := by decide +kernel
theorem dX8_table_23 : decode cX8_table 23 = .ok (.aload_n 0, 1) := by decide +kernel
theorem dX8_table_24 : decode cX8_table 24 = .ok (.iconst (-1), 1) := by decide +kernel
theorem dX8_table_25 : decode cX8_table 25 = .ok (.invokevirtual 51, 3) := by decide +kernel
theorem dX8_table_28 : decode cX8_table 28 = .ok (.ireturn, 1) := by decide +kernel
theorem dX8_table_29 : decode cX8_table 29 = .ok (.iload 4, 2) := by decide +kernel
theorem dX8_table_31 : decode cX8_table 31 = .ok (.iconst 2, 1) := by decide +kernel
theorem dX8_table_32 : decode cX8_table 32 = .ok (.invokestatic 80, 3) := by decide +kernel
theorem dX8_table_35 : decode cX8_table 35 = .ok (.ifCond .ne 10, 3) := by decide +kernel
theorem dX8_table_38 : decode cX8_table 38 = .ok (.aload_n 0, 1) := by decide +kernel
theorem dX8_table_39 : decode cX8_table 39 = .ok (.bipush (-2), 2) := by decide +kernel
theorem dX8_table_41 : decode cX8_table 41 = .ok (.invokevirtual 51, 3) := by decide +kernel
theorem dX8_table_44 : decode cX8_table 44 = .ok (.ireturn, 1) := by decide +kernel
theorem dX8_table_45 : decode cX8_table 45 = .ok (.iload 5, 2) := by decide +kernel
theorem dX8_table_47 : decode cX8_table 47 = .ok (.ifCond .ge 10, 3) := by decide +kernel
theorem dX8_table_50 : decode cX8_table 50 = .ok (.aload_n 0, 1) := by decide +kernel
theorem dX8_table_51 : decode cX8_table 51 = .ok (.bipush (-4), 2) := by decide +kernel
theorem dX8_table_53 : decode cX8_table 53 = .ok (.invokevirtual 51, 3) := by decide +kernel
theorem dX8_table_56 : decode cX8_table 56 = .ok (.ireturn, 1) := by decide +kernel
theorem dX8_table_57 : decode cX8_table 57 = .ok (.iload 5, 2) := by decide +kernel
theorem dX8_table_59 : decode cX8_table 59 = .ok (.bipush 10, 2) := by decide +kernel
theorem dX8_table_61 : decode cX8_table 61 = .ok (.if_icmp .le 10, 3) := by decide +kernel
theorem dX8_table_64 : decode cX8_table 64 = .ok (.aload_n 0, 1) := by decide +kernel
theorem dX8_table_65 : decode cX8_table 65 = .ok (.bipush (-6), 2) := by decide +kernel
theorem dX8_table_67 : decode cX8_table 67 = .ok (.invokevirtual 51, 3) := by decide +kernel
theorem dX8_table_70 : decode cX8_table 70 = .ok (.ireturn, 1) := by decide +kernel
theorem dX8_table_71 : decode cX8_table 71 = .ok (.aload_n 0, 1) := by decide +kernel
theorem dX8_table_72 : decode cX8_table 72 = .ok (.iload 5, 2) := by decide +kernel
theorem dX8_table_74 : decode cX8_table 74 = .ok (.putfield 196, 3) := by decide +kernel
theorem dX8_table_77 : decode cX8_table 77 = .ok (.aload_n 0, 1) := by decide +kernel
theorem dX8_table_78 : decode cX8_table 78 = .ok (.iconst 0, 1) := by decide +kernel
theorem dX8_table_79 : decode cX8_table 79 = .ok (.putfield 74, 3) := by decide +kernel
theorem dX8_table_82 : decode cX8_table 82 = .ok (.iconst 1, 1) := by decide +kernel
theorem dX8_table_83 : decode cX8_table 83 = .ok (.aload_n 0, 1) := by decide +kernel
theorem dX8_table_84 : decode cX8_table 84 = .ok (.getfield 59, 3) := by decide +kernel
theorem dX8_table_87 : decode cX8_table 87 = .ok (.ishl, 1) := by decide +kernel
theorem dX8_table_88 : decode cX8_table 88 = .ok (.istore 6, 2) := by decide +kernel
theorem dX8_table_90 : decode cX8_table 90 = .ok (.iconst 0, 1) := by decide +kernel
theorem dX8_table_91 : decode cX8_table 91 = .ok (.istore 7, 2) := by decide +kernel
theorem dX8_table_93 : decode cX8_table 93 = .ok (.iload 7, 2) := by decide +kernel
theorem dX8_table_95 : decode cX8_table 95 = .ok (.iload 6, 2) := by decide +kernel
theorem dX8_table_97 : decode cX8_table 97 = .ok (.if_icmp .ge 35, 3) := by decide +kernel
theorem dX8_table_100 : decode cX8_table 100 = .ok (.aload_n 0, 1) := by decide +kernel
theorem dX8_table_101 : decode cX8_table 101 = .ok (.getfield 43, 3) := by decide +kernel
theorem dX8_table_104 : decode cX8_table 104 = .ok (.iload 7, 2) := by decide +kernel
theorem dX8_table_106 : decode cX8_table 106 = .ok (.aload_n 0, 1) := by decide +kernel
theorem dX8_table_107 : decode cX8_table 107 = .ok (.iload_n 1, 1) := by decide +kernel
theorem dX8_table_108 : decode cX8_table 108 = .ok (.iload_n 3, 1) := by decide +kernel
theorem dX8_table_109 : decode cX8_table 109 = .ok (.aload_n 0, 1) := by decide +kernel
theorem dX8_table_110 : decode cX8_table 110 = .ok (.getfield 59, 3) := by decide +kernel
theorem dX8_table_113 : decode cX8_table 113 = .ok (.ishl, 1) := by decide +kernel
theorem dX8_table_114 : decode cX8_table 114 = .ok (.iload 7, 2) := by decide +kernel
theorem dX8_table_116 : decode cX8_table 116 = .ok (.iadd, 1) := by decide +kernel
theorem dX8_table_117 : decode cX8_table 117 = .ok (.iload_n 2, 1) := by decide +kernel
theorem dX8_table_118 : decode cX8_table 118 = .ok (.invokevirtual 164, 3) := by decide +kernel
theorem dX8_table_121 : decode cX8_table 121 = .ok (.i2l, 1) := by decide +kernel
theorem dX8_table_122 : decode cX8_table 122 = .ok (.iload 5, 2) := by decide +kernel
theorem dX8_table_124 : decode cX8_table 124 = .ok (.lshl, 1) := by decide +kernel
theorem dX8_table_125 : decode cX8_table 125 = .ok (.lastore, 1) := by decide +kernel
theorem dX8_table_126 : decode cX8_table 126 = .ok (.iinc 7 1, 3) := by decide +kernel
theorem dX8_table_129 : decode cX8_table 129 = .ok (.goto (-36), 3) := by decide +kernel
theorem dX8_table_132 : decode cX8_table 132 = .ok (.iconst 0, 1) := by decide +kernel
theorem dX8_table_133 : decode cX8_table 133 = .ok (.istore 7, 2) := by decide +kernel
theorem dX8_table_135 : decode cX8_table 135 = .ok (.iload 7, 2) := by decide +kernel
theorem dX8_table_137 : decode cX8_table 137 = .ok (.iload 6, 2) := by decide +kernel
theorem dX8_table_139 : decode cX8_table 139 = .ok (.if_icmp .ge 42, 3) := by decide +kernel
theorem dX8_table_142 : decode cX8_table 142 = .ok (.iload 4, 2) := by decide +kernel
theorem dX8_table_144 : decode cX8_table 144 = .ok (.ifCond .ne 14, 3) := by decide +kernel
theorem dX8_table_147 : decode cX8_table 147 = .ok (.aload_n 0, 1) := by decide +kernel
theorem dX8_table_148 : decode cX8_table 148 = .ok (.iload 7, 2) := by decide +kernel
theorem dX8_table_150 : decode cX8_table 150 = .ok (.iload 6, 2) := by decide +kernel
theorem dX8_table_152 : decode cX8_table 152 = .ok (.invokevirtual 199, 3) := by decide +kernel
theorem dX8_table_155 : decode cX8_table 155 = .ok (.goto 11, 3) := by decide +kernel
theorem dX8_table_158 : decode cX8_table 158 = .ok (.aload_n 0, 1) := by decide +kernel
theorem dX8_table_159 : decode cX8_table 159 = .ok (.iload 7, 2) := by decide +kernel
theorem dX8_table_161 : decode cX8_table 161 = .ok (.iload 6, 2) := by decide +kernel
theorem dX8_table_163 : decode cX8_table 163 = .ok (.invokevirtual 202, 3) := by decide +kernel
theorem dX8_table_166 : decode cX8_table 166 = .ok (.istore 7, 2) := by decide +kernel
theorem dX8_table_168 : decode cX8_table 168 = .ok (.aload_n 0, 1) := by decide +kernel
theorem dX8_table_169 : decode cX8_table 169 = .ok (.dup, 1) := by decide +kernel
theorem dX8_table_170 : decode cX8_table 170 = .ok (.getfield 74, 3) := by decide +kernel
theorem dX8_table_173 : decode cX8_table 173 = .ok (.iconst 1, 1) := by decide +kernel
theorem dX8_table_174 : decode cX8_table 174 = .ok (.iadd, 1) := by decide +kernel
theorem dX8_table_175 : decode cX8_table 175 = .ok (.putfield 74, 3) := by decide +kernel
theorem dX8_table_178 : decode cX8_table 178 = .ok (.goto (-43), 3) := by decide +kernel
theorem dX8_table_181 : decode cX8_table 181 = .ok (.aload_n 0, 1) := by decide +kernel
theorem dX8_table_182 : decode cX8_table 182 = .ok (.getfield 74, 3) := by decide +kernel
theorem dX8_table_185 : decode cX8_table 185 = .ok (.ireturn, 1) := by decide +kernel
theorem dX8_flat_0 : decode cX8_flat 0 = .ok (.iload_n 1, 1) := by decide +kernel
theorem dX8_flat_1 : decode cX8_flat 1 = .ok (.istore_n 3, 1) := by decide +kernel
theorem dX8_flat_2 : decode cX8_flat 2 = .ok (.iload_n 3, 1) := by decide +kernel
theorem dX8_flat_3 : decode cX8_flat 3 = .ok (.iload_n 2, 1) := by decide +kernel
theorem dX8_flat_4 : decode cX8_flat 4 = .ok (.if_icmp .ge 25, 3) := by decide +kernel
theorem dX8_flat_7 : decode cX8_flat 7 = .ok (.aload_n 0, 1) := by decide +kernel
theorem dX8_flat_8 : decode cX8_flat 8 = .ok (.getfield 43, 3) := by decide +kernel
theorem dX8_flat_11 : decode cX8_flat 11 = .ok (.iload_n 3, 1) := by decide +kernel
theorem dX8_flat_12 : decode cX8_flat 12 = .ok (.laload, 1) := by decide +kernel
theorem dX8_flat_13 : decode cX8_flat 13 = .ok (.aload_n 0, 1) := by decide +kernel
theorem dX8_flat_14 : decode cX8_flat 14 = .ok (.getfield 43, 3) := by decide +kernel
theorem dX8_flat_17 : decode cX8_flat 17 = .ok (.iload_n 1, 1) := by decide +kernel
theorem dX8_flat_18 : decode cX8_flat 18 = .ok (.laload, 1) := by decide +kernel
theorem dX8_flat_19 : decode cX8_flat 19 = .ok (.lcmp, 1) := by decide +kernel
theorem dX8_flat_20 : decode cX8_flat 20 = .ok (.ifCond .ne 9, 3) := by decide +kernel
theorem dX8_flat_23 : decode cX8_flat 23 = .ok (.iinc 3 1, 3) := by decide +kernel
theorem dX8_flat_26 : decode cX8_flat 26 = .ok (.goto (-24), 3) := by decide +kernel
theorem dX8_flat_29 : decode cX8_flat 29 = .ok (.aload_n 0, 1) := by decide +kernel
theorem dX8_flat_30 : decode cX8_flat 30 = .ok (.iload_n 1, 1) := by decide +kernel
theorem dX8_flat_31 : decode cX8_flat 31 = .ok (.iload_n 3, 1) := by decide +kernel
theorem dX8_flat_32 : decode cX8_flat 32 = .ok (.iconst 1, 1) := by decide +kernel
theorem dX8_flat_33 : decode cX8_flat 33 = .ok (.isub, 1) := by decide +kernel
theorem dX8_flat_34 : decode cX8_flat 34 = .ok (.aload_n 0, 1) := by decide +kernel
theorem dX8_flat_35 : decode cX8_flat 35 = .ok (.getfield 43, 3) := by decide +kernel
theorem dX8_flat_38 : decode cX8_flat 38 = .ok (.iload_n 1, 1) := by decide +kernel
theorem dX8_flat_39 : decode cX8_flat 39 = .ok (.laload, 1) := by decide +kernel
theorem dX8_flat_40 : decode cX8_flat 40 = .ok (.lconst 0, 1) := by decide +kernel
theorem dX8_flat_41 : decode cX8_flat 41 = .ok (.invokevirtual 205, 3) := by decide +kernel
theorem dX8_flat_44 : decode cX8_flat 44 = .ok (.iload_n 3, 1) := by decide +kernel
theorem dX8_flat_45 : decode cX8_flat 45 = .ok (.ireturn, 1) := by decide +kernel
theorem dX8_lays_0 : decode cX8_lays 0 = .ok (.aload_n 0, 1) := by decide +kernel
theorem dX8_lays_1 : decode cX8_lays 1 = .ok (.getfield 30, 3) := by decide +kernel
theorem dX8_lays_4 : decode cX8_lays 4 = .ok (.aload_n 0, 1) := by decide +kernel
theorem dX8_lays_5 : decode cX8_lays 5 = .ok (.getfield 74, 3) := by decide +kernel
theorem dX8_lays_8 : decode cX8_lays 8 = .ok (.iload_n 1, 1) := by decide +kernel
theorem dX8_lays_9 : decode cX8_lays 9 = .ok (.iastore, 1) := by decide +kernel
theorem dX8_lays_10 : decode cX8_lays 10 = .ok (.aload_n 0, 1) := by decide +kernel
theorem dX8_lays_11 : decode cX8_lays 11 = .ok (.getfield 33, 3) := by decide +kernel
theorem dX8_lays_14 : decode cX8_lays 14 = .ok (.aload_n 0, 1) := by decide +kernel
theorem dX8_lays_15 : decode cX8_lays 15 = .ok (.getfield 74, 3) := by decide +kernel
theorem dX8_lays_18 : decode cX8_lays 18 = .ok (.iload_n 2, 1) := by decide +kernel
theorem dX8_lays_19 : decode cX8_lays 19 = .ok (.iastore, 1) := by decide +kernel
theorem dX8_lays_20 : decode cX8_lays 20 = .ok (.aload_n 0, 1) := by decide +kernel
theorem dX8_lays_21 : decode cX8_lays 21 = .ok (.getfield 36, 3) := by decide +kernel
theorem dX8_lays_24 : decode cX8_lays 24 = .ok (.aload_n 0, 1) := by decide +kernel
theorem dX8_lays_25 : decode cX8_lays 25 = .ok (.getfield 74, 3) := by decide +kernel
theorem dX8_lays_28 : decode cX8_lays 28 = .ok (.lload_n 3, 1) := by decide +kernel
theorem dX8_lays_29 : decode cX8_lays 29 = .ok (.lastore, 1) := by decide +kernel
theorem dX8_lays_30 : decode cX8_lays 30 = .ok (.aload_n 0, 1) := by decide +kernel
theorem dX8_lays_31 : decode cX8_lays 31 = .ok (.getfield 40, 3) := by decide +kernel
theorem dX8_lays_34 : decode cX8_lays 34 = .ok (.aload_n 0, 1) := by decide +kernel
theorem dX8_lays_35 : decode cX8_lays 35 = .ok (.getfield 74, 3) := by decide +kernel
theorem dX8_lays_38 : decode cX8_lays 38 = .ok (.lload 5, 2) := by decide +kernel
theorem dX8_lays_40 : decode cX8_lays 40 = .ok (.lastore, 1) := by decide +kernel
theorem dX8_lays_41 : decode cX8_lays 41 = .ok (.return_, 1) := by decide +kernel
theorem dX8_line_0 : decode cX8_line 0 = .ok (.lconst 1, 1) := by decide +kernel
