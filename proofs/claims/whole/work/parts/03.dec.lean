theorem dX0_init_0 : decode cX0_init 0 = .ok (.aload_n 0, 1) := by decide +kernel
theorem dX0_init_1 : decode cX0_init 1 = .ok (.invokespecial 3, 3) := by decide +kernel
theorem dX0_init_4 : decode cX0_init 4 = .ok (.aload_n 0, 1) := by decide +kernel
theorem dX0_init_5 : decode cX0_init 5 = .ok (.aload_n 1, 1) := by decide +kernel
theorem dX0_init_6 : decode cX0_init 6 = .ok (.putfield 9, 3) := by decide +kernel
theorem dX0_init_9 : decode cX0_init 9 = .ok (.aload_n 0, 1) := by decide +kernel
theorem dX0_init_10 : decode cX0_init 10 = .ok (.aload_n 2, 1) := by decide +kernel
theorem dX0_init_11 : decode cX0_init 11 = .ok (.putfield 15, 3) := by decide +kernel
theorem dX0_init_14 : decode cX0_init 14 = .ok (.aload_n 0, 1) := by decide +kernel
theorem dX0_init_15 : decode cX0_init 15 = .ok (.iconst 5, 1) := by decide +kernel
theorem dX0_init_16 : decode cX0_init 16 = .ok (.newarray .int, 2) := by decide +kernel
theorem dX0_init_18 : decode cX0_init 18 = .ok (.putfield 19, 3) := by decide +kernel
theorem dX0_init_21 : decode cX0_init 21 = .ok (.aload_n 0, 1) := by decide +kernel
theorem dX0_init_22 : decode cX0_init 22 = .ok (.bipush 20, 2) := by decide +kernel
theorem dX0_init_24 : decode cX0_init 24 = .ok (.newarray .int, 2) := by decide +kernel
theorem dX0_init_26 : decode cX0_init 26 = .ok (.putfield 23, 3) := by decide +kernel
theorem dX0_init_29 : decode cX0_init 29 = .ok (.aload_n 0, 1) := by decide +kernel
theorem dX0_init_30 : decode cX0_init 30 = .ok (.bipush 50, 2) := by decide +kernel
theorem dX0_init_32 : decode cX0_init 32 = .ok (.newarray .int, 2) := by decide +kernel
theorem dX0_init_34 : decode cX0_init 34 = .ok (.putfield 26, 3) := by decide +kernel
theorem dX0_init_37 : decode cX0_init 37 = .ok (.aload_n 0, 1) := by decide +kernel
theorem dX0_init_38 : decode cX0_init 38 = .ok (.sipush 320, 3) := by decide +kernel
theorem dX0_init_41 : decode cX0_init 41 = .ok (.newarray .int, 2) := by decide +kernel
theorem dX0_init_43 : decode cX0_init 43 = .ok (.putfield 29, 3) := by decide +kernel
theorem dX0_init_46 : decode cX0_init 46 = .ok (.aload_n 0, 1) := by decide +kernel
theorem dX0_init_47 : decode cX0_init 47 = .ok (.sipush 320, 3) := by decide +kernel
theorem dX0_init_50 : decode cX0_init 50 = .ok (.newarray .int, 2) := by decide +kernel
theorem dX0_init_52 : decode cX0_init 52 = .ok (.putfield 32, 3) := by decide +kernel
theorem dX0_init_55 : decode cX0_init 55 = .ok (.return_, 1) := by decide +kernel
theorem dX0_forget_0 : decode cX0_forget 0 = .ok (.aload_n 0, 1) := by decide +kernel
theorem dX0_forget_1 : decode cX0_forget 1 = .ok (.getfield 19, 3) := by decide +kernel
theorem dX0_forget_4 : decode cX0_forget 4 = .ok (.iconst 0, 1) := by decide +kernel
theorem dX0_forget_5 : decode cX0_forget 5 = .ok (.invokestatic 35, 3) := by decide +kernel
theorem dX0_forget_8 : decode cX0_forget 8 = .ok (.aload_n 0, 1) := by decide +kernel
theorem dX0_forget_9 : decode cX0_forget 9 = .ok (.getfield 23, 3) := by decide +kernel
theorem dX0_forget_12 : decode cX0_forget 12 = .ok (.iconst 0, 1) := by decide +kernel
theorem dX0_forget_13 : decode cX0_forget 13 = .ok (.invokestatic 35, 3) := by decide +kernel
theorem dX0_forget_16 : decode cX0_forget 16 = .ok (.aload_n 0, 1) := by decide +kernel
theorem dX0_forget_17 : decode cX0_forget 17 = .ok (.getfield 26, 3) := by decide +kernel
theorem dX0_forget_20 : decode cX0_forget 20 = .ok (.iconst 0, 1) := by decide +kernel
theorem dX0_forget_21 : decode cX0_forget 21 = .ok (.invokestatic 35, 3) := by decide +kernel
theorem dX0_forget_24 : decode cX0_forget 24 = .ok (.aload_n 0, 1) := by decide +kernel
theorem dX0_forget_25 : decode cX0_forget 25 = .ok (.getfield 29, 3) := by decide +kernel
theorem dX0_forget_28 : decode cX0_forget 28 = .ok (.iconst 0, 1) := by decide +kernel
theorem dX0_forget_29 : decode cX0_forget 29 = .ok (.invokestatic 35, 3) := by decide +kernel
theorem dX0_forget_32 : decode cX0_forget 32 = .ok (.aload_n 0, 1) := by decide +kernel
theorem dX0_forget_33 : decode cX0_forget 33 = .ok (.getfield 32, 3) := by decide +kernel
theorem dX0_forget_36 : decode cX0_forget 36 = .ok (.iconst 0, 1) := by decide +kernel
theorem dX0_forget_37 : decode cX0_forget 37 = .ok (.invokestatic 35, 3) := by decide +kernel
theorem dX0_forget_40 : decode cX0_forget 40 = .ok (.return_, 1) := by decide +kernel
theorem dX0_take_0 : decode cX0_take 0 = .ok (.aload_n 0, 1) := by decide +kernel
theorem dX0_take_1 : decode cX0_take 1 = .ok (.getfield 19, 3) := by decide +kernel
theorem dX0_take_4 : decode cX0_take 4 = .ok (.iload_n 1, 1) := by decide +kernel
theorem dX0_take_5 : decode cX0_take 5 = .ok (.invokestatic 41, 3) := by decide +kernel
theorem dX0_take_8 : decode cX0_take 8 = .ok (.ifCond .eq 4, 3) := by decide +kernel
theorem dX0_take_11 : decode cX0_take 11 = .ok (.return_, 1) := by decide +kernel
theorem dX0_take_12 : decode cX0_take 12 = .ok (.aload_n 0, 1) := by decide +kernel
theorem dX0_take_13 : decode cX0_take 13 = .ok (.getfield 19, 3) := by decide +kernel
theorem dX0_take_16 : decode cX0_take 16 = .ok (.iload_n 1, 1) := by decide +kernel
theorem dX0_take_17 : decode cX0_take 17 = .ok (.iconst 1, 1) := by decide +kernel
theorem dX0_take_18 : decode cX0_take 18 = .ok (.invokestatic 47, 3) := by decide +kernel
theorem dX0_take_21 : decode cX0_take 21 = .ok (.iconst 0, 1) := by decide +kernel
theorem dX0_take_22 : decode cX0_take 22 = .ok (.istore_n 2, 1) := by decide +kernel
theorem dX0_take_23 : decode cX0_take 23 = .ok (.iload_n 2, 1) := by decide +kernel
theorem dX0_take_24 : decode cX0_take 24 = .ok (.aload_n 0, 1) := by decide +kernel
theorem dX0_take_25 : decode cX0_take 25 = .ok (.getfield 9, 3) := by decide +kernel
theorem dX0_take_28 : decode cX0_take 28 = .ok (.getfield 51, 3) := by decide +kernel
theorem dX0_take_31 : decode cX0_take 31 = .ok (.if_icmp .ge 71, 3) := by decide +kernel
theorem dX0_take_34 : decode cX0_take 34 = .ok (.aload_n 0, 1) := by decide +kernel
theorem dX0_take_35 : decode cX0_take 35 = .ok (.getfield 15, 3) := by decide +kernel
theorem dX0_take_38 : decode cX0_take 38 = .ok (.iload_n 1, 1) := by decide +kernel
theorem dX0_take_39 : decode cX0_take 39 = .ok (.iload_n 2, 1) := by decide +kernel
theorem dX0_take_40 : decode cX0_take 40 = .ok (.invokevirtual 57, 3) := by decide +kernel
theorem dX0_take_43 : decode cX0_take 43 = .ok (.aload_n 0, 1) := by decide +kernel
theorem dX0_take_44 : decode cX0_take 44 = .ok (.getfield 15, 3) := by decide +kernel
theorem dX0_take_47 : decode cX0_take 47 = .ok (.invokevirtual 63, 3) := by decide +kernel
theorem dX0_take_50 : decode cX0_take 50 = .ok (.istore_n 3, 1) := by decide +kernel
theorem dX0_take_51 : decode cX0_take 51 = .ok (.aload_n 0, 1) := by decide +kernel
theorem dX0_take_52 : decode cX0_take 52 = .ok (.getfield 23, 3) := by decide +kernel
theorem dX0_take_55 : decode cX0_take 55 = .ok (.iload_n 1, 1) := by decide +kernel
theorem dX0_take_56 : decode cX0_take 56 = .ok (.iconst 4, 1) := by decide +kernel
theorem dX0_take_57 : decode cX0_take 57 = .ok (.imul, 1) := by decide +kernel
theorem dX0_take_58 : decode cX0_take 58 = .ok (.aload_n 0, 1) := by decide +kernel
theorem dX0_take_59 : decode cX0_take 59 = .ok (.getfield 15, 3) := by decide +kernel
theorem dX0_take_62 : decode cX0_take 62 = .ok (.invokevirtual 67, 3) := by decide +kernel
theorem dX0_take_65 : decode cX0_take 65 = .ok (.iadd, 1) := by decide +kernel
theorem dX0_take_66 : decode cX0_take 66 = .ok (.invokestatic 70, 3) := by decide +kernel
theorem dX0_take_69 : decode cX0_take 69 = .ok (.aload_n 0, 1) := by decide +kernel
theorem dX0_take_70 : decode cX0_take 70 = .ok (.getfield 26, 3) := by decide +kernel
theorem dX0_take_73 : decode cX0_take 73 = .ok (.iload_n 1, 1) := by decide +kernel
theorem dX0_take_74 : decode cX0_take 74 = .ok (.bipush 10, 2) := by decide +kernel
theorem dX0_take_76 : decode cX0_take 76 = .ok (.imul, 1) := by decide +kernel
theorem dX0_take_77 : decode cX0_take 77 = .ok (.iload_n 3, 1) := by decide +kernel
theorem dX0_take_78 : decode cX0_take 78 = .ok (.iadd, 1) := by decide +kernel
theorem dX0_take_79 : decode cX0_take 79 = .ok (.invokestatic 70, 3) := by decide +kernel
theorem dX0_take_82 : decode cX0_take 82 = .ok (.aload_n 0, 1) := by decide +kernel
theorem dX0_take_83 : decode cX0_take 83 = .ok (.iload_n 1, 1) := by decide +kernel
theorem dX0_take_84 : decode cX0_take 84 = .ok (.bipush 64, 2) := by decide +kernel
theorem dX0_take_86 : decode cX0_take 86 = .ok (.imul, 1) := by decide +kernel
theorem dX0_take_87 : decode cX0_take 87 = .ok (.iload_n 2, 1) := by decide +kernel
theorem dX0_take_88 : decode cX0_take 88 = .ok (.bipush 8, 2) := by decide +kernel
theorem dX0_take_90 : decode cX0_take 90 = .ok (.ishr, 1) := by decide +kernel
theorem dX0_take_91 : decode cX0_take 91 = .ok (.iadd, 1) := by decide +kernel
theorem dX0_take_92 : decode cX0_take 92 = .ok (.iload_n 3, 1) := by decide +kernel
theorem dX0_take_93 : decode cX0_take 93 = .ok (.invokevirtual 73, 3) := by decide +kernel
theorem dX0_take_96 : decode cX0_take 96 = .ok (.iinc 2 1, 3) := by decide +kernel
theorem dX0_take_99 : decode cX0_take 99 = .ok (.goto (-76), 3) := by decide +kernel
theorem dX0_take_102 : decode cX0_take 102 = .ok (.return_, 1) := by decide +kernel
theorem dX0_ofSort_0 : decode cX0_ofSort 0 = .ok (.aload_n 0, 1) := by decide +kernel
theorem dX0_ofSort_1 : decode cX0_ofSort 1 = .ok (.getfield 23, 3) := by decide +kernel
theorem dX0_ofSort_4 : decode cX0_ofSort 4 = .ok (.iload_n 1, 1) := by decide +kernel
theorem dX0_ofSort_5 : decode cX0_ofSort 5 = .ok (.iconst 4, 1) := by decide +kernel
theorem dX0_ofSort_6 : decode cX0_ofSort 6 = .ok (.imul, 1) := by decide +kernel
theorem dX0_ofSort_7 : decode cX0_ofSort 7 = .ok (.iload_n 2, 1) := by decide +kernel
theorem dX0_ofSort_8 : decode cX0_ofSort 8 = .ok (.iadd, 1) := by decide +kernel
theorem dX0_ofSort_9 : decode cX0_ofSort 9 = .ok (.invokestatic 41, 3) := by decide +kernel
theorem dX0_ofSort_12 : decode cX0_ofSort 12 = .ok (.ireturn, 1) := by decide +kernel
theorem dX0_ofHardness_0 : decode cX0_ofHardness 0 = .ok (.aload_n 0, 1) := by decide +kernel
theorem dX0_ofHardness_1 : decode cX0_ofHardness 1 = .ok (.getfield 26, 3) := by decide +kernel
theorem dX0_ofHardness_4 : decode cX0_ofHardness 4 = .ok (.iload_n 1, 1) := by decide +kernel
theorem dX0_ofHardness_5 : decode cX0_ofHardness 5 = .ok (.bipush 10, 2) := by decide +kernel
theorem dX0_ofHardness_7 : decode cX0_ofHardness 7 = .ok (.imul, 1) := by decide +kernel
theorem dX0_ofHardness_8 : decode cX0_ofHardness 8 = .ok (.iload_n 2, 1) := by decide +kernel
theorem dX0_ofHardness_9 : decode cX0_ofHardness 9 = .ok (.iadd, 1) := by decide +kernel
theorem dX0_ofHardness_10 : decode cX0_ofHardness 10 = .ok (.invokestatic 41, 3) := by decide +kernel
theorem dX0_ofHardness_13 : decode cX0_ofHardness 13 = .ok (.ireturn, 1) := by decide +kernel
theorem dX0_hardestCode_0 : decode cX0_hardestCode 0 = .ok (.aload_n 0, 1) := by decide +kernel
theorem dX0_hardestCode_1 : decode cX0_hardestCode 1 = .ok (.iload_n 1, 1) := by decide +kernel
theorem dX0_hardestCode_2 : decode cX0_hardestCode 2 = .ok (.invokevirtual 76, 3) := by decide +kernel
theorem dX0_hardestCode_5 : decode cX0_hardestCode 5 = .ok (.istore_n 3, 1) := by decide +kernel
theorem dX0_hardestCode_6 : decode cX0_hardestCode 6 = .ok (.iload_n 2, 1) := by decide +kernel
theorem dX0_hardestCode_7 : decode cX0_hardestCode 7 = .ok (.ifCond .lt 13, 3) := by decide +kernel
theorem dX0_hardestCode_10 : decode cX0_hardestCode 10 = .ok (.iload_n 2, 1) := by decide +kernel
theorem dX0_hardestCode_11 : decode cX0_hardestCode 11 = .ok (.aload_n 0, 1) := by decide +kernel
theorem dX0_hardestCode_12 : decode cX0_hardestCode 12 = .ok (.iload_n 1, 1) := by decide +kernel
theorem dX0_hardestCode_13 : decode cX0_hardestCode 13 = .ok (.iload_n 3, 1) := by decide +kernel
theorem dX0_hardestCode_14 : decode cX0_hardestCode 14 = .ok (.invokevirtual 80, 3) := by decide +kernel
theorem dX0_hardestCode_17 : decode cX0_hardestCode 17 = .ok (.if_icmp .lt 6, 3) := by decide +kernel
theorem dX0_hardestCode_20 : decode cX0_hardestCode 20 = .ok (.bipush (-9), 2) := by decide +kernel
theorem dX0_hardestCode_22 : decode cX0_hardestCode 22 = .ok (.ireturn, 1) := by decide +kernel
theorem dX0_hardestCode_23 : decode cX0_hardestCode 23 = .ok (.iload_n 2, 1) := by decide +kernel
theorem dX0_hardestCode_24 : decode cX0_hardestCode 24 = .ok (.istore 4, 2) := by decide +kernel
theorem dX0_hardestCode_26 : decode cX0_hardestCode 26 = .ok (.iconst 0, 1) := by decide +kernel
theorem dX0_hardestCode_27 : decode cX0_hardestCode 27 = .ok (.istore 5, 2) := by decide +kernel
theorem dX0_hardestCode_29 : decode cX0_hardestCode 29 = .ok (.iload 5, 2) := by decide +kernel
theorem dX0_hardestCode_31 : decode cX0_hardestCode 31 = .ok (.bipush 64, 2) := by decide +kernel
theorem dX0_hardestCode_33 : decode cX0_hardestCode 33 = .ok (.if_icmp .ge 35, 3) := by decide +kernel
theorem dX0_hardestCode_36 : decode cX0_hardestCode 36 = .ok (.iload 4, 2) := by decide +kernel
theorem dX0_hardestCode_38 : decode cX0_hardestCode 38 = .ok (.aload_n 0, 1) := by decide +kernel
theorem dX0_hardestCode_39 : decode cX0_hardestCode 39 = .ok (.iload_n 1, 1) := by decide +kernel
theorem dX0_hardestCode_40 : decode cX0_hardestCode 40 = .ok (.iload 5, 2) := by decide +kernel
theorem dX0_hardestCode_42 : decode cX0_hardestCode 42 = .ok (.iload_n 3, 1) := by decide +kernel
theorem dX0_hardestCode_43 : decode cX0_hardestCode 43 = .ok (.invokevirtual 84, 3) := by decide +kernel
theorem dX0_hardestCode_46 : decode cX0_hardestCode 46 = .ok (.if_icmp .lt 22, 3) := by decide +kernel
theorem dX0_hardestCode_49 : decode cX0_hardestCode 49 = .ok (.iload 4, 2) := by decide +kernel
theorem dX0_hardestCode_51 : decode cX0_hardestCode 51 = .ok (.aload_n 0, 1) := by decide +kernel
theorem dX0_hardestCode_52 : decode cX0_hardestCode 52 = .ok (.iload_n 1, 1) := by decide +kernel
theorem dX0_hardestCode_53 : decode cX0_hardestCode 53 = .ok (.iload 5, 2) := by decide +kernel
theorem dX0_hardestCode_55 : decode cX0_hardestCode 55 = .ok (.iload_n 3, 1) := by decide +kernel
theorem dX0_hardestCode_56 : decode cX0_hardestCode 56 = .ok (.invokevirtual 84, 3) := by decide +kernel
theorem dX0_hardestCode_59 : decode cX0_hardestCode 59 = .ok (.isub, 1) := by decide +kernel
theorem dX0_hardestCode_60 : decode cX0_hardestCode 60 = .ok (.istore 4, 2) := by decide +kernel
theorem dX0_hardestCode_62 : decode cX0_hardestCode 62 = .ok (.iinc 5 1, 3) := by decide +kernel
theorem dX0_hardestCode_65 : decode cX0_hardestCode 65 = .ok (.goto (-36), 3) := by decide +kernel
theorem dX0_hardestCode_68 : decode cX0_hardestCode 68 = .ok (.iload 5, 2) := by decide +kernel
theorem dX0_hardestCode_70 : decode cX0_hardestCode 70 = .ok (.bipush 8, 2) := by decide +kernel
theorem dX0_hardestCode_72 : decode cX0_hardestCode 72 = .ok (.ishl, 1) := by decide +kernel
theorem dX0_hardestCode_73 : decode cX0_hardestCode 73 = .ok (.istore 6, 2) := by decide +kernel
theorem dX0_hardestCode_75 : decode cX0_hardestCode 75 = .ok (.iload 6, 2) := by decide +kernel
theorem dX0_hardestCode_77 : decode cX0_hardestCode 77 = .ok (.aload_n 0, 1) := by decide +kernel
theorem dX0_hardestCode_78 : decode cX0_hardestCode 78 = .ok (.getfield 9, 3) := by decide +kernel
theorem dX0_hardestCode_81 : decode cX0_hardestCode 81 = .ok (.getfield 51, 3) := by decide +kernel
theorem dX0_hardestCode_84 : decode cX0_hardestCode 84 = .ok (.if_icmp .ge 48, 3) := by decide +kernel
theorem dX0_hardestCode_87 : decode cX0_hardestCode 87 = .ok (.aload_n 0, 1) := by decide +kernel
theorem dX0_hardestCode_88 : decode cX0_hardestCode 88 = .ok (.getfield 15, 3) := by decide +kernel
theorem dX0_hardestCode_91 : decode cX0_hardestCode 91 = .ok (.iload_n 1, 1) := by decide +kernel
theorem dX0_hardestCode_92 : decode cX0_hardestCode 92 = .ok (.iload 6, 2) := by decide +kernel
theorem dX0_hardestCode_94 : decode cX0_hardestCode 94 = .ok (.invokevirtual 57, 3) := by decide +kernel
theorem dX0_hardestCode_97 : decode cX0_hardestCode 97 = .ok (.iload 4, 2) := by decide +kernel
theorem dX0_hardestCode_99 : decode cX0_hardestCode 99 = .ok (.aload_n 0, 1) := by decide +kernel
theorem dX0_hardestCode_100 : decode cX0_hardestCode 100 = .ok (.getfield 15, 3) := by decide +kernel
theorem dX0_hardestCode_103 : decode cX0_hardestCode 103 = .ok (.invokevirtual 63, 3) := by decide +kernel
theorem dX0_hardestCode_106 : decode cX0_hardestCode 106 = .ok (.iload_n 3, 1) := by decide +kernel
theorem dX0_hardestCode_107 : decode cX0_hardestCode 107 = .ok (.if_icmp .ne 7, 3) := by decide +kernel
theorem dX0_hardestCode_110 : decode cX0_hardestCode 110 = .ok (.iconst 1, 1) := by decide +kernel
theorem dX0_hardestCode_111 : decode cX0_hardestCode 111 = .ok (.goto 4, 3) := by decide +kernel
theorem dX0_hardestCode_114 : decode cX0_hardestCode 114 = .ok (.iconst 0, 1) := by decide +kernel
theorem dX0_hardestCode_115 : decode cX0_hardestCode 115 = .ok (.isub, 1) := by decide +kernel
theorem dX0_hardestCode_116 : decode cX0_hardestCode 116 = .ok (.istore 4, 2) := by decide +kernel
theorem dX0_hardestCode_118 : decode cX0_hardestCode 118 = .ok (.iload 4, 2) := by decide +kernel
theorem dX0_hardestCode_120 : decode cX0_hardestCode 120 = .ok (.ifCond .ge 6, 3) := by decide +kernel
theorem dX0_hardestCode_123 : decode cX0_hardestCode 123 = .ok (.iload 6, 2) := by decide +kernel
theorem dX0_hardestCode_125 : decode cX0_hardestCode 125 = .ok (.ireturn, 1) := by decide +kernel
theorem dX0_hardestCode_126 : decode cX0_hardestCode 126 = .ok (.iinc 6 1, 3) := by decide +kernel
theorem dX0_hardestCode_129 : decode cX0_hardestCode 129 = .ok (.goto (-54), 3) := by decide +kernel
theorem dX0_hardestCode_132 : decode cX0_hardestCode 132 = .ok (.bipush (-9), 2) := by decide +kernel
theorem dX0_hardestCode_134 : decode cX0_hardestCode 134 = .ok (.ireturn, 1) := by decide +kernel
theorem dX0_inBlock_0 : decode cX0_inBlock 0 = .ok (.iload_n 1, 1) := by decide +kernel
theorem dX0_inBlock_1 : decode cX0_inBlock 1 = .ok (.bipush 64, 2) := by decide +kernel
theorem dX0_inBlock_3 : decode cX0_inBlock 3 = .ok (.imul, 1) := by decide +kernel
theorem dX0_inBlock_4 : decode cX0_inBlock 4 = .ok (.iload_n 2, 1) := by decide +kernel
theorem dX0_inBlock_5 : decode cX0_inBlock 5 = .ok (.iadd, 1) := by decide +kernel
theorem dX0_inBlock_6 : decode cX0_inBlock 6 = .ok (.istore 4, 2) := by decide +kernel
theorem dX0_inBlock_8 : decode cX0_inBlock 8 = .ok (.aload_n 0, 1) := by decide +kernel
theorem dX0_inBlock_9 : decode cX0_inBlock 9 = .ok (.getfield 29, 3) := by decide +kernel
theorem dX0_inBlock_12 : decode cX0_inBlock 12 = .ok (.iload 4, 2) := by decide +kernel
theorem dX0_inBlock_14 : decode cX0_inBlock 14 = .ok (.invokestatic 41, 3) := by decide +kernel
theorem dX0_inBlock_17 : decode cX0_inBlock 17 = .ok (.iload_n 3, 1) := by decide +kernel
theorem dX0_inBlock_18 : decode cX0_inBlock 18 = .ok (.if_icmp .ne 15, 3) := by decide +kernel
theorem dX0_inBlock_21 : decode cX0_inBlock 21 = .ok (.aload_n 0, 1) := by decide +kernel
theorem dX0_inBlock_22 : decode cX0_inBlock 22 = .ok (.getfield 32, 3) := by decide +kernel
theorem dX0_inBlock_25 : decode cX0_inBlock 25 = .ok (.iload 4, 2) := by decide +kernel
theorem dX0_inBlock_27 : decode cX0_inBlock 27 = .ok (.invokestatic 41, 3) := by decide +kernel
theorem dX0_inBlock_30 : decode cX0_inBlock 30 = .ok (.goto 4, 3) := by decide +kernel
theorem dX0_inBlock_33 : decode cX0_inBlock 33 = .ok (.iconst 0, 1) := by decide +kernel
theorem dX0_inBlock_34 : decode cX0_inBlock 34 = .ok (.ireturn, 1) := by decide +kernel
theorem dX0_greatestHardness_0 : decode cX0_greatestHardness 0 = .ok (.bipush 9, 2) := by decide +kernel
theorem dX0_greatestHardness_2 : decode cX0_greatestHardness 2 = .ok (.istore_n 2, 1) := by decide +kernel
theorem dX0_greatestHardness_3 : decode cX0_greatestHardness 3 = .ok (.iload_n 2, 1) := by decide +kernel
theorem dX0_greatestHardness_4 : decode cX0_greatestHardness 4 = .ok (.ifCond .le 18, 3) := by decide +kernel
theorem dX0_greatestHardness_7 : decode cX0_greatestHardness 7 = .ok (.aload_n 0, 1) := by decide +kernel
theorem dX0_greatestHardness_8 : decode cX0_greatestHardness 8 = .ok (.iload_n 1, 1) := by decide +kernel
theorem dX0_greatestHardness_9 : decode cX0_greatestHardness 9 = .ok (.iload_n 2, 1) := by decide +kernel
theorem dX0_greatestHardness_10 : decode cX0_greatestHardness 10 = .ok (.invokevirtual 80, 3) := by decide +kernel
theorem dX0_greatestHardness_13 : decode cX0_greatestHardness 13 = .ok (.ifCond .ne 9, 3) := by decide +kernel
theorem dX0_greatestHardness_16 : decode cX0_greatestHardness 16 = .ok (.iinc 2 (-1), 3) := by decide +kernel
theorem dX0_greatestHardness_19 : decode cX0_greatestHardness 19 = .ok (.goto (-16), 3) := by decide +kernel
theorem dX0_greatestHardness_22 : decode cX0_greatestHardness 22 = .ok (.iload_n 2, 1) := by decide +kernel
theorem dX0_greatestHardness_23 : decode cX0_greatestHardness 23 = .ok (.ireturn, 1) := by decide +kernel
theorem dX0_addToBlock_0 : decode cX0_addToBlock 0 = .ok (.iload_n 2, 1) := by decide +kernel
theorem dX0_addToBlock_1 : decode cX0_addToBlock 1 = .ok (.aload_n 0, 1) := by decide +kernel
theorem dX0_addToBlock_2 : decode cX0_addToBlock 2 = .ok (.getfield 29, 3) := by decide +kernel
theorem dX0_addToBlock_5 : decode cX0_addToBlock 5 = .ok (.iload_n 1, 1) := by decide +kernel
theorem dX0_addToBlock_6 : decode cX0_addToBlock 6 = .ok (.invokestatic 41, 3) := by decide +kernel
theorem dX0_addToBlock_9 : decode cX0_addToBlock 9 = .ok (.if_icmp .le 21, 3) := by decide +kernel
theorem dX0_addToBlock_12 : decode cX0_addToBlock 12 = .ok (.aload_n 0, 1) := by decide +kernel
theorem dX0_addToBlock_13 : decode cX0_addToBlock 13 = .ok (.getfield 29, 3) := by decide +kernel
theorem dX0_addToBlock_16 : decode cX0_addToBlock 16 = .ok (.iload_n 1, 1) := by decide +kernel
theorem dX0_addToBlock_17 : decode cX0_addToBlock 17 = .ok (.iload_n 2, 1) := by decide +kernel
theorem dX0_addToBlock_18 : decode cX0_addToBlock 18 = .ok (.invokestatic 47, 3) := by decide +kernel
theorem dX0_addToBlock_21 : decode cX0_addToBlock 21 = .ok (.aload_n 0, 1) := by decide +kernel
theorem dX0_addToBlock_22 : decode cX0_addToBlock 22 = .ok (.getfield 32, 3) := by decide +kernel
theorem dX0_addToBlock_25 : decode cX0_addToBlock 25 = .ok (.iload_n 1, 1) := by decide +kernel
theorem dX0_addToBlock_26 : decode cX0_addToBlock 26 = .ok (.iconst 0, 1) := by decide +kernel
theorem dX0_addToBlock_27 : decode cX0_addToBlock 27 = .ok (.invokestatic 47, 3) := by decide +kernel
theorem dX0_addToBlock_30 : decode cX0_addToBlock 30 = .ok (.iload_n 2, 1) := by decide +kernel
theorem dX0_addToBlock_31 : decode cX0_addToBlock 31 = .ok (.aload_n 0, 1) := by decide +kernel
theorem dX0_addToBlock_32 : decode cX0_addToBlock 32 = .ok (.getfield 29, 3) := by decide +kernel
theorem dX0_addToBlock_35 : decode cX0_addToBlock 35 = .ok (.iload_n 1, 1) := by decide +kernel
theorem dX0_addToBlock_36 : decode cX0_addToBlock 36 = .ok (.invokestatic 41, 3) := by decide +kernel
theorem dX0_addToBlock_39 : decode cX0_addToBlock 39 = .ok (.if_icmp .ne 11, 3) := by decide +kernel
theorem dX0_addToBlock_42 : decode cX0_addToBlock 42 = .ok (.aload_n 0, 1) := by decide +kernel
theorem dX0_addToBlock_43 : decode cX0_addToBlock 43 = .ok (.getfield 32, 3) := by decide +kernel
theorem dX0_addToBlock_46 : decode cX0_addToBlock 46 = .ok (.iload_n 1, 1) := by decide +kernel
theorem dX0_addToBlock_47 : decode cX0_addToBlock 47 = .ok (.invokestatic 70, 3) := by decide +kernel
theorem dX0_addToBlock_50 : decode cX0_addToBlock 50 = .ok (.return_, 1) := by decide +kernel
theorem dX1_init_0 : decode cX1_init 0 = .ok (.aload_n 0, 1) := by decide +kernel
theorem dX1_init_1 : decode cX1_init 1 = .ok (.invokespecial 1, 3) := by decide +kernel
theorem dX1_init_4 : decode cX1_init 4 = .ok (.aload_n 0, 1) := by decide +kernel
theorem dX1_init_5 : decode cX1_init 5 = .ok (.iconst 3, 1) := by decide +kernel
theorem dX1_init_6 : decode cX1_init 6 = .ok (.iconst 3, 1) := by decide +kernel
theorem dX1_init_7 : decode cX1_init 7 = .ok (.invokevirtual 7, 3) := by decide +kernel
theorem dX1_init_10 : decode cX1_init 10 = .ok (.return_, 1) := by decide +kernel
theorem dX1_become_0 : decode cX1_become 0 = .ok (.aload_n 0, 1) := by decide +kernel
theorem dX1_become_1 : decode cX1_become 1 = .ok (.iload_n 1, 1) := by decide +kernel
theorem dX1_become_2 : decode cX1_become 2 = .ok (.putfield 13, 3) := by decide +kernel
theorem dX1_become_5 : decode cX1_become 5 = .ok (.aload_n 0, 1) := by decide +kernel
theorem dX1_become_6 : decode cX1_become 6 = .ok (.iload_n 2, 1) := by decide +kernel
theorem dX1_become_7 : decode cX1_become 7 = .ok (.putfield 17, 3) := by decide +kernel
theorem dX1_become_10 : decode cX1_become 10 = .ok (.aload_n 0, 1) := by decide +kernel
theorem dX1_become_11 : decode cX1_become 11 = .ok (.iconst 1, 1) := by decide +kernel
theorem dX1_become_12 : decode cX1_become 12 = .ok (.aload_n 0, 1) := by decide +kernel
theorem dX1_become_13 : decode cX1_become 13 = .ok (.getfield 13, 3) := by decide +kernel
theorem dX1_become_16 : decode cX1_become 16 = .ok (.iconst 1, 1) := by decide +kernel
theorem dX1_become_17 : decode cX1_become 17 = .ok (.isub, 1) := by decide +kernel
theorem dX1_become_18 : decode cX1_become 18 = .ok (.ishl, 1) := by decide +kernel
theorem dX1_become_19 : decode cX1_become 19 = .ok (.iconst 1, 1) := by decide +kernel
theorem dX1_become_20 : decode cX1_become 20 = .ok (.isub, 1) := by decide +kernel
theorem dX1_become_21 : decode cX1_become 21 = .ok (.putfield 20, 3) := by decide +kernel
theorem dX1_become_24 : decode cX1_become 24 = .ok (.aload_n 0, 1) := by decide +kernel
theorem dX1_become_25 : decode cX1_become 25 = .ok (.iconst 1, 1) := by decide +kernel
theorem dX1_become_26 : decode cX1_become 26 = .ok (.iconst 1, 1) := by decide +kernel
theorem dX1_become_27 : decode cX1_become 27 = .ok (.aload_n 0, 1) := by decide +kernel
theorem dX1_become_28 : decode cX1_become 28 = .ok (.getfield 13, 3) := by decide +kernel
theorem dX1_become_31 : decode cX1_become 31 = .ok (.iadd, 1) := by decide +kernel
theorem dX1_become_32 : decode cX1_become 32 = .ok (.aload_n 0, 1) := by decide +kernel
theorem dX1_become_33 : decode cX1_become 33 = .ok (.getfield 17, 3) := by decide +kernel
theorem dX1_become_36 : decode cX1_become 36 = .ok (.iadd, 1) := by decide +kernel
theorem dX1_become_37 : decode cX1_become 37 = .ok (.ishl, 1) := by decide +kernel
theorem dX1_become_38 : decode cX1_become 38 = .ok (.putfield 23, 3) := by decide +kernel
theorem dX1_become_41 : decode cX1_become 41 = .ok (.aload_n 0, 1) := by decide +kernel
theorem dX1_become_42 : decode cX1_become 42 = .ok (.iconst 1, 1) := by decide +kernel
theorem dX1_become_43 : decode cX1_become 43 = .ok (.aload_n 0, 1) := by decide +kernel
theorem dX1_become_44 : decode cX1_become 44 = .ok (.getfield 13, 3) := by decide +kernel
theorem dX1_become_47 : decode cX1_become 47 = .ok (.aload_n 0, 1) := by decide +kernel
theorem dX1_become_48 : decode cX1_become 48 = .ok (.getfield 17, 3) := by decide +kernel
theorem dX1_become_51 : decode cX1_become 51 = .ok (.iadd, 1) := by decide +kernel
theorem dX1_become_52 : decode cX1_become 52 = .ok (.ishl, 1) := by decide +kernel
theorem dX1_become_53 : decode cX1_become 53 = .ok (.putfield 26, 3) := by decide +kernel
theorem dX1_become_56 : decode cX1_become 56 = .ok (.aload_n 0, 1) := by decide +kernel
theorem dX1_become_57 : decode cX1_become 57 = .ok (.iconst 1, 1) := by decide +kernel
theorem dX1_become_58 : decode cX1_become 58 = .ok (.aload_n 0, 1) := by decide +kernel
theorem dX1_become_59 : decode cX1_become 59 = .ok (.getfield 13, 3) := by decide +kernel
theorem dX1_become_62 : decode cX1_become 62 = .ok (.ishl, 1) := by decide +kernel
theorem dX1_become_63 : decode cX1_become 63 = .ok (.iconst 1, 1) := by decide +kernel
theorem dX1_become_64 : decode cX1_become 64 = .ok (.isub, 1) := by decide +kernel
theorem dX1_become_65 : decode cX1_become 65 = .ok (.aload_n 0, 1) := by decide +kernel
theorem dX1_become_66 : decode cX1_become 66 = .ok (.getfield 17, 3) := by decide +kernel
theorem dX1_become_69 : decode cX1_become 69 = .ok (.ishl, 1) := by decide +kernel
theorem dX1_become_70 : decode cX1_become 70 = .ok (.putfield 29, 3) := by decide +kernel
theorem dX1_become_73 : decode cX1_become 73 = .ok (.return_, 1) := by decide +kernel
theorem dX1_isCode_0 : decode cX1_isCode 0 = .ok (.iload_n 1, 1) := by decide +kernel
theorem dX1_isCode_1 : decode cX1_isCode 1 = .ok (.ifCond .lt 15, 3) := by decide +kernel
theorem dX1_isCode_4 : decode cX1_isCode 4 = .ok (.iload_n 1, 1) := by decide +kernel
theorem dX1_isCode_5 : decode cX1_isCode 5 = .ok (.aload_n 0, 1) := by decide +kernel
theorem dX1_isCode_6 : decode cX1_isCode 6 = .ok (.getfield 23, 3) := by decide +kernel
theorem dX1_isCode_9 : decode cX1_isCode 9 = .ok (.if_icmp .ge 7, 3) := by decide +kernel
theorem dX1_isCode_12 : decode cX1_isCode 12 = .ok (.iconst 1, 1) := by decide +kernel
theorem dX1_isCode_13 : decode cX1_isCode 13 = .ok (.goto 4, 3) := by decide +kernel
theorem dX1_isCode_16 : decode cX1_isCode 16 = .ok (.iconst 0, 1) := by decide +kernel
theorem dX1_isCode_17 : decode cX1_isCode 17 = .ok (.ireturn, 1) := by decide +kernel
theorem dX1_isPower_0 : decode cX1_isPower 0 = .ok (.iload_n 1, 1) := by decide +kernel
theorem dX1_isPower_1 : decode cX1_isPower 1 = .ok (.iconst 1, 1) := by decide +kernel
theorem dX1_isPower_2 : decode cX1_isPower 2 = .ok (.if_icmp .lt 19, 3) := by decide +kernel
theorem dX1_isPower_5 : decode cX1_isPower 5 = .ok (.iload_n 1, 1) := by decide +kernel
theorem dX1_isPower_6 : decode cX1_isPower 6 = .ok (.iconst 1, 1) := by decide +kernel
theorem dX1_isPower_7 : decode cX1_isPower 7 = .ok (.aload_n 0, 1) := by decide +kernel
theorem dX1_isPower_8 : decode cX1_isPower 8 = .ok (.getfield 13, 3) := by decide +kernel
theorem dX1_isPower_11 : decode cX1_isPower 11 = .ok (.ishl, 1) := by decide +kernel
theorem dX1_isPower_12 : decode cX1_isPower 12 = .ok (.iconst 1, 1) := by decide +kernel
theorem dX1_isPower_13 : decode cX1_isPower 13 = .ok (.isub, 1) := by decide +kernel
theorem dX1_isPower_14 : decode cX1_isPower 14 = .ok (.if_icmp .ge 7, 3) := by decide +kernel
theorem dX1_isPower_17 : decode cX1_isPower 17 = .ok (.iconst 1, 1) := by decide +kernel
theorem dX1_isPower_18 : decode cX1_isPower 18 = .ok (.goto 4, 3) := by decide +kernel
theorem dX1_isPower_21 : decode cX1_isPower 21 = .ok (.iconst 0, 1) := by decide +kernel
theorem dX1_isPower_22 : decode cX1_isPower 22 = .ok (.ireturn, 1) := by decide +kernel
theorem dX1_isZ_0 : decode cX1_isZ 0 = .ok (.iload_n 1, 1) := by decide +kernel
theorem dX1_isZ_1 : decode cX1_isZ 1 = .ok (.ifCond .lt 15, 3) := by decide +kernel
theorem dX1_isZ_4 : decode cX1_isZ 4 = .ok (.iload_n 1, 1) := by decide +kernel
theorem dX1_isZ_5 : decode cX1_isZ 5 = .ok (.aload_n 0, 1) := by decide +kernel
theorem dX1_isZ_6 : decode cX1_isZ 6 = .ok (.invokevirtual 32, 3) := by decide +kernel
theorem dX1_isZ_9 : decode cX1_isZ 9 = .ok (.if_icmp .ge 7, 3) := by decide +kernel
theorem dX1_isZ_12 : decode cX1_isZ 12 = .ok (.iconst 1, 1) := by decide +kernel
theorem dX1_isZ_13 : decode cX1_isZ 13 = .ok (.goto 4, 3) := by decide +kernel
theorem dX1_isZ_16 : decode cX1_isZ 16 = .ok (.iconst 0, 1) := by decide +kernel
theorem dX1_isZ_17 : decode cX1_isZ 17 = .ok (.ireturn, 1) := by decide +kernel
theorem dX1_zs_0 : decode cX1_zs 0 = .ok (.iconst 1, 1) := by decide +kernel
theorem dX1_zs_1 : decode cX1_zs 1 = .ok (.aload_n 0, 1) := by decide +kernel
theorem dX1_zs_2 : decode cX1_zs 2 = .ok (.getfield 17, 3) := by decide +kernel
theorem dX1_zs_5 : decode cX1_zs 5 = .ok (.ishl, 1) := by decide +kernel
theorem dX1_zs_6 : decode cX1_zs 6 = .ok (.ireturn, 1) := by decide +kernel
theorem dX1_codeOf_0 : decode cX1_codeOf 0 = .ok (.iload_n 1, 1) := by decide +kernel
theorem dX1_codeOf_1 : decode cX1_codeOf 1 = .ok (.aload_n 0, 1) := by decide +kernel
theorem dX1_codeOf_2 : decode cX1_codeOf 2 = .ok (.getfield 17, 3) := by decide +kernel
theorem dX1_codeOf_5 : decode cX1_codeOf 5 = .ok (.ishl, 1) := by decide +kernel
theorem dX1_codeOf_6 : decode cX1_codeOf 6 = .ok (.iload_n 2, 1) := by decide +kernel
theorem dX1_codeOf_7 : decode cX1_codeOf 7 = .ok (.iadd, 1) := by decide +kernel
theorem dX1_codeOf_8 : decode cX1_codeOf 8 = .ok (.ireturn, 1) := by decide +kernel
theorem dX1_none_0 : decode cX1_none 0 = .ok (.aload_n 0, 1) := by decide +kernel
theorem dX1_none_1 : decode cX1_none 1 = .ok (.getfield 29, 3) := by decide +kernel
theorem dX1_none_4 : decode cX1_none 4 = .ok (.iconst 1, 1) := by decide +kernel
theorem dX1_none_5 : decode cX1_none 5 = .ok (.iadd, 1) := by decide +kernel
theorem dX1_none_6 : decode cX1_none 6 = .ok (.ireturn, 1) := by decide +kernel
theorem dX1_greatestPlain_0 : decode cX1_greatestPlain 0 = .ok (.aload_n 0, 1) := by decide +kernel
theorem dX1_greatestPlain_1 : decode cX1_greatestPlain 1 = .ok (.getfield 29, 3) := by decide +kernel
theorem dX1_greatestPlain_4 : decode cX1_greatestPlain 4 = .ok (.iconst 1, 1) := by decide +kernel
theorem dX1_greatestPlain_5 : decode cX1_greatestPlain 5 = .ok (.isub, 1) := by decide +kernel
theorem dX1_greatestPlain_6 : decode cX1_greatestPlain 6 = .ok (.ireturn, 1) := by decide +kernel
theorem dX1_amount_0 : decode cX1_amount 0 = .ok (.iload_n 1, 1) := by decide +kernel
theorem dX1_amount_1 : decode cX1_amount 1 = .ok (.aload_n 0, 1) := by decide +kernel
theorem dX1_amount_2 : decode cX1_amount 2 = .ok (.getfield 26, 3) := by decide +kernel
theorem dX1_amount_5 : decode cX1_amount 5 = .ok (.iconst 1, 1) := by decide +kernel
theorem dX1_amount_6 : decode cX1_amount 6 = .ok (.isub, 1) := by decide +kernel
theorem dX1_amount_7 : decode cX1_amount 7 = .ok (.iand, 1) := by decide +kernel
theorem dX1_amount_8 : decode cX1_amount 8 = .ok (.ireturn, 1) := by decide +kernel
theorem dX1_isBelow_0 : decode cX1_isBelow 0 = .ok (.iload_n 1, 1) := by decide +kernel
theorem dX1_isBelow_1 : decode cX1_isBelow 1 = .ok (.aload_n 0, 1) := by decide +kernel
theorem dX1_isBelow_2 : decode cX1_isBelow 2 = .ok (.getfield 26, 3) := by decide +kernel
theorem dX1_isBelow_5 : decode cX1_isBelow 5 = .ok (.iand, 1) := by decide +kernel
theorem dX1_isBelow_6 : decode cX1_isBelow 6 = .ok (.ifCond .eq 7, 3) := by decide +kernel
theorem dX1_isBelow_9 : decode cX1_isBelow 9 = .ok (.iconst 1, 1) := by decide +kernel
theorem dX1_isBelow_10 : decode cX1_isBelow 10 = .ok (.goto 4, 3) := by decide +kernel
theorem dX1_isBelow_13 : decode cX1_isBelow 13 = .ok (.iconst 0, 1) := by decide +kernel
theorem dX1_isBelow_14 : decode cX1_isBelow 14 = .ok (.ireturn, 1) := by decide +kernel
theorem dX1_isPlain_0 : decode cX1_isPlain 0 = .ok (.aload_n 0, 1) := by decide +kernel
theorem dX1_isPlain_1 : decode cX1_isPlain 1 = .ok (.iload_n 1, 1) := by decide +kernel
theorem dX1_isPlain_2 : decode cX1_isPlain 2 = .ok (.invokevirtual 36, 3) := by decide +kernel
theorem dX1_isPlain_5 : decode cX1_isPlain 5 = .ok (.aload_n 0, 1) := by decide +kernel
theorem dX1_isPlain_6 : decode cX1_isPlain 6 = .ok (.getfield 29, 3) := by decide +kernel
theorem dX1_isPlain_9 : decode cX1_isPlain 9 = .ok (.if_icmp .ge 7, 3) := by decide +kernel
theorem dX1_isPlain_12 : decode cX1_isPlain 12 = .ok (.iconst 1, 1) := by decide +kernel
theorem dX1_isPlain_13 : decode cX1_isPlain 13 = .ok (.goto 4, 3) := by decide +kernel
theorem dX1_isPlain_16 : decode cX1_isPlain 16 = .ok (.iconst 0, 1) := by decide +kernel
theorem dX1_isPlain_17 : decode cX1_isPlain 17 = .ok (.ireturn, 1) := by decide +kernel
theorem dX1_isZero_0 : decode cX1_isZero 0 = .ok (.aload_n 0, 1) := by decide +kernel
theorem dX1_isZero_1 : decode cX1_isZero 1 = .ok (.iload_n 1, 1) := by decide +kernel
theorem dX1_isZero_2 : decode cX1_isZero 2 = .ok (.invokevirtual 36, 3) := by decide +kernel
theorem dX1_isZero_5 : decode cX1_isZero 5 = .ok (.ifCond .ne 7, 3) := by decide +kernel
theorem dX1_isZero_8 : decode cX1_isZero 8 = .ok (.iconst 1, 1) := by decide +kernel
theorem dX1_isZero_9 : decode cX1_isZero 9 = .ok (.goto 4, 3) := by decide +kernel
theorem dX1_isZero_12 : decode cX1_isZero 12 = .ok (.iconst 0, 1) := by decide +kernel
theorem dX1_isZero_13 : decode cX1_isZero 13 = .ok (.ireturn, 1) := by decide +kernel
theorem dX1_isNone_0 : decode cX1_isNone 0 = .ok (.aload_n 0, 1) := by decide +kernel
theorem dX1_isNone_1 : decode cX1_isNone 1 = .ok (.iload_n 1, 1) := by decide +kernel
theorem dX1_isNone_2 : decode cX1_isNone 2 = .ok (.invokevirtual 36, 3) := by decide +kernel
theorem dX1_isNone_5 : decode cX1_isNone 5 = .ok (.aload_n 0, 1) := by decide +kernel
theorem dX1_isNone_6 : decode cX1_isNone 6 = .ok (.getfield 29, 3) := by decide +kernel
theorem dX1_isNone_9 : decode cX1_isNone 9 = .ok (.if_icmp .le 7, 3) := by decide +kernel
theorem dX1_isNone_12 : decode cX1_isNone 12 = .ok (.iconst 1, 1) := by decide +kernel
theorem dX1_isNone_13 : decode cX1_isNone 13 = .ok (.goto 4, 3) := by decide +kernel
theorem dX1_isNone_16 : decode cX1_isNone 16 = .ok (.iconst 0, 1) := by decide +kernel
theorem dX1_isNone_17 : decode cX1_isNone 17 = .ok (.ireturn, 1) := by decide +kernel
theorem dX1_kindOf_0 : decode cX1_kindOf 0 = .ok (.aload_n 0, 1) := by decide +kernel
theorem dX1_kindOf_1 : decode cX1_kindOf 1 = .ok (.iload_n 1, 1) := by decide +kernel
theorem dX1_kindOf_2 : decode cX1_kindOf 2 = .ok (.invokevirtual 40, 3) := by decide +kernel
theorem dX1_kindOf_5 : decode cX1_kindOf 5 = .ok (.ifCond .eq 17, 3) := by decide +kernel
theorem dX1_kindOf_8 : decode cX1_kindOf 8 = .ok (.aload_n 0, 1) := by decide +kernel
theorem dX1_kindOf_9 : decode cX1_kindOf 9 = .ok (.iload_n 1, 1) := by decide +kernel
theorem dX1_kindOf_10 : decode cX1_kindOf 10 = .ok (.invokevirtual 44, 3) := by decide +kernel
theorem dX1_kindOf_13 : decode cX1_kindOf 13 = .ok (.ifCond .eq 7, 3) := by decide +kernel
theorem dX1_kindOf_16 : decode cX1_kindOf 16 = .ok (.iconst 1, 1) := by decide +kernel
theorem dX1_kindOf_17 : decode cX1_kindOf 17 = .ok (.goto 4, 3) := by decide +kernel
theorem dX1_kindOf_20 : decode cX1_kindOf 20 = .ok (.iconst 0, 1) := by decide +kernel
theorem dX1_kindOf_21 : decode cX1_kindOf 21 = .ok (.ireturn, 1) := by decide +kernel
theorem dX1_kindOf_22 : decode cX1_kindOf 22 = .ok (.aload_n 0, 1) := by decide +kernel
theorem dX1_kindOf_23 : decode cX1_kindOf 23 = .ok (.iload_n 1, 1) := by decide +kernel
theorem dX1_kindOf_24 : decode cX1_kindOf 24 = .ok (.invokevirtual 47, 3) := by decide +kernel
theorem dX1_kindOf_27 : decode cX1_kindOf 27 = .ok (.ifCond .eq 7, 3) := by decide +kernel
theorem dX1_kindOf_30 : decode cX1_kindOf 30 = .ok (.iconst 3, 1) := by decide +kernel
theorem dX1_kindOf_31 : decode cX1_kindOf 31 = .ok (.goto 4, 3) := by decide +kernel
theorem dX1_kindOf_34 : decode cX1_kindOf 34 = .ok (.iconst 2, 1) := by decide +kernel
theorem dX1_kindOf_35 : decode cX1_kindOf 35 = .ok (.ireturn, 1) := by decide +kernel
theorem dX1_powerBits_0 : decode cX1_powerBits 0 = .ok (.aload_n 0, 1) := by decide +kernel
theorem dX1_powerBits_1 : decode cX1_powerBits 1 = .ok (.iload_n 1, 1) := by decide +kernel
theorem dX1_powerBits_2 : decode cX1_powerBits 2 = .ok (.invokevirtual 36, 3) := by decide +kernel
theorem dX1_powerBits_5 : decode cX1_powerBits 5 = .ok (.aload_n 0, 1) := by decide +kernel
theorem dX1_powerBits_6 : decode cX1_powerBits 6 = .ok (.getfield 17, 3) := by decide +kernel
theorem dX1_powerBits_9 : decode cX1_powerBits 9 = .ok (.ishr, 1) := by decide +kernel
theorem dX1_powerBits_10 : decode cX1_powerBits 10 = .ok (.ireturn, 1) := by decide +kernel
theorem dX1_figureBits_0 : decode cX1_figureBits 0 = .ok (.iload_n 1, 1) := by decide +kernel
theorem dX1_figureBits_1 : decode cX1_figureBits 1 = .ok (.aload_n 0, 1) := by decide +kernel
theorem dX1_figureBits_2 : decode cX1_figureBits 2 = .ok (.invokevirtual 32, 3) := by decide +kernel
theorem dX1_figureBits_5 : decode cX1_figureBits 5 = .ok (.iconst 1, 1) := by decide +kernel
theorem dX1_figureBits_6 : decode cX1_figureBits 6 = .ok (.isub, 1) := by decide +kernel
theorem dX1_figureBits_7 : decode cX1_figureBits 7 = .ok (.iand, 1) := by decide +kernel
theorem dX1_figureBits_8 : decode cX1_figureBits 8 = .ok (.ireturn, 1) := by decide +kernel
theorem dX1_factor_0 : decode cX1_factor 0 = .ok (.aload_n 0, 1) := by decide +kernel
theorem dX1_factor_1 : decode cX1_factor 1 = .ok (.iload_n 1, 1) := by decide +kernel
theorem dX1_factor_2 : decode cX1_factor 2 = .ok (.invokevirtual 50, 3) := by decide +kernel
theorem dX1_factor_5 : decode cX1_factor 5 = .ok (.ifCond .ne 11, 3) := by decide +kernel
theorem dX1_factor_8 : decode cX1_factor 8 = .ok (.aload_n 0, 1) := by decide +kernel
theorem dX1_factor_9 : decode cX1_factor 9 = .ok (.iload_n 1, 1) := by decide +kernel
theorem dX1_factor_10 : decode cX1_factor 10 = .ok (.invokevirtual 53, 3) := by decide +kernel
theorem dX1_factor_13 : decode cX1_factor 13 = .ok (.goto 13, 3) := by decide +kernel
theorem dX1_factor_16 : decode cX1_factor 16 = .ok (.aload_n 0, 1) := by decide +kernel
theorem dX1_factor_17 : decode cX1_factor 17 = .ok (.invokevirtual 32, 3) := by decide +kernel
theorem dX1_factor_20 : decode cX1_factor 20 = .ok (.aload_n 0, 1) := by decide +kernel
theorem dX1_factor_21 : decode cX1_factor 21 = .ok (.iload_n 1, 1) := by decide +kernel
theorem dX1_factor_22 : decode cX1_factor 22 = .ok (.invokevirtual 53, 3) := by decide +kernel
theorem dX1_factor_25 : decode cX1_factor 25 = .ok (.iadd, 1) := by decide +kernel
theorem dX1_factor_26 : decode cX1_factor 26 = .ok (.ireturn, 1) := by decide +kernel
theorem dX1_power_0 : decode cX1_power 0 = .ok (.aload_n 0, 1) := by decide +kernel
theorem dX1_power_1 : decode cX1_power 1 = .ok (.iload_n 1, 1) := by decide +kernel
theorem dX1_power_2 : decode cX1_power 2 = .ok (.invokevirtual 50, 3) := by decide +kernel
theorem dX1_power_5 : decode cX1_power 5 = .ok (.iconst 1, 1) := by decide +kernel
theorem dX1_power_6 : decode cX1_power 6 = .ok (.invokestatic 56, 3) := by decide +kernel
theorem dX1_power_9 : decode cX1_power 9 = .ok (.aload_n 0, 1) := by decide +kernel
theorem dX1_power_10 : decode cX1_power 10 = .ok (.getfield 20, 3) := by decide +kernel
theorem dX1_power_13 : decode cX1_power 13 = .ok (.isub, 1) := by decide +kernel
theorem dX1_power_14 : decode cX1_power 14 = .ok (.aload_n 0, 1) := by decide +kernel
theorem dX1_power_15 : decode cX1_power 15 = .ok (.getfield 17, 3) := by decide +kernel
theorem dX1_power_18 : decode cX1_power 18 = .ok (.isub, 1) := by decide +kernel
theorem dX1_power_19 : decode cX1_power 19 = .ok (.ireturn, 1) := by decide +kernel
theorem dX1_oddFactor_0 : decode cX1_oddFactor 0 = .ok (.aload_n 0, 1) := by decide +kernel
theorem dX1_oddFactor_1 : decode cX1_oddFactor 1 = .ok (.iload_n 1, 1) := by decide +kernel
theorem dX1_oddFactor_2 : decode cX1_oddFactor 2 = .ok (.invokevirtual 62, 3) := by decide +kernel
theorem dX1_oddFactor_5 : decode cX1_oddFactor 5 = .ok (.istore_n 2, 1) := by decide +kernel
theorem dX1_oddFactor_6 : decode cX1_oddFactor 6 = .ok (.iload_n 2, 1) := by decide +kernel
theorem dX1_oddFactor_7 : decode cX1_oddFactor 7 = .ok (.ifCond .ne 7, 3) := by decide +kernel
theorem dX1_oddFactor_10 : decode cX1_oddFactor 10 = .ok (.iconst 0, 1) := by decide +kernel
theorem dX1_oddFactor_11 : decode cX1_oddFactor 11 = .ok (.goto 9, 3) := by decide +kernel
theorem dX1_oddFactor_14 : decode cX1_oddFactor 14 = .ok (.iload_n 2, 1) := by decide +kernel
theorem dX1_oddFactor_15 : decode cX1_oddFactor 15 = .ok (.iload_n 2, 1) := by decide +kernel
theorem dX1_oddFactor_16 : decode cX1_oddFactor 16 = .ok (.invokestatic 65, 3) := by decide +kernel
theorem dX1_oddFactor_19 : decode cX1_oddFactor 19 = .ok (.ishr, 1) := by decide +kernel
theorem dX1_oddFactor_20 : decode cX1_oddFactor 20 = .ok (.ireturn, 1) := by decide +kernel
theorem dX1_powerOfOddFactor_0 : decode cX1_powerOfOddFactor 0 = .ok (.aload_n 0, 1) := by decide +kernel
theorem dX1_powerOfOddFactor_1 : decode cX1_powerOfOddFactor 1 = .ok (.iload_n 1, 1) := by decide +kernel
theorem dX1_powerOfOddFactor_2 : decode cX1_powerOfOddFactor 2 = .ok (.invokevirtual 62, 3) := by decide +kernel
theorem dX1_powerOfOddFactor_5 : decode cX1_powerOfOddFactor 5 = .ok (.istore_n 2, 1) := by decide +kernel
theorem dX1_powerOfOddFactor_6 : decode cX1_powerOfOddFactor 6 = .ok (.iload_n 2, 1) := by decide +kernel
theorem dX1_powerOfOddFactor_7 : decode cX1_powerOfOddFactor 7 = .ok (.ifCond .ne 7, 3) := by decide +kernel
theorem dX1_powerOfOddFactor_10 : decode cX1_powerOfOddFactor 10 = .ok (.iconst 0, 1) := by decide +kernel
theorem dX1_powerOfOddFactor_11 : decode cX1_powerOfOddFactor 11 = .ok (.goto 13, 3) := by decide +kernel
theorem dX1_powerOfOddFactor_14 : decode cX1_powerOfOddFactor 14 = .ok (.aload_n 0, 1) := by decide +kernel
theorem dX1_powerOfOddFactor_15 : decode cX1_powerOfOddFactor 15 = .ok (.iload_n 1, 1) := by decide +kernel
theorem dX1_powerOfOddFactor_16 : decode cX1_powerOfOddFactor 16 = .ok (.invokevirtual 70, 3) := by decide +kernel
theorem dX1_powerOfOddFactor_19 : decode cX1_powerOfOddFactor 19 = .ok (.iload_n 2, 1) := by decide +kernel
theorem dX1_powerOfOddFactor_20 : decode cX1_powerOfOddFactor 20 = .ok (.invokestatic 65, 3) := by decide +kernel
theorem dX1_powerOfOddFactor_23 : decode cX1_powerOfOddFactor 23 = .ok (.iadd, 1) := by decide +kernel
theorem dX1_powerOfOddFactor_24 : decode cX1_powerOfOddFactor 24 = .ok (.ireturn, 1) := by decide +kernel
theorem dX1_stepsFromZero_0 : decode cX1_stepsFromZero 0 = .ok (.aload_n 0, 1) := by decide +kernel
theorem dX1_stepsFromZero_1 : decode cX1_stepsFromZero 1 = .ok (.iload_n 1, 1) := by decide +kernel
theorem dX1_stepsFromZero_2 : decode cX1_stepsFromZero 2 = .ok (.invokevirtual 73, 3) := by decide +kernel
theorem dX1_stepsFromZero_5 : decode cX1_stepsFromZero 5 = .ok (.ifCond .eq 12, 3) := by decide +kernel
theorem dX1_stepsFromZero_8 : decode cX1_stepsFromZero 8 = .ok (.aload_n 0, 1) := by decide +kernel
theorem dX1_stepsFromZero_9 : decode cX1_stepsFromZero 9 = .ok (.iload_n 1, 1) := by decide +kernel
theorem dX1_stepsFromZero_10 : decode cX1_stepsFromZero 10 = .ok (.invokevirtual 36, 3) := by decide +kernel
theorem dX1_stepsFromZero_13 : decode cX1_stepsFromZero 13 = .ok (.ineg, 1) := by decide +kernel
theorem dX1_stepsFromZero_14 : decode cX1_stepsFromZero 14 = .ok (.goto 8, 3) := by decide +kernel
theorem dX1_stepsFromZero_17 : decode cX1_stepsFromZero 17 = .ok (.aload_n 0, 1) := by decide +kernel
theorem dX1_stepsFromZero_18 : decode cX1_stepsFromZero 18 = .ok (.iload_n 1, 1) := by decide +kernel
theorem dX1_stepsFromZero_19 : decode cX1_stepsFromZero 19 = .ok (.invokevirtual 36, 3) := by decide +kernel
theorem dX1_stepsFromZero_22 : decode cX1_stepsFromZero 22 = .ok (.ireturn, 1) := by decide +kernel
theorem dX1_codeAbove_0 : decode cX1_codeAbove 0 = .ok (.aload_n 0, 1) := by decide +kernel
theorem dX1_codeAbove_1 : decode cX1_codeAbove 1 = .ok (.iload_n 1, 1) := by decide +kernel
theorem dX1_codeAbove_2 : decode cX1_codeAbove 2 = .ok (.invokevirtual 76, 3) := by decide +kernel
theorem dX1_codeAbove_5 : decode cX1_codeAbove 5 = .ok (.iconst 1, 1) := by decide +kernel
theorem dX1_codeAbove_6 : decode cX1_codeAbove 6 = .ok (.iadd, 1) := by decide +kernel
theorem dX1_codeAbove_7 : decode cX1_codeAbove 7 = .ok (.istore_n 2, 1) := by decide +kernel
theorem dX1_codeAbove_8 : decode cX1_codeAbove 8 = .ok (.iload_n 2, 1) := by decide +kernel
theorem dX1_codeAbove_9 : decode cX1_codeAbove 9 = .ok (.ifCond .ge 12, 3) := by decide +kernel
theorem dX1_codeAbove_12 : decode cX1_codeAbove 12 = .ok (.aload_n 0, 1) := by decide +kernel
theorem dX1_codeAbove_13 : decode cX1_codeAbove 13 = .ok (.getfield 26, 3) := by decide +kernel
theorem dX1_codeAbove_16 : decode cX1_codeAbove 16 = .ok (.iload_n 2, 1) := by decide +kernel
theorem dX1_codeAbove_17 : decode cX1_codeAbove 17 = .ok (.isub, 1) := by decide +kernel
theorem dX1_codeAbove_18 : decode cX1_codeAbove 18 = .ok (.goto 4, 3) := by decide +kernel
theorem dX1_codeAbove_21 : decode cX1_codeAbove 21 = .ok (.iload_n 2, 1) := by decide +kernel
theorem dX1_codeAbove_22 : decode cX1_codeAbove 22 = .ok (.ireturn, 1) := by decide +kernel
theorem dX2_init_0 : decode cX2_init 0 = .ok (.aload_n 0, 1) := by decide +kernel
theorem dX2_init_1 : decode cX2_init 1 = .ok (.invokespecial 3, 3) := by decide +kernel
theorem dX2_init_4 : decode cX2_init 4 = .ok (.aload_n 0, 1) := by decide +kernel
theorem dX2_init_5 : decode cX2_init 5 = .ok (.aload_n 1, 1) := by decide +kernel
theorem dX2_init_6 : decode cX2_init 6 = .ok (.putfield 9, 3) := by decide +kernel
theorem dX2_init_9 : decode cX2_init 9 = .ok (.aload_n 0, 1) := by decide +kernel
theorem dX2_init_10 : decode cX2_init 10 = .ok (.aload_n 2, 1) := by decide +kernel
theorem dX2_init_11 : decode cX2_init 11 = .ok (.putfield 15, 3) := by decide +kernel
theorem dX2_init_14 : decode cX2_init 14 = .ok (.aload_n 0, 1) := by decide +kernel
theorem dX2_init_15 : decode cX2_init 15 = .ok (.sipush 256, 3) := by decide +kernel
theorem dX2_init_18 : decode cX2_init 18 = .ok (.newarray .int, 2) := by decide +kernel
theorem dX2_init_20 : decode cX2_init 20 = .ok (.putfield 19, 3) := by decide +kernel
theorem dX2_init_23 : decode cX2_init 23 = .ok (.aload_n 0, 1) := by decide +kernel
theorem dX2_init_24 : decode cX2_init 24 = .ok (.sipush 256, 3) := by decide +kernel
theorem dX2_init_27 : decode cX2_init 27 = .ok (.newarray .int, 2) := by decide +kernel
theorem dX2_init_29 : decode cX2_init 29 = .ok (.putfield 23, 3) := by decide +kernel
theorem dX2_init_32 : decode cX2_init 32 = .ok (.aload_n 0, 1) := by decide +kernel
theorem dX2_init_33 : decode cX2_init 33 = .ok (.sipush 256, 3) := by decide +kernel
theorem dX2_init_36 : decode cX2_init 36 = .ok (.newarray .int, 2) := by decide +kernel
theorem dX2_init_38 : decode cX2_init 38 = .ok (.putfield 26, 3) := by decide +kernel
theorem dX2_init_41 : decode cX2_init 41 = .ok (.aload_n 0, 1) := by decide +kernel
theorem dX2_init_42 : decode cX2_init 42 = .ok (.sipush 256, 3) := by decide +kernel
theorem dX2_init_45 : decode cX2_init 45 = .ok (.newarray .int, 2) := by decide +kernel
theorem dX2_init_47 : decode cX2_init 47 = .ok (.putfield 29, 3) := by decide +kernel
theorem dX2_init_50 : decode cX2_init 50 = .ok (.return_, 1) := by decide +kernel
theorem dX2_onLine_0 : decode cX2_onLine 0 = .ok (.lload_n 0, 1) := by decide +kernel
theorem dX2_onLine_1 : decode cX2_onLine 1 = .ok (.lload_n 2, 1) := by decide +kernel
theorem dX2_onLine_2 : decode cX2_onLine 2 = .ok (.lload 4, 2) := by decide +kernel
theorem dX2_onLine_4 : decode cX2_onLine 4 = .ok (.lmul, 1) := by decide +kernel
theorem dX2_onLine_5 : decode cX2_onLine 5 = .ok (.ladd, 1) := by decide +kernel
theorem dX2_onLine_6 : decode cX2_onLine 6 = .ok (.iload 6, 2) := by decide +kernel
theorem dX2_onLine_8 : decode cX2_onLine 8 = .ok (.lshr, 1) := by decide +kernel
theorem dX2_onLine_9 : decode cX2_onLine 9 = .ok (.lreturn, 1) := by decide +kernel
theorem dX2_forget_0 : decode cX2_forget 0 = .ok (.aload_n 0, 1) := by decide +kernel
theorem dX2_forget_1 : decode cX2_forget 1 = .ok (.iconst 0, 1) := by decide +kernel
theorem dX2_forget_2 : decode cX2_forget 2 = .ok (.putfield 32, 3) := by decide +kernel
theorem dX2_forget_5 : decode cX2_forget 5 = .ok (.return_, 1) := by decide +kernel
theorem dX2_parts_0 : decode cX2_parts 0 = .ok (.aload_n 0, 1) := by decide +kernel
theorem dX2_parts_1 : decode cX2_parts 1 = .ok (.getfield 32, 3) := by decide +kernel
theorem dX2_parts_4 : decode cX2_parts 4 = .ok (.ireturn, 1) := by decide +kernel
theorem dX2_firstZ_0 : decode cX2_firstZ 0 = .ok (.aload_n 0, 1) := by decide +kernel
theorem dX2_firstZ_1 : decode cX2_firstZ 1 = .ok (.getfield 23, 3) := by decide +kernel
theorem dX2_firstZ_4 : decode cX2_firstZ 4 = .ok (.iload_n 1, 1) := by decide +kernel
theorem dX2_firstZ_5 : decode cX2_firstZ 5 = .ok (.invokestatic 36, 3) := by decide +kernel
theorem dX2_firstZ_8 : decode cX2_firstZ 8 = .ok (.ireturn, 1) := by decide +kernel
theorem dX2_lastZ_0 : decode cX2_lastZ 0 = .ok (.iload_n 1, 1) := by decide +kernel
theorem dX2_lastZ_1 : decode cX2_lastZ 1 = .ok (.iconst 1, 1) := by decide +kernel
theorem dX2_lastZ_2 : decode cX2_lastZ 2 = .ok (.iadd, 1) := by decide +kernel
theorem dX2_lastZ_3 : decode cX2_lastZ 3 = .ok (.aload_n 0, 1) := by decide +kernel
theorem dX2_lastZ_4 : decode cX2_lastZ 4 = .ok (.getfield 32, 3) := by decide +kernel
theorem dX2_lastZ_7 : decode cX2_lastZ 7 = .ok (.if_icmp .ge 13, 3) := by decide +kernel
theorem dX2_lastZ_10 : decode cX2_lastZ 10 = .ok (.aload_n 0, 1) := by decide +kernel
theorem dX2_lastZ_11 : decode cX2_lastZ 11 = .ok (.iload_n 1, 1) := by decide +kernel
theorem dX2_lastZ_12 : decode cX2_lastZ 12 = .ok (.iconst 1, 1) := by decide +kernel
theorem dX2_lastZ_13 : decode cX2_lastZ 13 = .ok (.iadd, 1) := by decide +kernel
theorem dX2_lastZ_14 : decode cX2_lastZ 14 = .ok (.invokevirtual 42, 3) := by decide +kernel
theorem dX2_lastZ_17 : decode cX2_lastZ 17 = .ok (.goto 10, 3) := by decide +kernel
theorem dX2_lastZ_20 : decode cX2_lastZ 20 = .ok (.aload_n 0, 1) := by decide +kernel
theorem dX2_lastZ_21 : decode cX2_lastZ 21 = .ok (.getfield 9, 3) := by decide +kernel
theorem dX2_lastZ_24 : decode cX2_lastZ 24 = .ok (.invokevirtual 46, 3) := by decide +kernel
theorem dX2_lastZ_27 : decode cX2_lastZ 27 = .ok (.iconst 1, 1) := by decide +kernel
theorem dX2_lastZ_28 : decode cX2_lastZ 28 = .ok (.isub, 1) := by decide +kernel
theorem dX2_lastZ_29 : decode cX2_lastZ 29 = .ok (.ireturn, 1) := by decide +kernel
theorem dX2_lineStart_0 : decode cX2_lineStart 0 = .ok (.aload_n 0, 1) := by decide +kernel
theorem dX2_lineStart_1 : decode cX2_lineStart 1 = .ok (.getfield 26, 3) := by decide +kernel
theorem dX2_lineStart_4 : decode cX2_lineStart 4 = .ok (.iload_n 1, 1) := by decide +kernel
theorem dX2_lineStart_5 : decode cX2_lineStart 5 = .ok (.invokestatic 36, 3) := by decide +kernel
theorem dX2_lineStart_8 : decode cX2_lineStart 8 = .ok (.ireturn, 1) := by decide +kernel
theorem dX2_lineSlope_0 : decode cX2_lineSlope 0 = .ok (.aload_n 0, 1) := by decide +kernel
theorem dX2_lineSlope_1 : decode cX2_lineSlope 1 = .ok (.getfield 29, 3) := by decide +kernel
theorem dX2_lineSlope_4 : decode cX2_lineSlope 4 = .ok (.iload_n 1, 1) := by decide +kernel
theorem dX2_lineSlope_5 : decode cX2_lineSlope 5 = .ok (.invokestatic 36, 3) := by decide +kernel
theorem dX2_lineSlope_8 : decode cX2_lineSlope 8 = .ok (.ireturn, 1) := by decide +kernel
theorem dX2_toldFor_0 : decode cX2_toldFor 0 = .ok (.iconst 0, 1) := by decide +kernel
theorem dX2_toldFor_1 : decode cX2_toldFor 1 = .ok (.istore_n 2, 1) := by decide +kernel
theorem dX2_toldFor_2 : decode cX2_toldFor 2 = .ok (.iload_n 2, 1) := by decide +kernel
theorem dX2_toldFor_3 : decode cX2_toldFor 3 = .ok (.aload_n 0, 1) := by decide +kernel
theorem dX2_toldFor_4 : decode cX2_toldFor 4 = .ok (.getfield 32, 3) := by decide +kernel
theorem dX2_toldFor_7 : decode cX2_toldFor 7 = .ok (.if_icmp .ge 18, 3) := by decide +kernel
theorem dX2_toldFor_10 : decode cX2_toldFor 10 = .ok (.aload_n 0, 1) := by decide +kernel
theorem dX2_toldFor_11 : decode cX2_toldFor 11 = .ok (.iload_n 2, 1) := by decide +kernel
theorem dX2_toldFor_12 : decode cX2_toldFor 12 = .ok (.invokevirtual 52, 3) := by decide +kernel
theorem dX2_toldFor_15 : decode cX2_toldFor 15 = .ok (.iload_n 1, 1) := by decide +kernel
theorem dX2_toldFor_16 : decode cX2_toldFor 16 = .ok (.if_icmp .ge 9, 3) := by decide +kernel
theorem dX2_toldFor_19 : decode cX2_toldFor 19 = .ok (.iinc 2 1, 3) := by decide +kernel
theorem dX2_toldFor_22 : decode cX2_toldFor 22 = .ok (.goto (-20), 3) := by decide +kernel
theorem dX2_toldFor_25 : decode cX2_toldFor 25 = .ok (.aload_n 0, 1) := by decide +kernel
theorem dX2_toldFor_26 : decode cX2_toldFor 26 = .ok (.iload_n 2, 1) := by decide +kernel
theorem dX2_toldFor_27 : decode cX2_toldFor 27 = .ok (.invokevirtual 55, 3) := by decide +kernel
theorem dX2_toldFor_30 : decode cX2_toldFor 30 = .ok (.i2l, 1) := by decide +kernel
theorem dX2_toldFor_31 : decode cX2_toldFor 31 = .ok (.aload_n 0, 1) := by decide +kernel
theorem dX2_toldFor_32 : decode cX2_toldFor 32 = .ok (.iload_n 2, 1) := by decide +kernel
theorem dX2_toldFor_33 : decode cX2_toldFor 33 = .ok (.invokevirtual 58, 3) := by decide +kernel
theorem dX2_toldFor_36 : decode cX2_toldFor 36 = .ok (.i2l, 1) := by decide +kernel
theorem dX2_toldFor_37 : decode cX2_toldFor 37 = .ok (.iload_n 1, 1) := by decide +kernel
theorem dX2_toldFor_38 : decode cX2_toldFor 38 = .ok (.i2l, 1) := by decide +kernel
theorem dX2_toldFor_39 : decode cX2_toldFor 39 = .ok (.aload_n 0, 1) := by decide +kernel
theorem dX2_toldFor_40 : decode cX2_toldFor 40 = .ok (.getfield 61, 3) := by decide +kernel
theorem dX2_toldFor_43 : decode cX2_toldFor 43 = .ok (.invokestatic 64, 3) := by decide +kernel
theorem dX2_toldFor_46 : decode cX2_toldFor 46 = .ok (.l2i, 1) := by decide +kernel
theorem dX2_toldFor_47 : decode cX2_toldFor 47 = .ok (.ireturn, 1) := by decide +kernel
theorem dX2_readDue_0 : decode cX2_readDue 0 = .ok (.iconst 0, 1) := by decide +kernel
theorem dX2_readDue_1 : decode cX2_readDue 1 = .ok (.istore 4, 2) := by decide +kernel
theorem dX2_readDue_3 : decode cX2_readDue 3 = .ok (.iload 4, 2) := by decide +kernel
theorem dX2_readDue_5 : decode cX2_readDue 5 = .ok (.aload_n 0, 1) := by decide +kernel
theorem dX2_readDue_6 : decode cX2_readDue 6 = .ok (.getfield 9, 3) := by decide +kernel
theorem dX2_readDue_9 : decode cX2_readDue 9 = .ok (.invokevirtual 46, 3) := by decide +kernel
theorem dX2_readDue_12 : decode cX2_readDue 12 = .ok (.if_icmp .ge 37, 3) := by decide +kernel
theorem dX2_readDue_15 : decode cX2_readDue 15 = .ok (.aload_n 0, 1) := by decide +kernel
theorem dX2_readDue_16 : decode cX2_readDue 16 = .ok (.getfield 19, 3) := by decide +kernel
theorem dX2_readDue_19 : decode cX2_readDue 19 = .ok (.iload 4, 2) := by decide +kernel
theorem dX2_readDue_21 : decode cX2_readDue 21 = .ok (.aload_n 0, 1) := by decide +kernel
theorem dX2_readDue_22 : decode cX2_readDue 22 = .ok (.getfield 15, 3) := by decide +kernel
theorem dX2_readDue_25 : decode cX2_readDue 25 = .ok (.iload_n 1, 1) := by decide +kernel
theorem dX2_readDue_26 : decode cX2_readDue 26 = .ok (.aload_n 0, 1) := by decide +kernel
theorem dX2_readDue_27 : decode cX2_readDue 27 = .ok (.getfield 9, 3) := by decide +kernel
theorem dX2_readDue_30 : decode cX2_readDue 30 = .ok (.iload_n 3, 1) := by decide +kernel
theorem dX2_readDue_31 : decode cX2_readDue 31 = .ok (.iload 4, 2) := by decide +kernel
theorem dX2_readDue_33 : decode cX2_readDue 33 = .ok (.invokevirtual 68, 3) := by decide +kernel
theorem dX2_readDue_36 : decode cX2_readDue 36 = .ok (.iload_n 2, 1) := by decide +kernel
theorem dX2_readDue_37 : decode cX2_readDue 37 = .ok (.invokevirtual 72, 3) := by decide +kernel
theorem dX2_readDue_40 : decode cX2_readDue 40 = .ok (.invokestatic 78, 3) := by decide +kernel
theorem dX2_readDue_43 : decode cX2_readDue 43 = .ok (.iinc 4 1, 3) := by decide +kernel
theorem dX2_readDue_46 : decode cX2_readDue 46 = .ok (.goto (-43), 3) := by decide +kernel
theorem dX2_readDue_49 : decode cX2_readDue 49 = .ok (.return_, 1) := by decide +kernel
theorem dX2_cutParts_0 : decode cX2_cutParts 0 = .ok (.aload_n 0, 1) := by decide +kernel
theorem dX2_cutParts_1 : decode cX2_cutParts 1 = .ok (.iload_n 2, 1) := by decide +kernel
theorem dX2_cutParts_2 : decode cX2_cutParts 2 = .ok (.putfield 61, 3) := by decide +kernel
theorem dX2_cutParts_5 : decode cX2_cutParts 5 = .ok (.aload_n 0, 1) := by decide +kernel
theorem dX2_cutParts_6 : decode cX2_cutParts 6 = .ok (.iconst 0, 1) := by decide +kernel
theorem dX2_cutParts_7 : decode cX2_cutParts 7 = .ok (.putfield 32, 3) := by decide +kernel
theorem dX2_cutParts_10 : decode cX2_cutParts 10 = .ok (.iconst 0, 1) := by decide +kernel
theorem dX2_cutParts_11 : decode cX2_cutParts 11 = .ok (.istore_n 3, 1) := by decide +kernel
theorem dX2_cutParts_12 : decode cX2_cutParts 12 = .ok (.aload_n 0, 1) := by decide +kernel
theorem dX2_cutParts_13 : decode cX2_cutParts 13 = .ok (.iload_n 1, 1) := by decide +kernel
theorem dX2_cutParts_14 : decode cX2_cutParts 14 = .ok (.invokevirtual 82, 3) := by decide +kernel
theorem dX2_cutParts_17 : decode cX2_cutParts 17 = .ok (.iconst 1, 1) := by decide +kernel
theorem dX2_cutParts_18 : decode cX2_cutParts 18 = .ok (.istore 4, 2) := by decide +kernel
theorem dX2_cutParts_20 : decode cX2_cutParts 20 = .ok (.iload 4, 2) := by decide +kernel
theorem dX2_cutParts_22 : decode cX2_cutParts 22 = .ok (.aload_n 0, 1) := by decide +kernel
theorem dX2_cutParts_23 : decode cX2_cutParts 23 = .ok (.getfield 9, 3) := by decide +kernel
theorem dX2_cutParts_26 : decode cX2_cutParts 26 = .ok (.invokevirtual 46, 3) := by decide +kernel
theorem dX2_cutParts_29 : decode cX2_cutParts 29 = .ok (.if_icmp .ge 36, 3) := by decide +kernel
theorem dX2_cutParts_32 : decode cX2_cutParts 32 = .ok (.aload_n 0, 1) := by decide +kernel
theorem dX2_cutParts_33 : decode cX2_cutParts 33 = .ok (.iload_n 3, 1) := by decide +kernel
theorem dX2_cutParts_34 : decode cX2_cutParts 34 = .ok (.iload 4, 2) := by decide +kernel
theorem dX2_cutParts_36 : decode cX2_cutParts 36 = .ok (.invokevirtual 86, 3) := by decide +kernel
theorem dX2_cutParts_39 : decode cX2_cutParts 39 = .ok (.ifCond .ne 20, 3) := by decide +kernel
theorem dX2_cutParts_42 : decode cX2_cutParts 42 = .ok (.aload_n 0, 1) := by decide +kernel
theorem dX2_cutParts_43 : decode cX2_cutParts 43 = .ok (.iload_n 3, 1) := by decide +kernel
theorem dX2_cutParts_44 : decode cX2_cutParts 44 = .ok (.iload 4, 2) := by decide +kernel
theorem dX2_cutParts_46 : decode cX2_cutParts 46 = .ok (.iconst 1, 1) := by decide +kernel
theorem dX2_cutParts_47 : decode cX2_cutParts 47 = .ok (.isub, 1) := by decide +kernel
theorem dX2_cutParts_48 : decode cX2_cutParts 48 = .ok (.invokevirtual 90, 3) := by decide +kernel
theorem dX2_cutParts_51 : decode cX2_cutParts 51 = .ok (.iload 4, 2) := by decide +kernel
theorem dX2_cutParts_53 : decode cX2_cutParts 53 = .ok (.istore_n 3, 1) := by decide +kernel
theorem dX2_cutParts_54 : decode cX2_cutParts 54 = .ok (.aload_n 0, 1) := by decide +kernel
theorem dX2_cutParts_55 : decode cX2_cutParts 55 = .ok (.iload_n 1, 1) := by decide +kernel
theorem dX2_cutParts_56 : decode cX2_cutParts 56 = .ok (.invokevirtual 82, 3) := by decide +kernel
theorem dX2_cutParts_59 : decode cX2_cutParts 59 = .ok (.iinc 4 1, 3) := by decide +kernel
theorem dX2_cutParts_62 : decode cX2_cutParts 62 = .ok (.goto (-42), 3) := by decide +kernel
theorem dX2_cutParts_65 : decode cX2_cutParts 65 = .ok (.aload_n 0, 1) := by decide +kernel
theorem dX2_cutParts_66 : decode cX2_cutParts 66 = .ok (.iload_n 3, 1) := by decide +kernel
theorem dX2_cutParts_67 : decode cX2_cutParts 67 = .ok (.aload_n 0, 1) := by decide +kernel
theorem dX2_cutParts_68 : decode cX2_cutParts 68 = .ok (.getfield 9, 3) := by decide +kernel
theorem dX2_cutParts_71 : decode cX2_cutParts 71 = .ok (.invokevirtual 46, 3) := by decide +kernel
theorem dX2_cutParts_74 : decode cX2_cutParts 74 = .ok (.iconst 1, 1) := by decide +kernel
theorem dX2_cutParts_75 : decode cX2_cutParts 75 = .ok (.isub, 1) := by decide +kernel
theorem dX2_cutParts_76 : decode cX2_cutParts 76 = .ok (.invokevirtual 90, 3) := by decide +kernel
theorem dX2_cutParts_79 : decode cX2_cutParts 79 = .ok (.return_, 1) := by decide +kernel
theorem dX2_widen_0 : decode cX2_widen 0 = .ok (.aload_n 0, 1) := by decide +kernel
theorem dX2_widen_1 : decode cX2_widen 1 = .ok (.iload_n 1, 1) := by decide +kernel
theorem dX2_widen_2 : decode cX2_widen 2 = .ok (.ifCond .ne 7, 3) := by decide +kernel
theorem dX2_widen_5 : decode cX2_widen 5 = .ok (.lconst 0, 1) := by decide +kernel
theorem dX2_widen_6 : decode cX2_widen 6 = .ok (.goto 6, 3) := by decide +kernel
theorem dX2_widen_9 : decode cX2_widen 9 = .ok (.ldc2_w 94, 3) := by decide +kernel
theorem dX2_widen_12 : decode cX2_widen 12 = .ok (.putfield 96, 3) := by decide +kernel
theorem dX2_widen_15 : decode cX2_widen 15 = .ok (.aload_n 0, 1) := by decide +kernel
theorem dX2_widen_16 : decode cX2_widen 16 = .ok (.iload_n 1, 1) := by decide +kernel
theorem dX2_widen_17 : decode cX2_widen 17 = .ok (.ifCond .ne 7, 3) := by decide +kernel
theorem dX2_widen_20 : decode cX2_widen 20 = .ok (.lconst 0, 1) := by decide +kernel
theorem dX2_widen_21 : decode cX2_widen 21 = .ok (.goto 6, 3) := by decide +kernel
theorem dX2_widen_24 : decode cX2_widen 24 = .ok (.ldc2_w 100, 3) := by decide +kernel
theorem dX2_widen_27 : decode cX2_widen 27 = .ok (.putfield 102, 3) := by decide +kernel
theorem dX2_widen_30 : decode cX2_widen 30 = .ok (.return_, 1) := by decide +kernel
theorem dX2_narrow_0 : decode cX2_narrow 0 = .ok (.lconst 1, 1) := by decide +kernel
theorem dX2_narrow_1 : decode cX2_narrow 1 = .ok (.aload_n 0, 1) := by decide +kernel
theorem dX2_narrow_2 : decode cX2_narrow 2 = .ok (.getfield 61, 3) := by decide +kernel
theorem dX2_narrow_5 : decode cX2_narrow 5 = .ok (.lshl, 1) := by decide +kernel
theorem dX2_narrow_6 : decode cX2_narrow 6 = .ok (.lstore_n 3, 1) := by decide +kernel
theorem dX2_narrow_7 : decode cX2_narrow 7 = .ok (.aload_n 0, 1) := by decide +kernel
theorem dX2_narrow_8 : decode cX2_narrow 8 = .ok (.getfield 96, 3) := by decide +kernel
theorem dX2_narrow_11 : decode cX2_narrow 11 = .ok (.lstore 5, 2) := by decide +kernel
theorem dX2_narrow_13 : decode cX2_narrow 13 = .ok (.aload_n 0, 1) := by decide +kernel
theorem dX2_narrow_14 : decode cX2_narrow 14 = .ok (.getfield 102, 3) := by decide +kernel
theorem dX2_narrow_17 : decode cX2_narrow 17 = .ok (.lstore 7, 2) := by decide +kernel
theorem dX2_narrow_19 : decode cX2_narrow 19 = .ok (.iload_n 1, 1) := by decide +kernel
theorem dX2_narrow_20 : decode cX2_narrow 20 = .ok (.istore 9, 2) := by decide +kernel
theorem dX2_narrow_22 : decode cX2_narrow 22 = .ok (.iload 9, 2) := by decide +kernel
theorem dX2_narrow_24 : decode cX2_narrow 24 = .ok (.iload_n 2, 1) := by decide +kernel
theorem dX2_narrow_25 : decode cX2_narrow 25 = .ok (.if_icmp .ge 75, 3) := by decide +kernel
theorem dX2_narrow_28 : decode cX2_narrow 28 = .ok (.aload_n 0, 1) := by decide +kernel
theorem dX2_narrow_29 : decode cX2_narrow 29 = .ok (.getfield 19, 3) := by decide +kernel
theorem dX2_narrow_32 : decode cX2_narrow 32 = .ok (.iload_n 2, 1) := by decide +kernel
theorem dX2_narrow_33 : decode cX2_narrow 33 = .ok (.invokestatic 36, 3) := by decide +kernel
theorem dX2_narrow_36 : decode cX2_narrow 36 = .ok (.aload_n 0, 1) := by decide +kernel
theorem dX2_narrow_37 : decode cX2_narrow 37 = .ok (.getfield 19, 3) := by decide +kernel
theorem dX2_narrow_40 : decode cX2_narrow 40 = .ok (.iload 9, 2) := by decide +kernel
theorem dX2_narrow_42 : decode cX2_narrow 42 = .ok (.invokestatic 36, 3) := by decide +kernel
theorem dX2_narrow_45 : decode cX2_narrow 45 = .ok (.isub, 1) := by decide +kernel
theorem dX2_narrow_46 : decode cX2_narrow 46 = .ok (.i2l, 1) := by decide +kernel
theorem dX2_narrow_47 : decode cX2_narrow 47 = .ok (.lload_n 3, 1) := by decide +kernel
theorem dX2_narrow_48 : decode cX2_narrow 48 = .ok (.lmul, 1) := by decide +kernel
theorem dX2_narrow_49 : decode cX2_narrow 49 = .ok (.lstore 10, 2) := by decide +kernel
theorem dX2_narrow_51 : decode cX2_narrow 51 = .ok (.lload 5, 2) := by decide +kernel
theorem dX2_narrow_53 : decode cX2_narrow 53 = .ok (.lload_n 3, 1) := by decide +kernel
theorem dX2_narrow_54 : decode cX2_narrow 54 = .ok (.lconst 1, 1) := by decide +kernel
theorem dX2_narrow_55 : decode cX2_narrow 55 = .ok (.lsub, 1) := by decide +kernel
theorem dX2_narrow_56 : decode cX2_narrow 56 = .ok (.lload 10, 2) := by decide +kernel
theorem dX2_narrow_58 : decode cX2_narrow 58 = .ok (.lsub, 1) := by decide +kernel
theorem dX2_narrow_59 : decode cX2_narrow 59 = .ok (.iload_n 2, 1) := by decide +kernel
theorem dX2_narrow_60 : decode cX2_narrow 60 = .ok (.iload 9, 2) := by decide +kernel
theorem dX2_narrow_62 : decode cX2_narrow 62 = .ok (.isub, 1) := by decide +kernel
theorem dX2_narrow_63 : decode cX2_narrow 63 = .ok (.i2l, 1) := by decide +kernel
theorem dX2_narrow_64 : decode cX2_narrow 64 = .ok (.invokestatic 105, 3) := by decide +kernel
theorem dX2_narrow_67 : decode cX2_narrow 67 = .ok (.lneg, 1) := by decide +kernel
theorem dX2_narrow_68 : decode cX2_narrow 68 = .ok (.invokestatic 109, 3) := by decide +kernel
theorem dX2_narrow_71 : decode cX2_narrow 71 = .ok (.lstore 5, 2) := by decide +kernel
theorem dX2_narrow_73 : decode cX2_narrow 73 = .ok (.lload 7, 2) := by decide +kernel
theorem dX2_narrow_75 : decode cX2_narrow 75 = .ok (.lload_n 3, 1) := by decide +kernel
theorem dX2_narrow_76 : decode cX2_narrow 76 = .ok (.lconst 1, 1) := by decide +kernel
theorem dX2_narrow_77 : decode cX2_narrow 77 = .ok (.lsub, 1) := by decide +kernel
theorem dX2_narrow_78 : decode cX2_narrow 78 = .ok (.lload 10, 2) := by decide +kernel
theorem dX2_narrow_80 : decode cX2_narrow 80 = .ok (.ladd, 1) := by decide +kernel
theorem dX2_narrow_81 : decode cX2_narrow 81 = .ok (.iload_n 2, 1) := by decide +kernel
theorem dX2_narrow_82 : decode cX2_narrow 82 = .ok (.iload 9, 2) := by decide +kernel
theorem dX2_narrow_84 : decode cX2_narrow 84 = .ok (.isub, 1) := by decide +kernel
theorem dX2_narrow_85 : decode cX2_narrow 85 = .ok (.i2l, 1) := by decide +kernel
theorem dX2_narrow_86 : decode cX2_narrow 86 = .ok (.invokestatic 105, 3) := by decide +kernel
theorem dX2_narrow_89 : decode cX2_narrow 89 = .ok (.invokestatic 114, 3) := by decide +kernel
theorem dX2_narrow_92 : decode cX2_narrow 92 = .ok (.lstore 7, 2) := by decide +kernel
theorem dX2_narrow_94 : decode cX2_narrow 94 = .ok (.iinc 9 1, 3) := by decide +kernel
theorem dX2_narrow_97 : decode cX2_narrow 97 = .ok (.goto (-75), 3) := by decide +kernel
theorem dX2_narrow_100 : decode cX2_narrow 100 = .ok (.lload 5, 2) := by decide +kernel
theorem dX2_narrow_102 : decode cX2_narrow 102 = .ok (.lload 7, 2) := by decide +kernel
theorem dX2_narrow_104 : decode cX2_narrow 104 = .ok (.lcmp, 1) := by decide +kernel
theorem dX2_narrow_105 : decode cX2_narrow 105 = .ok (.ifCond .le 5, 3) := by decide +kernel
theorem dX2_narrow_108 : decode cX2_narrow 108 = .ok (.iconst 0, 1) := by decide +kernel
theorem dX2_narrow_109 : decode cX2_narrow 109 = .ok (.ireturn, 1) := by decide +kernel
theorem dX2_narrow_110 : decode cX2_narrow 110 = .ok (.aload_n 0, 1) := by decide +kernel
theorem dX2_narrow_111 : decode cX2_narrow 111 = .ok (.lload 5, 2) := by decide +kernel
theorem dX2_narrow_113 : decode cX2_narrow 113 = .ok (.putfield 96, 3) := by decide +kernel
theorem dX2_narrow_116 : decode cX2_narrow 116 = .ok (.aload_n 0, 1) := by decide +kernel
theorem dX2_narrow_117 : decode cX2_narrow 117 = .ok (.lload 7, 2) := by decide +kernel
theorem dX2_narrow_119 : decode cX2_narrow 119 = .ok (.putfield 102, 3) := by decide +kernel
theorem dX2_narrow_122 : decode cX2_narrow 122 = .ok (.iconst 1, 1) := by decide +kernel
theorem dX2_narrow_123 : decode cX2_narrow 123 = .ok (.ireturn, 1) := by decide +kernel
theorem dX2_floorBy_0 : decode cX2_floorBy 0 = .ok (.lload_n 2, 1) := by decide +kernel
theorem dX2_floorBy_1 : decode cX2_floorBy 1 = .ok (.lconst 0, 1) := by decide +kernel
theorem dX2_floorBy_2 : decode cX2_floorBy 2 = .ok (.lcmp, 1) := by decide +kernel
theorem dX2_floorBy_3 : decode cX2_floorBy 3 = .ok (.ifCond .le 11, 3) := by decide +kernel
theorem dX2_floorBy_6 : decode cX2_floorBy 6 = .ok (.lload_n 0, 1) := by decide +kernel
theorem dX2_floorBy_7 : decode cX2_floorBy 7 = .ok (.lload_n 2, 1) := by decide +kernel
theorem dX2_floorBy_8 : decode cX2_floorBy 8 = .ok (.invokestatic 117, 3) := by decide +kernel
theorem dX2_floorBy_11 : decode cX2_floorBy 11 = .ok (.goto 4, 3) := by decide +kernel
theorem dX2_floorBy_14 : decode cX2_floorBy 14 = .ok (.lconst 0, 1) := by decide +kernel
theorem dX2_floorBy_15 : decode cX2_floorBy 15 = .ok (.lreturn, 1) := by decide +kernel
theorem dX2_closePart_0 : decode cX2_closePart 0 = .ok (.aload_n 0, 1) := by decide +kernel
theorem dX2_closePart_1 : decode cX2_closePart 1 = .ok (.getfield 96, 3) := by decide +kernel
theorem dX2_closePart_4 : decode cX2_closePart 4 = .ok (.aload_n 0, 1) := by decide +kernel
theorem dX2_closePart_5 : decode cX2_closePart 5 = .ok (.getfield 102, 3) := by decide +kernel
theorem dX2_closePart_8 : decode cX2_closePart 8 = .ok (.lconst 0, 1) := by decide +kernel
theorem dX2_closePart_9 : decode cX2_closePart 9 = .ok (.invokestatic 114, 3) := by decide +kernel
theorem dX2_closePart_12 : decode cX2_closePart 12 = .ok (.invokestatic 109, 3) := by decide +kernel
theorem dX2_closePart_15 : decode cX2_closePart 15 = .ok (.lstore_n 3, 1) := by decide +kernel
theorem dX2_closePart_16 : decode cX2_closePart 16 = .ok (.aload_n 0, 1) := by decide +kernel
theorem dX2_closePart_17 : decode cX2_closePart 17 = .ok (.iload_n 1, 1) := by decide +kernel
theorem dX2_closePart_18 : decode cX2_closePart 18 = .ok (.lload_n 3, 1) := by decide +kernel
theorem dX2_closePart_19 : decode cX2_closePart 19 = .ok (.invokevirtual 120, 3) := by decide +kernel
theorem dX2_closePart_22 : decode cX2_closePart 22 = .ok (.lstore 5, 2) := by decide +kernel
theorem dX2_closePart_24 : decode cX2_closePart 24 = .ok (.iload_n 1, 1) := by decide +kernel
theorem dX2_closePart_25 : decode cX2_closePart 25 = .ok (.iconst 1, 1) := by decide +kernel
theorem dX2_closePart_26 : decode cX2_closePart 26 = .ok (.iadd, 1) := by decide +kernel
theorem dX2_closePart_27 : decode cX2_closePart 27 = .ok (.istore 7, 2) := by decide +kernel
theorem dX2_closePart_29 : decode cX2_closePart 29 = .ok (.iload 7, 2) := by decide +kernel
theorem dX2_closePart_31 : decode cX2_closePart 31 = .ok (.iload_n 2, 1) := by decide +kernel
theorem dX2_closePart_32 : decode cX2_closePart 32 = .ok (.if_icmp .gt 23, 3) := by decide +kernel
theorem dX2_closePart_35 : decode cX2_closePart 35 = .ok (.lload 5, 2) := by decide +kernel
theorem dX2_closePart_37 : decode cX2_closePart 37 = .ok (.aload_n 0, 1) := by decide +kernel
theorem dX2_closePart_38 : decode cX2_closePart 38 = .ok (.iload 7, 2) := by decide +kernel
theorem dX2_closePart_40 : decode cX2_closePart 40 = .ok (.lload_n 3, 1) := by decide +kernel
theorem dX2_closePart_41 : decode cX2_closePart 41 = .ok (.invokevirtual 120, 3) := by decide +kernel
theorem dX2_closePart_44 : decode cX2_closePart 44 = .ok (.invokestatic 109, 3) := by decide +kernel
theorem dX2_closePart_47 : decode cX2_closePart 47 = .ok (.lstore 5, 2) := by decide +kernel
theorem dX2_closePart_49 : decode cX2_closePart 49 = .ok (.iinc 7 1, 3) := by decide +kernel
theorem dX2_closePart_52 : decode cX2_closePart 52 = .ok (.goto (-23), 3) := by decide +kernel
theorem dX2_closePart_55 : decode cX2_closePart 55 = .ok (.aload_n 0, 1) := by decide +kernel
theorem dX2_closePart_56 : decode cX2_closePart 56 = .ok (.getfield 23, 3) := by decide +kernel
theorem dX2_closePart_59 : decode cX2_closePart 59 = .ok (.aload_n 0, 1) := by decide +kernel
theorem dX2_closePart_60 : decode cX2_closePart 60 = .ok (.getfield 32, 3) := by decide +kernel
theorem dX2_closePart_63 : decode cX2_closePart 63 = .ok (.iload_n 1, 1) := by decide +kernel
theorem dX2_closePart_64 : decode cX2_closePart 64 = .ok (.invokestatic 78, 3) := by decide +kernel
theorem dX2_closePart_67 : decode cX2_closePart 67 = .ok (.aload_n 0, 1) := by decide +kernel
theorem dX2_closePart_68 : decode cX2_closePart 68 = .ok (.getfield 26, 3) := by decide +kernel
theorem dX2_closePart_71 : decode cX2_closePart 71 = .ok (.aload_n 0, 1) := by decide +kernel
theorem dX2_closePart_72 : decode cX2_closePart 72 = .ok (.getfield 32, 3) := by decide +kernel
theorem dX2_closePart_75 : decode cX2_closePart 75 = .ok (.lload 5, 2) := by decide +kernel
theorem dX2_closePart_77 : decode cX2_closePart 77 = .ok (.l2i, 1) := by decide +kernel
theorem dX2_closePart_78 : decode cX2_closePart 78 = .ok (.invokestatic 78, 3) := by decide +kernel
theorem dX2_closePart_81 : decode cX2_closePart 81 = .ok (.aload_n 0, 1) := by decide +kernel
theorem dX2_closePart_82 : decode cX2_closePart 82 = .ok (.getfield 29, 3) := by decide +kernel
theorem dX2_closePart_85 : decode cX2_closePart 85 = .ok (.aload_n 0, 1) := by decide +kernel
theorem dX2_closePart_86 : decode cX2_closePart 86 = .ok (.getfield 32, 3) := by decide +kernel
theorem dX2_closePart_89 : decode cX2_closePart 89 = .ok (.lload_n 3, 1) := by decide +kernel
theorem dX2_closePart_90 : decode cX2_closePart 90 = .ok (.l2i, 1) := by decide +kernel
theorem dX2_closePart_91 : decode cX2_closePart 91 = .ok (.invokestatic 78, 3) := by decide +kernel
theorem dX2_closePart_94 : decode cX2_closePart 94 = .ok (.aload_n 0, 1) := by decide +kernel
theorem dX2_closePart_95 : decode cX2_closePart 95 = .ok (.dup, 1) := by decide +kernel
theorem dX2_closePart_96 : decode cX2_closePart 96 = .ok (.getfield 32, 3) := by decide +kernel
theorem dX2_closePart_99 : decode cX2_closePart 99 = .ok (.iconst 1, 1) := by decide +kernel
theorem dX2_closePart_100 : decode cX2_closePart 100 = .ok (.iadd, 1) := by decide +kernel
theorem dX2_closePart_101 : decode cX2_closePart 101 = .ok (.putfield 32, 3) := by decide +kernel
theorem dX2_closePart_104 : decode cX2_closePart 104 = .ok (.return_, 1) := by decide +kernel
theorem dX2_leastStart_0 : decode cX2_leastStart 0 = .ok (.aload_n 0, 1) := by decide +kernel
theorem dX2_leastStart_1 : decode cX2_leastStart 1 = .ok (.getfield 19, 3) := by decide +kernel
theorem dX2_leastStart_4 : decode cX2_leastStart 4 = .ok (.iload_n 1, 1) := by decide +kernel
theorem dX2_leastStart_5 : decode cX2_leastStart 5 = .ok (.invokestatic 36, 3) := by decide +kernel
theorem dX2_leastStart_8 : decode cX2_leastStart 8 = .ok (.i2l, 1) := by decide +kernel
theorem dX2_leastStart_9 : decode cX2_leastStart 9 = .ok (.aload_n 0, 1) := by decide +kernel
theorem dX2_leastStart_10 : decode cX2_leastStart 10 = .ok (.getfield 61, 3) := by decide +kernel
theorem dX2_leastStart_13 : decode cX2_leastStart 13 = .ok (.lshl, 1) := by decide +kernel
theorem dX2_leastStart_14 : decode cX2_leastStart 14 = .ok (.lload_n 2, 1) := by decide +kernel
theorem dX2_leastStart_15 : decode cX2_leastStart 15 = .ok (.iload_n 1, 1) := by decide +kernel
theorem dX2_leastStart_16 : decode cX2_leastStart 16 = .ok (.i2l, 1) := by decide +kernel
theorem dX2_leastStart_17 : decode cX2_leastStart 17 = .ok (.lmul, 1) := by decide +kernel
theorem dX2_leastStart_18 : decode cX2_leastStart 18 = .ok (.lsub, 1) := by decide +kernel
theorem dX2_leastStart_19 : decode cX2_leastStart 19 = .ok (.lreturn, 1) := by decide +kernel
theorem dX3_init_0 : decode cX3_init 0 = .ok (.aload_n 0, 1) := by decide +kernel
theorem dX3_init_1 : decode cX3_init 1 = .ok (.invokespecial 3, 3) := by decide +kernel
theorem dX3_init_4 : decode cX3_init 4 = .ok (.aload_n 0, 1) := by decide +kernel
theorem dX3_init_5 : decode cX3_init 5 = .ok (.aload_n 1, 1) := by decide +kernel
theorem dX3_init_6 : decode cX3_init 6 = .ok (.putfield 9, 3) := by decide +kernel
theorem dX3_init_9 : decode cX3_init 9 = .ok (.return_, 1) := by decide +kernel
theorem dX3_lay_0 : decode cX3_lay 0 = .ok (.bipush 63, 2) := by decide +kernel
theorem dX3_lay_2 : decode cX3_lay 2 = .ok (.lload_n 1, 1) := by decide +kernel
theorem dX3_lay_3 : decode cX3_lay 3 = .ok (.invokestatic 15, 3) := by decide +kernel
theorem dX3_lay_6 : decode cX3_lay 6 = .ok (.isub, 1) := by decide +kernel
theorem dX3_lay_7 : decode cX3_lay 7 = .ok (.iload_n 3, 1) := by decide +kernel
theorem dX3_lay_8 : decode cX3_lay 8 = .ok (.iadd, 1) := by decide +kernel
theorem dX3_lay_9 : decode cX3_lay 9 = .ok (.istore 5, 2) := by decide +kernel
theorem dX3_lay_11 : decode cX3_lay 11 = .ok (.iload 5, 2) := by decide +kernel
theorem dX3_lay_13 : decode cX3_lay 13 = .ok (.iconst 1, 1) := by decide +kernel
theorem dX3_lay_14 : decode cX3_lay 14 = .ok (.aload_n 0, 1) := by decide +kernel
theorem dX3_lay_15 : decode cX3_lay 15 = .ok (.getfield 9, 3) := by decide +kernel
theorem dX3_lay_18 : decode cX3_lay 18 = .ok (.getfield 21, 3) := by decide +kernel
theorem dX3_lay_21 : decode cX3_lay 21 = .ok (.isub, 1) := by decide +kernel
theorem dX3_lay_22 : decode cX3_lay 22 = .ok (.invokestatic 27, 3) := by decide +kernel
theorem dX3_lay_25 : decode cX3_lay 25 = .ok (.istore 6, 2) := by decide +kernel
theorem dX3_lay_27 : decode cX3_lay 27 = .ok (.iload 6, 2) := by decide +kernel
theorem dX3_lay_29 : decode cX3_lay 29 = .ok (.aload_n 0, 1) := by decide +kernel
theorem dX3_lay_30 : decode cX3_lay 30 = .ok (.getfield 9, 3) := by decide +kernel
theorem dX3_lay_33 : decode cX3_lay 33 = .ok (.getfield 33, 3) := by decide +kernel
theorem dX3_lay_36 : decode cX3_lay 36 = .ok (.isub, 1) := by decide +kernel
theorem dX3_lay_37 : decode cX3_lay 37 = .ok (.bipush 10, 2) := by decide +kernel
theorem dX3_lay_39 : decode cX3_lay 39 = .ok (.isub, 1) := by decide +kernel
theorem dX3_lay_40 : decode cX3_lay 40 = .ok (.iload_n 3, 1) := by decide +kernel
theorem dX3_lay_41 : decode cX3_lay 41 = .ok (.isub, 1) := by decide +kernel
theorem dX3_lay_42 : decode cX3_lay 42 = .ok (.istore 7, 2) := by decide +kernel
theorem dX3_lay_44 : decode cX3_lay 44 = .ok (.lload_n 1, 1) := by decide +kernel
theorem dX3_lay_45 : decode cX3_lay 45 = .ok (.iload 7, 2) := by decide +kernel
theorem dX3_lay_47 : decode cX3_lay 47 = .ok (.invokestatic 36, 3) := by decide +kernel
theorem dX3_lay_50 : decode cX3_lay 50 = .ok (.lstore 8, 2) := by decide +kernel
theorem dX3_lay_52 : decode cX3_lay 52 = .ok (.aload_n 0, 1) := by decide +kernel
theorem dX3_lay_53 : decode cX3_lay 53 = .ok (.iload 4, 2) := by decide +kernel
theorem dX3_lay_55 : decode cX3_lay 55 = .ok (.ifCond .ne 21, 3) := by decide +kernel
theorem dX3_lay_58 : decode cX3_lay 58 = .ok (.iload 7, 2) := by decide +kernel
theorem dX3_lay_60 : decode cX3_lay 60 = .ok (.ifCond .le 20, 3) := by decide +kernel
theorem dX3_lay_63 : decode cX3_lay 63 = .ok (.lload 8, 2) := by decide +kernel
theorem dX3_lay_65 : decode cX3_lay 65 = .ok (.iload 7, 2) := by decide +kernel
theorem dX3_lay_67 : decode cX3_lay 67 = .ok (.ineg, 1) := by decide +kernel
theorem dX3_lay_68 : decode cX3_lay 68 = .ok (.invokestatic 36, 3) := by decide +kernel
theorem dX3_lay_71 : decode cX3_lay 71 = .ok (.lload_n 1, 1) := by decide +kernel
theorem dX3_lay_72 : decode cX3_lay 72 = .ok (.lcmp, 1) := by decide +kernel
theorem dX3_lay_73 : decode cX3_lay 73 = .ok (.ifCond .eq 7, 3) := by decide +kernel
theorem dX3_lay_76 : decode cX3_lay 76 = .ok (.iconst 1, 1) := by decide +kernel
theorem dX3_lay_77 : decode cX3_lay 77 = .ok (.goto 4, 3) := by decide +kernel
theorem dX3_lay_80 : decode cX3_lay 80 = .ok (.iconst 0, 1) := by decide +kernel
theorem dX3_lay_81 : decode cX3_lay 81 = .ok (.putfield 40, 3) := by decide +kernel
theorem dX3_lay_84 : decode cX3_lay 84 = .ok (.iload 6, 2) := by decide +kernel
theorem dX3_lay_86 : decode cX3_lay 86 = .ok (.aload_n 0, 1) := by decide +kernel
theorem dX3_lay_87 : decode cX3_lay 87 = .ok (.getfield 9, 3) := by decide +kernel
theorem dX3_lay_90 : decode cX3_lay 90 = .ok (.getfield 21, 3) := by decide +kernel
theorem dX3_lay_93 : decode cX3_lay 93 = .ok (.iadd, 1) := by decide +kernel
theorem dX3_lay_94 : decode cX3_lay 94 = .ok (.iconst 1, 1) := by decide +kernel
theorem dX3_lay_95 : decode cX3_lay 95 = .ok (.isub, 1) := by decide +kernel
theorem dX3_lay_96 : decode cX3_lay 96 = .ok (.aload_n 0, 1) := by decide +kernel
theorem dX3_lay_97 : decode cX3_lay 97 = .ok (.getfield 9, 3) := by decide +kernel
theorem dX3_lay_100 : decode cX3_lay 100 = .ok (.getfield 33, 3) := by decide +kernel
theorem dX3_lay_103 : decode cX3_lay 103 = .ok (.ishl, 1) := by decide +kernel
theorem dX3_lay_104 : decode cX3_lay 104 = .ok (.lload 8, 2) := by decide +kernel
theorem dX3_lay_106 : decode cX3_lay 106 = .ok (.bipush 10, 2) := by decide +kernel
theorem dX3_lay_108 : decode cX3_lay 108 = .ok (.lshr, 1) := by decide +kernel
theorem dX3_lay_109 : decode cX3_lay 109 = .ok (.l2i, 1) := by decide +kernel
theorem dX3_lay_110 : decode cX3_lay 110 = .ok (.iadd, 1) := by decide +kernel
theorem dX3_lay_111 : decode cX3_lay 111 = .ok (.istore 10, 2) := by decide +kernel
theorem dX3_lay_113 : decode cX3_lay 113 = .ok (.aload_n 0, 1) := by decide +kernel
theorem dX3_lay_114 : decode cX3_lay 114 = .ok (.lload 8, 2) := by decide +kernel
theorem dX3_lay_116 : decode cX3_lay 116 = .ok (.l2i, 1) := by decide +kernel
theorem dX3_lay_117 : decode cX3_lay 117 = .ok (.sipush 1023, 3) := by decide +kernel
theorem dX3_lay_120 : decode cX3_lay 120 = .ok (.iand, 1) := by decide +kernel
theorem dX3_lay_121 : decode cX3_lay 121 = .ok (.putfield 44, 3) := by decide +kernel
theorem dX3_lay_124 : decode cX3_lay 124 = .ok (.aload_n 0, 1) := by decide +kernel
theorem dX3_lay_125 : decode cX3_lay 125 = .ok (.iload 10, 2) := by decide +kernel
theorem dX3_lay_127 : decode cX3_lay 127 = .ok (.aload_n 0, 1) := by decide +kernel
theorem dX3_lay_128 : decode cX3_lay 128 = .ok (.getfield 9, 3) := by decide +kernel
theorem dX3_lay_131 : decode cX3_lay 131 = .ok (.invokevirtual 47, 3) := by decide +kernel
theorem dX3_lay_134 : decode cX3_lay 134 = .ok (.if_icmp .le 7, 3) := by decide +kernel
theorem dX3_lay_137 : decode cX3_lay 137 = .ok (.iconst 1, 1) := by decide +kernel
theorem dX3_lay_138 : decode cX3_lay 138 = .ok (.goto 4, 3) := by decide +kernel
theorem dX3_lay_141 : decode cX3_lay 141 = .ok (.iconst 0, 1) := by decide +kernel
theorem dX3_lay_142 : decode cX3_lay 142 = .ok (.putfield 51, 3) := by decide +kernel
theorem dX3_lay_145 : decode cX3_lay 145 = .ok (.aload_n 0, 1) := by decide +kernel
theorem dX3_lay_146 : decode cX3_lay 146 = .ok (.aload_n 0, 1) := by decide +kernel
theorem dX3_lay_147 : decode cX3_lay 147 = .ok (.getfield 51, 3) := by decide +kernel
theorem dX3_lay_150 : decode cX3_lay 150 = .ok (.ifCond .eq 13, 3) := by decide +kernel
theorem dX3_lay_153 : decode cX3_lay 153 = .ok (.aload_n 0, 1) := by decide +kernel
theorem dX3_lay_154 : decode cX3_lay 154 = .ok (.getfield 9, 3) := by decide +kernel
theorem dX3_lay_157 : decode cX3_lay 157 = .ok (.invokevirtual 47, 3) := by decide +kernel
theorem dX3_lay_160 : decode cX3_lay 160 = .ok (.goto 5, 3) := by decide +kernel
theorem dX3_lay_163 : decode cX3_lay 163 = .ok (.iload 10, 2) := by decide +kernel
theorem dX3_lay_165 : decode cX3_lay 165 = .ok (.putfield 54, 3) := by decide +kernel
theorem dX3_lay_168 : decode cX3_lay 168 = .ok (.return_, 1) := by decide +kernel
theorem dX3_sortLaid_0 : decode cX3_sortLaid 0 = .ok (.aload_n 0, 1) := by decide +kernel
theorem dX3_sortLaid_1 : decode cX3_sortLaid 1 = .ok (.getfield 51, 3) := by decide +kernel
theorem dX3_sortLaid_4 : decode cX3_sortLaid 4 = .ok (.ifCond .ne 10, 3) := by decide +kernel
theorem dX3_sortLaid_7 : decode cX3_sortLaid 7 = .ok (.aload_n 0, 1) := by decide +kernel
theorem dX3_sortLaid_8 : decode cX3_sortLaid 8 = .ok (.getfield 40, 3) := by decide +kernel
theorem dX3_sortLaid_11 : decode cX3_sortLaid 11 = .ok (.ifCond .eq 5, 3) := by decide +kernel
theorem dX3_sortLaid_14 : decode cX3_sortLaid 14 = .ok (.iconst 3, 1) := by decide +kernel
theorem dX3_sortLaid_15 : decode cX3_sortLaid 15 = .ok (.ireturn, 1) := by decide +kernel
theorem dX3_sortLaid_16 : decode cX3_sortLaid 16 = .ok (.aload_n 0, 1) := by decide +kernel
theorem dX3_sortLaid_17 : decode cX3_sortLaid 17 = .ok (.getfield 44, 3) := by decide +kernel
theorem dX3_sortLaid_20 : decode cX3_sortLaid 20 = .ok (.ifCond .ne 5, 3) := by decide +kernel
theorem dX3_sortLaid_23 : decode cX3_sortLaid 23 = .ok (.iconst 1, 1) := by decide +kernel
theorem dX3_sortLaid_24 : decode cX3_sortLaid 24 = .ok (.ireturn, 1) := by decide +kernel
theorem dX3_sortLaid_25 : decode cX3_sortLaid 25 = .ok (.aload_n 0, 1) := by decide +kernel
theorem dX3_sortLaid_26 : decode cX3_sortLaid 26 = .ok (.getfield 44, 3) := by decide +kernel
theorem dX3_sortLaid_29 : decode cX3_sortLaid 29 = .ok (.sipush 512, 3) := by decide +kernel
theorem dX3_sortLaid_32 : decode cX3_sortLaid 32 = .ok (.if_icmp .ne 7, 3) := by decide +kernel
theorem dX3_sortLaid_35 : decode cX3_sortLaid 35 = .ok (.iconst 2, 1) := by decide +kernel
theorem dX3_sortLaid_36 : decode cX3_sortLaid 36 = .ok (.goto 4, 3) := by decide +kernel
theorem dX3_sortLaid_39 : decode cX3_sortLaid 39 = .ok (.iconst 3, 1) := by decide +kernel
theorem dX3_sortLaid_40 : decode cX3_sortLaid 40 = .ok (.ireturn, 1) := by decide +kernel
theorem dX3_figuresLaid_0 : decode cX3_figuresLaid 0 = .ok (.aload_n 0, 1) := by decide +kernel
theorem dX3_figuresLaid_1 : decode cX3_figuresLaid 1 = .ok (.invokevirtual 57, 3) := by decide +kernel
theorem dX3_figuresLaid_4 : decode cX3_figuresLaid 4 = .ok (.iconst 1, 1) := by decide +kernel
theorem dX3_figuresLaid_5 : decode cX3_figuresLaid 5 = .ok (.if_icmp .eq 17, 3) := by decide +kernel
theorem dX3_figuresLaid_8 : decode cX3_figuresLaid 8 = .ok (.aload_n 0, 1) := by decide +kernel
theorem dX3_figuresLaid_9 : decode cX3_figuresLaid 9 = .ok (.getfield 54, 3) := by decide +kernel
theorem dX3_figuresLaid_12 : decode cX3_figuresLaid 12 = .ok (.aload_n 0, 1) := by decide +kernel
theorem dX3_figuresLaid_13 : decode cX3_figuresLaid 13 = .ok (.getfield 9, 3) := by decide +kernel
theorem dX3_figuresLaid_16 : decode cX3_figuresLaid 16 = .ok (.invokevirtual 47, 3) := by decide +kernel
theorem dX3_figuresLaid_19 : decode cX3_figuresLaid 19 = .ok (.if_icmp .ne 7, 3) := by decide +kernel
theorem dX3_figuresLaid_22 : decode cX3_figuresLaid 22 = .ok (.iconst 1, 1) := by decide +kernel
theorem dX3_figuresLaid_23 : decode cX3_figuresLaid 23 = .ok (.goto 4, 3) := by decide +kernel
theorem dX3_figuresLaid_26 : decode cX3_figuresLaid 26 = .ok (.iconst 0, 1) := by decide +kernel
theorem dX3_figuresLaid_27 : decode cX3_figuresLaid 27 = .ok (.istore_n 1, 1) := by decide +kernel
theorem dX3_figuresLaid_28 : decode cX3_figuresLaid 28 = .ok (.iload_n 1, 1) := by decide +kernel
theorem dX3_figuresLaid_29 : decode cX3_figuresLaid 29 = .ok (.ifCond .eq 8, 3) := by decide +kernel
theorem dX3_figuresLaid_32 : decode cX3_figuresLaid 32 = .ok (.bipush (-9), 2) := by decide +kernel
theorem dX3_figuresLaid_34 : decode cX3_figuresLaid 34 = .ok (.goto 7, 3) := by decide +kernel
theorem dX3_figuresLaid_37 : decode cX3_figuresLaid 37 = .ok (.aload_n 0, 1) := by decide +kernel
theorem dX3_figuresLaid_38 : decode cX3_figuresLaid 38 = .ok (.getfield 44, 3) := by decide +kernel
theorem dX3_figuresLaid_41 : decode cX3_figuresLaid 41 = .ok (.ireturn, 1) := by decide +kernel
theorem dX3_rounded_0 : decode cX3_rounded 0 = .ok (.iload_n 2, 1) := by decide +kernel
theorem dX3_rounded_1 : decode cX3_rounded 1 = .ok (.istore_n 3, 1) := by decide +kernel
theorem dX3_rounded_2 : decode cX3_rounded 2 = .ok (.iload_n 1, 1) := by decide +kernel
theorem dX3_rounded_3 : decode cX3_rounded 3 = .ok (.ifCond .eq 17, 3) := by decide +kernel
theorem dX3_rounded_6 : decode cX3_rounded 6 = .ok (.iload_n 2, 1) := by decide +kernel
theorem dX3_rounded_7 : decode cX3_rounded 7 = .ok (.iconst 2, 1) := by decide +kernel
theorem dX3_rounded_8 : decode cX3_rounded 8 = .ok (.if_icmp .eq 8, 3) := by decide +kernel
theorem dX3_rounded_11 : decode cX3_rounded 11 = .ok (.iload_n 2, 1) := by decide +kernel
theorem dX3_rounded_12 : decode cX3_rounded 12 = .ok (.iconst 3, 1) := by decide +kernel
theorem dX3_rounded_13 : decode cX3_rounded 13 = .ok (.if_icmp .ne 7, 3) := by decide +kernel
theorem dX3_rounded_16 : decode cX3_rounded 16 = .ok (.iconst 5, 1) := by decide +kernel
theorem dX3_rounded_17 : decode cX3_rounded 17 = .ok (.iload_n 2, 1) := by decide +kernel
theorem dX3_rounded_18 : decode cX3_rounded 18 = .ok (.isub, 1) := by decide +kernel
theorem dX3_rounded_19 : decode cX3_rounded 19 = .ok (.istore_n 3, 1) := by decide +kernel
theorem dX3_rounded_20 : decode cX3_rounded 20 = .ok (.aload_n 0, 1) := by decide +kernel
theorem dX3_rounded_21 : decode cX3_rounded 21 = .ok (.iload_n 3, 1) := by decide +kernel
theorem dX3_rounded_22 : decode cX3_rounded 22 = .ok (.invokevirtual 60, 3) := by decide +kernel
theorem dX3_rounded_25 : decode cX3_rounded 25 = .ok (.ifCond .eq 12, 3) := by decide +kernel
theorem dX3_rounded_28 : decode cX3_rounded 28 = .ok (.aload_n 0, 1) := by decide +kernel
theorem dX3_rounded_29 : decode cX3_rounded 29 = .ok (.getfield 54, 3) := by decide +kernel
theorem dX3_rounded_32 : decode cX3_rounded 32 = .ok (.iconst 1, 1) := by decide +kernel
theorem dX3_rounded_33 : decode cX3_rounded 33 = .ok (.iadd, 1) := by decide +kernel
theorem dX3_rounded_34 : decode cX3_rounded 34 = .ok (.goto 7, 3) := by decide +kernel
theorem dX3_rounded_37 : decode cX3_rounded 37 = .ok (.aload_n 0, 1) := by decide +kernel
theorem dX3_rounded_38 : decode cX3_rounded 38 = .ok (.getfield 54, 3) := by decide +kernel
theorem dX3_rounded_41 : decode cX3_rounded 41 = .ok (.istore 4, 2) := by decide +kernel
theorem dX3_rounded_43 : decode cX3_rounded 43 = .ok (.iload_n 1, 1) := by decide +kernel
theorem dX3_rounded_44 : decode cX3_rounded 44 = .ok (.ifCond .eq 16, 3) := by decide +kernel
theorem dX3_rounded_47 : decode cX3_rounded 47 = .ok (.iload 4, 2) := by decide +kernel
theorem dX3_rounded_49 : decode cX3_rounded 49 = .ok (.aload_n 0, 1) := by decide +kernel
theorem dX3_rounded_50 : decode cX3_rounded 50 = .ok (.getfield 9, 3) := by decide +kernel
theorem dX3_rounded_53 : decode cX3_rounded 53 = .ok (.getfield 64, 3) := by decide +kernel
theorem dX3_rounded_56 : decode cX3_rounded 56 = .ok (.iadd, 1) := by decide +kernel
theorem dX3_rounded_57 : decode cX3_rounded 57 = .ok (.goto 5, 3) := by decide +kernel
theorem dX3_rounded_60 : decode cX3_rounded 60 = .ok (.iload 4, 2) := by decide +kernel
theorem dX3_rounded_62 : decode cX3_rounded 62 = .ok (.ireturn, 1) := by decide +kernel
theorem dX3_takesUpper_0 : decode cX3_takesUpper 0 = .ok (.aload_n 0, 1) := by decide +kernel
theorem dX3_takesUpper_1 : decode cX3_takesUpper 1 = .ok (.invokevirtual 57, 3) := by decide +kernel
theorem dX3_takesUpper_4 : decode cX3_takesUpper 4 = .ok (.istore_n 2, 1) := by decide +kernel
theorem dX3_takesUpper_5 : decode cX3_takesUpper 5 = .ok (.iload_n 2, 1) := by decide +kernel
theorem dX3_takesUpper_6 : decode cX3_takesUpper 6 = .ok (.iconst 1, 1) := by decide +kernel
theorem dX3_takesUpper_7 : decode cX3_takesUpper 7 = .ok (.if_icmp .ne 5, 3) := by decide +kernel
theorem dX3_takesUpper_10 : decode cX3_takesUpper 10 = .ok (.iconst 0, 1) := by decide +kernel
theorem dX3_takesUpper_11 : decode cX3_takesUpper 11 = .ok (.ireturn, 1) := by decide +kernel
theorem dX3_takesUpper_12 : decode cX3_takesUpper 12 = .ok (.aload_n 0, 1) := by decide +kernel
theorem dX3_takesUpper_13 : decode cX3_takesUpper 13 = .ok (.getfield 54, 3) := by decide +kernel
theorem dX3_takesUpper_16 : decode cX3_takesUpper 16 = .ok (.iconst 1, 1) := by decide +kernel
theorem dX3_takesUpper_17 : decode cX3_takesUpper 17 = .ok (.iand, 1) := by decide +kernel
theorem dX3_takesUpper_18 : decode cX3_takesUpper 18 = .ok (.ifCond .ne 7, 3) := by decide +kernel
theorem dX3_takesUpper_21 : decode cX3_takesUpper 21 = .ok (.iconst 1, 1) := by decide +kernel
theorem dX3_takesUpper_22 : decode cX3_takesUpper 22 = .ok (.goto 4, 3) := by decide +kernel
theorem dX3_takesUpper_25 : decode cX3_takesUpper 25 = .ok (.iconst 0, 1) := by decide +kernel
theorem dX3_takesUpper_26 : decode cX3_takesUpper 26 = .ok (.istore_n 3, 1) := by decide +kernel
theorem dX3_takesUpper_27 : decode cX3_takesUpper 27 = .ok (.iload_n 1, 1) := by decide +kernel
theorem dX3_takesUpper_28 : decode cX3_takesUpper 28 = .ok (.tableswitch 80 0 4 #[36, 80, 76, 80, 78], 36) := by decide +kernel
theorem dX3_takesUpper_64 : decode cX3_takesUpper 64 = .ok (.iload_n 2, 1) := by decide +kernel
theorem dX3_takesUpper_65 : decode cX3_takesUpper 65 = .ok (.iconst 2, 1) := by decide +kernel
theorem dX3_takesUpper_66 : decode cX3_takesUpper 66 = .ok (.if_icmp .ne 15, 3) := by decide +kernel
theorem dX3_takesUpper_69 : decode cX3_takesUpper 69 = .ok (.iload_n 3, 1) := by decide +kernel
theorem dX3_takesUpper_70 : decode cX3_takesUpper 70 = .ok (.ifCond .ne 7, 3) := by decide +kernel
theorem dX3_takesUpper_73 : decode cX3_takesUpper 73 = .ok (.iconst 1, 1) := by decide +kernel
theorem dX3_takesUpper_74 : decode cX3_takesUpper 74 = .ok (.goto 29, 3) := by decide +kernel
theorem dX3_takesUpper_77 : decode cX3_takesUpper 77 = .ok (.iconst 0, 1) := by decide +kernel
theorem dX3_takesUpper_78 : decode cX3_takesUpper 78 = .ok (.goto 25, 3) := by decide +kernel
theorem dX3_takesUpper_81 : decode cX3_takesUpper 81 = .ok (.aload_n 0, 1) := by decide +kernel
theorem dX3_takesUpper_82 : decode cX3_takesUpper 82 = .ok (.getfield 51, 3) := by decide +kernel
theorem dX3_takesUpper_85 : decode cX3_takesUpper 85 = .ok (.ifCond .ne 13, 3) := by decide +kernel
theorem dX3_takesUpper_88 : decode cX3_takesUpper 88 = .ok (.aload_n 0, 1) := by decide +kernel
theorem dX3_takesUpper_89 : decode cX3_takesUpper 89 = .ok (.getfield 44, 3) := by decide +kernel
theorem dX3_takesUpper_92 : decode cX3_takesUpper 92 = .ok (.sipush 512, 3) := by decide +kernel
theorem dX3_takesUpper_95 : decode cX3_takesUpper 95 = .ok (.if_icmp .lt 7, 3) := by decide +kernel
theorem dX3_takesUpper_98 : decode cX3_takesUpper 98 = .ok (.iconst 1, 1) := by decide +kernel
theorem dX3_takesUpper_99 : decode cX3_takesUpper 99 = .ok (.goto 4, 3) := by decide +kernel
theorem dX3_takesUpper_102 : decode cX3_takesUpper 102 = .ok (.iconst 0, 1) := by decide +kernel
theorem dX3_takesUpper_103 : decode cX3_takesUpper 103 = .ok (.ireturn, 1) := by decide +kernel
theorem dX3_takesUpper_104 : decode cX3_takesUpper 104 = .ok (.iconst 1, 1) := by decide +kernel
theorem dX3_takesUpper_105 : decode cX3_takesUpper 105 = .ok (.ireturn, 1) := by decide +kernel
theorem dX3_takesUpper_106 : decode cX3_takesUpper 106 = .ok (.iload_n 3, 1) := by decide +kernel
theorem dX3_takesUpper_107 : decode cX3_takesUpper 107 = .ok (.ireturn, 1) := by decide +kernel
theorem dX3_takesUpper_108 : decode cX3_takesUpper 108 = .ok (.iconst 0, 1) := by decide +kernel
theorem dX3_takesUpper_109 : decode cX3_takesUpper 109 = .ok (.ireturn, 1) := by decide +kernel
theorem dX3_shifted_0 : decode cX3_shifted 0 = .ok (.iload_n 2, 1) := by decide +kernel
theorem dX3_shifted_1 : decode cX3_shifted 1 = .ok (.bipush 62, 2) := by decide +kernel
theorem dX3_shifted_3 : decode cX3_shifted 3 = .ok (.if_icmp .le 5, 3) := by decide +kernel
theorem dX3_shifted_6 : decode cX3_shifted 6 = .ok (.lconst 0, 1) := by decide +kernel
theorem dX3_shifted_7 : decode cX3_shifted 7 = .ok (.lreturn, 1) := by decide +kernel
theorem dX3_shifted_8 : decode cX3_shifted 8 = .ok (.iload_n 2, 1) := by decide +kernel
theorem dX3_shifted_9 : decode cX3_shifted 9 = .ok (.ifCond .lt 9, 3) := by decide +kernel
theorem dX3_shifted_12 : decode cX3_shifted 12 = .ok (.lload_n 0, 1) := by decide +kernel
theorem dX3_shifted_13 : decode cX3_shifted 13 = .ok (.iload_n 2, 1) := by decide +kernel
theorem dX3_shifted_14 : decode cX3_shifted 14 = .ok (.lshr, 1) := by decide +kernel
theorem dX3_shifted_15 : decode cX3_shifted 15 = .ok (.goto 7, 3) := by decide +kernel
theorem dX3_shifted_18 : decode cX3_shifted 18 = .ok (.lload_n 0, 1) := by decide +kernel
theorem dX3_shifted_19 : decode cX3_shifted 19 = .ok (.iload_n 2, 1) := by decide +kernel
theorem dX3_shifted_20 : decode cX3_shifted 20 = .ok (.ineg, 1) := by decide +kernel
theorem dX3_shifted_21 : decode cX3_shifted 21 = .ok (.lshl, 1) := by decide +kernel
theorem dX3_shifted_22 : decode cX3_shifted 22 = .ok (.lreturn, 1) := by decide +kernel
theorem dX4_at_0 : decode cX4_at 0 = .ok (.iload_n 1, 1) := by decide +kernel
theorem dX4_at_1 : decode cX4_at 1 = .ok (.ifCond .lt 15, 3) := by decide +kernel
theorem dX4_at_4 : decode cX4_at 4 = .ok (.iload_n 1, 1) := by decide +kernel
theorem dX4_at_5 : decode cX4_at 5 = .ok (.aload_n 0, 1) := by decide +kernel
theorem dX4_at_6 : decode cX4_at 6 = .ok (.arraylength, 1) := by decide +kernel
theorem dX4_at_7 : decode cX4_at 7 = .ok (.if_icmp .ge 9, 3) := by decide +kernel
theorem dX4_at_10 : decode cX4_at 10 = .ok (.aload_n 0, 1) := by decide +kernel
theorem dX4_at_11 : decode cX4_at 11 = .ok (.iload_n 1, 1) := by decide +kernel
theorem dX4_at_12 : decode cX4_at 12 = .ok (.iaload, 1) := by decide +kernel
theorem dX4_at_13 : decode cX4_at 13 = .ok (.goto 4, 3) := by decide +kernel
theorem dX4_at_16 : decode cX4_at 16 = .ok (.iconst 0, 1) := by decide +kernel
theorem dX4_at_17 : decode cX4_at 17 = .ok (.ireturn, 1) := by decide +kernel
theorem dX4_put_0 : decode cX4_put 0 = .ok (.iload_n 1, 1) := by decide +kernel
theorem dX4_put_1 : decode cX4_put 1 = .ok (.ifCond .lt 13, 3) := by decide +kernel
theorem dX4_put_4 : decode cX4_put 4 = .ok (.iload_n 1, 1) := by decide +kernel
theorem dX4_put_5 : decode cX4_put 5 = .ok (.aload_n 0, 1) := by decide +kernel
theorem dX4_put_6 : decode cX4_put 6 = .ok (.arraylength, 1) := by decide +kernel
theorem dX4_put_7 : decode cX4_put 7 = .ok (.if_icmp .ge 7, 3) := by decide +kernel
theorem dX4_put_10 : decode cX4_put 10 = .ok (.aload_n 0, 1) := by decide +kernel
theorem dX4_put_11 : decode cX4_put 11 = .ok (.iload_n 1, 1) := by decide +kernel
theorem dX4_put_12 : decode cX4_put 12 = .ok (.iload_n 2, 1) := by decide +kernel
theorem dX4_put_13 : decode cX4_put 13 = .ok (.iastore, 1) := by decide +kernel
theorem dX4_put_14 : decode cX4_put 14 = .ok (.return_, 1) := by decide +kernel
theorem dX4_addOne_0 : decode cX4_addOne 0 = .ok (.aload_n 0, 1) := by decide +kernel
theorem dX4_addOne_1 : decode cX4_addOne 1 = .ok (.iload_n 1, 1) := by decide +kernel
theorem dX4_addOne_2 : decode cX4_addOne 2 = .ok (.aload_n 0, 1) := by decide +kernel
theorem dX4_addOne_3 : decode cX4_addOne 3 = .ok (.iload_n 1, 1) := by decide +kernel
theorem dX4_addOne_4 : decode cX4_addOne 4 = .ok (.invokestatic 7, 3) := by decide +kernel
theorem dX4_addOne_7 : decode cX4_addOne 7 = .ok (.iconst 1, 1) := by decide +kernel
theorem dX4_addOne_8 : decode cX4_addOne 8 = .ok (.iadd, 1) := by decide +kernel
theorem dX4_addOne_9 : decode cX4_addOne 9 = .ok (.invokestatic 13, 3) := by decide +kernel
theorem dX4_addOne_12 : decode cX4_addOne 12 = .ok (.return_, 1) := by decide +kernel
theorem dX5_init_0 : decode cX5_init 0 = .ok (.aload_n 0, 1) := by decide +kernel
theorem dX5_init_1 : decode cX5_init 1 = .ok (.invokespecial 3, 3) := by decide +kernel
theorem dX5_init_4 : decode cX5_init 4 = .ok (.aload_n 0, 1) := by decide +kernel
theorem dX5_init_5 : decode cX5_init 5 = .ok (.aload_n 1, 1) := by decide +kernel
theorem dX5_init_6 : decode cX5_init 6 = .ok (.putfield 9, 3) := by decide +kernel
theorem dX5_init_9 : decode cX5_init 9 = .ok (.aload_n 0, 1) := by decide +kernel
theorem dX5_init_10 : decode cX5_init 10 = .ok (.aload_n 2, 1) := by decide +kernel
theorem dX5_init_11 : decode cX5_init 11 = .ok (.putfield 15, 3) := by decide +kernel
theorem dX5_init_14 : decode cX5_init 14 = .ok (.aload_n 0, 1) := by decide +kernel
theorem dX5_init_15 : decode cX5_init 15 = .ok (.bipush 25, 2) := by decide +kernel
theorem dX5_init_17 : decode cX5_init 17 = .ok (.newarray .int, 2) := by decide +kernel
theorem dX5_init_19 : decode cX5_init 19 = .ok (.putfield 19, 3) := by decide +kernel
theorem dX5_init_22 : decode cX5_init 22 = .ok (.aload_n 0, 1) := by decide +kernel
theorem dX5_init_23 : decode cX5_init 23 = .ok (.sipush 800, 3) := by decide +kernel
theorem dX5_init_26 : decode cX5_init 26 = .ok (.newarray .int, 2) := by decide +kernel
theorem dX5_init_28 : decode cX5_init 28 = .ok (.putfield 23, 3) := by decide +kernel
theorem dX5_init_31 : decode cX5_init 31 = .ok (.return_, 1) := by decide +kernel
theorem dX5_forget_0 : decode cX5_forget 0 = .ok (.aload_n 0, 1) := by decide +kernel
theorem dX5_forget_1 : decode cX5_forget 1 = .ok (.getfield 19, 3) := by decide +kernel
theorem dX5_forget_4 : decode cX5_forget 4 = .ok (.iconst 0, 1) := by decide +kernel
theorem dX5_forget_5 : decode cX5_forget 5 = .ok (.invokestatic 26, 3) := by decide +kernel
theorem dX5_forget_8 : decode cX5_forget 8 = .ok (.aload_n 0, 1) := by decide +kernel
theorem dX5_forget_9 : decode cX5_forget 9 = .ok (.getfield 23, 3) := by decide +kernel
theorem dX5_forget_12 : decode cX5_forget 12 = .ok (.iconst 0, 1) := by decide +kernel
theorem dX5_forget_13 : decode cX5_forget 13 = .ok (.invokestatic 26, 3) := by decide +kernel
theorem dX5_forget_16 : decode cX5_forget 16 = .ok (.return_, 1) := by decide +kernel
theorem dX5_total_0 : decode cX5_total 0 = .ok (.aload_n 0, 1) := by decide +kernel
theorem dX5_total_1 : decode cX5_total 1 = .ok (.getfield 19, 3) := by decide +kernel
theorem dX5_total_4 : decode cX5_total 4 = .ok (.iload_n 1, 1) := by decide +kernel
theorem dX5_total_5 : decode cX5_total 5 = .ok (.iconst 5, 1) := by decide +kernel
theorem dX5_total_6 : decode cX5_total 6 = .ok (.imul, 1) := by decide +kernel
theorem dX5_total_7 : decode cX5_total 7 = .ok (.iload_n 2, 1) := by decide +kernel
theorem dX5_total_8 : decode cX5_total 8 = .ok (.iadd, 1) := by decide +kernel
theorem dX5_total_9 : decode cX5_total 9 = .ok (.invokestatic 32, 3) := by decide +kernel
theorem dX5_total_12 : decode cX5_total 12 = .ok (.ireturn, 1) := by decide +kernel
theorem dX5_take_0 : decode cX5_take 0 = .ok (.aload_n 0, 1) := by decide +kernel
theorem dX5_take_1 : decode cX5_take 1 = .ok (.iload_n 1, 1) := by decide +kernel
theorem dX5_take_2 : decode cX5_take 2 = .ok (.iload_n 2, 1) := by decide +kernel
theorem dX5_take_3 : decode cX5_take 3 = .ok (.invokevirtual 38, 3) := by decide +kernel
theorem dX5_take_6 : decode cX5_take 6 = .ok (.ifCond .eq 4, 3) := by decide +kernel
theorem dX5_take_9 : decode cX5_take 9 = .ok (.return_, 1) := by decide +kernel
theorem dX5_take_10 : decode cX5_take 10 = .ok (.iload_n 1, 1) := by decide +kernel
theorem dX5_take_11 : decode cX5_take 11 = .ok (.iconst 5, 1) := by decide +kernel
theorem dX5_take_12 : decode cX5_take 12 = .ok (.imul, 1) := by decide +kernel
theorem dX5_take_13 : decode cX5_take 13 = .ok (.iload_n 2, 1) := by decide +kernel
theorem dX5_take_14 : decode cX5_take 14 = .ok (.iadd, 1) := by decide +kernel
theorem dX5_take_15 : decode cX5_take 15 = .ok (.istore_n 3, 1) := by decide +kernel
theorem dX5_take_16 : decode cX5_take 16 = .ok (.bipush (-9), 2) := by decide +kernel
theorem dX5_take_18 : decode cX5_take 18 = .ok (.istore 4, 2) := by decide +kernel
theorem dX5_take_20 : decode cX5_take 20 = .ok (.iconst 1, 1) := by decide +kernel
theorem dX5_take_21 : decode cX5_take 21 = .ok (.istore 5, 2) := by decide +kernel
theorem dX5_take_23 : decode cX5_take 23 = .ok (.iload 5, 2) := by decide +kernel
theorem dX5_take_25 : decode cX5_take 25 = .ok (.aload_n 0, 1) := by decide +kernel
theorem dX5_take_26 : decode cX5_take 26 = .ok (.getfield 9, 3) := by decide +kernel
theorem dX5_take_29 : decode cX5_take 29 = .ok (.getfield 42, 3) := by decide +kernel
theorem dX5_take_32 : decode cX5_take 32 = .ok (.if_icmp .ge 58, 3) := by decide +kernel
theorem dX5_take_35 : decode cX5_take 35 = .ok (.aload_n 0, 1) := by decide +kernel
theorem dX5_take_36 : decode cX5_take 36 = .ok (.getfield 15, 3) := by decide +kernel
theorem dX5_take_39 : decode cX5_take 39 = .ok (.iload_n 1, 1) := by decide +kernel
theorem dX5_take_40 : decode cX5_take 40 = .ok (.iload 5, 2) := by decide +kernel
theorem dX5_take_42 : decode cX5_take 42 = .ok (.iload_n 2, 1) := by decide +kernel
theorem dX5_take_43 : decode cX5_take 43 = .ok (.invokevirtual 48, 3) := by decide +kernel
theorem dX5_take_46 : decode cX5_take 46 = .ok (.istore 6, 2) := by decide +kernel
theorem dX5_take_48 : decode cX5_take 48 = .ok (.iload 6, 2) := by decide +kernel
theorem dX5_take_50 : decode cX5_take 50 = .ok (.iload 4, 2) := by decide +kernel
theorem dX5_take_52 : decode cX5_take 52 = .ok (.if_icmp .eq 28, 3) := by decide +kernel
theorem dX5_take_55 : decode cX5_take 55 = .ok (.aload_n 0, 1) := by decide +kernel
theorem dX5_take_56 : decode cX5_take 56 = .ok (.getfield 19, 3) := by decide +kernel
theorem dX5_take_59 : decode cX5_take 59 = .ok (.iload_n 3, 1) := by decide +kernel
theorem dX5_take_60 : decode cX5_take 60 = .ok (.invokestatic 54, 3) := by decide +kernel
theorem dX5_take_63 : decode cX5_take 63 = .ok (.aload_n 0, 1) := by decide +kernel
theorem dX5_take_64 : decode cX5_take 64 = .ok (.getfield 23, 3) := by decide +kernel
theorem dX5_take_67 : decode cX5_take 67 = .ok (.iload_n 3, 1) := by decide +kernel
theorem dX5_take_68 : decode cX5_take 68 = .ok (.bipush 32, 2) := by decide +kernel
theorem dX5_take_70 : decode cX5_take 70 = .ok (.imul, 1) := by decide +kernel
theorem dX5_take_71 : decode cX5_take 71 = .ok (.iload 5, 2) := by decide +kernel
theorem dX5_take_73 : decode cX5_take 73 = .ok (.bipush 8, 2) := by decide +kernel
theorem dX5_take_75 : decode cX5_take 75 = .ok (.ishr, 1) := by decide +kernel
theorem dX5_take_76 : decode cX5_take 76 = .ok (.iadd, 1) := by decide +kernel
theorem dX5_take_77 : decode cX5_take 77 = .ok (.invokestatic 54, 3) := by decide +kernel
theorem dX5_take_80 : decode cX5_take 80 = .ok (.iload 6, 2) := by decide +kernel
theorem dX5_take_82 : decode cX5_take 82 = .ok (.istore 4, 2) := by decide +kernel
theorem dX5_take_84 : decode cX5_take 84 = .ok (.iinc 5 1, 3) := by decide +kernel
theorem dX5_take_87 : decode cX5_take 87 = .ok (.goto (-64), 3) := by decide +kernel
theorem dX5_take_90 : decode cX5_take 90 = .ok (.return_, 1) := by decide +kernel
theorem dX5_firstCode_0 : decode cX5_firstCode 0 = .ok (.iload_n 1, 1) := by decide +kernel
theorem dX5_firstCode_1 : decode cX5_firstCode 1 = .ok (.iconst 5, 1) := by decide +kernel
theorem dX5_firstCode_2 : decode cX5_firstCode 2 = .ok (.imul, 1) := by decide +kernel
theorem dX5_firstCode_3 : decode cX5_firstCode 3 = .ok (.iload_n 2, 1) := by decide +kernel
theorem dX5_firstCode_4 : decode cX5_firstCode 4 = .ok (.iadd, 1) := by decide +kernel
theorem dX5_firstCode_5 : decode cX5_firstCode 5 = .ok (.bipush 32, 2) := by decide +kernel
theorem dX5_firstCode_7 : decode cX5_firstCode 7 = .ok (.imul, 1) := by decide +kernel
theorem dX5_firstCode_8 : decode cX5_firstCode 8 = .ok (.istore 4, 2) := by decide +kernel
theorem dX5_firstCode_10 : decode cX5_firstCode 10 = .ok (.iload_n 3, 1) := by decide +kernel
theorem dX5_firstCode_11 : decode cX5_firstCode 11 = .ok (.istore 5, 2) := by decide +kernel
theorem dX5_firstCode_13 : decode cX5_firstCode 13 = .ok (.iconst 0, 1) := by decide +kernel
theorem dX5_firstCode_14 : decode cX5_firstCode 14 = .ok (.istore 6, 2) := by decide +kernel
theorem dX5_firstCode_16 : decode cX5_firstCode 16 = .ok (.iload 6, 2) := by decide +kernel
theorem dX5_firstCode_18 : decode cX5_firstCode 18 = .ok (.bipush 32, 2) := by decide +kernel
theorem dX5_firstCode_20 : decode cX5_firstCode 20 = .ok (.if_icmp .ge 43, 3) := by decide +kernel
theorem dX5_firstCode_23 : decode cX5_firstCode 23 = .ok (.iload 5, 2) := by decide +kernel
theorem dX5_firstCode_25 : decode cX5_firstCode 25 = .ok (.aload_n 0, 1) := by decide +kernel
theorem dX5_firstCode_26 : decode cX5_firstCode 26 = .ok (.getfield 23, 3) := by decide +kernel
theorem dX5_firstCode_29 : decode cX5_firstCode 29 = .ok (.iload 4, 2) := by decide +kernel
theorem dX5_firstCode_31 : decode cX5_firstCode 31 = .ok (.iload 6, 2) := by decide +kernel
theorem dX5_firstCode_33 : decode cX5_firstCode 33 = .ok (.iadd, 1) := by decide +kernel
theorem dX5_firstCode_34 : decode cX5_firstCode 34 = .ok (.invokestatic 32, 3) := by decide +kernel
theorem dX5_firstCode_37 : decode cX5_firstCode 37 = .ok (.if_icmp .lt 26, 3) := by decide +kernel
theorem dX5_firstCode_40 : decode cX5_firstCode 40 = .ok (.iload 5, 2) := by decide +kernel
theorem dX5_firstCode_42 : decode cX5_firstCode 42 = .ok (.aload_n 0, 1) := by decide +kernel
theorem dX5_firstCode_43 : decode cX5_firstCode 43 = .ok (.getfield 23, 3) := by decide +kernel
theorem dX5_firstCode_46 : decode cX5_firstCode 46 = .ok (.iload 4, 2) := by decide +kernel
theorem dX5_firstCode_48 : decode cX5_firstCode 48 = .ok (.iload 6, 2) := by decide +kernel
theorem dX5_firstCode_50 : decode cX5_firstCode 50 = .ok (.iadd, 1) := by decide +kernel
theorem dX5_firstCode_51 : decode cX5_firstCode 51 = .ok (.invokestatic 32, 3) := by decide +kernel
theorem dX5_firstCode_54 : decode cX5_firstCode 54 = .ok (.isub, 1) := by decide +kernel
theorem dX5_firstCode_55 : decode cX5_firstCode 55 = .ok (.istore 5, 2) := by decide +kernel
theorem dX5_firstCode_57 : decode cX5_firstCode 57 = .ok (.iinc 6 1, 3) := by decide +kernel
theorem dX5_firstCode_60 : decode cX5_firstCode 60 = .ok (.goto (-44), 3) := by decide +kernel
theorem dX5_firstCode_63 : decode cX5_firstCode 63 = .ok (.iload 6, 2) := by decide +kernel
theorem dX5_firstCode_65 : decode cX5_firstCode 65 = .ok (.bipush 8, 2) := by decide +kernel
theorem dX5_firstCode_67 : decode cX5_firstCode 67 = .ok (.ishl, 1) := by decide +kernel
theorem dX5_firstCode_68 : decode cX5_firstCode 68 = .ok (.iconst 1, 1) := by decide +kernel
theorem dX5_firstCode_69 : decode cX5_firstCode 69 = .ok (.invokestatic 57, 3) := by decide +kernel
theorem dX5_firstCode_72 : decode cX5_firstCode 72 = .ok (.istore 7, 2) := by decide +kernel
theorem dX5_firstCode_74 : decode cX5_firstCode 74 = .ok (.iload 7, 2) := by decide +kernel
theorem dX5_firstCode_76 : decode cX5_firstCode 76 = .ok (.iconst 1, 1) := by decide +kernel
theorem dX5_firstCode_77 : decode cX5_firstCode 77 = .ok (.if_icmp .ne 8, 3) := by decide +kernel
theorem dX5_firstCode_80 : decode cX5_firstCode 80 = .ok (.bipush (-9), 2) := by decide +kernel
theorem dX5_firstCode_82 : decode cX5_firstCode 82 = .ok (.goto 16, 3) := by decide +kernel
theorem dX5_firstCode_85 : decode cX5_firstCode 85 = .ok (.aload_n 0, 1) := by decide +kernel
theorem dX5_firstCode_86 : decode cX5_firstCode 86 = .ok (.getfield 15, 3) := by decide +kernel
theorem dX5_firstCode_89 : decode cX5_firstCode 89 = .ok (.iload_n 1, 1) := by decide +kernel
theorem dX5_firstCode_90 : decode cX5_firstCode 90 = .ok (.iload 7, 2) := by decide +kernel
theorem dX5_firstCode_92 : decode cX5_firstCode 92 = .ok (.iconst 1, 1) := by decide +kernel
theorem dX5_firstCode_93 : decode cX5_firstCode 93 = .ok (.isub, 1) := by decide +kernel
theorem dX5_firstCode_94 : decode cX5_firstCode 94 = .ok (.iload_n 2, 1) := by decide +kernel
theorem dX5_firstCode_95 : decode cX5_firstCode 95 = .ok (.invokevirtual 48, 3) := by decide +kernel
theorem dX5_firstCode_98 : decode cX5_firstCode 98 = .ok (.istore 8, 2) := by decide +kernel
theorem dX5_firstCode_100 : decode cX5_firstCode 100 = .ok (.iload 7, 2) := by decide +kernel
theorem dX5_firstCode_102 : decode cX5_firstCode 102 = .ok (.istore 9, 2) := by decide +kernel
theorem dX5_firstCode_104 : decode cX5_firstCode 104 = .ok (.iload 9, 2) := by decide +kernel
theorem dX5_firstCode_106 : decode cX5_firstCode 106 = .ok (.aload_n 0, 1) := by decide +kernel
theorem dX5_firstCode_107 : decode cX5_firstCode 107 = .ok (.getfield 9, 3) := by decide +kernel
theorem dX5_firstCode_110 : decode cX5_firstCode 110 = .ok (.getfield 42, 3) := by decide +kernel
theorem dX5_firstCode_113 : decode cX5_firstCode 113 = .ok (.if_icmp .ge 51, 3) := by decide +kernel
theorem dX5_firstCode_116 : decode cX5_firstCode 116 = .ok (.aload_n 0, 1) := by decide +kernel
theorem dX5_firstCode_117 : decode cX5_firstCode 117 = .ok (.getfield 15, 3) := by decide +kernel
theorem dX5_firstCode_120 : decode cX5_firstCode 120 = .ok (.iload_n 1, 1) := by decide +kernel
theorem dX5_firstCode_121 : decode cX5_firstCode 121 = .ok (.iload 9, 2) := by decide +kernel
theorem dX5_firstCode_123 : decode cX5_firstCode 123 = .ok (.iload_n 2, 1) := by decide +kernel
theorem dX5_firstCode_124 : decode cX5_firstCode 124 = .ok (.invokevirtual 48, 3) := by decide +kernel
theorem dX5_firstCode_127 : decode cX5_firstCode 127 = .ok (.istore 10, 2) := by decide +kernel
theorem dX5_firstCode_129 : decode cX5_firstCode 129 = .ok (.iload 5, 2) := by decide +kernel
theorem dX5_firstCode_131 : decode cX5_firstCode 131 = .ok (.iload 10, 2) := by decide +kernel
theorem dX5_firstCode_133 : decode cX5_firstCode 133 = .ok (.iload 8, 2) := by decide +kernel
theorem dX5_firstCode_135 : decode cX5_firstCode 135 = .ok (.if_icmp .ne 7, 3) := by decide +kernel
theorem dX5_firstCode_138 : decode cX5_firstCode 138 = .ok (.iconst 0, 1) := by decide +kernel
theorem dX5_firstCode_139 : decode cX5_firstCode 139 = .ok (.goto 4, 3) := by decide +kernel
theorem dX5_firstCode_142 : decode cX5_firstCode 142 = .ok (.iconst 1, 1) := by decide +kernel
theorem dX5_firstCode_143 : decode cX5_firstCode 143 = .ok (.isub, 1) := by decide +kernel
theorem dX5_firstCode_144 : decode cX5_firstCode 144 = .ok (.istore 5, 2) := by decide +kernel
theorem dX5_firstCode_146 : decode cX5_firstCode 146 = .ok (.iload 5, 2) := by decide +kernel
theorem dX5_firstCode_148 : decode cX5_firstCode 148 = .ok (.ifCond .ge 6, 3) := by decide +kernel
theorem dX5_firstCode_151 : decode cX5_firstCode 151 = .ok (.iload 9, 2) := by decide +kernel
theorem dX5_firstCode_153 : decode cX5_firstCode 153 = .ok (.ireturn, 1) := by decide +kernel
theorem dX5_firstCode_154 : decode cX5_firstCode 154 = .ok (.iload 10, 2) := by decide +kernel
theorem dX5_firstCode_156 : decode cX5_firstCode 156 = .ok (.istore 8, 2) := by decide +kernel
theorem dX5_firstCode_158 : decode cX5_firstCode 158 = .ok (.iinc 9 1, 3) := by decide +kernel
theorem dX5_firstCode_161 : decode cX5_firstCode 161 = .ok (.goto (-57), 3) := by decide +kernel
theorem dX5_firstCode_164 : decode cX5_firstCode 164 = .ok (.bipush (-9), 2) := by decide +kernel
theorem dX5_firstCode_166 : decode cX5_firstCode 166 = .ok (.ireturn, 1) := by decide +kernel
theorem dX6_init_0 : decode cX6_init 0 = .ok (.aload_n 0, 1) := by decide +kernel
theorem dX6_init_1 : decode cX6_init 1 = .ok (.invokespecial 3, 3) := by decide +kernel
theorem dX6_init_4 : decode cX6_init 4 = .ok (.aload_n 0, 1) := by decide +kernel
theorem dX6_init_5 : decode cX6_init 5 = .ok (.aload_n 1, 1) := by decide +kernel
theorem dX6_init_6 : decode cX6_init 6 = .ok (.putfield 9, 3) := by decide +kernel
theorem dX6_init_9 : decode cX6_init 9 = .ok (.aload_n 0, 1) := by decide +kernel
theorem dX6_init_10 : decode cX6_init 10 = .ok (.new 15, 3) := by decide +kernel
theorem dX6_init_13 : decode cX6_init 13 = .ok (.dup, 1) := by decide +kernel
theorem dX6_init_14 : decode cX6_init 14 = .ok (.aload_n 1, 1) := by decide +kernel
theorem dX6_init_15 : decode cX6_init 15 = .ok (.invokespecial 17, 3) := by decide +kernel
theorem dX6_init_18 : decode cX6_init 18 = .ok (.putfield 20, 3) := by decide +kernel
theorem dX6_init_21 : decode cX6_init 21 = .ok (.return_, 1) := by decide +kernel
theorem dX6_resultAt_0 : decode cX6_resultAt 0 = .ok (.aload_n 0, 1) := by decide +kernel
theorem dX6_resultAt_1 : decode cX6_resultAt 1 = .ok (.iload_n 1, 1) := by decide +kernel
theorem dX6_resultAt_2 : decode cX6_resultAt 2 = .ok (.iload_n 2, 1) := by decide +kernel
theorem dX6_resultAt_3 : decode cX6_resultAt 3 = .ok (.invokevirtual 24, 3) := by decide +kernel
theorem dX6_resultAt_6 : decode cX6_resultAt 6 = .ok (.aload_n 0, 1) := by decide +kernel
theorem dX6_resultAt_7 : decode cX6_resultAt 7 = .ok (.getfield 28, 3) := by decide +kernel
theorem dX6_resultAt_10 : decode cX6_resultAt 10 = .ok (.ifCond .eq 18, 3) := by decide +kernel
theorem dX6_resultAt_13 : decode cX6_resultAt 13 = .ok (.aload_n 0, 1) := by decide +kernel
theorem dX6_resultAt_14 : decode cX6_resultAt 14 = .ok (.getfield 20, 3) := by decide +kernel
theorem dX6_resultAt_17 : decode cX6_resultAt 17 = .ok (.aload_n 0, 1) := by decide +kernel
theorem dX6_resultAt_18 : decode cX6_resultAt 18 = .ok (.getfield 32, 3) := by decide +kernel
theorem dX6_resultAt_21 : decode cX6_resultAt 21 = .ok (.iload_n 3, 1) := by decide +kernel
theorem dX6_resultAt_22 : decode cX6_resultAt 22 = .ok (.invokevirtual 35, 3) := by decide +kernel
theorem dX6_resultAt_25 : decode cX6_resultAt 25 = .ok (.goto 7, 3) := by decide +kernel
theorem dX6_resultAt_28 : decode cX6_resultAt 28 = .ok (.aload_n 0, 1) := by decide +kernel
theorem dX6_resultAt_29 : decode cX6_resultAt 29 = .ok (.getfield 39, 3) := by decide +kernel
theorem dX6_resultAt_32 : decode cX6_resultAt 32 = .ok (.ireturn, 1) := by decide +kernel
theorem dX6_sortRead_0 : decode cX6_sortRead 0 = .ok (.aload_n 0, 1) := by decide +kernel
theorem dX6_sortRead_1 : decode cX6_sortRead 1 = .ok (.getfield 43, 3) := by decide +kernel
theorem dX6_sortRead_4 : decode cX6_sortRead 4 = .ok (.ireturn, 1) := by decide +kernel
theorem dX6_figuresRead_0 : decode cX6_figuresRead 0 = .ok (.aload_n 0, 1) := by decide +kernel
theorem dX6_figuresRead_1 : decode cX6_figuresRead 1 = .ok (.getfield 28, 3) := by decide +kernel
theorem dX6_figuresRead_4 : decode cX6_figuresRead 4 = .ok (.ifCond .eq 13, 3) := by decide +kernel
theorem dX6_figuresRead_7 : decode cX6_figuresRead 7 = .ok (.aload_n 0, 1) := by decide +kernel
theorem dX6_figuresRead_8 : decode cX6_figuresRead 8 = .ok (.getfield 20, 3) := by decide +kernel
theorem dX6_figuresRead_11 : decode cX6_figuresRead 11 = .ok (.invokevirtual 46, 3) := by decide +kernel
theorem dX6_figuresRead_14 : decode cX6_figuresRead 14 = .ok (.goto 5, 3) := by decide +kernel
theorem dX6_figuresRead_17 : decode cX6_figuresRead 17 = .ok (.bipush (-9), 2) := by decide +kernel
theorem dX6_figuresRead_19 : decode cX6_figuresRead 19 = .ok (.ireturn, 1) := by decide +kernel
theorem dX6_hardnessRead_0 : decode cX6_hardnessRead 0 = .ok (.aload_n 0, 1) := by decide +kernel
theorem dX6_hardnessRead_1 : decode cX6_hardnessRead 1 = .ok (.invokevirtual 50, 3) := by decide +kernel
theorem dX6_hardnessRead_4 : decode cX6_hardnessRead 4 = .ok (.istore_n 1, 1) := by decide +kernel
theorem dX6_hardnessRead_5 : decode cX6_hardnessRead 5 = .ok (.iload_n 1, 1) := by decide +kernel
theorem dX6_hardnessRead_6 : decode cX6_hardnessRead 6 = .ok (.ifCond .ge 5, 3) := by decide +kernel
theorem dX6_hardnessRead_9 : decode cX6_hardnessRead 9 = .ok (.iconst 0, 1) := by decide +kernel
theorem dX6_hardnessRead_10 : decode cX6_hardnessRead 10 = .ok (.ireturn, 1) := by decide +kernel
theorem dX6_hardnessRead_11 : decode cX6_hardnessRead 11 = .ok (.iload_n 1, 1) := by decide +kernel
theorem dX6_hardnessRead_12 : decode cX6_hardnessRead 12 = .ok (.bipush 8, 2) := by decide +kernel
theorem dX6_hardnessRead_14 : decode cX6_hardnessRead 14 = .ok (.ishr, 1) := by decide +kernel
theorem dX6_hardnessRead_15 : decode cX6_hardnessRead 15 = .ok (.iconst 1, 1) := by decide +kernel
theorem dX6_hardnessRead_16 : decode cX6_hardnessRead 16 = .ok (.iand, 1) := by decide +kernel
theorem dX6_hardnessRead_17 : decode cX6_hardnessRead 17 = .ok (.istore_n 2, 1) := by decide +kernel
theorem dX6_hardnessRead_18 : decode cX6_hardnessRead 18 = .ok (.iconst 0, 1) := by decide +kernel
theorem dX6_hardnessRead_19 : decode cX6_hardnessRead 19 = .ok (.istore_n 3, 1) := by decide +kernel
theorem dX6_hardnessRead_20 : decode cX6_hardnessRead 20 = .ok (.bipush 8, 2) := by decide +kernel
theorem dX6_hardnessRead_22 : decode cX6_hardnessRead 22 = .ok (.istore 4, 2) := by decide +kernel
theorem dX6_hardnessRead_24 : decode cX6_hardnessRead 24 = .ok (.iload 4, 2) := by decide +kernel
theorem dX6_hardnessRead_26 : decode cX6_hardnessRead 26 = .ok (.ifCond .lt 22, 3) := by decide +kernel
theorem dX6_hardnessRead_29 : decode cX6_hardnessRead 29 = .ok (.iload_n 1, 1) := by decide +kernel
theorem dX6_hardnessRead_30 : decode cX6_hardnessRead 30 = .ok (.iload 4, 2) := by decide +kernel
theorem dX6_hardnessRead_32 : decode cX6_hardnessRead 32 = .ok (.ishr, 1) := by decide +kernel
theorem dX6_hardnessRead_33 : decode cX6_hardnessRead 33 = .ok (.iconst 1, 1) := by decide +kernel
theorem dX6_hardnessRead_34 : decode cX6_hardnessRead 34 = .ok (.iand, 1) := by decide +kernel
theorem dX6_hardnessRead_35 : decode cX6_hardnessRead 35 = .ok (.iload_n 2, 1) := by decide +kernel
theorem dX6_hardnessRead_36 : decode cX6_hardnessRead 36 = .ok (.if_icmp .ne 12, 3) := by decide +kernel
theorem dX6_hardnessRead_39 : decode cX6_hardnessRead 39 = .ok (.iinc 3 1, 3) := by decide +kernel
theorem dX6_hardnessRead_42 : decode cX6_hardnessRead 42 = .ok (.iinc 4 (-1), 3) := by decide +kernel
theorem dX6_hardnessRead_45 : decode cX6_hardnessRead 45 = .ok (.goto (-21), 3) := by decide +kernel
theorem dX6_hardnessRead_48 : decode cX6_hardnessRead 48 = .ok (.iload_n 3, 1) := by decide +kernel
theorem dX6_hardnessRead_49 : decode cX6_hardnessRead 49 = .ok (.ireturn, 1) := by decide +kernel
theorem dX6_read_0 : decode cX6_read 0 = .ok (.aload_n 0, 1) := by decide +kernel
theorem dX6_read_1 : decode cX6_read 1 = .ok (.getfield 9, 3) := by decide +kernel
theorem dX6_read_4 : decode cX6_read 4 = .ok (.iload_n 2, 1) := by decide +kernel
theorem dX6_read_5 : decode cX6_read 5 = .ok (.invokevirtual 53, 3) := by decide +kernel
theorem dX6_read_8 : decode cX6_read 8 = .ok (.istore_n 3, 1) := by decide +kernel
theorem dX6_read_9 : decode cX6_read 9 = .ok (.iload_n 1, 1) := by decide +kernel
theorem dX6_read_10 : decode cX6_read 10 = .ok (.iconst 1, 1) := by decide +kernel
theorem dX6_read_11 : decode cX6_read 11 = .ok (.if_icmp .ne 18, 3) := by decide +kernel
theorem dX6_read_14 : decode cX6_read 14 = .ok (.aload_n 0, 1) := by decide +kernel
theorem dX6_read_15 : decode cX6_read 15 = .ok (.getfield 9, 3) := by decide +kernel
theorem dX6_read_18 : decode cX6_read 18 = .ok (.iload_n 2, 1) := by decide +kernel
theorem dX6_read_19 : decode cX6_read 19 = .ok (.invokevirtual 59, 3) := by decide +kernel
theorem dX6_read_22 : decode cX6_read 22 = .ok (.ifCond .eq 7, 3) := by decide +kernel
theorem dX6_read_25 : decode cX6_read 25 = .ok (.iconst 1, 1) := by decide +kernel
theorem dX6_read_26 : decode cX6_read 26 = .ok (.goto 4, 3) := by decide +kernel
theorem dX6_read_29 : decode cX6_read 29 = .ok (.iconst 0, 1) := by decide +kernel
theorem dX6_read_30 : decode cX6_read 30 = .ok (.istore 4, 2) := by decide +kernel
theorem dX6_read_32 : decode cX6_read 32 = .ok (.aload_n 0, 1) := by decide +kernel
theorem dX6_read_33 : decode cX6_read 33 = .ok (.aload_n 0, 1) := by decide +kernel
theorem dX6_read_34 : decode cX6_read 34 = .ok (.getfield 9, 3) := by decide +kernel
theorem dX6_read_37 : decode cX6_read 37 = .ok (.iload_n 2, 1) := by decide +kernel
theorem dX6_read_38 : decode cX6_read 38 = .ok (.invokevirtual 62, 3) := by decide +kernel
theorem dX6_read_41 : decode cX6_read 41 = .ok (.ifCond .eq 16, 3) := by decide +kernel
theorem dX6_read_44 : decode cX6_read 44 = .ok (.iload_n 3, 1) := by decide +kernel
