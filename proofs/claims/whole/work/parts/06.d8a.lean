set_option maxRecDepth 20000 in
theorem ggX8_init_X8_makes : GoodIn wsX8_init wsX8_makes := goodIn_r _ [23, 24, 25, 26, 27, 28, 29, 30, 31, 7, 32, 33, 34, 35, 36, 37, 38, 39, 40, 41, 42, 43, 44, 45, 46, 47, 48, 49, 50, 51, 52, 53, 54, 55, 56] (by decide +kernel) (by decide +kernel)
set_option maxRecDepth 20000 in
theorem gX8_init_X8_makes : GoodIn wsX8_init (wsV RX8 46 RX8 yX8_makes wsX8_makes) := goodIn_app (goodIn_of _ (by decide +kernel)) ggX8_init_X8_makes
theorem dX8_init_0 : decode cX8_init 0 = .ok (.aload_n 0, 1) := by decide +kernel
theorem dX8_init_1 : decode cX8_init 1 = .ok (.invokespecial 1, 3) := by decide +kernel
theorem dX8_init_4 : decode cX8_init 4 = .ok (.aload_n 0, 1) := by decide +kernel
theorem dX8_init_5 : decode cX8_init 5 = .ok (.bipush 7, 2) := by decide +kernel
theorem dX8_init_7 : decode cX8_init 7 = .ok (.newarray .int, 2) := by decide +kernel
theorem dX8_init_9 : decode cX8_init 9 = .ok (.putfield 7, 3) := by decide +kernel
theorem dX8_init_12 : decode cX8_init 12 = .ok (.aload_n 0, 1) := by decide +kernel
theorem dX8_init_13 : decode cX8_init 13 = .ok (.iconst 5, 1) := by decide +kernel
theorem dX8_init_14 : decode cX8_init 14 = .ok (.newarray .boolean, 2) := by decide +kernel
theorem dX8_init_16 : decode cX8_init 16 = .ok (.putfield 13, 3) := by decide +kernel
theorem dX8_init_19 : decode cX8_init 19 = .ok (.aload_n 0, 1) := by decide +kernel
theorem dX8_init_20 : decode cX8_init 20 = .ok (.ldc 17, 2) := by decide +kernel
theorem dX8_init_22 : decode cX8_init 22 = .ok (.newarray .int, 2) := by decide +kernel
theorem dX8_init_24 : decode cX8_init 24 = .ok (.putfield 18, 3) := by decide +kernel
theorem dX8_init_27 : decode cX8_init 27 = .ok (.aload_n 0, 1) := by decide +kernel
theorem dX8_init_28 : decode cX8_init 28 = .ok (.ldc 17, 2) := by decide +kernel
theorem dX8_init_30 : decode cX8_init 30 = .ok (.newarray .int, 2) := by decide +kernel
theorem dX8_init_32 : decode cX8_init 32 = .ok (.putfield 21, 3) := by decide +kernel
theorem dX8_init_35 : decode cX8_init 35 = .ok (.aload_n 0, 1) := by decide +kernel
theorem dX8_init_36 : decode cX8_init 36 = .ok (.sipush 16384, 3) := by decide +kernel
theorem dX8_init_39 : decode cX8_init 39 = .ok (.newarray .int, 2) := by decide +kernel
theorem dX8_init_41 : decode cX8_init 41 = .ok (.putfield 24, 3) := by decide +kernel
theorem dX8_init_44 : decode cX8_init 44 = .ok (.aload_n 0, 1) := by decide +kernel
theorem dX8_init_45 : decode cX8_init 45 = .ok (.sipush 16384, 3) := by decide +kernel
theorem dX8_init_48 : decode cX8_init 48 = .ok (.newarray .int, 2) := by decide +kernel
theorem dX8_init_50 : decode cX8_init 50 = .ok (.putfield 27, 3) := by decide +kernel
theorem dX8_init_53 : decode cX8_init 53 = .ok (.aload_n 0, 1) := by decide +kernel
theorem dX8_init_54 : decode cX8_init 54 = .ok (.sipush 256, 3) := by decide +kernel
theorem dX8_init_57 : decode cX8_init 57 = .ok (.newarray .int, 2) := by decide +kernel
theorem dX8_init_59 : decode cX8_init 59 = .ok (.putfield 30, 3) := by decide +kernel
theorem dX8_init_62 : decode cX8_init 62 = .ok (.aload_n 0, 1) := by decide +kernel
theorem dX8_init_63 : decode cX8_init 63 = .ok (.sipush 256, 3) := by decide +kernel
theorem dX8_init_66 : decode cX8_init 66 = .ok (.newarray .int, 2) := by decide +kernel
theorem dX8_init_68 : decode cX8_init 68 = .ok (.putfield 33, 3) := by decide +kernel
theorem dX8_init_71 : decode cX8_init 71 = .ok (.aload_n 0, 1) := by decide +kernel
theorem dX8_init_72 : decode cX8_init 72 = .ok (.sipush 256, 3) := by decide +kernel
theorem dX8_init_75 : decode cX8_init 75 = .ok (.newarray .long, 2) := by decide +kernel
theorem dX8_init_77 : decode cX8_init 77 = .ok (.putfield 36, 3) := by decide +kernel
theorem dX8_init_80 : decode cX8_init 80 = .ok (.aload_n 0, 1) := by decide +kernel
theorem dX8_init_81 : decode cX8_init 81 = .ok (.sipush 256, 3) := by decide +kernel
theorem dX8_init_84 : decode cX8_init 84 = .ok (.newarray .long, 2) := by decide +kernel
theorem dX8_init_86 : decode cX8_init 86 = .ok (.putfield 40, 3) := by decide +kernel
theorem dX8_init_89 : decode cX8_init 89 = .ok (.aload_n 0, 1) := by decide +kernel
theorem dX8_init_90 : decode cX8_init 90 = .ok (.sipush 256, 3) := by decide +kernel
theorem dX8_init_93 : decode cX8_init 93 = .ok (.newarray .long, 2) := by decide +kernel
theorem dX8_init_95 : decode cX8_init 95 = .ok (.putfield 43, 3) := by decide +kernel
theorem dX8_init_98 : decode cX8_init 98 = .ok (.aload_n 0, 1) := by decide +kernel
theorem dX8_init_99 : decode cX8_init 99 = .ok (.iconst 3, 1) := by decide +kernel
theorem dX8_init_100 : decode cX8_init 100 = .ok (.iconst 3, 1) := by decide +kernel
theorem dX8_init_101 : decode cX8_init 101 = .ok (.invokevirtual 46, 3) := by decide +kernel
theorem dX8_init_104 : decode cX8_init 104 = .ok (.return_, 1) := by decide +kernel
theorem dX8_refuse_0 : decode cX8_refuse 0 = .ok (.aload_n 0, 1) := by decide +kernel
theorem dX8_refuse_1 : decode cX8_refuse 1 = .ok (.getfield 7, 3) := by decide +kernel
theorem dX8_refuse_4 : decode cX8_refuse 4 = .ok (.iload_n 1, 1) := by decide +kernel
theorem dX8_refuse_5 : decode cX8_refuse 5 = .ok (.ineg, 1) := by decide +kernel
theorem dX8_refuse_6 : decode cX8_refuse 6 = .ok (.dup2, 1) := by decide +kernel
theorem dX8_refuse_7 : decode cX8_refuse 7 = .ok (.iaload, 1) := by decide +kernel
theorem dX8_refuse_8 : decode cX8_refuse 8 = .ok (.iconst 1, 1) := by decide +kernel
theorem dX8_refuse_9 : decode cX8_refuse 9 = .ok (.iadd, 1) := by decide +kernel
theorem dX8_refuse_10 : decode cX8_refuse 10 = .ok (.iastore, 1) := by decide +kernel
theorem dX8_refuse_11 : decode cX8_refuse 11 = .ok (.iload_n 1, 1) := by decide +kernel
theorem dX8_refuse_12 : decode cX8_refuse 12 = .ok (.ireturn, 1) := by decide +kernel
set_option maxRecDepth 20000 in
theorem ggX8_refuseFar_X8_refuse : GoodIn wsX8_refuseFar wsX8_refuse := goodIn_r _ [6, 7, 8, 9, 10, 11, 12, 13, 14, 15, 16, 17, 18, 19, 20, 21, 22, 23, 24, 25, 26, 27, 28, 29, 30, 31, 32] (by decide +kernel) (by decide +kernel)
set_option maxRecDepth 20000 in
theorem gX8_refuseFar_X8_refuse : GoodIn wsX8_refuseFar (wsV RX8 51 RX8 yX8_refuse wsX8_refuse) := goodIn_app (goodIn_of _ (by decide +kernel)) ggX8_refuseFar_X8_refuse
theorem dX8_refuseFar_0 : decode cX8_refuseFar 0 = .ok (.ldc 50, 2) := by decide +kernel
theorem dX8_refuseFar_2 : decode cX8_refuseFar 2 = .ok (.aload_n 0, 1) := by decide +kernel
theorem dX8_refuseFar_3 : decode cX8_refuseFar 3 = .ok (.iload_n 1, 1) := by decide +kernel
theorem dX8_refuseFar_4 : decode cX8_refuseFar 4 = .ok (.invokevirtual 51, 3) := by decide +kernel
theorem dX8_refuseFar_7 : decode cX8_refuseFar 7 = .ok (.isub, 1) := by decide +kernel
theorem dX8_refuseFar_8 : decode cX8_refuseFar 8 = .ok (.ireturn, 1) := by decide +kernel
theorem dX8_isIn_0 : decode cX8_isIn 0 = .ok (.iload_n 0, 1) := by decide +kernel
theorem dX8_isIn_1 : decode cX8_isIn 1 = .ok (.ifCond .lt 12, 3) := by decide +kernel
theorem dX8_isIn_4 : decode cX8_isIn 4 = .ok (.iload_n 0, 1) := by decide +kernel
theorem dX8_isIn_5 : decode cX8_isIn 5 = .ok (.iload_n 1, 1) := by decide +kernel
theorem dX8_isIn_6 : decode cX8_isIn 6 = .ok (.if_icmp .ge 7, 3) := by decide +kernel
theorem dX8_isIn_9 : decode cX8_isIn 9 = .ok (.iconst 1, 1) := by decide +kernel
theorem dX8_isIn_10 : decode cX8_isIn 10 = .ok (.goto 4, 3) := by decide +kernel
theorem dX8_isIn_13 : decode cX8_isIn 13 = .ok (.iconst 0, 1) := by decide +kernel
theorem dX8_isIn_14 : decode cX8_isIn 14 = .ok (.ireturn, 1) := by decide +kernel
theorem dX8_makes_0 : decode cX8_makes 0 = .ok (.aload_n 0, 1) := by decide +kernel
theorem dX8_makes_1 : decode cX8_makes 1 = .ok (.iload_n 1, 1) := by decide +kernel
theorem dX8_makes_2 : decode cX8_makes 2 = .ok (.putfield 55, 3) := by decide +kernel
theorem dX8_makes_5 : decode cX8_makes 5 = .ok (.aload_n 0, 1) := by decide +kernel
theorem dX8_makes_6 : decode cX8_makes 6 = .ok (.iload_n 2, 1) := by decide +kernel
theorem dX8_makes_7 : decode cX8_makes 7 = .ok (.putfield 59, 3) := by decide +kernel
theorem dX8_makes_10 : decode cX8_makes 10 = .ok (.aload_n 0, 1) := by decide +kernel
theorem dX8_makes_11 : decode cX8_makes 11 = .ok (.iconst 1, 1) := by decide +kernel
theorem dX8_makes_12 : decode cX8_makes 12 = .ok (.iconst 1, 1) := by decide +kernel
theorem dX8_makes_13 : decode cX8_makes 13 = .ok (.aload_n 0, 1) := by decide +kernel
theorem dX8_makes_14 : decode cX8_makes 14 = .ok (.getfield 55, 3) := by decide +kernel
theorem dX8_makes_17 : decode cX8_makes 17 = .ok (.iadd, 1) := by decide +kernel
theorem dX8_makes_18 : decode cX8_makes 18 = .ok (.aload_n 0, 1) := by decide +kernel
theorem dX8_makes_19 : decode cX8_makes 19 = .ok (.getfield 59, 3) := by decide +kernel
theorem dX8_makes_22 : decode cX8_makes 22 = .ok (.iadd, 1) := by decide +kernel
theorem dX8_makes_23 : decode cX8_makes 23 = .ok (.ishl, 1) := by decide +kernel
theorem dX8_makes_24 : decode cX8_makes 24 = .ok (.putfield 62, 3) := by decide +kernel
theorem dX8_makes_27 : decode cX8_makes 27 = .ok (.aload_n 0, 1) := by decide +kernel
theorem dX8_makes_28 : decode cX8_makes 28 = .ok (.aload_n 0, 1) := by decide +kernel
theorem dX8_makes_29 : decode cX8_makes 29 = .ok (.getfield 62, 3) := by decide +kernel
theorem dX8_makes_32 : decode cX8_makes 32 = .ok (.iconst 2, 1) := by decide +kernel
theorem dX8_makes_33 : decode cX8_makes 33 = .ok (.idiv, 1) := by decide +kernel
theorem dX8_makes_34 : decode cX8_makes 34 = .ok (.putfield 65, 3) := by decide +kernel
theorem dX8_makes_37 : decode cX8_makes 37 = .ok (.aload_n 0, 1) := by decide +kernel
theorem dX8_makes_38 : decode cX8_makes 38 = .ok (.iconst 1, 1) := by decide +kernel
theorem dX8_makes_39 : decode cX8_makes 39 = .ok (.aload_n 0, 1) := by decide +kernel
theorem dX8_makes_40 : decode cX8_makes 40 = .ok (.getfield 55, 3) := by decide +kernel
theorem dX8_makes_43 : decode cX8_makes 43 = .ok (.ishl, 1) := by decide +kernel
theorem dX8_makes_44 : decode cX8_makes 44 = .ok (.iconst 1, 1) := by decide +kernel
theorem dX8_makes_45 : decode cX8_makes 45 = .ok (.isub, 1) := by decide +kernel
theorem dX8_makes_46 : decode cX8_makes 46 = .ok (.aload_n 0, 1) := by decide +kernel
theorem dX8_makes_47 : decode cX8_makes 47 = .ok (.getfield 59, 3) := by decide +kernel
theorem dX8_makes_50 : decode cX8_makes 50 = .ok (.ishl, 1) := by decide +kernel
theorem dX8_makes_51 : decode cX8_makes 51 = .ok (.iconst 1, 1) := by decide +kernel
theorem dX8_makes_52 : decode cX8_makes 52 = .ok (.isub, 1) := by decide +kernel
theorem dX8_makes_53 : decode cX8_makes 53 = .ok (.putfield 68, 3) := by decide +kernel
theorem dX8_makes_56 : decode cX8_makes 56 = .ok (.aload_n 0, 1) := by decide +kernel
theorem dX8_makes_57 : decode cX8_makes 57 = .ok (.iconst 2, 1) := by decide +kernel
theorem dX8_makes_58 : decode cX8_makes 58 = .ok (.iconst 1, 1) := by decide +kernel
theorem dX8_makes_59 : decode cX8_makes 59 = .ok (.aload_n 0, 1) := by decide +kernel
theorem dX8_makes_60 : decode cX8_makes 60 = .ok (.getfield 55, 3) := by decide +kernel
theorem dX8_makes_63 : decode cX8_makes 63 = .ok (.iconst 1, 1) := by decide +kernel
theorem dX8_makes_64 : decode cX8_makes 64 = .ok (.isub, 1) := by decide +kernel
theorem dX8_makes_65 : decode cX8_makes 65 = .ok (.ishl, 1) := by decide +kernel
theorem dX8_makes_66 : decode cX8_makes 66 = .ok (.isub, 1) := by decide +kernel
theorem dX8_makes_67 : decode cX8_makes 67 = .ok (.aload_n 0, 1) := by decide +kernel
theorem dX8_makes_68 : decode cX8_makes 68 = .ok (.getfield 59, 3) := by decide +kernel
theorem dX8_makes_71 : decode cX8_makes 71 = .ok (.isub, 1) := by decide +kernel
theorem dX8_makes_72 : decode cX8_makes 72 = .ok (.putfield 71, 3) := by decide +kernel
theorem dX8_makes_75 : decode cX8_makes 75 = .ok (.aload_n 0, 1) := by decide +kernel
theorem dX8_makes_76 : decode cX8_makes 76 = .ok (.iconst (-1), 1) := by decide +kernel
theorem dX8_makes_77 : decode cX8_makes 77 = .ok (.putfield 74, 3) := by decide +kernel
theorem dX8_makes_80 : decode cX8_makes 80 = .ok (.aload_n 0, 1) := by decide +kernel
theorem dX8_makes_81 : decode cX8_makes 81 = .ok (.iconst (-1), 1) := by decide +kernel
theorem dX8_makes_82 : decode cX8_makes 82 = .ok (.putfield 77, 3) := by decide +kernel
theorem dX8_makes_85 : decode cX8_makes 85 = .ok (.iconst 0, 1) := by decide +kernel
theorem dX8_makes_86 : decode cX8_makes 86 = .ok (.istore_n 3, 1) := by decide +kernel
theorem dX8_makes_87 : decode cX8_makes 87 = .ok (.iload_n 3, 1) := by decide +kernel
theorem dX8_makes_88 : decode cX8_makes 88 = .ok (.iconst 5, 1) := by decide +kernel
theorem dX8_makes_89 : decode cX8_makes 89 = .ok (.if_icmp .ge 16, 3) := by decide +kernel
theorem dX8_makes_92 : decode cX8_makes 92 = .ok (.aload_n 0, 1) := by decide +kernel
theorem dX8_makes_93 : decode cX8_makes 93 = .ok (.getfield 13, 3) := by decide +kernel
theorem dX8_makes_96 : decode cX8_makes 96 = .ok (.iload_n 3, 1) := by decide +kernel
theorem dX8_makes_97 : decode cX8_makes 97 = .ok (.iconst 0, 1) := by decide +kernel
theorem dX8_makes_98 : decode cX8_makes 98 = .ok (.bastore, 1) := by decide +kernel
theorem dX8_makes_99 : decode cX8_makes 99 = .ok (.iinc 3 1, 3) := by decide +kernel
theorem dX8_makes_102 : decode cX8_makes 102 = .ok (.goto (-15), 3) := by decide +kernel
theorem dX8_makes_105 : decode cX8_makes 105 = .ok (.return_, 1) := by decide +kernel
set_option maxRecDepth 20000 in
theorem ggX8_make_X8_refuse : GoodIn wsX8_make wsX8_refuse := goodIn_r _ [6, 7, 20, 21, 22, 23, 24, 25, 26, 27, 28, 29, 30, 31, 32, 33, 34, 35, 36, 37, 38, 39, 40, 41, 42, 43, 44] (by decide +kernel) (by decide +kernel)
set_option maxRecDepth 20000 in
theorem gX8_make_X8_refuse : GoodIn wsX8_make (wsV RX8 51 RX8 yX8_refuse wsX8_refuse) := goodIn_app (goodIn_of _ (by decide +kernel)) ggX8_make_X8_refuse
set_option maxRecDepth 20000 in
theorem ggX8_make_X8_makes : GoodIn wsX8_make wsX8_makes := goodIn_r _ [11, 12, 13, 1, 14, 15, 16, 17, 18, 19, 20, 21, 22, 23, 24, 25, 26, 27, 28, 29, 30, 31, 32, 33, 34, 35, 36, 37, 38, 39, 40, 41, 42, 43, 44] (by decide +kernel) (by decide +kernel)
set_option maxRecDepth 20000 in
theorem gX8_make_X8_makes : GoodIn wsX8_make (wsV RX8 46 RX8 yX8_makes wsX8_makes) := goodIn_app (goodIn_of _ (by decide +kernel)) ggX8_make_X8_makes
theorem dX8_make_0 : decode cX8_make 0 = .ok (.iload_n 1, 1) := by decide +kernel
theorem dX8_make_1 : decode cX8_make 1 = .ok (.iconst 2, 1) := by decide +kernel
theorem dX8_make_2 : decode cX8_make 2 = .ok (.if_icmp .lt 8, 3) := by decide +kernel
theorem dX8_make_5 : decode cX8_make 5 = .ok (.iload_n 2, 1) := by decide +kernel
theorem dX8_make_6 : decode cX8_make 6 = .ok (.iconst 1, 1) := by decide +kernel
theorem dX8_make_7 : decode cX8_make 7 = .ok (.if_icmp .ge 10, 3) := by decide +kernel
theorem dX8_make_10 : decode cX8_make 10 = .ok (.aload_n 0, 1) := by decide +kernel
theorem dX8_make_11 : decode cX8_make 11 = .ok (.bipush (-4), 2) := by decide +kernel
theorem dX8_make_13 : decode cX8_make 13 = .ok (.invokevirtual 51, 3) := by decide +kernel
theorem dX8_make_16 : decode cX8_make 16 = .ok (.ireturn, 1) := by decide +kernel
theorem dX8_make_17 : decode cX8_make 17 = .ok (.iload_n 1, 1) := by decide +kernel
theorem dX8_make_18 : decode cX8_make 18 = .ok (.iconst 5, 1) := by decide +kernel
theorem dX8_make_19 : decode cX8_make 19 = .ok (.if_icmp .gt 9, 3) := by decide +kernel
theorem dX8_make_22 : decode cX8_make 22 = .ok (.iload_n 2, 1) := by decide +kernel
theorem dX8_make_23 : decode cX8_make 23 = .ok (.bipush 8, 2) := by decide +kernel
theorem dX8_make_25 : decode cX8_make 25 = .ok (.if_icmp .le 10, 3) := by decide +kernel
theorem dX8_make_28 : decode cX8_make 28 = .ok (.aload_n 0, 1) := by decide +kernel
theorem dX8_make_29 : decode cX8_make 29 = .ok (.bipush (-6), 2) := by decide +kernel
theorem dX8_make_31 : decode cX8_make 31 = .ok (.invokevirtual 51, 3) := by decide +kernel
theorem dX8_make_34 : decode cX8_make 34 = .ok (.ireturn, 1) := by decide +kernel
theorem dX8_make_35 : decode cX8_make 35 = .ok (.aload_n 0, 1) := by decide +kernel
theorem dX8_make_36 : decode cX8_make 36 = .ok (.iload_n 1, 1) := by decide +kernel
theorem dX8_make_37 : decode cX8_make 37 = .ok (.iload_n 2, 1) := by decide +kernel
theorem dX8_make_38 : decode cX8_make 38 = .ok (.invokevirtual 46, 3) := by decide +kernel
theorem dX8_make_41 : decode cX8_make 41 = .ok (.aload_n 0, 1) := by decide +kernel
theorem dX8_make_42 : decode cX8_make 42 = .ok (.getfield 62, 3) := by decide +kernel
theorem dX8_make_45 : decode cX8_make 45 = .ok (.ireturn, 1) := by decide +kernel
set_option maxRecDepth 20000 in
theorem ggX8_isCode_X8_isIn : GoodIn wsX8_isCode wsX8_isIn := goodIn_r _ [5] (by decide +kernel) (by decide +kernel)
set_option maxRecDepth 20000 in
theorem gX8_isCode_X8_isIn : GoodIn wsX8_isCode (va_wsS RX8 80 yX8_isIn wsX8_isIn) := goodIn_app (goodIn_of _ (by decide +kernel)) ggX8_isCode_X8_isIn
theorem dX8_isCode_0 : decode cX8_isCode 0 = .ok (.iload_n 1, 1) := by decide +kernel
theorem dX8_isCode_1 : decode cX8_isCode 1 = .ok (.aload_n 0, 1) := by decide +kernel
theorem dX8_isCode_2 : decode cX8_isCode 2 = .ok (.getfield 62, 3) := by decide +kernel
theorem dX8_isCode_5 : decode cX8_isCode 5 = .ok (.invokestatic 80, 3) := by decide +kernel
theorem dX8_isCode_8 : decode cX8_isCode 8 = .ok (.ireturn, 1) := by decide +kernel
theorem dX8_size_0 : decode cX8_size 0 = .ok (.iload_n 1, 1) := by decide +kernel
theorem dX8_size_1 : decode cX8_size 1 = .ok (.aload_n 0, 1) := by decide +kernel
theorem dX8_size_2 : decode cX8_size 2 = .ok (.getfield 65, 3) := by decide +kernel
theorem dX8_size_5 : decode cX8_size 5 = .ok (.iconst 1, 1) := by decide +kernel
theorem dX8_size_6 : decode cX8_size 6 = .ok (.isub, 1) := by decide +kernel
theorem dX8_size_7 : decode cX8_size 7 = .ok (.iand, 1) := by decide +kernel
theorem dX8_size_8 : decode cX8_size 8 = .ok (.ireturn, 1) := by decide +kernel
set_option maxRecDepth 20000 in
theorem ggX8_isPlain_X8_size : GoodIn wsX8_isPlain wsX8_size := goodIn_r _ [6, 7, 8, 9, 10, 11, 12, 13, 14, 15, 16, 17, 18, 19, 20, 21, 22, 23, 24, 25, 26, 27, 28, 29, 30, 31, 32] (by decide +kernel) (by decide +kernel)
set_option maxRecDepth 20000 in
theorem gX8_isPlain_X8_size : GoodIn wsX8_isPlain (wsV RX8 84 RX8 yX8_size wsX8_size) := goodIn_app (goodIn_of _ (by decide +kernel)) ggX8_isPlain_X8_size
theorem dX8_isPlain_0 : decode cX8_isPlain 0 = .ok (.aload_n 0, 1) := by decide +kernel
theorem dX8_isPlain_1 : decode cX8_isPlain 1 = .ok (.iload_n 1, 1) := by decide +kernel
theorem dX8_isPlain_2 : decode cX8_isPlain 2 = .ok (.invokevirtual 84, 3) := by decide +kernel
theorem dX8_isPlain_5 : decode cX8_isPlain 5 = .ok (.aload_n 0, 1) := by decide +kernel
theorem dX8_isPlain_6 : decode cX8_isPlain 6 = .ok (.getfield 68, 3) := by decide +kernel
theorem dX8_isPlain_9 : decode cX8_isPlain 9 = .ok (.if_icmp .gt 7, 3) := by decide +kernel
theorem dX8_isPlain_12 : decode cX8_isPlain 12 = .ok (.iconst 1, 1) := by decide +kernel
theorem dX8_isPlain_13 : decode cX8_isPlain 13 = .ok (.goto 4, 3) := by decide +kernel
theorem dX8_isPlain_16 : decode cX8_isPlain 16 = .ok (.iconst 0, 1) := by decide +kernel
theorem dX8_isPlain_17 : decode cX8_isPlain 17 = .ok (.ireturn, 1) := by decide +kernel
theorem dX8_figure_0 : decode cX8_figure 0 = .ok (.iload_n 1, 1) := by decide +kernel
theorem dX8_figure_1 : decode cX8_figure 1 = .ok (.aload_n 0, 1) := by decide +kernel
theorem dX8_figure_2 : decode cX8_figure 2 = .ok (.getfield 59, 3) := by decide +kernel
theorem dX8_figure_5 : decode cX8_figure 5 = .ok (.ishr, 1) := by decide +kernel
theorem dX8_figure_6 : decode cX8_figure 6 = .ok (.ifCond .ne 7, 3) := by decide +kernel
theorem dX8_figure_9 : decode cX8_figure 9 = .ok (.iload_n 1, 1) := by decide +kernel
theorem dX8_figure_10 : decode cX8_figure 10 = .ok (.goto 20, 3) := by decide +kernel
theorem dX8_figure_13 : decode cX8_figure 13 = .ok (.iconst 1, 1) := by decide +kernel
theorem dX8_figure_14 : decode cX8_figure 14 = .ok (.aload_n 0, 1) := by decide +kernel
theorem dX8_figure_15 : decode cX8_figure 15 = .ok (.getfield 59, 3) := by decide +kernel
theorem dX8_figure_18 : decode cX8_figure 18 = .ok (.ishl, 1) := by decide +kernel
theorem dX8_figure_19 : decode cX8_figure 19 = .ok (.iload_n 1, 1) := by decide +kernel
theorem dX8_figure_20 : decode cX8_figure 20 = .ok (.iconst 1, 1) := by decide +kernel
theorem dX8_figure_21 : decode cX8_figure 21 = .ok (.aload_n 0, 1) := by decide +kernel
theorem dX8_figure_22 : decode cX8_figure 22 = .ok (.getfield 59, 3) := by decide +kernel
theorem dX8_figure_25 : decode cX8_figure 25 = .ok (.ishl, 1) := by decide +kernel
theorem dX8_figure_26 : decode cX8_figure 26 = .ok (.iconst 1, 1) := by decide +kernel
theorem dX8_figure_27 : decode cX8_figure 27 = .ok (.isub, 1) := by decide +kernel
theorem dX8_figure_28 : decode cX8_figure 28 = .ok (.iand, 1) := by decide +kernel
theorem dX8_figure_29 : decode cX8_figure 29 = .ok (.iadd, 1) := by decide +kernel
theorem dX8_figure_30 : decode cX8_figure 30 = .ok (.ireturn, 1) := by decide +kernel
theorem dX8_power_0 : decode cX8_power 0 = .ok (.aload_n 0, 1) := by decide +kernel
theorem dX8_power_1 : decode cX8_power 1 = .ok (.getfield 71, 3) := by decide +kernel
theorem dX8_power_4 : decode cX8_power 4 = .ok (.iload_n 1, 1) := by decide +kernel
theorem dX8_power_5 : decode cX8_power 5 = .ok (.aload_n 0, 1) := by decide +kernel
theorem dX8_power_6 : decode cX8_power 6 = .ok (.getfield 59, 3) := by decide +kernel
theorem dX8_power_9 : decode cX8_power 9 = .ok (.ishr, 1) := by decide +kernel
theorem dX8_power_10 : decode cX8_power 10 = .ok (.ifCond .ne 7, 3) := by decide +kernel
theorem dX8_power_13 : decode cX8_power 13 = .ok (.iconst 0, 1) := by decide +kernel
theorem dX8_power_14 : decode cX8_power 14 = .ok (.goto 11, 3) := by decide +kernel
theorem dX8_power_17 : decode cX8_power 17 = .ok (.iload_n 1, 1) := by decide +kernel
theorem dX8_power_18 : decode cX8_power 18 = .ok (.aload_n 0, 1) := by decide +kernel
theorem dX8_power_19 : decode cX8_power 19 = .ok (.getfield 59, 3) := by decide +kernel
theorem dX8_power_22 : decode cX8_power 22 = .ok (.ishr, 1) := by decide +kernel
theorem dX8_power_23 : decode cX8_power 23 = .ok (.iconst 1, 1) := by decide +kernel
theorem dX8_power_24 : decode cX8_power 24 = .ok (.isub, 1) := by decide +kernel
theorem dX8_power_25 : decode cX8_power 25 = .ok (.iadd, 1) := by decide +kernel
theorem dX8_power_26 : decode cX8_power 26 = .ok (.ireturn, 1) := by decide +kernel
set_option maxRecDepth 20000 in
theorem ggX8_kind_X8_size : GoodIn wsX8_kind wsX8_size := goodIn_r _ [6, 7, 8, 9, 10, 11, 12, 13, 14, 15, 16, 17, 18, 19, 20, 21, 22, 23, 24, 25, 26, 27, 28, 29, 30, 31, 32] (by decide +kernel) (by decide +kernel)
set_option maxRecDepth 20000 in
theorem gX8_kind_X8_size : GoodIn wsX8_kind (wsV RX8 84 RX8 yX8_size wsX8_size) := goodIn_app (goodIn_of _ (by decide +kernel)) ggX8_kind_X8_size
theorem dX8_kind_0 : decode cX8_kind 0 = .ok (.aload_n 0, 1) := by decide +kernel
theorem dX8_kind_1 : decode cX8_kind 1 = .ok (.iload_n 1, 1) := by decide +kernel
theorem dX8_kind_2 : decode cX8_kind 2 = .ok (.invokevirtual 84, 3) := by decide +kernel
theorem dX8_kind_5 : decode cX8_kind 5 = .ok (.istore_n 2, 1) := by decide +kernel
theorem dX8_kind_6 : decode cX8_kind 6 = .ok (.iload_n 2, 1) := by decide +kernel
theorem dX8_kind_7 : decode cX8_kind 7 = .ok (.ifCond .ne 7, 3) := by decide +kernel
theorem dX8_kind_10 : decode cX8_kind 10 = .ok (.iconst 1, 1) := by decide +kernel
theorem dX8_kind_11 : decode cX8_kind 11 = .ok (.goto 30, 3) := by decide +kernel
theorem dX8_kind_14 : decode cX8_kind 14 = .ok (.iload_n 2, 1) := by decide +kernel
theorem dX8_kind_15 : decode cX8_kind 15 = .ok (.aload_n 0, 1) := by decide +kernel
theorem dX8_kind_16 : decode cX8_kind 16 = .ok (.getfield 68, 3) := by decide +kernel
theorem dX8_kind_19 : decode cX8_kind 19 = .ok (.if_icmp .gt 7, 3) := by decide +kernel
theorem dX8_kind_22 : decode cX8_kind 22 = .ok (.iconst 0, 1) := by decide +kernel
theorem dX8_kind_23 : decode cX8_kind 23 = .ok (.goto 18, 3) := by decide +kernel
theorem dX8_kind_26 : decode cX8_kind 26 = .ok (.iload_n 2, 1) := by decide +kernel
theorem dX8_kind_27 : decode cX8_kind 27 = .ok (.aload_n 0, 1) := by decide +kernel
theorem dX8_kind_28 : decode cX8_kind 28 = .ok (.getfield 68, 3) := by decide +kernel
theorem dX8_kind_31 : decode cX8_kind 31 = .ok (.iconst 1, 1) := by decide +kernel
theorem dX8_kind_32 : decode cX8_kind 32 = .ok (.iadd, 1) := by decide +kernel
theorem dX8_kind_33 : decode cX8_kind 33 = .ok (.if_icmp .ne 7, 3) := by decide +kernel
theorem dX8_kind_36 : decode cX8_kind 36 = .ok (.iconst 2, 1) := by decide +kernel
theorem dX8_kind_37 : decode cX8_kind 37 = .ok (.goto 4, 3) := by decide +kernel
theorem dX8_kind_40 : decode cX8_kind 40 = .ok (.iconst 3, 1) := by decide +kernel
theorem dX8_kind_41 : decode cX8_kind 41 = .ok (.ireturn, 1) := by decide +kernel
set_option maxRecDepth 20000 in
theorem ggX8_about_X8_isCode : GoodIn wsX8_about wsX8_isCode := goodIn_r _ [7, 8, 9, 10, 6, 11, 44, 45, 46, 47, 48, 49, 50, 51, 52, 53, 54, 55, 56, 57, 58, 59, 60, 61, 62, 63, 64, 65, 66, 67, 68] (by decide +kernel) (by decide +kernel)
set_option maxRecDepth 20000 in
theorem gX8_about_X8_isCode : GoodIn wsX8_about (wsV RX8 87 RX8 yX8_isCode wsX8_isCode) := goodIn_app (goodIn_of _ (by decide +kernel)) ggX8_about_X8_isCode
set_option maxRecDepth 20000 in
theorem ggX8_about_X8_refuseFar : GoodIn wsX8_about wsX8_refuseFar := goodIn_r _ [15, 16, 17, 18, 19, 6, 20, 21, 44, 45, 46, 47, 48, 49, 50, 51, 52, 53, 54, 55, 56, 57, 58, 59, 60, 61, 62, 63, 64, 65, 66, 67, 68] (by decide +kernel) (by decide +kernel)
set_option maxRecDepth 20000 in
theorem gX8_about_X8_refuseFar : GoodIn wsX8_about (wsV RX8 91 RX8 yX8_refuseFar wsX8_refuseFar) := goodIn_app (goodIn_of _ (by decide +kernel)) ggX8_about_X8_refuseFar
set_option maxRecDepth 20000 in
theorem ggX8_about_X8_isIn : GoodIn wsX8_about wsX8_isIn := goodIn_r _ [11] (by decide +kernel) (by decide +kernel)
set_option maxRecDepth 20000 in
theorem gX8_about_X8_isIn : GoodIn wsX8_about (va_wsS RX8 80 yX8_isIn wsX8_isIn) := goodIn_app (goodIn_of _ (by decide +kernel)) ggX8_about_X8_isIn
set_option maxRecDepth 20000 in
theorem ggX8_about_X8_size : GoodIn wsX8_about wsX8_size := goodIn_r _ [25, 1, 44, 45, 46, 47, 48, 49, 50, 51, 52, 53, 54, 55, 56, 57, 58, 59, 60, 61, 62, 63, 64, 65, 66, 67, 68] (by decide +kernel) (by decide +kernel)
set_option maxRecDepth 20000 in
theorem gX8_about_X8_size : GoodIn wsX8_about (wsV RX8 84 RX8 yX8_size wsX8_size) := goodIn_app (goodIn_of _ (by decide +kernel)) ggX8_about_X8_size
set_option maxRecDepth 20000 in
theorem ggX8_about_X8_kind : GoodIn wsX8_about wsX8_kind := goodIn_r _ [29, 30, 22, 23, 24, 6, 25, 1, 44, 45, 46, 47, 48, 49, 50, 51, 52, 53, 54, 55, 56, 57, 58, 59, 60, 61, 62, 63, 64, 65, 66, 67, 68] (by decide +kernel) (by decide +kernel)
set_option maxRecDepth 20000 in
theorem gX8_about_X8_kind : GoodIn wsX8_about (wsV RX8 94 RX8 yX8_kind wsX8_kind) := goodIn_app (goodIn_of _ (by decide +kernel)) ggX8_about_X8_kind
set_option maxRecDepth 20000 in
theorem ggX8_about_X8_isPlain : GoodIn wsX8_about wsX8_isPlain := goodIn_r _ [34, 30, 22, 23, 24, 6, 25, 1, 44, 45, 46, 47, 48, 49, 50, 51, 52, 53, 54, 55, 56, 57, 58, 59, 60, 61, 62, 63, 64, 65, 66, 67, 68] (by decide +kernel) (by decide +kernel)
set_option maxRecDepth 20000 in
theorem gX8_about_X8_isPlain : GoodIn wsX8_about (wsV RX8 97 RX8 yX8_isPlain wsX8_isPlain) := goodIn_app (goodIn_of _ (by decide +kernel)) ggX8_about_X8_isPlain
set_option maxRecDepth 20000 in
theorem ggX8_about_X8_figure : GoodIn wsX8_about wsX8_figure := goodIn_r _ [38, 2, 44, 45, 46, 47, 48, 49, 50, 51, 52, 53, 54, 55, 56, 57, 58, 59, 60, 61, 62, 63, 64, 65, 66, 67, 68] (by decide +kernel) (by decide +kernel)
set_option maxRecDepth 20000 in
theorem gX8_about_X8_figure : GoodIn wsX8_about (wsV RX8 100 RX8 yX8_figure wsX8_figure) := goodIn_app (goodIn_of _ (by decide +kernel)) ggX8_about_X8_figure
set_option maxRecDepth 20000 in
theorem ggX8_about_X8_power : GoodIn wsX8_about wsX8_power := goodIn_r _ [42, 43, 2, 44, 45, 46, 47, 48, 49, 50, 51, 52, 53, 54, 55, 56, 57, 58, 59, 60, 61, 62, 63, 64, 65, 66, 67, 68] (by decide +kernel) (by decide +kernel)
set_option maxRecDepth 20000 in
theorem gX8_about_X8_power : GoodIn wsX8_about (wsV RX8 103 RX8 yX8_power wsX8_power) := goodIn_app (goodIn_of _ (by decide +kernel)) ggX8_about_X8_power
theorem dX8_about_0 : decode cX8_about 0 = .ok (.aload_n 0, 1) := by decide +kernel
theorem dX8_about_1 : decode cX8_about 1 = .ok (.iload_n 1, 1) := by decide +kernel
theorem dX8_about_2 : decode cX8_about 2 = .ok (.invokevirtual 87, 3) := by decide +kernel
theorem dX8_about_5 : decode cX8_about 5 = .ok (.ifCond .ne 9, 3) := by decide +kernel
theorem dX8_about_8 : decode cX8_about 8 = .ok (.aload_n 0, 1) := by decide +kernel
theorem dX8_about_9 : decode cX8_about 9 = .ok (.iconst (-1), 1) := by decide +kernel
theorem dX8_about_10 : decode cX8_about 10 = .ok (.invokevirtual 91, 3) := by decide +kernel
theorem dX8_about_13 : decode cX8_about 13 = .ok (.ireturn, 1) := by decide +kernel
theorem dX8_about_14 : decode cX8_about 14 = .ok (.iload_n 2, 1) := by decide +kernel
theorem dX8_about_15 : decode cX8_about 15 = .ok (.bipush 6, 2) := by decide +kernel
theorem dX8_about_17 : decode cX8_about 17 = .ok (.invokestatic 80, 3) := by decide +kernel
theorem dX8_about_20 : decode cX8_about 20 = .ok (.ifCond .ne 10, 3) := by decide +kernel
theorem dX8_about_23 : decode cX8_about 23 = .ok (.aload_n 0, 1) := by decide +kernel
theorem dX8_about_24 : decode cX8_about 24 = .ok (.bipush (-2), 2) := by decide +kernel
theorem dX8_about_26 : decode cX8_about 26 = .ok (.invokevirtual 91, 3) := by decide +kernel
theorem dX8_about_29 : decode cX8_about 29 = .ok (.ireturn, 1) := by decide +kernel
theorem dX8_about_30 : decode cX8_about 30 = .ok (.aload_n 0, 1) := by decide +kernel
theorem dX8_about_31 : decode cX8_about 31 = .ok (.iload_n 1, 1) := by decide +kernel
theorem dX8_about_32 : decode cX8_about 32 = .ok (.invokevirtual 84, 3) := by decide +kernel
theorem dX8_about_35 : decode cX8_about 35 = .ok (.istore_n 3, 1) := by decide +kernel
theorem dX8_about_36 : decode cX8_about 36 = .ok (.iload_n 2, 1) := by decide +kernel
theorem dX8_about_37 : decode cX8_about 37 = .ok (.tableswitch 62 0 3 #[31, 37, 44, 51], 31) := by decide +kernel
theorem dX8_about_68 : decode cX8_about 68 = .ok (.aload_n 0, 1) := by decide +kernel
theorem dX8_about_69 : decode cX8_about 69 = .ok (.iload_n 1, 1) := by decide +kernel
theorem dX8_about_70 : decode cX8_about 70 = .ok (.invokevirtual 94, 3) := by decide +kernel
theorem dX8_about_73 : decode cX8_about 73 = .ok (.ireturn, 1) := by decide +kernel
theorem dX8_about_74 : decode cX8_about 74 = .ok (.iload_n 1, 1) := by decide +kernel
theorem dX8_about_75 : decode cX8_about 75 = .ok (.aload_n 0, 1) := by decide +kernel
theorem dX8_about_76 : decode cX8_about 76 = .ok (.getfield 65, 3) := by decide +kernel
theorem dX8_about_79 : decode cX8_about 79 = .ok (.idiv, 1) := by decide +kernel
theorem dX8_about_80 : decode cX8_about 80 = .ok (.ireturn, 1) := by decide +kernel
theorem dX8_about_81 : decode cX8_about 81 = .ok (.iload_n 3, 1) := by decide +kernel
theorem dX8_about_82 : decode cX8_about 82 = .ok (.aload_n 0, 1) := by decide +kernel
theorem dX8_about_83 : decode cX8_about 83 = .ok (.getfield 59, 3) := by decide +kernel
theorem dX8_about_86 : decode cX8_about 86 = .ok (.ishr, 1) := by decide +kernel
theorem dX8_about_87 : decode cX8_about 87 = .ok (.ireturn, 1) := by decide +kernel
theorem dX8_about_88 : decode cX8_about 88 = .ok (.iload_n 3, 1) := by decide +kernel
theorem dX8_about_89 : decode cX8_about 89 = .ok (.iconst 1, 1) := by decide +kernel
theorem dX8_about_90 : decode cX8_about 90 = .ok (.aload_n 0, 1) := by decide +kernel
theorem dX8_about_91 : decode cX8_about 91 = .ok (.getfield 59, 3) := by decide +kernel
theorem dX8_about_94 : decode cX8_about 94 = .ok (.ishl, 1) := by decide +kernel
theorem dX8_about_95 : decode cX8_about 95 = .ok (.iconst 1, 1) := by decide +kernel
theorem dX8_about_96 : decode cX8_about 96 = .ok (.isub, 1) := by decide +kernel
theorem dX8_about_97 : decode cX8_about 97 = .ok (.iand, 1) := by decide +kernel
theorem dX8_about_98 : decode cX8_about 98 = .ok (.ireturn, 1) := by decide +kernel
theorem dX8_about_99 : decode cX8_about 99 = .ok (.aload_n 0, 1) := by decide +kernel
theorem dX8_about_100 : decode cX8_about 100 = .ok (.iload_n 1, 1) := by decide +kernel
theorem dX8_about_101 : decode cX8_about 101 = .ok (.invokevirtual 97, 3) := by decide +kernel
theorem dX8_about_104 : decode cX8_about 104 = .ok (.ifCond .ne 10, 3) := by decide +kernel
theorem dX8_about_107 : decode cX8_about 107 = .ok (.aload_n 0, 1) := by decide +kernel
theorem dX8_about_108 : decode cX8_about 108 = .ok (.bipush (-3), 2) := by decide +kernel
theorem dX8_about_110 : decode cX8_about 110 = .ok (.invokevirtual 91, 3) := by decide +kernel
theorem dX8_about_113 : decode cX8_about 113 = .ok (.ireturn, 1) := by decide +kernel
theorem dX8_about_114 : decode cX8_about 114 = .ok (.aload_n 0, 1) := by decide +kernel
theorem dX8_about_115 : decode cX8_about 115 = .ok (.iload_n 3, 1) := by decide +kernel
theorem dX8_about_116 : decode cX8_about 116 = .ok (.invokevirtual 100, 3) := by decide +kernel
theorem dX8_about_119 : decode cX8_about 119 = .ok (.istore 4, 2) := by decide +kernel
theorem dX8_about_121 : decode cX8_about 121 = .ok (.aload_n 0, 1) := by decide +kernel
theorem dX8_about_122 : decode cX8_about 122 = .ok (.iload_n 3, 1) := by decide +kernel
theorem dX8_about_123 : decode cX8_about 123 = .ok (.invokevirtual 103, 3) := by decide +kernel
theorem dX8_about_126 : decode cX8_about 126 = .ok (.istore 5, 2) := by decide +kernel
theorem dX8_about_128 : decode cX8_about 128 = .ok (.iload 4, 2) := by decide +kernel
theorem dX8_about_130 : decode cX8_about 130 = .ok (.ifCond .le 22, 3) := by decide +kernel
theorem dX8_about_133 : decode cX8_about 133 = .ok (.iload 4, 2) := by decide +kernel
theorem dX8_about_135 : decode cX8_about 135 = .ok (.iconst 2, 1) := by decide +kernel
theorem dX8_about_136 : decode cX8_about 136 = .ok (.irem, 1) := by decide +kernel
theorem dX8_about_137 : decode cX8_about 137 = .ok (.ifCond .ne 15, 3) := by decide +kernel
theorem dX8_about_140 : decode cX8_about 140 = .ok (.iload 4, 2) := by decide +kernel
theorem dX8_about_142 : decode cX8_about 142 = .ok (.iconst 2, 1) := by decide +kernel
theorem dX8_about_143 : decode cX8_about 143 = .ok (.idiv, 1) := by decide +kernel
theorem dX8_about_144 : decode cX8_about 144 = .ok (.istore 4, 2) := by decide +kernel
theorem dX8_about_146 : decode cX8_about 146 = .ok (.iinc 5 1, 3) := by decide +kernel
theorem dX8_about_149 : decode cX8_about 149 = .ok (.goto (-21), 3) := by decide +kernel
theorem dX8_about_152 : decode cX8_about 152 = .ok (.iload_n 2, 1) := by decide +kernel
theorem dX8_about_153 : decode cX8_about 153 = .ok (.iconst 4, 1) := by decide +kernel
theorem dX8_about_154 : decode cX8_about 154 = .ok (.if_icmp .ne 8, 3) := by decide +kernel
theorem dX8_about_157 : decode cX8_about 157 = .ok (.iload 4, 2) := by decide +kernel
theorem dX8_about_159 : decode cX8_about 159 = .ok (.goto 14, 3) := by decide +kernel
theorem dX8_about_162 : decode cX8_about 162 = .ok (.iload 4, 2) := by decide +kernel
theorem dX8_about_164 : decode cX8_about 164 = .ok (.ifCond .ne 7, 3) := by decide +kernel
theorem dX8_about_167 : decode cX8_about 167 = .ok (.iconst 0, 1) := by decide +kernel
theorem dX8_about_168 : decode cX8_about 168 = .ok (.goto 5, 3) := by decide +kernel
theorem dX8_about_171 : decode cX8_about 171 = .ok (.iload 5, 2) := by decide +kernel
theorem dX8_about_173 : decode cX8_about 173 = .ok (.ireturn, 1) := by decide +kernel
set_option maxRecDepth 20000 in
theorem ggX8_next_X8_isCode : GoodIn wsX8_next wsX8_isCode := goodIn_r _ [6, 7, 8, 9, 5, 10, 25, 26, 27, 28, 29, 30, 31, 32, 33, 34, 35, 36, 37, 38, 39, 40, 41, 42, 43, 44, 45, 46, 47, 48, 49] (by decide +kernel) (by decide +kernel)
set_option maxRecDepth 20000 in
theorem gX8_next_X8_isCode : GoodIn wsX8_next (wsV RX8 87 RX8 yX8_isCode wsX8_isCode) := goodIn_app (goodIn_of _ (by decide +kernel)) ggX8_next_X8_isCode
set_option maxRecDepth 20000 in
theorem ggX8_next_X8_refuse : GoodIn wsX8_next wsX8_refuse := goodIn_r _ [14, 15, 25, 26, 27, 28, 29, 30, 31, 32, 33, 34, 35, 36, 37, 38, 39, 40, 41, 42, 43, 44, 45, 46, 47, 48, 49] (by decide +kernel) (by decide +kernel)
set_option maxRecDepth 20000 in
theorem gX8_next_X8_refuse : GoodIn wsX8_next (wsV RX8 51 RX8 yX8_refuse wsX8_refuse) := goodIn_app (goodIn_of _ (by decide +kernel)) ggX8_next_X8_refuse
set_option maxRecDepth 20000 in
theorem ggX8_next_X8_isPlain : GoodIn wsX8_next wsX8_isPlain := goodIn_r _ [19, 20, 21, 22, 23, 5, 24, 1, 25, 26, 27, 28, 29, 30, 31, 32, 33, 34, 35, 36, 37, 38, 39, 40, 41, 42, 43, 44, 45, 46, 47, 48, 49] (by decide +kernel) (by decide +kernel)
set_option maxRecDepth 20000 in
theorem gX8_next_X8_isPlain : GoodIn wsX8_next (wsV RX8 97 RX8 yX8_isPlain wsX8_isPlain) := goodIn_app (goodIn_of _ (by decide +kernel)) ggX8_next_X8_isPlain
set_option maxRecDepth 20000 in
theorem ggX8_next_X8_size : GoodIn wsX8_next wsX8_size := goodIn_r _ [24, 1, 25, 26, 27, 28, 29, 30, 31, 32, 33, 34, 35, 36, 37, 38, 39, 40, 41, 42, 43, 44, 45, 46, 47, 48, 49] (by decide +kernel) (by decide +kernel)
set_option maxRecDepth 20000 in
theorem gX8_next_X8_size : GoodIn wsX8_next (wsV RX8 84 RX8 yX8_size wsX8_size) := goodIn_app (goodIn_of _ (by decide +kernel)) ggX8_next_X8_size
theorem dX8_next_0 : decode cX8_next 0 = .ok (.aload_n 0, 1) := by decide +kernel
theorem dX8_next_1 : decode cX8_next 1 = .ok (.iload_n 1, 1) := by decide +kernel
theorem dX8_next_2 : decode cX8_next 2 = .ok (.invokevirtual 87, 3) := by decide +kernel
theorem dX8_next_5 : decode cX8_next 5 = .ok (.ifCond .ne 9, 3) := by decide +kernel
theorem dX8_next_8 : decode cX8_next 8 = .ok (.aload_n 0, 1) := by decide +kernel
theorem dX8_next_9 : decode cX8_next 9 = .ok (.iconst (-1), 1) := by decide +kernel
theorem dX8_next_10 : decode cX8_next 10 = .ok (.invokevirtual 51, 3) := by decide +kernel
theorem dX8_next_13 : decode cX8_next 13 = .ok (.ireturn, 1) := by decide +kernel
theorem dX8_next_14 : decode cX8_next 14 = .ok (.aload_n 0, 1) := by decide +kernel
theorem dX8_next_15 : decode cX8_next 15 = .ok (.iload_n 1, 1) := by decide +kernel
theorem dX8_next_16 : decode cX8_next 16 = .ok (.invokevirtual 97, 3) := by decide +kernel
theorem dX8_next_19 : decode cX8_next 19 = .ok (.ifCond .ne 10, 3) := by decide +kernel
theorem dX8_next_22 : decode cX8_next 22 = .ok (.aload_n 0, 1) := by decide +kernel
theorem dX8_next_23 : decode cX8_next 23 = .ok (.bipush (-3), 2) := by decide +kernel
theorem dX8_next_25 : decode cX8_next 25 = .ok (.invokevirtual 51, 3) := by decide +kernel
theorem dX8_next_28 : decode cX8_next 28 = .ok (.ireturn, 1) := by decide +kernel
theorem dX8_next_29 : decode cX8_next 29 = .ok (.aload_n 0, 1) := by decide +kernel
theorem dX8_next_30 : decode cX8_next 30 = .ok (.iload_n 1, 1) := by decide +kernel
theorem dX8_next_31 : decode cX8_next 31 = .ok (.invokevirtual 84, 3) := by decide +kernel
theorem dX8_next_34 : decode cX8_next 34 = .ok (.istore_n 2, 1) := by decide +kernel
theorem dX8_next_35 : decode cX8_next 35 = .ok (.iload_n 2, 1) := by decide +kernel
theorem dX8_next_36 : decode cX8_next 36 = .ok (.ifCond .ne 5, 3) := by decide +kernel
theorem dX8_next_39 : decode cX8_next 39 = .ok (.iconst 1, 1) := by decide +kernel
theorem dX8_next_40 : decode cX8_next 40 = .ok (.ireturn, 1) := by decide +kernel
theorem dX8_next_41 : decode cX8_next 41 = .ok (.iload_n 1, 1) := by decide +kernel
theorem dX8_next_42 : decode cX8_next 42 = .ok (.aload_n 0, 1) := by decide +kernel
theorem dX8_next_43 : decode cX8_next 43 = .ok (.getfield 65, 3) := by decide +kernel
theorem dX8_next_46 : decode cX8_next 46 = .ok (.if_icmp .ge 7, 3) := by decide +kernel
theorem dX8_next_49 : decode cX8_next 49 = .ok (.iload_n 1, 1) := by decide +kernel
theorem dX8_next_50 : decode cX8_next 50 = .ok (.iconst 1, 1) := by decide +kernel
theorem dX8_next_51 : decode cX8_next 51 = .ok (.iadd, 1) := by decide +kernel
theorem dX8_next_52 : decode cX8_next 52 = .ok (.ireturn, 1) := by decide +kernel
theorem dX8_next_53 : decode cX8_next 53 = .ok (.iload_n 2, 1) := by decide +kernel
theorem dX8_next_54 : decode cX8_next 54 = .ok (.iconst 1, 1) := by decide +kernel
theorem dX8_next_55 : decode cX8_next 55 = .ok (.if_icmp .ne 7, 3) := by decide +kernel
theorem dX8_next_58 : decode cX8_next 58 = .ok (.iconst 0, 1) := by decide +kernel
theorem dX8_next_59 : decode cX8_next 59 = .ok (.goto 6, 3) := by decide +kernel
theorem dX8_next_62 : decode cX8_next 62 = .ok (.iload_n 1, 1) := by decide +kernel
theorem dX8_next_63 : decode cX8_next 63 = .ok (.iconst 1, 1) := by decide +kernel
theorem dX8_next_64 : decode cX8_next 64 = .ok (.isub, 1) := by decide +kernel
theorem dX8_next_65 : decode cX8_next 65 = .ok (.ireturn, 1) := by decide +kernel
set_option maxRecDepth 20000 in
theorem ggX8_placeOf_X8_size : GoodIn wsX8_placeOf wsX8_size := goodIn_r _ [6, 1, 7, 8, 9, 10, 11, 12, 13, 14, 15, 16, 17, 18, 19, 20, 21, 22, 23, 24, 25, 26, 27, 28, 29, 30, 31] (by decide +kernel) (by decide +kernel)
set_option maxRecDepth 20000 in
theorem gX8_placeOf_X8_size : GoodIn wsX8_placeOf (wsV RX8 84 RX8 yX8_size wsX8_size) := goodIn_app (goodIn_of _ (by decide +kernel)) ggX8_placeOf_X8_size
theorem dX8_placeOf_0 : decode cX8_placeOf 0 = .ok (.iload_n 1, 1) := by decide +kernel
theorem dX8_placeOf_1 : decode cX8_placeOf 1 = .ok (.aload_n 0, 1) := by decide +kernel
theorem dX8_placeOf_2 : decode cX8_placeOf 2 = .ok (.getfield 65, 3) := by decide +kernel
theorem dX8_placeOf_5 : decode cX8_placeOf 5 = .ok (.if_icmp .ge 7, 3) := by decide +kernel
theorem dX8_placeOf_8 : decode cX8_placeOf 8 = .ok (.iload_n 1, 1) := by decide +kernel
theorem dX8_placeOf_9 : decode cX8_placeOf 9 = .ok (.goto 9, 3) := by decide +kernel
theorem dX8_placeOf_12 : decode cX8_placeOf 12 = .ok (.aload_n 0, 1) := by decide +kernel
theorem dX8_placeOf_13 : decode cX8_placeOf 13 = .ok (.iload_n 1, 1) := by decide +kernel
theorem dX8_placeOf_14 : decode cX8_placeOf 14 = .ok (.invokevirtual 84, 3) := by decide +kernel
theorem dX8_placeOf_17 : decode cX8_placeOf 17 = .ok (.ineg, 1) := by decide +kernel
theorem dX8_placeOf_18 : decode cX8_placeOf 18 = .ok (.ireturn, 1) := by decide +kernel
set_option maxRecDepth 20000 in
theorem ggX8_between_X8_isCode : GoodIn wsX8_between wsX8_isCode := goodIn_r _ [9, 10, 11, 12, 8, 13, 33, 34, 35, 36, 37, 38, 39, 40, 41, 42, 43, 44, 45, 46, 47, 48, 49, 50, 51, 52, 53, 54, 55, 56, 57] (by decide +kernel) (by decide +kernel)
set_option maxRecDepth 20000 in
theorem gX8_between_X8_isCode : GoodIn wsX8_between (wsV RX8 87 RX8 yX8_isCode wsX8_isCode) := goodIn_app (goodIn_of _ (by decide +kernel)) ggX8_between_X8_isCode
set_option maxRecDepth 20000 in
theorem ggX8_between_X8_refuse : GoodIn wsX8_between wsX8_refuse := goodIn_r _ [17, 18, 33, 34, 35, 36, 37, 38, 39, 40, 41, 42, 43, 44, 45, 46, 47, 48, 49, 50, 51, 52, 53, 54, 55, 56, 57] (by decide +kernel) (by decide +kernel)
set_option maxRecDepth 20000 in
theorem gX8_between_X8_refuse : GoodIn wsX8_between (wsV RX8 51 RX8 yX8_refuse wsX8_refuse) := goodIn_app (goodIn_of _ (by decide +kernel)) ggX8_between_X8_refuse
set_option maxRecDepth 20000 in
theorem ggX8_between_X8_isPlain : GoodIn wsX8_between wsX8_isPlain := goodIn_r _ [22, 23, 24, 25, 26, 8, 27, 28, 33, 34, 35, 36, 37, 38, 39, 40, 41, 42, 43, 44, 45, 46, 47, 48, 49, 50, 51, 52, 53, 54, 55, 56, 57] (by decide +kernel) (by decide +kernel)
set_option maxRecDepth 20000 in
theorem gX8_between_X8_isPlain : GoodIn wsX8_between (wsV RX8 97 RX8 yX8_isPlain wsX8_isPlain) := goodIn_app (goodIn_of _ (by decide +kernel)) ggX8_between_X8_isPlain
set_option maxRecDepth 20000 in
theorem ggX8_between_X8_placeOf : GoodIn wsX8_between wsX8_placeOf := goodIn_r _ [32, 28, 24, 25, 26, 8, 27, 33, 34, 35, 36, 37, 38, 39, 40, 41, 42, 43, 44, 45, 46, 47, 48, 49, 50, 51, 52, 53, 54, 55, 56, 57] (by decide +kernel) (by decide +kernel)
set_option maxRecDepth 20000 in
theorem gX8_between_X8_placeOf : GoodIn wsX8_between (wsV RX8 106 RX8 yX8_placeOf wsX8_placeOf) := goodIn_app (goodIn_of _ (by decide +kernel)) ggX8_between_X8_placeOf
theorem dX8_between_0 : decode cX8_between 0 = .ok (.aload_n 0, 1) := by decide +kernel
theorem dX8_between_1 : decode cX8_between 1 = .ok (.iload_n 1, 1) := by decide +kernel
theorem dX8_between_2 : decode cX8_between 2 = .ok (.invokevirtual 87, 3) := by decide +kernel
theorem dX8_between_5 : decode cX8_between 5 = .ok (.ifCond .eq 11, 3) := by decide +kernel
theorem dX8_between_8 : decode cX8_between 8 = .ok (.aload_n 0, 1) := by decide +kernel
theorem dX8_between_9 : decode cX8_between 9 = .ok (.iload_n 2, 1) := by decide +kernel
theorem dX8_between_10 : decode cX8_between 10 = .ok (.invokevirtual 87, 3) := by decide +kernel
theorem dX8_between_13 : decode cX8_between 13 = .ok (.ifCond .ne 9, 3) := by decide +kernel
theorem dX8_between_16 : decode cX8_between 16 = .ok (.aload_n 0, 1) := by decide +kernel
theorem dX8_between_17 : decode cX8_between 17 = .ok (.iconst (-1), 1) := by decide +kernel
theorem dX8_between_18 : decode cX8_between 18 = .ok (.invokevirtual 51, 3) := by decide +kernel
theorem dX8_between_21 : decode cX8_between 21 = .ok (.ireturn, 1) := by decide +kernel
theorem dX8_between_22 : decode cX8_between 22 = .ok (.aload_n 0, 1) := by decide +kernel
theorem dX8_between_23 : decode cX8_between 23 = .ok (.iload_n 1, 1) := by decide +kernel
theorem dX8_between_24 : decode cX8_between 24 = .ok (.invokevirtual 97, 3) := by decide +kernel
theorem dX8_between_27 : decode cX8_between 27 = .ok (.ifCond .eq 11, 3) := by decide +kernel
theorem dX8_between_30 : decode cX8_between 30 = .ok (.aload_n 0, 1) := by decide +kernel
theorem dX8_between_31 : decode cX8_between 31 = .ok (.iload_n 2, 1) := by decide +kernel
theorem dX8_between_32 : decode cX8_between 32 = .ok (.invokevirtual 97, 3) := by decide +kernel
theorem dX8_between_35 : decode cX8_between 35 = .ok (.ifCond .ne 10, 3) := by decide +kernel
theorem dX8_between_38 : decode cX8_between 38 = .ok (.aload_n 0, 1) := by decide +kernel
theorem dX8_between_39 : decode cX8_between 39 = .ok (.bipush (-3), 2) := by decide +kernel
theorem dX8_between_41 : decode cX8_between 41 = .ok (.invokevirtual 51, 3) := by decide +kernel
theorem dX8_between_44 : decode cX8_between 44 = .ok (.ireturn, 1) := by decide +kernel
theorem dX8_between_45 : decode cX8_between 45 = .ok (.aload_n 0, 1) := by decide +kernel
theorem dX8_between_46 : decode cX8_between 46 = .ok (.iload_n 1, 1) := by decide +kernel
theorem dX8_between_47 : decode cX8_between 47 = .ok (.invokevirtual 106, 3) := by decide +kernel
theorem dX8_between_50 : decode cX8_between 50 = .ok (.aload_n 0, 1) := by decide +kernel
theorem dX8_between_51 : decode cX8_between 51 = .ok (.iload_n 2, 1) := by decide +kernel
theorem dX8_between_52 : decode cX8_between 52 = .ok (.invokevirtual 106, 3) := by decide +kernel
theorem dX8_between_55 : decode cX8_between 55 = .ok (.isub, 1) := by decide +kernel
theorem dX8_between_56 : decode cX8_between 56 = .ok (.invokestatic 109, 3) := by decide +kernel
theorem dX8_between_59 : decode cX8_between 59 = .ok (.istore_n 3, 1) := by decide +kernel
theorem dX8_between_60 : decode cX8_between 60 = .ok (.iload_n 3, 1) := by decide +kernel
theorem dX8_between_61 : decode cX8_between 61 = .ok (.ifCond .ne 7, 3) := by decide +kernel
theorem dX8_between_64 : decode cX8_between 64 = .ok (.iconst 0, 1) := by decide +kernel
theorem dX8_between_65 : decode cX8_between 65 = .ok (.goto 6, 3) := by decide +kernel
theorem dX8_between_68 : decode cX8_between 68 = .ok (.iload_n 3, 1) := by decide +kernel
theorem dX8_between_69 : decode cX8_between 69 = .ok (.iconst 1, 1) := by decide +kernel
theorem dX8_between_70 : decode cX8_between 70 = .ok (.isub, 1) := by decide +kernel
theorem dX8_between_71 : decode cX8_between 71 = .ok (.ireturn, 1) := by decide +kernel
theorem dX8_bits_0 : decode cX8_bits 0 = .ok (.iconst 0, 1) := by decide +kernel
theorem dX8_bits_1 : decode cX8_bits 1 = .ok (.istore_n 2, 1) := by decide +kernel
theorem dX8_bits_2 : decode cX8_bits 2 = .ok (.lload_n 0, 1) := by decide +kernel
theorem dX8_bits_3 : decode cX8_bits 3 = .ok (.lstore_n 3, 1) := by decide +kernel
theorem dX8_bits_4 : decode cX8_bits 4 = .ok (.lload_n 3, 1) := by decide +kernel
theorem dX8_bits_5 : decode cX8_bits 5 = .ok (.lconst 0, 1) := by decide +kernel
theorem dX8_bits_6 : decode cX8_bits 6 = .ok (.lcmp, 1) := by decide +kernel
theorem dX8_bits_7 : decode cX8_bits 7 = .ok (.ifCond .le 13, 3) := by decide +kernel
theorem dX8_bits_10 : decode cX8_bits 10 = .ok (.iinc 2 1, 3) := by decide +kernel
theorem dX8_bits_13 : decode cX8_bits 13 = .ok (.lload_n 3, 1) := by decide +kernel
theorem dX8_bits_14 : decode cX8_bits 14 = .ok (.iconst 1, 1) := by decide +kernel
theorem dX8_bits_15 : decode cX8_bits 15 = .ok (.lshr, 1) := by decide +kernel
theorem dX8_bits_16 : decode cX8_bits 16 = .ok (.lstore_n 3, 1) := by decide +kernel
theorem dX8_bits_17 : decode cX8_bits 17 = .ok (.goto (-13), 3) := by decide +kernel
theorem dX8_bits_20 : decode cX8_bits 20 = .ok (.iload_n 2, 1) := by decide +kernel
theorem dX8_bits_21 : decode cX8_bits 21 = .ok (.ireturn, 1) := by decide +kernel
set_option maxRecDepth 20000 in
theorem ggX8_compare_X8_bits : GoodIn wsX8_compare wsX8_bits := goodIn_r _ [4] (by decide +kernel) (by decide +kernel)
set_option maxRecDepth 20000 in
theorem gX8_compare_X8_bits : GoodIn wsX8_compare (va_wsS RX8 114 yX8_bits wsX8_bits) := goodIn_app (goodIn_of _ (by decide +kernel)) ggX8_compare_X8_bits
theorem dX8_compare_0 : decode cX8_compare 0 = .ok (.lload_n 0, 1) := by decide +kernel
theorem dX8_compare_1 : decode cX8_compare 1 = .ok (.lconst 0, 1) := by decide +kernel
theorem dX8_compare_2 : decode cX8_compare 2 = .ok (.lcmp, 1) := by decide +kernel
theorem dX8_compare_3 : decode cX8_compare 3 = .ok (.ifCond .eq 9, 3) := by decide +kernel
theorem dX8_compare_6 : decode cX8_compare 6 = .ok (.lload_n 3, 1) := by decide +kernel
theorem dX8_compare_7 : decode cX8_compare 7 = .ok (.lconst 0, 1) := by decide +kernel
theorem dX8_compare_8 : decode cX8_compare 8 = .ok (.lcmp, 1) := by decide +kernel
theorem dX8_compare_9 : decode cX8_compare 9 = .ok (.ifCond .ne 25, 3) := by decide +kernel
theorem dX8_compare_12 : decode cX8_compare 12 = .ok (.lload_n 0, 1) := by decide +kernel
theorem dX8_compare_13 : decode cX8_compare 13 = .ok (.lload_n 3, 1) := by decide +kernel
theorem dX8_compare_14 : decode cX8_compare 14 = .ok (.lcmp, 1) := by decide +kernel
theorem dX8_compare_15 : decode cX8_compare 15 = .ok (.ifCond .ne 7, 3) := by decide +kernel
theorem dX8_compare_18 : decode cX8_compare 18 = .ok (.iconst 0, 1) := by decide +kernel
theorem dX8_compare_19 : decode cX8_compare 19 = .ok (.goto 14, 3) := by decide +kernel
theorem dX8_compare_22 : decode cX8_compare 22 = .ok (.lload_n 0, 1) := by decide +kernel
theorem dX8_compare_23 : decode cX8_compare 23 = .ok (.lconst 0, 1) := by decide +kernel
theorem dX8_compare_24 : decode cX8_compare 24 = .ok (.lcmp, 1) := by decide +kernel
theorem dX8_compare_25 : decode cX8_compare 25 = .ok (.ifCond .ne 7, 3) := by decide +kernel
theorem dX8_compare_28 : decode cX8_compare 28 = .ok (.iconst (-1), 1) := by decide +kernel
theorem dX8_compare_29 : decode cX8_compare 29 = .ok (.goto 4, 3) := by decide +kernel
theorem dX8_compare_32 : decode cX8_compare 32 = .ok (.iconst 1, 1) := by decide +kernel
theorem dX8_compare_33 : decode cX8_compare 33 = .ok (.ireturn, 1) := by decide +kernel
theorem dX8_compare_34 : decode cX8_compare 34 = .ok (.lload_n 0, 1) := by decide +kernel
theorem dX8_compare_35 : decode cX8_compare 35 = .ok (.invokestatic 114, 3) := by decide +kernel
theorem dX8_compare_38 : decode cX8_compare 38 = .ok (.iload_n 2, 1) := by decide +kernel
theorem dX8_compare_39 : decode cX8_compare 39 = .ok (.iadd, 1) := by decide +kernel
theorem dX8_compare_40 : decode cX8_compare 40 = .ok (.istore 6, 2) := by decide +kernel
theorem dX8_compare_42 : decode cX8_compare 42 = .ok (.lload_n 3, 1) := by decide +kernel
theorem dX8_compare_43 : decode cX8_compare 43 = .ok (.invokestatic 114, 3) := by decide +kernel
theorem dX8_compare_46 : decode cX8_compare 46 = .ok (.iload 5, 2) := by decide +kernel
theorem dX8_compare_48 : decode cX8_compare 48 = .ok (.iadd, 1) := by decide +kernel
theorem dX8_compare_49 : decode cX8_compare 49 = .ok (.istore 7, 2) := by decide +kernel
theorem dX8_compare_51 : decode cX8_compare 51 = .ok (.iload 6, 2) := by decide +kernel
theorem dX8_compare_53 : decode cX8_compare 53 = .ok (.iload 7, 2) := by decide +kernel
theorem dX8_compare_55 : decode cX8_compare 55 = .ok (.if_icmp .eq 16, 3) := by decide +kernel
theorem dX8_compare_58 : decode cX8_compare 58 = .ok (.iload 6, 2) := by decide +kernel
theorem dX8_compare_60 : decode cX8_compare 60 = .ok (.iload 7, 2) := by decide +kernel
theorem dX8_compare_62 : decode cX8_compare 62 = .ok (.if_icmp .ge 7, 3) := by decide +kernel
theorem dX8_compare_65 : decode cX8_compare 65 = .ok (.iconst (-1), 1) := by decide +kernel
theorem dX8_compare_66 : decode cX8_compare 66 = .ok (.goto 4, 3) := by decide +kernel
theorem dX8_compare_69 : decode cX8_compare 69 = .ok (.iconst 1, 1) := by decide +kernel
theorem dX8_compare_70 : decode cX8_compare 70 = .ok (.ireturn, 1) := by decide +kernel
theorem dX8_compare_71 : decode cX8_compare 71 = .ok (.iload_n 2, 1) := by decide +kernel
theorem dX8_compare_72 : decode cX8_compare 72 = .ok (.iload 5, 2) := by decide +kernel
theorem dX8_compare_74 : decode cX8_compare 74 = .ok (.if_icmp .le 12, 3) := by decide +kernel
theorem dX8_compare_77 : decode cX8_compare 77 = .ok (.lload_n 0, 1) := by decide +kernel
theorem dX8_compare_78 : decode cX8_compare 78 = .ok (.iload_n 2, 1) := by decide +kernel
theorem dX8_compare_79 : decode cX8_compare 79 = .ok (.iload 5, 2) := by decide +kernel
theorem dX8_compare_81 : decode cX8_compare 81 = .ok (.isub, 1) := by decide +kernel
theorem dX8_compare_82 : decode cX8_compare 82 = .ok (.lshl, 1) := by decide +kernel
theorem dX8_compare_83 : decode cX8_compare 83 = .ok (.goto 4, 3) := by decide +kernel
theorem dX8_compare_86 : decode cX8_compare 86 = .ok (.lload_n 0, 1) := by decide +kernel
theorem dX8_compare_87 : decode cX8_compare 87 = .ok (.lstore 8, 2) := by decide +kernel
theorem dX8_compare_89 : decode cX8_compare 89 = .ok (.iload 5, 2) := by decide +kernel
theorem dX8_compare_91 : decode cX8_compare 91 = .ok (.iload_n 2, 1) := by decide +kernel
theorem dX8_compare_92 : decode cX8_compare 92 = .ok (.if_icmp .le 12, 3) := by decide +kernel
theorem dX8_compare_95 : decode cX8_compare 95 = .ok (.lload_n 3, 1) := by decide +kernel
theorem dX8_compare_96 : decode cX8_compare 96 = .ok (.iload 5, 2) := by decide +kernel
theorem dX8_compare_98 : decode cX8_compare 98 = .ok (.iload_n 2, 1) := by decide +kernel
theorem dX8_compare_99 : decode cX8_compare 99 = .ok (.isub, 1) := by decide +kernel
theorem dX8_compare_100 : decode cX8_compare 100 = .ok (.lshl, 1) := by decide +kernel
theorem dX8_compare_101 : decode cX8_compare 101 = .ok (.goto 4, 3) := by decide +kernel
theorem dX8_compare_104 : decode cX8_compare 104 = .ok (.lload_n 3, 1) := by decide +kernel
theorem dX8_compare_105 : decode cX8_compare 105 = .ok (.lstore 10, 2) := by decide +kernel
theorem dX8_compare_107 : decode cX8_compare 107 = .ok (.lload 8, 2) := by decide +kernel
theorem dX8_compare_109 : decode cX8_compare 109 = .ok (.lload 10, 2) := by decide +kernel
theorem dX8_compare_111 : decode cX8_compare 111 = .ok (.lcmp, 1) := by decide +kernel
theorem dX8_compare_112 : decode cX8_compare 112 = .ok (.ifCond .ge 7, 3) := by decide +kernel
theorem dX8_compare_115 : decode cX8_compare 115 = .ok (.iconst (-1), 1) := by decide +kernel
theorem dX8_compare_116 : decode cX8_compare 116 = .ok (.goto 16, 3) := by decide +kernel
theorem dX8_compare_119 : decode cX8_compare 119 = .ok (.lload 8, 2) := by decide +kernel
theorem dX8_compare_121 : decode cX8_compare 121 = .ok (.lload 10, 2) := by decide +kernel
theorem dX8_compare_123 : decode cX8_compare 123 = .ok (.lcmp, 1) := by decide +kernel
theorem dX8_compare_124 : decode cX8_compare 124 = .ok (.ifCond .le 7, 3) := by decide +kernel
theorem dX8_compare_127 : decode cX8_compare 127 = .ok (.iconst 1, 1) := by decide +kernel
theorem dX8_compare_128 : decode cX8_compare 128 = .ok (.goto 4, 3) := by decide +kernel
theorem dX8_compare_131 : decode cX8_compare 131 = .ok (.iconst 0, 1) := by decide +kernel
theorem dX8_compare_132 : decode cX8_compare 132 = .ok (.ireturn, 1) := by decide +kernel
set_option maxRecDepth 20000 in
theorem ggX8_stands_X8_compare : GoodIn wsX8_stands wsX8_compare := goodIn_r _ [7, 8, 9, 6, 10] (by decide +kernel) (by decide +kernel)
set_option maxRecDepth 20000 in
theorem gX8_stands_X8_compare : GoodIn wsX8_stands (va_wsS RX8 128 yX8_compare wsX8_compare) := goodIn_app (goodIn_of _ (by decide +kernel)) ggX8_stands_X8_compare
theorem dX8_stands_0 : decode cX8_stands 0 = .ok (.aload_n 0, 1) := by decide +kernel
theorem dX8_stands_1 : decode cX8_stands 1 = .ok (.getfield 118, 3) := by decide +kernel
theorem dX8_stands_4 : decode cX8_stands 4 = .ok (.tableswitch 139 0 4 #[36, 54, 72, 92, 113], 36) := by decide +kernel
theorem dX8_stands_40 : decode cX8_stands 40 = .ok (.lconst 1, 1) := by decide +kernel
theorem dX8_stands_41 : decode cX8_stands 41 = .ok (.iconst 0, 1) := by decide +kernel
theorem dX8_stands_42 : decode cX8_stands 42 = .ok (.aload_n 0, 1) := by decide +kernel
theorem dX8_stands_43 : decode cX8_stands 43 = .ok (.getfield 121, 3) := by decide +kernel
theorem dX8_stands_46 : decode cX8_stands 46 = .ok (.lload_n 1, 1) := by decide +kernel
theorem dX8_stands_47 : decode cX8_stands 47 = .ok (.lmul, 1) := by decide +kernel
theorem dX8_stands_48 : decode cX8_stands 48 = .ok (.aload_n 0, 1) := by decide +kernel
theorem dX8_stands_49 : decode cX8_stands 49 = .ok (.getfield 125, 3) := by decide +kernel
theorem dX8_stands_52 : decode cX8_stands 52 = .ok (.iload_n 3, 1) := by decide +kernel
theorem dX8_stands_53 : decode cX8_stands 53 = .ok (.iadd, 1) := by decide +kernel
theorem dX8_stands_54 : decode cX8_stands 54 = .ok (.invokestatic 128, 3) := by decide +kernel
theorem dX8_stands_57 : decode cX8_stands 57 = .ok (.ireturn, 1) := by decide +kernel
theorem dX8_stands_58 : decode cX8_stands 58 = .ok (.aload_n 0, 1) := by decide +kernel
theorem dX8_stands_59 : decode cX8_stands 59 = .ok (.getfield 121, 3) := by decide +kernel
theorem dX8_stands_62 : decode cX8_stands 62 = .ok (.aload_n 0, 1) := by decide +kernel
theorem dX8_stands_63 : decode cX8_stands 63 = .ok (.getfield 125, 3) := by decide +kernel
theorem dX8_stands_66 : decode cX8_stands 66 = .ok (.lload_n 1, 1) := by decide +kernel
theorem dX8_stands_67 : decode cX8_stands 67 = .ok (.lload_n 1, 1) := by decide +kernel
theorem dX8_stands_68 : decode cX8_stands 68 = .ok (.lmul, 1) := by decide +kernel
theorem dX8_stands_69 : decode cX8_stands 69 = .ok (.iconst 2, 1) := by decide +kernel
theorem dX8_stands_70 : decode cX8_stands 70 = .ok (.iload_n 3, 1) := by decide +kernel
theorem dX8_stands_71 : decode cX8_stands 71 = .ok (.imul, 1) := by decide +kernel
theorem dX8_stands_72 : decode cX8_stands 72 = .ok (.invokestatic 128, 3) := by decide +kernel
theorem dX8_stands_75 : decode cX8_stands 75 = .ok (.ireturn, 1) := by decide +kernel
theorem dX8_stands_76 : decode cX8_stands 76 = .ok (.aload_n 0, 1) := by decide +kernel
theorem dX8_stands_77 : decode cX8_stands 77 = .ok (.getfield 121, 3) := by decide +kernel
theorem dX8_stands_80 : decode cX8_stands 80 = .ok (.aload_n 0, 1) := by decide +kernel
theorem dX8_stands_81 : decode cX8_stands 81 = .ok (.getfield 125, 3) := by decide +kernel
theorem dX8_stands_84 : decode cX8_stands 84 = .ok (.lload_n 1, 1) := by decide +kernel
theorem dX8_stands_85 : decode cX8_stands 85 = .ok (.lload_n 1, 1) := by decide +kernel
theorem dX8_stands_86 : decode cX8_stands 86 = .ok (.lmul, 1) := by decide +kernel
theorem dX8_stands_87 : decode cX8_stands 87 = .ok (.lload_n 1, 1) := by decide +kernel
theorem dX8_stands_88 : decode cX8_stands 88 = .ok (.lmul, 1) := by decide +kernel
theorem dX8_stands_89 : decode cX8_stands 89 = .ok (.iconst 3, 1) := by decide +kernel
theorem dX8_stands_90 : decode cX8_stands 90 = .ok (.iload_n 3, 1) := by decide +kernel
theorem dX8_stands_91 : decode cX8_stands 91 = .ok (.imul, 1) := by decide +kernel
theorem dX8_stands_92 : decode cX8_stands 92 = .ok (.invokestatic 128, 3) := by decide +kernel
theorem dX8_stands_95 : decode cX8_stands 95 = .ok (.ireturn, 1) := by decide +kernel
theorem dX8_stands_96 : decode cX8_stands 96 = .ok (.aload_n 0, 1) := by decide +kernel
theorem dX8_stands_97 : decode cX8_stands 97 = .ok (.getfield 121, 3) := by decide +kernel
theorem dX8_stands_100 : decode cX8_stands 100 = .ok (.aload_n 0, 1) := by decide +kernel
theorem dX8_stands_101 : decode cX8_stands 101 = .ok (.getfield 121, 3) := by decide +kernel
theorem dX8_stands_104 : decode cX8_stands 104 = .ok (.lmul, 1) := by decide +kernel
theorem dX8_stands_105 : decode cX8_stands 105 = .ok (.iconst 2, 1) := by decide +kernel
theorem dX8_stands_106 : decode cX8_stands 106 = .ok (.aload_n 0, 1) := by decide +kernel
theorem dX8_stands_107 : decode cX8_stands 107 = .ok (.getfield 125, 3) := by decide +kernel
theorem dX8_stands_110 : decode cX8_stands 110 = .ok (.imul, 1) := by decide +kernel
theorem dX8_stands_111 : decode cX8_stands 111 = .ok (.lload_n 1, 1) := by decide +kernel
theorem dX8_stands_112 : decode cX8_stands 112 = .ok (.iload_n 3, 1) := by decide +kernel
theorem dX8_stands_113 : decode cX8_stands 113 = .ok (.invokestatic 128, 3) := by decide +kernel
theorem dX8_stands_116 : decode cX8_stands 116 = .ok (.ireturn, 1) := by decide +kernel
theorem dX8_stands_117 : decode cX8_stands 117 = .ok (.aload_n 0, 1) := by decide +kernel
theorem dX8_stands_118 : decode cX8_stands 118 = .ok (.getfield 121, 3) := by decide +kernel
theorem dX8_stands_121 : decode cX8_stands 121 = .ok (.aload_n 0, 1) := by decide +kernel
theorem dX8_stands_122 : decode cX8_stands 122 = .ok (.getfield 121, 3) := by decide +kernel
theorem dX8_stands_125 : decode cX8_stands 125 = .ok (.lmul, 1) := by decide +kernel
theorem dX8_stands_126 : decode cX8_stands 126 = .ok (.aload_n 0, 1) := by decide +kernel
theorem dX8_stands_127 : decode cX8_stands 127 = .ok (.getfield 121, 3) := by decide +kernel
theorem dX8_stands_130 : decode cX8_stands 130 = .ok (.lmul, 1) := by decide +kernel
theorem dX8_stands_131 : decode cX8_stands 131 = .ok (.iconst 3, 1) := by decide +kernel
theorem dX8_stands_132 : decode cX8_stands 132 = .ok (.aload_n 0, 1) := by decide +kernel
theorem dX8_stands_133 : decode cX8_stands 133 = .ok (.getfield 125, 3) := by decide +kernel
theorem dX8_stands_136 : decode cX8_stands 136 = .ok (.imul, 1) := by decide +kernel
theorem dX8_stands_137 : decode cX8_stands 137 = .ok (.lload_n 1, 1) := by decide +kernel
theorem dX8_stands_138 : decode cX8_stands 138 = .ok (.iload_n 3, 1) := by decide +kernel
theorem dX8_stands_139 : decode cX8_stands 139 = .ok (.invokestatic 128, 3) := by decide +kernel
theorem dX8_stands_142 : decode cX8_stands 142 = .ok (.ireturn, 1) := by decide +kernel
theorem dX8_stands_143 : decode cX8_stands 143 = .ok (.aload_n 0, 1) := by decide +kernel
theorem dX8_stands_144 : decode cX8_stands 144 = .ok (.getfield 121, 3) := by decide +kernel
theorem dX8_stands_147 : decode cX8_stands 147 = .ok (.aload_n 0, 1) := by decide +kernel
theorem dX8_stands_148 : decode cX8_stands 148 = .ok (.getfield 125, 3) := by decide +kernel
theorem dX8_stands_151 : decode cX8_stands 151 = .ok (.lload_n 1, 1) := by decide +kernel
theorem dX8_stands_152 : decode cX8_stands 152 = .ok (.iload_n 3, 1) := by decide +kernel
theorem dX8_stands_153 : decode cX8_stands 153 = .ok (.invokestatic 128, 3) := by decide +kernel
theorem dX8_stands_156 : decode cX8_stands 156 = .ok (.ireturn, 1) := by decide +kernel
set_option maxRecDepth 20000 in
theorem ggX8_floor_X8_figure : GoodIn wsX8_floor wsX8_figure := goodIn_r _ [6, 7, 26, 27, 28, 29, 30, 31, 32, 33, 34, 35, 36, 37, 38, 39, 40, 41, 42, 43, 44, 45, 46, 47, 48, 49, 50] (by decide +kernel) (by decide +kernel)
set_option maxRecDepth 20000 in
theorem gX8_floor_X8_figure : GoodIn wsX8_floor (wsV RX8 100 RX8 yX8_figure wsX8_figure) := goodIn_app (goodIn_of _ (by decide +kernel)) ggX8_floor_X8_figure
set_option maxRecDepth 20000 in
theorem ggX8_floor_X8_power : GoodIn wsX8_floor wsX8_power := goodIn_r _ [11, 12, 7, 26, 27, 28, 29, 30, 31, 32, 33, 34, 35, 36, 37, 38, 39, 40, 41, 42, 43, 44, 45, 46, 47, 48, 49, 50] (by decide +kernel) (by decide +kernel)
set_option maxRecDepth 20000 in
theorem gX8_floor_X8_power : GoodIn wsX8_floor (wsV RX8 103 RX8 yX8_power wsX8_power) := goodIn_app (goodIn_of _ (by decide +kernel)) ggX8_floor_X8_power
set_option maxRecDepth 20000 in
theorem ggX8_floor_X8_stands : GoodIn wsX8_floor wsX8_stands := goodIn_r _ [16, 17, 18, 19, 20, 21, 5, 22, 23, 24, 25, 26, 27, 28, 29, 30, 31, 32, 33, 34, 35, 36, 37, 38, 39, 40, 41, 42, 43, 44, 45, 46, 47, 48, 49, 50] (by decide +kernel) (by decide +kernel)
set_option maxRecDepth 20000 in
theorem gX8_floor_X8_stands : GoodIn wsX8_floor (wsV RX8 132 RX8 yX8_stands wsX8_stands) := goodIn_app (goodIn_of _ (by decide +kernel)) ggX8_floor_X8_stands
theorem dX8_floor_0 : decode cX8_floor 0 = .ok (.iconst 0, 1) := by decide +kernel
theorem dX8_floor_1 : decode cX8_floor 1 = .ok (.istore_n 1, 1) := by decide +kernel
theorem dX8_floor_2 : decode cX8_floor 2 = .ok (.aload_n 0, 1) := by decide +kernel
theorem dX8_floor_3 : decode cX8_floor 3 = .ok (.getfield 68, 3) := by decide +kernel
theorem dX8_floor_6 : decode cX8_floor 6 = .ok (.iconst 1, 1) := by decide +kernel
theorem dX8_floor_7 : decode cX8_floor 7 = .ok (.iadd, 1) := by decide +kernel
theorem dX8_floor_8 : decode cX8_floor 8 = .ok (.istore_n 2, 1) := by decide +kernel
theorem dX8_floor_9 : decode cX8_floor 9 = .ok (.iload_n 2, 1) := by decide +kernel
theorem dX8_floor_10 : decode cX8_floor 10 = .ok (.iload_n 1, 1) := by decide +kernel
theorem dX8_floor_11 : decode cX8_floor 11 = .ok (.isub, 1) := by decide +kernel
theorem dX8_floor_12 : decode cX8_floor 12 = .ok (.iconst 1, 1) := by decide +kernel
theorem dX8_floor_13 : decode cX8_floor 13 = .ok (.if_icmp .le 37, 3) := by decide +kernel
theorem dX8_floor_16 : decode cX8_floor 16 = .ok (.iload_n 1, 1) := by decide +kernel
theorem dX8_floor_17 : decode cX8_floor 17 = .ok (.iload_n 2, 1) := by decide +kernel
theorem dX8_floor_18 : decode cX8_floor 18 = .ok (.iadd, 1) := by decide +kernel
theorem dX8_floor_19 : decode cX8_floor 19 = .ok (.iconst 2, 1) := by decide +kernel
theorem dX8_floor_20 : decode cX8_floor 20 = .ok (.idiv, 1) := by decide +kernel
theorem dX8_floor_21 : decode cX8_floor 21 = .ok (.istore_n 3, 1) := by decide +kernel
theorem dX8_floor_22 : decode cX8_floor 22 = .ok (.aload_n 0, 1) := by decide +kernel
theorem dX8_floor_23 : decode cX8_floor 23 = .ok (.aload_n 0, 1) := by decide +kernel
theorem dX8_floor_24 : decode cX8_floor 24 = .ok (.iload_n 3, 1) := by decide +kernel
theorem dX8_floor_25 : decode cX8_floor 25 = .ok (.invokevirtual 100, 3) := by decide +kernel
theorem dX8_floor_28 : decode cX8_floor 28 = .ok (.i2l, 1) := by decide +kernel
theorem dX8_floor_29 : decode cX8_floor 29 = .ok (.aload_n 0, 1) := by decide +kernel
theorem dX8_floor_30 : decode cX8_floor 30 = .ok (.iload_n 3, 1) := by decide +kernel
theorem dX8_floor_31 : decode cX8_floor 31 = .ok (.invokevirtual 103, 3) := by decide +kernel
theorem dX8_floor_34 : decode cX8_floor 34 = .ok (.invokevirtual 132, 3) := by decide +kernel
theorem dX8_floor_37 : decode cX8_floor 37 = .ok (.ifCond .lt 8, 3) := by decide +kernel
theorem dX8_floor_40 : decode cX8_floor 40 = .ok (.iload_n 3, 1) := by decide +kernel
theorem dX8_floor_41 : decode cX8_floor 41 = .ok (.istore_n 1, 1) := by decide +kernel
theorem dX8_floor_42 : decode cX8_floor 42 = .ok (.goto 5, 3) := by decide +kernel
theorem dX8_floor_45 : decode cX8_floor 45 = .ok (.iload_n 3, 1) := by decide +kernel
theorem dX8_floor_46 : decode cX8_floor 46 = .ok (.istore_n 2, 1) := by decide +kernel
theorem dX8_floor_47 : decode cX8_floor 47 = .ok (.goto (-38), 3) := by decide +kernel
theorem dX8_floor_50 : decode cX8_floor 50 = .ok (.iload_n 1, 1) := by decide +kernel
theorem dX8_floor_51 : decode cX8_floor 51 = .ok (.ireturn, 1) := by decide +kernel
set_option maxRecDepth 20000 in
theorem ggX8_isFloat_X8_figure : GoodIn wsX8_isFloat wsX8_figure := goodIn_r _ [5, 6, 25, 26, 27, 28, 29, 30, 31, 32, 33, 34, 35, 36, 37, 38, 39, 40, 41, 42, 43, 44, 45, 46, 47, 48, 49] (by decide +kernel) (by decide +kernel)
set_option maxRecDepth 20000 in
theorem gX8_isFloat_X8_figure : GoodIn wsX8_isFloat (wsV RX8 100 RX8 yX8_figure wsX8_figure) := goodIn_app (goodIn_of _ (by decide +kernel)) ggX8_isFloat_X8_figure
set_option maxRecDepth 20000 in
theorem ggX8_isFloat_X8_power : GoodIn wsX8_isFloat wsX8_power := goodIn_r _ [10, 11, 6, 25, 26, 27, 28, 29, 30, 31, 32, 33, 34, 35, 36, 37, 38, 39, 40, 41, 42, 43, 44, 45, 46, 47, 48, 49] (by decide +kernel) (by decide +kernel)
set_option maxRecDepth 20000 in
theorem gX8_isFloat_X8_power : GoodIn wsX8_isFloat (wsV RX8 103 RX8 yX8_power wsX8_power) := goodIn_app (goodIn_of _ (by decide +kernel)) ggX8_isFloat_X8_power
set_option maxRecDepth 20000 in
theorem ggX8_isFloat_X8_stands : GoodIn wsX8_isFloat wsX8_stands := goodIn_r _ [15, 16, 17, 18, 19, 20, 4, 21, 22, 23, 24, 25, 26, 27, 28, 29, 30, 31, 32, 33, 34, 35, 36, 37, 38, 39, 40, 41, 42, 43, 44, 45, 46, 47, 48, 49] (by decide +kernel) (by decide +kernel)
set_option maxRecDepth 20000 in
theorem gX8_isFloat_X8_stands : GoodIn wsX8_isFloat (wsV RX8 132 RX8 yX8_stands wsX8_stands) := goodIn_app (goodIn_of _ (by decide +kernel)) ggX8_isFloat_X8_stands
theorem dX8_isFloat_0 : decode cX8_isFloat 0 = .ok (.iload_n 1, 1) := by decide +kernel
theorem dX8_isFloat_1 : decode cX8_isFloat 1 = .ok (.ifCond .le 25, 3) := by decide +kernel
theorem dX8_isFloat_4 : decode cX8_isFloat 4 = .ok (.aload_n 0, 1) := by decide +kernel
theorem dX8_isFloat_5 : decode cX8_isFloat 5 = .ok (.aload_n 0, 1) := by decide +kernel
theorem dX8_isFloat_6 : decode cX8_isFloat 6 = .ok (.iload_n 1, 1) := by decide +kernel
theorem dX8_isFloat_7 : decode cX8_isFloat 7 = .ok (.invokevirtual 100, 3) := by decide +kernel
theorem dX8_isFloat_10 : decode cX8_isFloat 10 = .ok (.i2l, 1) := by decide +kernel
theorem dX8_isFloat_11 : decode cX8_isFloat 11 = .ok (.aload_n 0, 1) := by decide +kernel
theorem dX8_isFloat_12 : decode cX8_isFloat 12 = .ok (.iload_n 1, 1) := by decide +kernel
theorem dX8_isFloat_13 : decode cX8_isFloat 13 = .ok (.invokevirtual 103, 3) := by decide +kernel
theorem dX8_isFloat_16 : decode cX8_isFloat 16 = .ok (.invokevirtual 132, 3) := by decide +kernel
theorem dX8_isFloat_19 : decode cX8_isFloat 19 = .ok (.ifCond .ne 7, 3) := by decide +kernel
theorem dX8_isFloat_22 : decode cX8_isFloat 22 = .ok (.iconst 1, 1) := by decide +kernel
theorem dX8_isFloat_23 : decode cX8_isFloat 23 = .ok (.goto 4, 3) := by decide +kernel
theorem dX8_isFloat_26 : decode cX8_isFloat 26 = .ok (.iconst 0, 1) := by decide +kernel
theorem dX8_isFloat_27 : decode cX8_isFloat 27 = .ok (.ireturn, 1) := by decide +kernel
set_option maxRecDepth 20000 in
theorem ggX8_middle_X8_figure : GoodIn wsX8_middle wsX8_figure := goodIn_r _ [6, 7, 26, 27, 28, 29, 30, 31, 32, 33, 34, 35, 36, 37, 38, 39, 40, 41, 42, 43, 44, 45, 46, 47, 48, 49, 50] (by decide +kernel) (by decide +kernel)
set_option maxRecDepth 20000 in
theorem gX8_middle_X8_figure : GoodIn wsX8_middle (wsV RX8 100 RX8 yX8_figure wsX8_figure) := goodIn_app (goodIn_of _ (by decide +kernel)) ggX8_middle_X8_figure
set_option maxRecDepth 20000 in
theorem ggX8_middle_X8_power : GoodIn wsX8_middle wsX8_power := goodIn_r _ [11, 12, 7, 26, 27, 28, 29, 30, 31, 32, 33, 34, 35, 36, 37, 38, 39, 40, 41, 42, 43, 44, 45, 46, 47, 48, 49, 50] (by decide +kernel) (by decide +kernel)
set_option maxRecDepth 20000 in
theorem gX8_middle_X8_power : GoodIn wsX8_middle (wsV RX8 103 RX8 yX8_power wsX8_power) := goodIn_app (goodIn_of _ (by decide +kernel)) ggX8_middle_X8_power
set_option maxRecDepth 20000 in
theorem ggX8_middle_X8_stands : GoodIn wsX8_middle wsX8_stands := goodIn_r _ [16, 17, 18, 19, 20, 21, 5, 22, 23, 24, 25, 26, 27, 28, 29, 30, 31, 32, 33, 34, 35, 36, 37, 38, 39, 40, 41, 42, 43, 44, 45, 46, 47, 48, 49, 50] (by decide +kernel) (by decide +kernel)
set_option maxRecDepth 20000 in
theorem gX8_middle_X8_stands : GoodIn wsX8_middle (wsV RX8 132 RX8 yX8_stands wsX8_stands) := goodIn_app (goodIn_of _ (by decide +kernel)) ggX8_middle_X8_stands
theorem dX8_middle_0 : decode cX8_middle 0 = .ok (.aload_n 0, 1) := by decide +kernel
theorem dX8_middle_1 : decode cX8_middle 1 = .ok (.ldc2_w 136, 3) := by decide +kernel
theorem dX8_middle_4 : decode cX8_middle 4 = .ok (.aload_n 0, 1) := by decide +kernel
theorem dX8_middle_5 : decode cX8_middle 5 = .ok (.iload_n 1, 1) := by decide +kernel
theorem dX8_middle_6 : decode cX8_middle 6 = .ok (.invokevirtual 100, 3) := by decide +kernel
theorem dX8_middle_9 : decode cX8_middle 9 = .ok (.i2l, 1) := by decide +kernel
theorem dX8_middle_10 : decode cX8_middle 10 = .ok (.lmul, 1) := by decide +kernel
theorem dX8_middle_11 : decode cX8_middle 11 = .ok (.lconst 1, 1) := by decide +kernel
theorem dX8_middle_12 : decode cX8_middle 12 = .ok (.ladd, 1) := by decide +kernel
theorem dX8_middle_13 : decode cX8_middle 13 = .ok (.aload_n 0, 1) := by decide +kernel
theorem dX8_middle_14 : decode cX8_middle 14 = .ok (.iload_n 1, 1) := by decide +kernel
theorem dX8_middle_15 : decode cX8_middle 15 = .ok (.invokevirtual 103, 3) := by decide +kernel
theorem dX8_middle_18 : decode cX8_middle 18 = .ok (.iconst 1, 1) := by decide +kernel
theorem dX8_middle_19 : decode cX8_middle 19 = .ok (.isub, 1) := by decide +kernel
theorem dX8_middle_20 : decode cX8_middle 20 = .ok (.invokevirtual 132, 3) := by decide +kernel
theorem dX8_middle_23 : decode cX8_middle 23 = .ok (.ireturn, 1) := by decide +kernel
set_option maxRecDepth 20000 in
theorem ggX8_rounded_X8_floor : GoodIn wsX8_rounded wsX8_floor := goodIn_r _ [7, 2, 8, 9, 10, 6, 11, 12, 13, 14, 15, 16, 17, 18, 19, 20, 21, 22, 23, 24, 25, 26, 27, 28, 29, 30, 40, 41, 42, 43, 44, 45, 46, 47, 48, 49, 50, 51, 52, 53, 54, 55, 56, 57, 58, 59, 60, 61, 62, 63, 64] (by decide +kernel) (by decide +kernel)
set_option maxRecDepth 20000 in
theorem gX8_rounded_X8_floor : GoodIn wsX8_rounded (wsV RX8 138 RX8 yX8_floor wsX8_floor) := goodIn_app (goodIn_of _ (by decide +kernel)) ggX8_rounded_X8_floor
set_option maxRecDepth 20000 in
theorem ggX8_rounded_X8_isFloat : GoodIn wsX8_rounded wsX8_isFloat := goodIn_r _ [34, 8, 9, 10, 6, 11, 12, 13, 14, 15, 16, 17, 18, 19, 20, 21, 22, 23, 24, 25, 26, 27, 28, 29, 30, 40, 41, 42, 43, 44, 45, 46, 47, 48, 49, 50, 51, 52, 53, 54, 55, 56, 57, 58, 59, 60, 61, 62, 63, 64] (by decide +kernel) (by decide +kernel)
set_option maxRecDepth 20000 in
theorem gX8_rounded_X8_isFloat : GoodIn wsX8_rounded (wsV RX8 142 RX8 yX8_isFloat wsX8_isFloat) := goodIn_app (goodIn_of _ (by decide +kernel)) ggX8_rounded_X8_isFloat
set_option maxRecDepth 20000 in
theorem ggX8_rounded_X8_middle : GoodIn wsX8_rounded wsX8_middle := goodIn_r _ [38, 39, 8, 9, 10, 6, 11, 12, 13, 14, 15, 16, 17, 18, 19, 20, 21, 22, 23, 24, 25, 26, 27, 28, 29, 30, 40, 41, 42, 43, 44, 45, 46, 47, 48, 49, 50, 51, 52, 53, 54, 55, 56, 57, 58, 59, 60, 61, 62, 63, 64] (by decide +kernel) (by decide +kernel)
set_option maxRecDepth 20000 in
theorem gX8_rounded_X8_middle : GoodIn wsX8_rounded (wsV RX8 145 RX8 yX8_middle wsX8_middle) := goodIn_app (goodIn_of _ (by decide +kernel)) ggX8_rounded_X8_middle
theorem dX8_rounded_0 : decode cX8_rounded 0 = .ok (.aload_n 0, 1) := by decide +kernel
theorem dX8_rounded_1 : decode cX8_rounded 1 = .ok (.invokevirtual 138, 3) := by decide +kernel
theorem dX8_rounded_4 : decode cX8_rounded 4 = .ok (.istore_n 3, 1) := by decide +kernel
theorem dX8_rounded_5 : decode cX8_rounded 5 = .ok (.iload_n 2, 1) := by decide +kernel
theorem dX8_rounded_6 : decode cX8_rounded 6 = .ok (.ifCond .eq 10, 3) := by decide +kernel
theorem dX8_rounded_9 : decode cX8_rounded 9 = .ok (.aload_n 0, 1) := by decide +kernel
theorem dX8_rounded_10 : decode cX8_rounded 10 = .ok (.getfield 65, 3) := by decide +kernel
theorem dX8_rounded_13 : decode cX8_rounded 13 = .ok (.goto 4, 3) := by decide +kernel
theorem dX8_rounded_16 : decode cX8_rounded 16 = .ok (.iconst 0, 1) := by decide +kernel
theorem dX8_rounded_17 : decode cX8_rounded 17 = .ok (.istore 4, 2) := by decide +kernel
theorem dX8_rounded_19 : decode cX8_rounded 19 = .ok (.aload_n 0, 1) := by decide +kernel
theorem dX8_rounded_20 : decode cX8_rounded 20 = .ok (.iload_n 3, 1) := by decide +kernel
theorem dX8_rounded_21 : decode cX8_rounded 21 = .ok (.invokevirtual 142, 3) := by decide +kernel
theorem dX8_rounded_24 : decode cX8_rounded 24 = .ok (.ifCond .eq 8, 3) := by decide +kernel
theorem dX8_rounded_27 : decode cX8_rounded 27 = .ok (.iload 4, 2) := by decide +kernel
theorem dX8_rounded_29 : decode cX8_rounded 29 = .ok (.iload_n 3, 1) := by decide +kernel
theorem dX8_rounded_30 : decode cX8_rounded 30 = .ok (.iadd, 1) := by decide +kernel
theorem dX8_rounded_31 : decode cX8_rounded 31 = .ok (.ireturn, 1) := by decide +kernel
theorem dX8_rounded_32 : decode cX8_rounded 32 = .ok (.iload_n 2, 1) := by decide +kernel
theorem dX8_rounded_33 : decode cX8_rounded 33 = .ok (.ifCond .eq 19, 3) := by decide +kernel
theorem dX8_rounded_36 : decode cX8_rounded 36 = .ok (.iload_n 1, 1) := by decide +kernel
theorem dX8_rounded_37 : decode cX8_rounded 37 = .ok (.iconst 1, 1) := by decide +kernel
theorem dX8_rounded_38 : decode cX8_rounded 38 = .ok (.if_icmp .le 14, 3) := by decide +kernel
theorem dX8_rounded_41 : decode cX8_rounded 41 = .ok (.iload_n 1, 1) := by decide +kernel
theorem dX8_rounded_42 : decode cX8_rounded 42 = .ok (.iconst 4, 1) := by decide +kernel
theorem dX8_rounded_43 : decode cX8_rounded 43 = .ok (.if_icmp .ge 9, 3) := by decide +kernel
theorem dX8_rounded_46 : decode cX8_rounded 46 = .ok (.iconst 5, 1) := by decide +kernel
theorem dX8_rounded_47 : decode cX8_rounded 47 = .ok (.iload_n 1, 1) := by decide +kernel
theorem dX8_rounded_48 : decode cX8_rounded 48 = .ok (.isub, 1) := by decide +kernel
theorem dX8_rounded_49 : decode cX8_rounded 49 = .ok (.goto 4, 3) := by decide +kernel
theorem dX8_rounded_52 : decode cX8_rounded 52 = .ok (.iload_n 1, 1) := by decide +kernel
theorem dX8_rounded_53 : decode cX8_rounded 53 = .ok (.istore 5, 2) := by decide +kernel
theorem dX8_rounded_55 : decode cX8_rounded 55 = .ok (.iload 5, 2) := by decide +kernel
theorem dX8_rounded_57 : decode cX8_rounded 57 = .ok (.tableswitch 107 0 4 #[35, 107, 70, 107, 77], 35) := by decide +kernel
theorem dX8_rounded_92 : decode cX8_rounded 92 = .ok (.aload_n 0, 1) := by decide +kernel
theorem dX8_rounded_93 : decode cX8_rounded 93 = .ok (.iload_n 3, 1) := by decide +kernel
theorem dX8_rounded_94 : decode cX8_rounded 94 = .ok (.invokevirtual 145, 3) := by decide +kernel
theorem dX8_rounded_97 : decode cX8_rounded 97 = .ok (.istore 6, 2) := by decide +kernel
theorem dX8_rounded_99 : decode cX8_rounded 99 = .ok (.iload 4, 2) := by decide +kernel
theorem dX8_rounded_101 : decode cX8_rounded 101 = .ok (.iload 6, 2) := by decide +kernel
theorem dX8_rounded_103 : decode cX8_rounded 103 = .ok (.ifCond .gt 15, 3) := by decide +kernel
theorem dX8_rounded_106 : decode cX8_rounded 106 = .ok (.iload 6, 2) := by decide +kernel
theorem dX8_rounded_108 : decode cX8_rounded 108 = .ok (.ifCond .ne 16, 3) := by decide +kernel
theorem dX8_rounded_111 : decode cX8_rounded 111 = .ok (.iload_n 3, 1) := by decide +kernel
theorem dX8_rounded_112 : decode cX8_rounded 112 = .ok (.iconst 2, 1) := by decide +kernel
theorem dX8_rounded_113 : decode cX8_rounded 113 = .ok (.irem, 1) := by decide +kernel
theorem dX8_rounded_114 : decode cX8_rounded 114 = .ok (.iconst 1, 1) := by decide +kernel
theorem dX8_rounded_115 : decode cX8_rounded 115 = .ok (.if_icmp .ne 9, 3) := by decide +kernel
theorem dX8_rounded_118 : decode cX8_rounded 118 = .ok (.iload_n 3, 1) := by decide +kernel
theorem dX8_rounded_119 : decode cX8_rounded 119 = .ok (.iconst 1, 1) := by decide +kernel
theorem dX8_rounded_120 : decode cX8_rounded 120 = .ok (.iadd, 1) := by decide +kernel
theorem dX8_rounded_121 : decode cX8_rounded 121 = .ok (.goto 4, 3) := by decide +kernel
theorem dX8_rounded_124 : decode cX8_rounded 124 = .ok (.iload_n 3, 1) := by decide +kernel
theorem dX8_rounded_125 : decode cX8_rounded 125 = .ok (.iadd, 1) := by decide +kernel
theorem dX8_rounded_126 : decode cX8_rounded 126 = .ok (.ireturn, 1) := by decide +kernel
theorem dX8_rounded_127 : decode cX8_rounded 127 = .ok (.iload 4, 2) := by decide +kernel
theorem dX8_rounded_129 : decode cX8_rounded 129 = .ok (.iload_n 3, 1) := by decide +kernel
theorem dX8_rounded_130 : decode cX8_rounded 130 = .ok (.iadd, 1) := by decide +kernel
theorem dX8_rounded_131 : decode cX8_rounded 131 = .ok (.iconst 1, 1) := by decide +kernel
theorem dX8_rounded_132 : decode cX8_rounded 132 = .ok (.iadd, 1) := by decide +kernel
theorem dX8_rounded_133 : decode cX8_rounded 133 = .ok (.ireturn, 1) := by decide +kernel
theorem dX8_rounded_134 : decode cX8_rounded 134 = .ok (.iload 4, 2) := by decide +kernel
theorem dX8_rounded_136 : decode cX8_rounded 136 = .ok (.iload_n 3, 1) := by decide +kernel
theorem dX8_rounded_137 : decode cX8_rounded 137 = .ok (.iconst 2, 1) := by decide +kernel
theorem dX8_rounded_138 : decode cX8_rounded 138 = .ok (.irem, 1) := by decide +kernel
theorem dX8_rounded_139 : decode cX8_rounded 139 = .ok (.iconst 1, 1) := by decide +kernel
theorem dX8_rounded_140 : decode cX8_rounded 140 = .ok (.if_icmp .ne 7, 3) := by decide +kernel
theorem dX8_rounded_143 : decode cX8_rounded 143 = .ok (.iload_n 3, 1) := by decide +kernel
theorem dX8_rounded_144 : decode cX8_rounded 144 = .ok (.goto 18, 3) := by decide +kernel
theorem dX8_rounded_147 : decode cX8_rounded 147 = .ok (.iload_n 3, 1) := by decide +kernel
theorem dX8_rounded_148 : decode cX8_rounded 148 = .ok (.aload_n 0, 1) := by decide +kernel
theorem dX8_rounded_149 : decode cX8_rounded 149 = .ok (.getfield 68, 3) := by decide +kernel
theorem dX8_rounded_152 : decode cX8_rounded 152 = .ok (.if_icmp .ne 7, 3) := by decide +kernel
theorem dX8_rounded_155 : decode cX8_rounded 155 = .ok (.iload_n 3, 1) := by decide +kernel
theorem dX8_rounded_156 : decode cX8_rounded 156 = .ok (.goto 6, 3) := by decide +kernel
theorem dX8_rounded_159 : decode cX8_rounded 159 = .ok (.iload_n 3, 1) := by decide +kernel
theorem dX8_rounded_160 : decode cX8_rounded 160 = .ok (.iconst 1, 1) := by decide +kernel
theorem dX8_rounded_161 : decode cX8_rounded 161 = .ok (.iadd, 1) := by decide +kernel
theorem dX8_rounded_162 : decode cX8_rounded 162 = .ok (.iadd, 1) := by decide +kernel
theorem dX8_rounded_163 : decode cX8_rounded 163 = .ok (.ireturn, 1) := by decide +kernel
theorem dX8_rounded_164 : decode cX8_rounded 164 = .ok (.iload 4, 2) := by decide +kernel
theorem dX8_rounded_166 : decode cX8_rounded 166 = .ok (.iload_n 3, 1) := by decide +kernel
theorem dX8_rounded_167 : decode cX8_rounded 167 = .ok (.iadd, 1) := by decide +kernel
theorem dX8_rounded_168 : decode cX8_rounded 168 = .ok (.ireturn, 1) := by decide +kernel
set_option maxRecDepth 20000 in
theorem ggX8_round_X8_isIn : GoodIn wsX8_round wsX8_isIn := goodIn_r _ [13] (by decide +kernel) (by decide +kernel)
set_option maxRecDepth 20000 in
theorem gX8_round_X8_isIn : GoodIn wsX8_round (va_wsS RX8 80 yX8_isIn wsX8_isIn) := goodIn_app (goodIn_of _ (by decide +kernel)) ggX8_round_X8_isIn
set_option maxRecDepth 20000 in
theorem ggX8_round_X8_refuse : GoodIn wsX8_round wsX8_refuse := goodIn_r _ [17, 18, 58, 59, 60, 61, 62, 63, 64, 65, 66, 67, 68, 69, 70, 71, 72, 73, 74, 75, 76, 77, 78, 79, 80, 81, 82] (by decide +kernel) (by decide +kernel)
set_option maxRecDepth 20000 in
theorem gX8_round_X8_refuse : GoodIn wsX8_round (wsV RX8 51 RX8 yX8_refuse wsX8_refuse) := goodIn_app (goodIn_of _ (by decide +kernel)) ggX8_round_X8_refuse
set_option maxRecDepth 20000 in
theorem ggX8_round_X8_rounded : GoodIn wsX8_round wsX8_rounded := goodIn_r _ [22, 23, 24, 25, 26, 27, 12, 28, 29, 30, 31, 32, 33, 34, 35, 36, 37, 38, 39, 40, 41, 42, 3, 8, 9, 43, 44, 45, 46, 47, 48, 49, 50, 51, 52, 53, 54, 55, 56, 57, 58, 59, 60, 61, 62, 63, 64, 65, 66, 67, 68, 69, 70, 71, 72, 73, 74, 75, 76, 77, 78, 79, 80, 81, 82] (by decide +kernel) (by decide +kernel)
set_option maxRecDepth 20000 in
theorem gX8_round_X8_rounded : GoodIn wsX8_round (wsV RX8 150 RX8 yX8_rounded wsX8_rounded) := goodIn_app (goodIn_of _ (by decide +kernel)) ggX8_round_X8_rounded
theorem dX8_round_0 : decode cX8_round 0 = .ok (.iload_n 3, 1) := by decide +kernel
theorem dX8_round_1 : decode cX8_round 1 = .ok (.iconst 5, 1) := by decide +kernel
theorem dX8_round_2 : decode cX8_round 2 = .ok (.invokestatic 80, 3) := by decide +kernel
theorem dX8_round_5 : decode cX8_round 5 = .ok (.ifCond .ne 9, 3) := by decide +kernel
theorem dX8_round_8 : decode cX8_round 8 = .ok (.aload_n 0, 1) := by decide +kernel
theorem dX8_round_9 : decode cX8_round 9 = .ok (.iconst (-1), 1) := by decide +kernel
theorem dX8_round_10 : decode cX8_round 10 = .ok (.invokevirtual 51, 3) := by decide +kernel
theorem dX8_round_13 : decode cX8_round 13 = .ok (.ireturn, 1) := by decide +kernel
theorem dX8_round_14 : decode cX8_round 14 = .ok (.iload_n 1, 1) := by decide +kernel
theorem dX8_round_15 : decode cX8_round 15 = .ok (.ldc 148, 2) := by decide +kernel
theorem dX8_round_17 : decode cX8_round 17 = .ok (.if_icmp .lt 9, 3) := by decide +kernel
theorem dX8_round_20 : decode cX8_round 20 = .ok (.iload_n 2, 1) := by decide +kernel
theorem dX8_round_21 : decode cX8_round 21 = .ok (.bipush (-60), 2) := by decide +kernel
theorem dX8_round_23 : decode cX8_round 23 = .ok (.if_icmp .ge 10, 3) := by decide +kernel
theorem dX8_round_26 : decode cX8_round 26 = .ok (.aload_n 0, 1) := by decide +kernel
theorem dX8_round_27 : decode cX8_round 27 = .ok (.bipush (-4), 2) := by decide +kernel
theorem dX8_round_29 : decode cX8_round 29 = .ok (.invokevirtual 51, 3) := by decide +kernel
theorem dX8_round_32 : decode cX8_round 32 = .ok (.ireturn, 1) := by decide +kernel
theorem dX8_round_33 : decode cX8_round 33 = .ok (.iload_n 1, 1) := by decide +kernel
theorem dX8_round_34 : decode cX8_round 34 = .ok (.ldc 149, 2) := by decide +kernel
theorem dX8_round_36 : decode cX8_round 36 = .ok (.if_icmp .gt 9, 3) := by decide +kernel
theorem dX8_round_39 : decode cX8_round 39 = .ok (.iload_n 2, 1) := by decide +kernel
theorem dX8_round_40 : decode cX8_round 40 = .ok (.bipush 60, 2) := by decide +kernel
theorem dX8_round_42 : decode cX8_round 42 = .ok (.if_icmp .le 10, 3) := by decide +kernel
theorem dX8_round_45 : decode cX8_round 45 = .ok (.aload_n 0, 1) := by decide +kernel
theorem dX8_round_46 : decode cX8_round 46 = .ok (.bipush (-6), 2) := by decide +kernel
theorem dX8_round_48 : decode cX8_round 48 = .ok (.invokevirtual 51, 3) := by decide +kernel
theorem dX8_round_51 : decode cX8_round 51 = .ok (.ireturn, 1) := by decide +kernel
theorem dX8_round_52 : decode cX8_round 52 = .ok (.iload_n 1, 1) := by decide +kernel
theorem dX8_round_53 : decode cX8_round 53 = .ok (.ifCond .ne 5, 3) := by decide +kernel
theorem dX8_round_56 : decode cX8_round 56 = .ok (.iconst 0, 1) := by decide +kernel
theorem dX8_round_57 : decode cX8_round 57 = .ok (.ireturn, 1) := by decide +kernel
theorem dX8_round_58 : decode cX8_round 58 = .ok (.aload_n 0, 1) := by decide +kernel
theorem dX8_round_59 : decode cX8_round 59 = .ok (.iconst (-1), 1) := by decide +kernel
theorem dX8_round_60 : decode cX8_round 60 = .ok (.putfield 118, 3) := by decide +kernel
theorem dX8_round_63 : decode cX8_round 63 = .ok (.aload_n 0, 1) := by decide +kernel
theorem dX8_round_64 : decode cX8_round 64 = .ok (.iload_n 1, 1) := by decide +kernel
theorem dX8_round_65 : decode cX8_round 65 = .ok (.invokestatic 109, 3) := by decide +kernel
theorem dX8_round_68 : decode cX8_round 68 = .ok (.i2l, 1) := by decide +kernel
theorem dX8_round_69 : decode cX8_round 69 = .ok (.putfield 121, 3) := by decide +kernel
theorem dX8_round_72 : decode cX8_round 72 = .ok (.aload_n 0, 1) := by decide +kernel
theorem dX8_round_73 : decode cX8_round 73 = .ok (.iload_n 2, 1) := by decide +kernel
theorem dX8_round_74 : decode cX8_round 74 = .ok (.putfield 125, 3) := by decide +kernel
theorem dX8_round_77 : decode cX8_round 77 = .ok (.aload_n 0, 1) := by decide +kernel
theorem dX8_round_78 : decode cX8_round 78 = .ok (.iload_n 3, 1) := by decide +kernel
theorem dX8_round_79 : decode cX8_round 79 = .ok (.iload_n 1, 1) := by decide +kernel
theorem dX8_round_80 : decode cX8_round 80 = .ok (.ifCond .ge 7, 3) := by decide +kernel
theorem dX8_round_83 : decode cX8_round 83 = .ok (.iconst 1, 1) := by decide +kernel
theorem dX8_round_84 : decode cX8_round 84 = .ok (.goto 4, 3) := by decide +kernel
theorem dX8_round_87 : decode cX8_round 87 = .ok (.iconst 0, 1) := by decide +kernel
theorem dX8_round_88 : decode cX8_round 88 = .ok (.invokevirtual 150, 3) := by decide +kernel
theorem dX8_round_91 : decode cX8_round 91 = .ok (.ireturn, 1) := by decide +kernel
set_option maxRecDepth 20000 in
theorem ggX8_plainly_X8_kind : GoodIn wsX8_plainly wsX8_kind := goodIn_r _ [7, 2, 8, 9, 10, 6, 11, 1, 12, 13, 14, 15, 16, 17, 18, 19, 20, 21, 22, 23, 24, 25, 26, 27, 28, 29, 30, 31, 32, 33, 34, 35, 36] (by decide +kernel) (by decide +kernel)
set_option maxRecDepth 20000 in
theorem gX8_plainly_X8_kind : GoodIn wsX8_plainly (wsV RX8 94 RX8 yX8_kind wsX8_kind) := goodIn_app (goodIn_of _ (by decide +kernel)) ggX8_plainly_X8_kind
theorem dX8_plainly_0 : decode cX8_plainly 0 = .ok (.iload_n 2, 1) := by decide +kernel
theorem dX8_plainly_1 : decode cX8_plainly 1 = .ok (.aload_n 0, 1) := by decide +kernel
theorem dX8_plainly_2 : decode cX8_plainly 2 = .ok (.getfield 65, 3) := by decide +kernel
theorem dX8_plainly_5 : decode cX8_plainly 5 = .ok (.idiv, 1) := by decide +kernel
theorem dX8_plainly_6 : decode cX8_plainly 6 = .ok (.aload_n 0, 1) := by decide +kernel
theorem dX8_plainly_7 : decode cX8_plainly 7 = .ok (.getfield 65, 3) := by decide +kernel
theorem dX8_plainly_10 : decode cX8_plainly 10 = .ok (.imul, 1) := by decide +kernel
theorem dX8_plainly_11 : decode cX8_plainly 11 = .ok (.istore_n 3, 1) := by decide +kernel
theorem dX8_plainly_12 : decode cX8_plainly 12 = .ok (.aload_n 0, 1) := by decide +kernel
theorem dX8_plainly_13 : decode cX8_plainly 13 = .ok (.iload_n 2, 1) := by decide +kernel
theorem dX8_plainly_14 : decode cX8_plainly 14 = .ok (.invokevirtual 94, 3) := by decide +kernel
theorem dX8_plainly_17 : decode cX8_plainly 17 = .ok (.istore 4, 2) := by decide +kernel
theorem dX8_plainly_19 : decode cX8_plainly 19 = .ok (.aload_n 0, 1) := by decide +kernel
theorem dX8_plainly_20 : decode cX8_plainly 20 = .ok (.getfield 68, 3) := by decide +kernel
theorem dX8_plainly_23 : decode cX8_plainly 23 = .ok (.iconst 1, 1) := by decide +kernel
theorem dX8_plainly_24 : decode cX8_plainly 24 = .ok (.iadd, 1) := by decide +kernel
theorem dX8_plainly_25 : decode cX8_plainly 25 = .ok (.istore 5, 2) := by decide +kernel
theorem dX8_plainly_27 : decode cX8_plainly 27 = .ok (.iload 4, 2) := by decide +kernel
theorem dX8_plainly_29 : decode cX8_plainly 29 = .ok (.iconst 3, 1) := by decide +kernel
theorem dX8_plainly_30 : decode cX8_plainly 30 = .ok (.if_icmp .eq 18, 3) := by decide +kernel
theorem dX8_plainly_33 : decode cX8_plainly 33 = .ok (.iload_n 1, 1) := by decide +kernel
theorem dX8_plainly_34 : decode cX8_plainly 34 = .ok (.iconst 1, 1) := by decide +kernel
theorem dX8_plainly_35 : decode cX8_plainly 35 = .ok (.if_icmp .ne 18, 3) := by decide +kernel
theorem dX8_plainly_38 : decode cX8_plainly 38 = .ok (.iload_n 3, 1) := by decide +kernel
theorem dX8_plainly_39 : decode cX8_plainly 39 = .ok (.ifCond .le 14, 3) := by decide +kernel
theorem dX8_plainly_42 : decode cX8_plainly 42 = .ok (.iload 4, 2) := by decide +kernel
theorem dX8_plainly_44 : decode cX8_plainly 44 = .ok (.iconst 1, 1) := by decide +kernel
theorem dX8_plainly_45 : decode cX8_plainly 45 = .ok (.if_icmp .eq 8, 3) := by decide +kernel
theorem dX8_plainly_48 : decode cX8_plainly 48 = .ok (.iload 5, 2) := by decide +kernel
theorem dX8_plainly_50 : decode cX8_plainly 50 = .ok (.iconst 1, 1) := by decide +kernel
theorem dX8_plainly_51 : decode cX8_plainly 51 = .ok (.iadd, 1) := by decide +kernel
theorem dX8_plainly_52 : decode cX8_plainly 52 = .ok (.ireturn, 1) := by decide +kernel
theorem dX8_plainly_53 : decode cX8_plainly 53 = .ok (.iload 4, 2) := by decide +kernel
theorem dX8_plainly_55 : decode cX8_plainly 55 = .ok (.iconst 1, 1) := by decide +kernel
theorem dX8_plainly_56 : decode cX8_plainly 56 = .ok (.if_icmp .ne 25, 3) := by decide +kernel
theorem dX8_plainly_59 : decode cX8_plainly 59 = .ok (.iload_n 1, 1) := by decide +kernel
theorem dX8_plainly_60 : decode cX8_plainly 60 = .ok (.ifCond .ne 10, 3) := by decide +kernel
theorem dX8_plainly_63 : decode cX8_plainly 63 = .ok (.iload_n 3, 1) := by decide +kernel
theorem dX8_plainly_64 : decode cX8_plainly 64 = .ok (.iload 5, 2) := by decide +kernel
theorem dX8_plainly_66 : decode cX8_plainly 66 = .ok (.iadd, 1) := by decide +kernel
theorem dX8_plainly_67 : decode cX8_plainly 67 = .ok (.goto 13, 3) := by decide +kernel
theorem dX8_plainly_70 : decode cX8_plainly 70 = .ok (.iload_n 1, 1) := by decide +kernel
theorem dX8_plainly_71 : decode cX8_plainly 71 = .ok (.iconst 3, 1) := by decide +kernel
theorem dX8_plainly_72 : decode cX8_plainly 72 = .ok (.if_icmp .ne 7, 3) := by decide +kernel
theorem dX8_plainly_75 : decode cX8_plainly 75 = .ok (.iconst 0, 1) := by decide +kernel
theorem dX8_plainly_76 : decode cX8_plainly 76 = .ok (.goto 4, 3) := by decide +kernel
theorem dX8_plainly_79 : decode cX8_plainly 79 = .ok (.iload_n 3, 1) := by decide +kernel
theorem dX8_plainly_80 : decode cX8_plainly 80 = .ok (.ireturn, 1) := by decide +kernel
theorem dX8_plainly_81 : decode cX8_plainly 81 = .ok (.iload 4, 2) := by decide +kernel
theorem dX8_plainly_83 : decode cX8_plainly 83 = .ok (.iconst 2, 1) := by decide +kernel
theorem dX8_plainly_84 : decode cX8_plainly 84 = .ok (.if_icmp .ne 26, 3) := by decide +kernel
theorem dX8_plainly_87 : decode cX8_plainly 87 = .ok (.iload_n 1, 1) := by decide +kernel
theorem dX8_plainly_88 : decode cX8_plainly 88 = .ok (.ifCond .ne 7, 3) := by decide +kernel
theorem dX8_plainly_91 : decode cX8_plainly 91 = .ok (.iload_n 3, 1) := by decide +kernel
theorem dX8_plainly_92 : decode cX8_plainly 92 = .ok (.goto 17, 3) := by decide +kernel
theorem dX8_plainly_95 : decode cX8_plainly 95 = .ok (.iload_n 1, 1) := by decide +kernel
theorem dX8_plainly_96 : decode cX8_plainly 96 = .ok (.iconst 3, 1) := by decide +kernel
theorem dX8_plainly_97 : decode cX8_plainly 97 = .ok (.if_icmp .ne 8, 3) := by decide +kernel
theorem dX8_plainly_100 : decode cX8_plainly 100 = .ok (.iload 5, 2) := by decide +kernel
theorem dX8_plainly_102 : decode cX8_plainly 102 = .ok (.goto 7, 3) := by decide +kernel
theorem dX8_plainly_105 : decode cX8_plainly 105 = .ok (.iload_n 3, 1) := by decide +kernel
theorem dX8_plainly_106 : decode cX8_plainly 106 = .ok (.iload 5, 2) := by decide +kernel
theorem dX8_plainly_108 : decode cX8_plainly 108 = .ok (.iadd, 1) := by decide +kernel
theorem dX8_plainly_109 : decode cX8_plainly 109 = .ok (.ireturn, 1) := by decide +kernel
theorem dX8_plainly_110 : decode cX8_plainly 110 = .ok (.iconst (-1), 1) := by decide +kernel
theorem dX8_plainly_111 : decode cX8_plainly 111 = .ok (.ireturn, 1) := by decide +kernel
set_option maxRecDepth 20000 in
theorem ggX8_sets_X8_size : GoodIn wsX8_sets wsX8_size := goodIn_r _ [8, 9, 20, 21, 22, 23, 24, 25, 26, 27, 28, 29, 30, 31, 32, 33, 34, 35, 36, 37, 38, 39, 40, 41, 42, 43, 44] (by decide +kernel) (by decide +kernel)
set_option maxRecDepth 20000 in
theorem gX8_sets_X8_size : GoodIn wsX8_sets (wsV RX8 84 RX8 yX8_size wsX8_size) := goodIn_app (goodIn_of _ (by decide +kernel)) ggX8_sets_X8_size
set_option maxRecDepth 20000 in
theorem ggX8_sets_X8_figure : GoodIn wsX8_sets wsX8_figure := goodIn_r _ [13, 14, 20, 21, 22, 23, 24, 25, 26, 27, 28, 29, 30, 31, 32, 33, 34, 35, 36, 37, 38, 39, 40, 41, 42, 43, 44] (by decide +kernel) (by decide +kernel)
set_option maxRecDepth 20000 in
theorem gX8_sets_X8_figure : GoodIn wsX8_sets (wsV RX8 100 RX8 yX8_figure wsX8_figure) := goodIn_app (goodIn_of _ (by decide +kernel)) ggX8_sets_X8_figure
set_option maxRecDepth 20000 in
theorem ggX8_sets_X8_power : GoodIn wsX8_sets wsX8_power := goodIn_r _ [18, 19, 14, 20, 21, 22, 23, 24, 25, 26, 27, 28, 29, 30, 31, 32, 33, 34, 35, 36, 37, 38, 39, 40, 41, 42, 43, 44] (by decide +kernel) (by decide +kernel)
set_option maxRecDepth 20000 in
theorem gX8_sets_X8_power : GoodIn wsX8_sets (wsV RX8 103 RX8 yX8_power wsX8_power) := goodIn_app (goodIn_of _ (by decide +kernel)) ggX8_sets_X8_power
theorem dX8_sets_0 : decode cX8_sets 0 = .ok (.aload_n 0, 1) := by decide +kernel
theorem dX8_sets_1 : decode cX8_sets 1 = .ok (.iload_n 1, 1) := by decide +kernel
theorem dX8_sets_2 : decode cX8_sets 2 = .ok (.putfield 118, 3) := by decide +kernel
theorem dX8_sets_5 : decode cX8_sets 5 = .ok (.aload_n 0, 1) := by decide +kernel
theorem dX8_sets_6 : decode cX8_sets 6 = .ok (.aload_n 0, 1) := by decide +kernel
theorem dX8_sets_7 : decode cX8_sets 7 = .ok (.aload_n 0, 1) := by decide +kernel
theorem dX8_sets_8 : decode cX8_sets 8 = .ok (.iload_n 2, 1) := by decide +kernel
theorem dX8_sets_9 : decode cX8_sets 9 = .ok (.invokevirtual 84, 3) := by decide +kernel
theorem dX8_sets_12 : decode cX8_sets 12 = .ok (.invokevirtual 100, 3) := by decide +kernel
theorem dX8_sets_15 : decode cX8_sets 15 = .ok (.i2l, 1) := by decide +kernel
theorem dX8_sets_16 : decode cX8_sets 16 = .ok (.putfield 121, 3) := by decide +kernel
theorem dX8_sets_19 : decode cX8_sets 19 = .ok (.aload_n 0, 1) := by decide +kernel
theorem dX8_sets_20 : decode cX8_sets 20 = .ok (.aload_n 0, 1) := by decide +kernel
theorem dX8_sets_21 : decode cX8_sets 21 = .ok (.aload_n 0, 1) := by decide +kernel
theorem dX8_sets_22 : decode cX8_sets 22 = .ok (.iload_n 2, 1) := by decide +kernel
theorem dX8_sets_23 : decode cX8_sets 23 = .ok (.invokevirtual 84, 3) := by decide +kernel
theorem dX8_sets_26 : decode cX8_sets 26 = .ok (.invokevirtual 103, 3) := by decide +kernel
theorem dX8_sets_29 : decode cX8_sets 29 = .ok (.putfield 125, 3) := by decide +kernel
theorem dX8_sets_32 : decode cX8_sets 32 = .ok (.return_, 1) := by decide +kernel
set_option maxRecDepth 20000 in
theorem ggX8_rightOf_X8_plainly : GoodIn wsX8_rightOf wsX8_plainly := goodIn_r _ [6, 1, 7, 8, 9, 10, 5, 11, 12, 13, 14, 15, 60, 61, 62, 63, 64, 65, 66, 67, 68, 69, 70, 71, 72, 73, 74, 75, 76, 77, 78, 79, 80, 81, 82, 83, 84] (by decide +kernel) (by decide +kernel)
set_option maxRecDepth 20000 in
theorem gX8_rightOf_X8_plainly : GoodIn wsX8_rightOf (wsV RX8 154 RX8 yX8_plainly wsX8_plainly) := goodIn_app (goodIn_of _ (by decide +kernel)) ggX8_rightOf_X8_plainly
set_option maxRecDepth 20000 in
theorem ggX8_rightOf_X8_sets : GoodIn wsX8_rightOf wsX8_sets := goodIn_r _ [19, 20, 21, 22, 12, 13, 14, 5, 15, 1, 23, 24, 25, 26, 27, 28, 29, 30, 31, 32, 60, 61, 62, 63, 64, 65, 66, 67, 68, 69, 70, 71, 72, 73, 74, 75, 76, 77, 78, 79, 80, 81, 82, 83, 84] (by decide +kernel) (by decide +kernel)
set_option maxRecDepth 20000 in
theorem gX8_rightOf_X8_sets : GoodIn wsX8_rightOf (wsV RX8 158 RX8 yX8_sets wsX8_sets) := goodIn_app (goodIn_of _ (by decide +kernel)) ggX8_rightOf_X8_sets
set_option maxRecDepth 20000 in
theorem ggX8_rightOf_X8_rounded : GoodIn wsX8_rightOf wsX8_rounded := goodIn_r _ [36, 1, 7, 37, 38, 39, 5, 40, 23, 24, 25, 26, 27, 28, 29, 30, 31, 32, 41, 42, 43, 44, 20, 21, 22, 45, 46, 47, 48, 49, 50, 51, 52, 53, 54, 55, 56, 57, 58, 59, 60, 61, 62, 63, 64, 65, 66, 67, 68, 69, 70, 71, 72, 73, 74, 75, 76, 77, 78, 79, 80, 81, 82, 83, 84] (by decide +kernel) (by decide +kernel)
set_option maxRecDepth 20000 in
theorem gX8_rightOf_X8_rounded : GoodIn wsX8_rightOf (wsV RX8 150 RX8 yX8_rounded wsX8_rounded) := goodIn_app (goodIn_of _ (by decide +kernel)) ggX8_rightOf_X8_rounded
theorem dX8_rightOf_0 : decode cX8_rightOf 0 = .ok (.aload_n 0, 1) := by decide +kernel
theorem dX8_rightOf_1 : decode cX8_rightOf 1 = .ok (.iload_n 1, 1) := by decide +kernel
theorem dX8_rightOf_2 : decode cX8_rightOf 2 = .ok (.iload_n 2, 1) := by decide +kernel
theorem dX8_rightOf_3 : decode cX8_rightOf 3 = .ok (.invokevirtual 154, 3) := by decide +kernel
theorem dX8_rightOf_6 : decode cX8_rightOf 6 = .ok (.istore 4, 2) := by decide +kernel
theorem dX8_rightOf_8 : decode cX8_rightOf 8 = .ok (.iload 4, 2) := by decide +kernel
theorem dX8_rightOf_10 : decode cX8_rightOf 10 = .ok (.ifCond .lt 6, 3) := by decide +kernel
theorem dX8_rightOf_13 : decode cX8_rightOf 13 = .ok (.iload 4, 2) := by decide +kernel
theorem dX8_rightOf_15 : decode cX8_rightOf 15 = .ok (.ireturn, 1) := by decide +kernel
theorem dX8_rightOf_16 : decode cX8_rightOf 16 = .ok (.aload_n 0, 1) := by decide +kernel
theorem dX8_rightOf_17 : decode cX8_rightOf 17 = .ok (.iload_n 1, 1) := by decide +kernel
theorem dX8_rightOf_18 : decode cX8_rightOf 18 = .ok (.iload_n 2, 1) := by decide +kernel
theorem dX8_rightOf_19 : decode cX8_rightOf 19 = .ok (.invokevirtual 158, 3) := by decide +kernel
theorem dX8_rightOf_22 : decode cX8_rightOf 22 = .ok (.aload_n 0, 1) := by decide +kernel
theorem dX8_rightOf_23 : decode cX8_rightOf 23 = .ok (.iload_n 3, 1) := by decide +kernel
theorem dX8_rightOf_24 : decode cX8_rightOf 24 = .ok (.iload_n 2, 1) := by decide +kernel
theorem dX8_rightOf_25 : decode cX8_rightOf 25 = .ok (.aload_n 0, 1) := by decide +kernel
theorem dX8_rightOf_26 : decode cX8_rightOf 26 = .ok (.getfield 65, 3) := by decide +kernel
theorem dX8_rightOf_29 : decode cX8_rightOf 29 = .ok (.if_icmp .lt 12, 3) := by decide +kernel
theorem dX8_rightOf_32 : decode cX8_rightOf 32 = .ok (.iload_n 1, 1) := by decide +kernel
theorem dX8_rightOf_33 : decode cX8_rightOf 33 = .ok (.iconst 3, 1) := by decide +kernel
theorem dX8_rightOf_34 : decode cX8_rightOf 34 = .ok (.if_icmp .eq 7, 3) := by decide +kernel
theorem dX8_rightOf_37 : decode cX8_rightOf 37 = .ok (.iconst 1, 1) := by decide +kernel
theorem dX8_rightOf_38 : decode cX8_rightOf 38 = .ok (.goto 4, 3) := by decide +kernel
theorem dX8_rightOf_41 : decode cX8_rightOf 41 = .ok (.iconst 0, 1) := by decide +kernel
theorem dX8_rightOf_42 : decode cX8_rightOf 42 = .ok (.invokevirtual 150, 3) := by decide +kernel
theorem dX8_rightOf_45 : decode cX8_rightOf 45 = .ok (.ireturn, 1) := by decide +kernel
set_option maxRecDepth 20000 in
theorem ggX8_isFunction_X8_isIn : GoodIn wsX8_isFunction wsX8_isIn := goodIn_r _ [4] (by decide +kernel) (by decide +kernel)
set_option maxRecDepth 20000 in
theorem gX8_isFunction_X8_isIn : GoodIn wsX8_isFunction (va_wsS RX8 80 yX8_isIn wsX8_isIn) := goodIn_app (goodIn_of _ (by decide +kernel)) ggX8_isFunction_X8_isIn
theorem dX8_isFunction_0 : decode cX8_isFunction 0 = .ok (.iload_n 0, 1) := by decide +kernel
theorem dX8_isFunction_1 : decode cX8_isFunction 1 = .ok (.iconst 5, 1) := by decide +kernel
theorem dX8_isFunction_2 : decode cX8_isFunction 2 = .ok (.invokestatic 80, 3) := by decide +kernel
theorem dX8_isFunction_5 : decode cX8_isFunction 5 = .ok (.ireturn, 1) := by decide +kernel
set_option maxRecDepth 20000 in
theorem ggX8_right_X8_isFunction : GoodIn wsX8_right wsX8_isFunction := goodIn_r _ [4, 5, 6, 3, 7] (by decide +kernel) (by decide +kernel)
set_option maxRecDepth 20000 in
theorem gX8_right_X8_isFunction : GoodIn wsX8_right (va_wsS RX8 161 yX8_isFunction wsX8_isFunction) := goodIn_app (goodIn_of _ (by decide +kernel)) ggX8_right_X8_isFunction
set_option maxRecDepth 20000 in
theorem ggX8_right_X8_isCode : GoodIn wsX8_right wsX8_isCode := goodIn_r _ [11, 12, 5, 6, 3, 7, 80, 81, 82, 83, 84, 85, 86, 87, 88, 89, 90, 91, 92, 93, 94, 95, 96, 97, 98, 99, 100, 101, 102, 103, 104] (by decide +kernel) (by decide +kernel)
set_option maxRecDepth 20000 in
theorem gX8_right_X8_isCode : GoodIn wsX8_right (wsV RX8 87 RX8 yX8_isCode wsX8_isCode) := goodIn_app (goodIn_of _ (by decide +kernel)) ggX8_right_X8_isCode
set_option maxRecDepth 20000 in
theorem ggX8_right_X8_isIn : GoodIn wsX8_right wsX8_isIn := goodIn_r _ [7] (by decide +kernel) (by decide +kernel)
set_option maxRecDepth 20000 in
theorem gX8_right_X8_isIn : GoodIn wsX8_right (va_wsS RX8 80 yX8_isIn wsX8_isIn) := goodIn_app (goodIn_of _ (by decide +kernel)) ggX8_right_X8_isIn
set_option maxRecDepth 20000 in
theorem ggX8_right_X8_rightOf : GoodIn wsX8_right wsX8_rightOf := goodIn_r _ [16, 17, 18, 19, 20, 3, 21, 22, 23, 24, 25, 26, 27, 28, 29, 30, 31, 32, 33, 34, 35, 36, 37, 38, 39, 40, 41, 42, 43, 44, 45, 46, 47, 48, 49, 50, 51, 52, 53, 54, 55, 56, 57, 58, 59, 60, 61, 62, 63, 64, 65, 66, 67, 68, 69, 70, 71, 72, 73, 74, 80, 81, 82, 83, 84, 85, 86, 87, 88, 89, 90, 91, 92, 93, 94, 95, 96, 97, 98, 99, 100, 101, 102, 103, 104] (by decide +kernel) (by decide +kernel)
set_option maxRecDepth 20000 in
theorem gX8_right_X8_rightOf : GoodIn wsX8_right (wsV RX8 164 RX8 yX8_rightOf wsX8_rightOf) := goodIn_app (goodIn_of _ (by decide +kernel)) ggX8_right_X8_rightOf
set_option maxRecDepth 20000 in
theorem ggX8_right_X8_refuse : GoodIn wsX8_right wsX8_refuse := goodIn_r _ [78, 79, 80, 81, 82, 83, 84, 85, 86, 87, 88, 89, 90, 91, 92, 93, 94, 95, 96, 97, 98, 99, 100, 101, 102, 103, 104] (by decide +kernel) (by decide +kernel)
set_option maxRecDepth 20000 in
theorem gX8_right_X8_refuse : GoodIn wsX8_right (wsV RX8 51 RX8 yX8_refuse wsX8_refuse) := goodIn_app (goodIn_of _ (by decide +kernel)) ggX8_right_X8_refuse
theorem dX8_right_0 : decode cX8_right 0 = .ok (.iload_n 1, 1) := by decide +kernel
theorem dX8_right_1 : decode cX8_right 1 = .ok (.invokestatic 161, 3) := by decide +kernel
theorem dX8_right_4 : decode cX8_right 4 = .ok (.ifCond .eq 29, 3) := by decide +kernel
theorem dX8_right_7 : decode cX8_right 7 = .ok (.aload_n 0, 1) := by decide +kernel
theorem dX8_right_8 : decode cX8_right 8 = .ok (.iload_n 2, 1) := by decide +kernel
theorem dX8_right_9 : decode cX8_right 9 = .ok (.invokevirtual 87, 3) := by decide +kernel
theorem dX8_right_12 : decode cX8_right 12 = .ok (.ifCond .eq 21, 3) := by decide +kernel
theorem dX8_right_15 : decode cX8_right 15 = .ok (.iload_n 3, 1) := by decide +kernel
theorem dX8_right_16 : decode cX8_right 16 = .ok (.iconst 5, 1) := by decide +kernel
theorem dX8_right_17 : decode cX8_right 17 = .ok (.invokestatic 80, 3) := by decide +kernel
theorem dX8_right_20 : decode cX8_right 20 = .ok (.ifCond .eq 13, 3) := by decide +kernel
theorem dX8_right_23 : decode cX8_right 23 = .ok (.aload_n 0, 1) := by decide +kernel
theorem dX8_right_24 : decode cX8_right 24 = .ok (.iload_n 1, 1) := by decide +kernel
theorem dX8_right_25 : decode cX8_right 25 = .ok (.iload_n 2, 1) := by decide +kernel
theorem dX8_right_26 : decode cX8_right 26 = .ok (.iload_n 3, 1) := by decide +kernel
theorem dX8_right_27 : decode cX8_right 27 = .ok (.invokevirtual 164, 3) := by decide +kernel
theorem dX8_right_30 : decode cX8_right 30 = .ok (.goto 8, 3) := by decide +kernel
theorem dX8_right_33 : decode cX8_right 33 = .ok (.aload_n 0, 1) := by decide +kernel
theorem dX8_right_34 : decode cX8_right 34 = .ok (.iconst (-1), 1) := by decide +kernel
theorem dX8_right_35 : decode cX8_right 35 = .ok (.invokevirtual 51, 3) := by decide +kernel
theorem dX8_right_38 : decode cX8_right 38 = .ok (.ireturn, 1) := by decide +kernel
set_option maxRecDepth 20000 in
theorem ggX8_sortOf_X8_plainly : GoodIn wsX8_sortOf wsX8_plainly := goodIn_r _ [5, 6, 7, 8, 9, 10, 4, 11, 12, 13, 14, 15, 56, 57, 58, 59, 60, 61, 62, 63, 64, 65, 66, 67, 68, 69, 70, 71, 72, 73, 74, 75, 76, 77, 78, 79, 80] (by decide +kernel) (by decide +kernel)
set_option maxRecDepth 20000 in
theorem gX8_sortOf_X8_plainly : GoodIn wsX8_sortOf (wsV RX8 154 RX8 yX8_plainly wsX8_plainly) := goodIn_app (goodIn_of _ (by decide +kernel)) ggX8_sortOf_X8_plainly
set_option maxRecDepth 20000 in
theorem ggX8_sortOf_X8_kind : GoodIn wsX8_sortOf wsX8_kind := goodIn_r _ [11, 7, 12, 13, 14, 4, 15, 6, 56, 57, 58, 59, 60, 61, 62, 63, 64, 65, 66, 67, 68, 69, 70, 71, 72, 73, 74, 75, 76, 77, 78, 79, 80] (by decide +kernel) (by decide +kernel)
set_option maxRecDepth 20000 in
theorem gX8_sortOf_X8_kind : GoodIn wsX8_sortOf (wsV RX8 94 RX8 yX8_kind wsX8_kind) := goodIn_app (goodIn_of _ (by decide +kernel)) ggX8_sortOf_X8_kind
set_option maxRecDepth 20000 in
theorem ggX8_sortOf_X8_sets : GoodIn wsX8_sortOf wsX8_sets := goodIn_r _ [19, 20, 21, 22, 12, 13, 14, 4, 15, 6, 23, 24, 25, 26, 27, 28, 29, 30, 31, 32, 56, 57, 58, 59, 60, 61, 62, 63, 64, 65, 66, 67, 68, 69, 70, 71, 72, 73, 74, 75, 76, 77, 78, 79, 80] (by decide +kernel) (by decide +kernel)
set_option maxRecDepth 20000 in
theorem gX8_sortOf_X8_sets : GoodIn wsX8_sortOf (wsV RX8 158 RX8 yX8_sets wsX8_sets) := goodIn_app (goodIn_of _ (by decide +kernel)) ggX8_sortOf_X8_sets
set_option maxRecDepth 20000 in
theorem ggX8_sortOf_X8_floor : GoodIn wsX8_sortOf wsX8_floor := goodIn_r _ [36, 7, 23, 24, 25, 4, 26, 27, 28, 29, 30, 31, 32, 37, 38, 39, 40, 20, 21, 22, 41, 42, 43, 44, 45, 46, 56, 57, 58, 59, 60, 61, 62, 63, 64, 65, 66, 67, 68, 69, 70, 71, 72, 73, 74, 75, 76, 77, 78, 79, 80] (by decide +kernel) (by decide +kernel)
set_option maxRecDepth 20000 in
theorem gX8_sortOf_X8_floor : GoodIn wsX8_sortOf (wsV RX8 138 RX8 yX8_floor wsX8_floor) := goodIn_app (goodIn_of _ (by decide +kernel)) ggX8_sortOf_X8_floor
set_option maxRecDepth 20000 in
theorem ggX8_sortOf_X8_isFloat : GoodIn wsX8_sortOf wsX8_isFloat := goodIn_r _ [50, 23, 24, 25, 4, 26, 27, 28, 29, 30, 31, 32, 37, 38, 39, 40, 20, 21, 22, 41, 42, 43, 44, 45, 46, 56, 57, 58, 59, 60, 61, 62, 63, 64, 65, 66, 67, 68, 69, 70, 71, 72, 73, 74, 75, 76, 77, 78, 79, 80] (by decide +kernel) (by decide +kernel)
set_option maxRecDepth 20000 in
theorem gX8_sortOf_X8_isFloat : GoodIn wsX8_sortOf (wsV RX8 142 RX8 yX8_isFloat wsX8_isFloat) := goodIn_app (goodIn_of _ (by decide +kernel)) ggX8_sortOf_X8_isFloat
set_option maxRecDepth 20000 in
theorem ggX8_sortOf_X8_middle : GoodIn wsX8_sortOf wsX8_middle := goodIn_r _ [54, 55, 23, 24, 25, 4, 26, 27, 28, 29, 30, 31, 32, 37, 38, 39, 40, 20, 21, 22, 41, 42, 43, 44, 45, 46, 56, 57, 58, 59, 60, 61, 62, 63, 64, 65, 66, 67, 68, 69, 70, 71, 72, 73, 74, 75, 76, 77, 78, 79, 80] (by decide +kernel) (by decide +kernel)
set_option maxRecDepth 20000 in
theorem gX8_sortOf_X8_middle : GoodIn wsX8_sortOf (wsV RX8 145 RX8 yX8_middle wsX8_middle) := goodIn_app (goodIn_of _ (by decide +kernel)) ggX8_sortOf_X8_middle
theorem dX8_sortOf_0 : decode cX8_sortOf 0 = .ok (.aload_n 0, 1) := by decide +kernel
theorem dX8_sortOf_1 : decode cX8_sortOf 1 = .ok (.iload_n 1, 1) := by decide +kernel
theorem dX8_sortOf_2 : decode cX8_sortOf 2 = .ok (.iload_n 2, 1) := by decide +kernel
theorem dX8_sortOf_3 : decode cX8_sortOf 3 = .ok (.invokevirtual 154, 3) := by decide +kernel
theorem dX8_sortOf_6 : decode cX8_sortOf 6 = .ok (.ifCond .lt 22, 3) := by decide +kernel
theorem dX8_sortOf_9 : decode cX8_sortOf 9 = .ok (.aload_n 0, 1) := by decide +kernel
theorem dX8_sortOf_10 : decode cX8_sortOf 10 = .ok (.iload_n 2, 1) := by decide +kernel
theorem dX8_sortOf_11 : decode cX8_sortOf 11 = .ok (.invokevirtual 94, 3) := by decide +kernel
theorem dX8_sortOf_14 : decode cX8_sortOf 14 = .ok (.iconst 1, 1) := by decide +kernel
theorem dX8_sortOf_15 : decode cX8_sortOf 15 = .ok (.if_icmp .ne 11, 3) := by decide +kernel
theorem dX8_sortOf_18 : decode cX8_sortOf 18 = .ok (.iload_n 1, 1) := by decide +kernel
theorem dX8_sortOf_19 : decode cX8_sortOf 19 = .ok (.ifCond .eq 7, 3) := by decide +kernel
theorem dX8_sortOf_22 : decode cX8_sortOf 22 = .ok (.iconst 1, 1) := by decide +kernel
theorem dX8_sortOf_23 : decode cX8_sortOf 23 = .ok (.goto 4, 3) := by decide +kernel
theorem dX8_sortOf_26 : decode cX8_sortOf 26 = .ok (.iconst 0, 1) := by decide +kernel
theorem dX8_sortOf_27 : decode cX8_sortOf 27 = .ok (.ireturn, 1) := by decide +kernel
theorem dX8_sortOf_28 : decode cX8_sortOf 28 = .ok (.aload_n 0, 1) := by decide +kernel
theorem dX8_sortOf_29 : decode cX8_sortOf 29 = .ok (.iload_n 1, 1) := by decide +kernel
theorem dX8_sortOf_30 : decode cX8_sortOf 30 = .ok (.iload_n 2, 1) := by decide +kernel
theorem dX8_sortOf_31 : decode cX8_sortOf 31 = .ok (.invokevirtual 158, 3) := by decide +kernel
theorem dX8_sortOf_34 : decode cX8_sortOf 34 = .ok (.aload_n 0, 1) := by decide +kernel
theorem dX8_sortOf_35 : decode cX8_sortOf 35 = .ok (.invokevirtual 138, 3) := by decide +kernel
theorem dX8_sortOf_38 : decode cX8_sortOf 38 = .ok (.istore_n 3, 1) := by decide +kernel
theorem dX8_sortOf_39 : decode cX8_sortOf 39 = .ok (.aload_n 0, 1) := by decide +kernel
theorem dX8_sortOf_40 : decode cX8_sortOf 40 = .ok (.iload_n 3, 1) := by decide +kernel
theorem dX8_sortOf_41 : decode cX8_sortOf 41 = .ok (.invokevirtual 142, 3) := by decide +kernel
theorem dX8_sortOf_44 : decode cX8_sortOf 44 = .ok (.ifCond .eq 7, 3) := by decide +kernel
theorem dX8_sortOf_47 : decode cX8_sortOf 47 = .ok (.iconst 1, 1) := by decide +kernel
theorem dX8_sortOf_48 : decode cX8_sortOf 48 = .ok (.goto 16, 3) := by decide +kernel
theorem dX8_sortOf_51 : decode cX8_sortOf 51 = .ok (.aload_n 0, 1) := by decide +kernel
theorem dX8_sortOf_52 : decode cX8_sortOf 52 = .ok (.iload_n 3, 1) := by decide +kernel
theorem dX8_sortOf_53 : decode cX8_sortOf 53 = .ok (.invokevirtual 145, 3) := by decide +kernel
theorem dX8_sortOf_56 : decode cX8_sortOf 56 = .ok (.ifCond .ne 7, 3) := by decide +kernel
theorem dX8_sortOf_59 : decode cX8_sortOf 59 = .ok (.iconst 2, 1) := by decide +kernel
theorem dX8_sortOf_60 : decode cX8_sortOf 60 = .ok (.goto 4, 3) := by decide +kernel
theorem dX8_sortOf_63 : decode cX8_sortOf 63 = .ok (.iconst 3, 1) := by decide +kernel
theorem dX8_sortOf_64 : decode cX8_sortOf 64 = .ok (.ireturn, 1) := by decide +kernel
set_option maxRecDepth 20000 in
theorem ggX8_sort_X8_isFunction : GoodIn wsX8_sort wsX8_isFunction := goodIn_r _ [4, 5, 6, 3, 7] (by decide +kernel) (by decide +kernel)
set_option maxRecDepth 20000 in
theorem gX8_sort_X8_isFunction : GoodIn wsX8_sort (va_wsS RX8 161 yX8_isFunction wsX8_isFunction) := goodIn_app (goodIn_of _ (by decide +kernel)) ggX8_sort_X8_isFunction
set_option maxRecDepth 20000 in
theorem ggX8_sort_X8_isCode : GoodIn wsX8_sort wsX8_isCode := goodIn_r _ [11, 12, 5, 6, 3, 7, 76, 77, 78, 79, 80, 81, 82, 83, 84, 85, 86, 87, 88, 89, 90, 91, 92, 93, 94, 95, 96, 97, 98, 99, 100] (by decide +kernel) (by decide +kernel)
set_option maxRecDepth 20000 in
theorem gX8_sort_X8_isCode : GoodIn wsX8_sort (wsV RX8 87 RX8 yX8_isCode wsX8_isCode) := goodIn_app (goodIn_of _ (by decide +kernel)) ggX8_sort_X8_isCode
set_option maxRecDepth 20000 in
theorem ggX8_sort_X8_sortOf : GoodIn wsX8_sort wsX8_sortOf := goodIn_r _ [16, 17, 18, 19, 3, 20, 21, 22, 23, 24, 25, 26, 27, 28, 29, 30, 31, 32, 33, 34, 35, 36, 37, 38, 39, 40, 41, 42, 43, 44, 45, 46, 47, 48, 49, 50, 51, 52, 53, 54, 55, 56, 57, 58, 59, 60, 61, 62, 63, 64, 65, 66, 67, 68, 69, 70, 76, 77, 78, 79, 80, 81, 82, 83, 84, 85, 86, 87, 88, 89, 90, 91, 92, 93, 94, 95, 96, 97, 98, 99, 100] (by decide +kernel) (by decide +kernel)
set_option maxRecDepth 20000 in
theorem gX8_sort_X8_sortOf : GoodIn wsX8_sort (wsV RX8 168 RX8 yX8_sortOf wsX8_sortOf) := goodIn_app (goodIn_of _ (by decide +kernel)) ggX8_sort_X8_sortOf
set_option maxRecDepth 20000 in
theorem ggX8_sort_X8_refuse : GoodIn wsX8_sort wsX8_refuse := goodIn_r _ [74, 75, 76, 77, 78, 79, 80, 81, 82, 83, 84, 85, 86, 87, 88, 89, 90, 91, 92, 93, 94, 95, 96, 97, 98, 99, 100] (by decide +kernel) (by decide +kernel)
set_option maxRecDepth 20000 in
theorem gX8_sort_X8_refuse : GoodIn wsX8_sort (wsV RX8 51 RX8 yX8_refuse wsX8_refuse) := goodIn_app (goodIn_of _ (by decide +kernel)) ggX8_sort_X8_refuse
theorem dX8_sort_0 : decode cX8_sort 0 = .ok (.iload_n 1, 1) := by decide +kernel
theorem dX8_sort_1 : decode cX8_sort 1 = .ok (.invokestatic 161, 3) := by decide +kernel
theorem dX8_sort_4 : decode cX8_sort 4 = .ok (.ifCond .eq 20, 3) := by decide +kernel
theorem dX8_sort_7 : decode cX8_sort 7 = .ok (.aload_n 0, 1) := by decide +kernel
theorem dX8_sort_8 : decode cX8_sort 8 = .ok (.iload_n 2, 1) := by decide +kernel
theorem dX8_sort_9 : decode cX8_sort 9 = .ok (.invokevirtual 87, 3) := by decide +kernel
theorem dX8_sort_12 : decode cX8_sort 12 = .ok (.ifCond .eq 12, 3) := by decide +kernel
theorem dX8_sort_15 : decode cX8_sort 15 = .ok (.aload_n 0, 1) := by decide +kernel
theorem dX8_sort_16 : decode cX8_sort 16 = .ok (.iload_n 1, 1) := by decide +kernel
theorem dX8_sort_17 : decode cX8_sort 17 = .ok (.iload_n 2, 1) := by decide +kernel
theorem dX8_sort_18 : decode cX8_sort 18 = .ok (.invokevirtual 168, 3) := by decide +kernel
theorem dX8_sort_21 : decode cX8_sort 21 = .ok (.goto 8, 3) := by decide +kernel
theorem dX8_sort_24 : decode cX8_sort 24 = .ok (.aload_n 0, 1) := by decide +kernel
theorem dX8_sort_25 : decode cX8_sort 25 = .ok (.iconst (-1), 1) := by decide +kernel
theorem dX8_sort_26 : decode cX8_sort 26 = .ok (.invokevirtual 51, 3) := by decide +kernel
theorem dX8_sort_29 : decode cX8_sort 29 = .ok (.ireturn, 1) := by decide +kernel
set_option maxRecDepth 20000 in
theorem ggX8_figuresOf_X8_plainly : GoodIn wsX8_figuresOf wsX8_plainly := goodIn_r _ [7, 8, 1, 9, 10, 11, 6, 12, 13, 14, 15, 16, 52, 53, 54, 55, 56, 57, 58, 59, 60, 61, 62, 63, 64, 65, 66, 67, 68, 69, 70, 71, 72, 73, 74, 75, 76] (by decide +kernel) (by decide +kernel)
set_option maxRecDepth 20000 in
theorem gX8_figuresOf_X8_plainly : GoodIn wsX8_figuresOf (wsV RX8 154 RX8 yX8_plainly wsX8_plainly) := goodIn_app (goodIn_of _ (by decide +kernel)) ggX8_figuresOf_X8_plainly
set_option maxRecDepth 20000 in
theorem ggX8_figuresOf_X8_sets : GoodIn wsX8_figuresOf wsX8_sets := goodIn_r _ [20, 21, 22, 23, 13, 14, 15, 6, 16, 8, 24, 25, 26, 27, 28, 29, 30, 31, 32, 33, 52, 53, 54, 55, 56, 57, 58, 59, 60, 61, 62, 63, 64, 65, 66, 67, 68, 69, 70, 71, 72, 73, 74, 75, 76] (by decide +kernel) (by decide +kernel)
set_option maxRecDepth 20000 in
theorem gX8_figuresOf_X8_sets : GoodIn wsX8_figuresOf (wsV RX8 158 RX8 yX8_sets wsX8_sets) := goodIn_app (goodIn_of _ (by decide +kernel)) ggX8_figuresOf_X8_sets
set_option maxRecDepth 20000 in
theorem ggX8_figuresOf_X8_floor : GoodIn wsX8_figuresOf wsX8_floor := goodIn_r _ [37, 1, 24, 25, 26, 6, 27, 28, 29, 30, 31, 32, 33, 38, 39, 40, 41, 21, 22, 23, 42, 43, 44, 45, 46, 47, 52, 53, 54, 55, 56, 57, 58, 59, 60, 61, 62, 63, 64, 65, 66, 67, 68, 69, 70, 71, 72, 73, 74, 75, 76] (by decide +kernel) (by decide +kernel)
set_option maxRecDepth 20000 in
theorem gX8_figuresOf_X8_floor : GoodIn wsX8_figuresOf (wsV RX8 138 RX8 yX8_floor wsX8_floor) := goodIn_app (goodIn_of _ (by decide +kernel)) ggX8_figuresOf_X8_floor
set_option maxRecDepth 20000 in
theorem ggX8_figuresOf_X8_isFloat : GoodIn wsX8_figuresOf wsX8_isFloat := goodIn_r _ [51, 24, 25, 26, 6, 27, 28, 29, 30, 31, 32, 33, 38, 39, 40, 41, 21, 22, 23, 42, 43, 44, 45, 46, 47, 52, 53, 54, 55, 56, 57, 58, 59, 60, 61, 62, 63, 64, 65, 66, 67, 68, 69, 70, 71, 72, 73, 74, 75, 76] (by decide +kernel) (by decide +kernel)
set_option maxRecDepth 20000 in
theorem gX8_figuresOf_X8_isFloat : GoodIn wsX8_figuresOf (wsV RX8 142 RX8 yX8_isFloat wsX8_isFloat) := goodIn_app (goodIn_of _ (by decide +kernel)) ggX8_figuresOf_X8_isFloat
set_option maxRecDepth 20000 in
theorem ggX8_figuresOf_X8_figure : GoodIn wsX8_figuresOf wsX8_figure := goodIn_r _ [27, 28, 52, 53, 54, 55, 56, 57, 58, 59, 60, 61, 62, 63, 64, 65, 66, 67, 68, 69, 70, 71, 72, 73, 74, 75, 76] (by decide +kernel) (by decide +kernel)
set_option maxRecDepth 20000 in
theorem gX8_figuresOf_X8_figure : GoodIn wsX8_figuresOf (wsV RX8 100 RX8 yX8_figure wsX8_figure) := goodIn_app (goodIn_of _ (by decide +kernel)) ggX8_figuresOf_X8_figure
set_option maxRecDepth 20000 in
theorem ggX8_figuresOf_X8_power : GoodIn wsX8_figuresOf wsX8_power := goodIn_r _ [32, 33, 28, 52, 53, 54, 55, 56, 57, 58, 59, 60, 61, 62, 63, 64, 65, 66, 67, 68, 69, 70, 71, 72, 73, 74, 75, 76] (by decide +kernel) (by decide +kernel)
set_option maxRecDepth 20000 in
theorem gX8_figuresOf_X8_power : GoodIn wsX8_figuresOf (wsV RX8 103 RX8 yX8_power wsX8_power) := goodIn_app (goodIn_of _ (by decide +kernel)) ggX8_figuresOf_X8_power
set_option maxRecDepth 20000 in
theorem ggX8_figuresOf_X8_stands : GoodIn wsX8_figuresOf wsX8_stands := goodIn_r _ [41, 21, 22, 23, 42, 43, 6, 44, 45, 46, 47, 52, 53, 54, 55, 56, 57, 58, 59, 60, 61, 62, 63, 64, 65, 66, 67, 68, 69, 70, 71, 72, 73, 74, 75, 76] (by decide +kernel) (by decide +kernel)
set_option maxRecDepth 20000 in
theorem gX8_figuresOf_X8_stands : GoodIn wsX8_figuresOf (wsV RX8 132 RX8 yX8_stands wsX8_stands) := goodIn_app (goodIn_of _ (by decide +kernel)) ggX8_figuresOf_X8_stands
theorem dX8_figuresOf_0 : decode cX8_figuresOf 0 = .ok (.aload_n 0, 1) := by decide +kernel
theorem dX8_figuresOf_1 : decode cX8_figuresOf 1 = .ok (.iload_n 1, 1) := by decide +kernel
theorem dX8_figuresOf_2 : decode cX8_figuresOf 2 = .ok (.iload_n 2, 1) := by decide +kernel
theorem dX8_figuresOf_3 : decode cX8_figuresOf 3 = .ok (.invokevirtual 154, 3) := by decide +kernel
theorem dX8_figuresOf_6 : decode cX8_figuresOf 6 = .ok (.ifCond .lt 6, 3) := by decide +kernel
theorem dX8_figuresOf_9 : decode cX8_figuresOf 9 = .ok (.bipush (-9), 2) := by decide +kernel
theorem dX8_figuresOf_11 : decode cX8_figuresOf 11 = .ok (.ireturn, 1) := by decide +kernel
theorem dX8_figuresOf_12 : decode cX8_figuresOf 12 = .ok (.aload_n 0, 1) := by decide +kernel
theorem dX8_figuresOf_13 : decode cX8_figuresOf 13 = .ok (.iload_n 1, 1) := by decide +kernel
theorem dX8_figuresOf_14 : decode cX8_figuresOf 14 = .ok (.iload_n 2, 1) := by decide +kernel
theorem dX8_figuresOf_15 : decode cX8_figuresOf 15 = .ok (.invokevirtual 158, 3) := by decide +kernel
theorem dX8_figuresOf_18 : decode cX8_figuresOf 18 = .ok (.aload_n 0, 1) := by decide +kernel
theorem dX8_figuresOf_19 : decode cX8_figuresOf 19 = .ok (.invokevirtual 138, 3) := by decide +kernel
theorem dX8_figuresOf_22 : decode cX8_figuresOf 22 = .ok (.istore_n 3, 1) := by decide +kernel
theorem dX8_figuresOf_23 : decode cX8_figuresOf 23 = .ok (.iload_n 3, 1) := by decide +kernel
theorem dX8_figuresOf_24 : decode cX8_figuresOf 24 = .ok (.aload_n 0, 1) := by decide +kernel
theorem dX8_figuresOf_25 : decode cX8_figuresOf 25 = .ok (.getfield 68, 3) := by decide +kernel
theorem dX8_figuresOf_28 : decode cX8_figuresOf 28 = .ok (.if_icmp .eq 11, 3) := by decide +kernel
theorem dX8_figuresOf_31 : decode cX8_figuresOf 31 = .ok (.aload_n 0, 1) := by decide +kernel
theorem dX8_figuresOf_32 : decode cX8_figuresOf 32 = .ok (.iload_n 3, 1) := by decide +kernel
theorem dX8_figuresOf_33 : decode cX8_figuresOf 33 = .ok (.invokevirtual 142, 3) := by decide +kernel
theorem dX8_figuresOf_36 : decode cX8_figuresOf 36 = .ok (.ifCond .eq 6, 3) := by decide +kernel
theorem dX8_figuresOf_39 : decode cX8_figuresOf 39 = .ok (.bipush (-9), 2) := by decide +kernel
theorem dX8_figuresOf_41 : decode cX8_figuresOf 41 = .ok (.ireturn, 1) := by decide +kernel
theorem dX8_figuresOf_42 : decode cX8_figuresOf 42 = .ok (.aload_n 0, 1) := by decide +kernel
theorem dX8_figuresOf_43 : decode cX8_figuresOf 43 = .ok (.iload_n 3, 1) := by decide +kernel
theorem dX8_figuresOf_44 : decode cX8_figuresOf 44 = .ok (.invokevirtual 100, 3) := by decide +kernel
theorem dX8_figuresOf_47 : decode cX8_figuresOf 47 = .ok (.i2l, 1) := by decide +kernel
theorem dX8_figuresOf_48 : decode cX8_figuresOf 48 = .ok (.lstore 4, 2) := by decide +kernel
theorem dX8_figuresOf_50 : decode cX8_figuresOf 50 = .ok (.iconst 0, 1) := by decide +kernel
theorem dX8_figuresOf_51 : decode cX8_figuresOf 51 = .ok (.istore 6, 2) := by decide +kernel
theorem dX8_figuresOf_53 : decode cX8_figuresOf 53 = .ok (.iconst 1, 1) := by decide +kernel
theorem dX8_figuresOf_54 : decode cX8_figuresOf 54 = .ok (.istore 7, 2) := by decide +kernel
theorem dX8_figuresOf_56 : decode cX8_figuresOf 56 = .ok (.iload 7, 2) := by decide +kernel
theorem dX8_figuresOf_58 : decode cX8_figuresOf 58 = .ok (.bipush 10, 2) := by decide +kernel
theorem dX8_figuresOf_60 : decode cX8_figuresOf 60 = .ok (.if_icmp .gt 75, 3) := by decide +kernel
theorem dX8_figuresOf_63 : decode cX8_figuresOf 63 = .ok (.ldc2_w 136, 3) := by decide +kernel
theorem dX8_figuresOf_66 : decode cX8_figuresOf 66 = .ok (.lload 4, 2) := by decide +kernel
theorem dX8_figuresOf_68 : decode cX8_figuresOf 68 = .ok (.lmul, 1) := by decide +kernel
theorem dX8_figuresOf_69 : decode cX8_figuresOf 69 = .ok (.lconst 1, 1) := by decide +kernel
theorem dX8_figuresOf_70 : decode cX8_figuresOf 70 = .ok (.ladd, 1) := by decide +kernel
theorem dX8_figuresOf_71 : decode cX8_figuresOf 71 = .ok (.lstore 4, 2) := by decide +kernel
theorem dX8_figuresOf_73 : decode cX8_figuresOf 73 = .ok (.aload_n 0, 1) := by decide +kernel
theorem dX8_figuresOf_74 : decode cX8_figuresOf 74 = .ok (.lload 4, 2) := by decide +kernel
theorem dX8_figuresOf_76 : decode cX8_figuresOf 76 = .ok (.aload_n 0, 1) := by decide +kernel
theorem dX8_figuresOf_77 : decode cX8_figuresOf 77 = .ok (.iload_n 3, 1) := by decide +kernel
theorem dX8_figuresOf_78 : decode cX8_figuresOf 78 = .ok (.invokevirtual 103, 3) := by decide +kernel
theorem dX8_figuresOf_81 : decode cX8_figuresOf 81 = .ok (.iload 7, 2) := by decide +kernel
theorem dX8_figuresOf_83 : decode cX8_figuresOf 83 = .ok (.isub, 1) := by decide +kernel
theorem dX8_figuresOf_84 : decode cX8_figuresOf 84 = .ok (.invokevirtual 132, 3) := by decide +kernel
theorem dX8_figuresOf_87 : decode cX8_figuresOf 87 = .ok (.ifCond .lt 7, 3) := by decide +kernel
theorem dX8_figuresOf_90 : decode cX8_figuresOf 90 = .ok (.iconst 1, 1) := by decide +kernel
theorem dX8_figuresOf_91 : decode cX8_figuresOf 91 = .ok (.goto 4, 3) := by decide +kernel
theorem dX8_figuresOf_94 : decode cX8_figuresOf 94 = .ok (.iconst 0, 1) := by decide +kernel
theorem dX8_figuresOf_95 : decode cX8_figuresOf 95 = .ok (.istore 8, 2) := by decide +kernel
theorem dX8_figuresOf_97 : decode cX8_figuresOf 97 = .ok (.lload 4, 2) := by decide +kernel
theorem dX8_figuresOf_99 : decode cX8_figuresOf 99 = .ok (.iload 8, 2) := by decide +kernel
theorem dX8_figuresOf_101 : decode cX8_figuresOf 101 = .ok (.ifCond .eq 7, 3) := by decide +kernel
theorem dX8_figuresOf_104 : decode cX8_figuresOf 104 = .ok (.lconst 0, 1) := by decide +kernel
theorem dX8_figuresOf_105 : decode cX8_figuresOf 105 = .ok (.goto 4, 3) := by decide +kernel
theorem dX8_figuresOf_108 : decode cX8_figuresOf 108 = .ok (.lconst 1, 1) := by decide +kernel
theorem dX8_figuresOf_109 : decode cX8_figuresOf 109 = .ok (.lsub, 1) := by decide +kernel
theorem dX8_figuresOf_110 : decode cX8_figuresOf 110 = .ok (.lstore 4, 2) := by decide +kernel
theorem dX8_figuresOf_112 : decode cX8_figuresOf 112 = .ok (.iconst 2, 1) := by decide +kernel
theorem dX8_figuresOf_113 : decode cX8_figuresOf 113 = .ok (.iload 6, 2) := by decide +kernel
theorem dX8_figuresOf_115 : decode cX8_figuresOf 115 = .ok (.imul, 1) := by decide +kernel
theorem dX8_figuresOf_116 : decode cX8_figuresOf 116 = .ok (.iload 8, 2) := by decide +kernel
theorem dX8_figuresOf_118 : decode cX8_figuresOf 118 = .ok (.ifCond .eq 7, 3) := by decide +kernel
theorem dX8_figuresOf_121 : decode cX8_figuresOf 121 = .ok (.iconst 1, 1) := by decide +kernel
theorem dX8_figuresOf_122 : decode cX8_figuresOf 122 = .ok (.goto 4, 3) := by decide +kernel
theorem dX8_figuresOf_125 : decode cX8_figuresOf 125 = .ok (.iconst 0, 1) := by decide +kernel
theorem dX8_figuresOf_126 : decode cX8_figuresOf 126 = .ok (.iadd, 1) := by decide +kernel
theorem dX8_figuresOf_127 : decode cX8_figuresOf 127 = .ok (.istore 6, 2) := by decide +kernel
theorem dX8_figuresOf_129 : decode cX8_figuresOf 129 = .ok (.iinc 7 1, 3) := by decide +kernel
theorem dX8_figuresOf_132 : decode cX8_figuresOf 132 = .ok (.goto (-76), 3) := by decide +kernel
theorem dX8_figuresOf_135 : decode cX8_figuresOf 135 = .ok (.iload 6, 2) := by decide +kernel
theorem dX8_figuresOf_137 : decode cX8_figuresOf 137 = .ok (.ireturn, 1) := by decide +kernel
set_option maxRecDepth 20000 in
theorem ggX8_figures_X8_isFunction : GoodIn wsX8_figures wsX8_isFunction := goodIn_r _ [4, 5, 6, 3, 7] (by decide +kernel) (by decide +kernel)
set_option maxRecDepth 20000 in
theorem gX8_figures_X8_isFunction : GoodIn wsX8_figures (va_wsS RX8 161 yX8_isFunction wsX8_isFunction) := goodIn_app (goodIn_of _ (by decide +kernel)) ggX8_figures_X8_isFunction
set_option maxRecDepth 20000 in
theorem ggX8_figures_X8_isCode : GoodIn wsX8_figures wsX8_isCode := goodIn_r _ [11, 12, 5, 6, 3, 7, 72, 73, 74, 75, 76, 77, 78, 79, 80, 81, 82, 83, 84, 85, 86, 87, 88, 89, 90, 91, 92, 93, 94, 95, 96] (by decide +kernel) (by decide +kernel)
set_option maxRecDepth 20000 in
theorem gX8_figures_X8_isCode : GoodIn wsX8_figures (wsV RX8 87 RX8 yX8_isCode wsX8_isCode) := goodIn_app (goodIn_of _ (by decide +kernel)) ggX8_figures_X8_isCode
set_option maxRecDepth 20000 in
theorem ggX8_figures_X8_figuresOf : GoodIn wsX8_figures wsX8_figuresOf := goodIn_r _ [16, 17, 18, 19, 20, 21, 3, 22, 23, 24, 25, 26, 27, 28, 29, 30, 31, 32, 33, 34, 35, 36, 37, 38, 39, 40, 41, 42, 43, 44, 45, 46, 47, 48, 49, 50, 51, 52, 53, 54, 55, 56, 57, 58, 59, 60, 61, 62, 63, 64, 65, 66, 72, 73, 74, 75, 76, 77, 78, 79, 80, 81, 82, 83, 84, 85, 86, 87, 88, 89, 90, 91, 92, 93, 94, 95, 96] (by decide +kernel) (by decide +kernel)
set_option maxRecDepth 20000 in
theorem gX8_figures_X8_figuresOf : GoodIn wsX8_figures (wsV RX8 171 RX8 yX8_figuresOf wsX8_figuresOf) := goodIn_app (goodIn_of _ (by decide +kernel)) ggX8_figures_X8_figuresOf
set_option maxRecDepth 20000 in
theorem ggX8_figures_X8_refuse : GoodIn wsX8_figures wsX8_refuse := goodIn_r _ [70, 71, 72, 73, 74, 75, 76, 77, 78, 79, 80, 81, 82, 83, 84, 85, 86, 87, 88, 89, 90, 91, 92, 93, 94, 95, 96] (by decide +kernel) (by decide +kernel)
set_option maxRecDepth 20000 in
theorem gX8_figures_X8_refuse : GoodIn wsX8_figures (wsV RX8 51 RX8 yX8_refuse wsX8_refuse) := goodIn_app (goodIn_of _ (by decide +kernel)) ggX8_figures_X8_refuse
theorem dX8_figures_0 : decode cX8_figures 0 = .ok (.iload_n 1, 1) := by decide +kernel
theorem dX8_figures_1 : decode cX8_figures 1 = .ok (.invokestatic 161, 3) := by decide +kernel
theorem dX8_figures_4 : decode cX8_figures 4 = .ok (.ifCond .eq 20, 3) := by decide +kernel
theorem dX8_figures_7 : decode cX8_figures 7 = .ok (.aload_n 0, 1) := by decide +kernel
theorem dX8_figures_8 : decode cX8_figures 8 = .ok (.iload_n 2, 1) := by decide +kernel
theorem dX8_figures_9 : decode cX8_figures 9 = .ok (.invokevirtual 87, 3) := by decide +kernel
theorem dX8_figures_12 : decode cX8_figures 12 = .ok (.ifCond .eq 12, 3) := by decide +kernel
theorem dX8_figures_15 : decode cX8_figures 15 = .ok (.aload_n 0, 1) := by decide +kernel
theorem dX8_figures_16 : decode cX8_figures 16 = .ok (.iload_n 1, 1) := by decide +kernel
theorem dX8_figures_17 : decode cX8_figures 17 = .ok (.iload_n 2, 1) := by decide +kernel
theorem dX8_figures_18 : decode cX8_figures 18 = .ok (.invokevirtual 171, 3) := by decide +kernel
theorem dX8_figures_21 : decode cX8_figures 21 = .ok (.goto 8, 3) := by decide +kernel
theorem dX8_figures_24 : decode cX8_figures 24 = .ok (.aload_n 0, 1) := by decide +kernel
theorem dX8_figures_25 : decode cX8_figures 25 = .ok (.iconst (-1), 1) := by decide +kernel
theorem dX8_figures_26 : decode cX8_figures 26 = .ok (.invokevirtual 51, 3) := by decide +kernel
theorem dX8_figures_29 : decode cX8_figures 29 = .ok (.ireturn, 1) := by decide +kernel
