theorem dX4_at_0 : decode cX4_at 0 = .ok (.iload_n 1, 1) := by decide +kernel
theorem dX4_at_1 : decode cX4_at 1 = .ok (.ifCond .lt 15, 3) := by decide +kernel
theorem dX4_at_4 : decode cX4_at 4 = .ok (.iload_n 1, 1) := by decide +kernel
theorem dX4_at_5 : decode cX4_at 5 = .ok (.aload_n 0, 1) := by decide +kernel
theorem dX4_at_6 : decode cX4_at 6 = .ok (.arraylength, 1) := by decide +kernel
theorem dX4_at_7 : decode cX4_at 7 = .ok (.if_icmp .ge 9, 3) := by decide +kernel
theorem dX4_at_10 : decode cX4_at 10 = .ok (.aload_n 0, 1) := by decide +kernel
theorem dX4_at_11 : decode cX4_at 11 = .ok (.iload_n 1, 1) := by decide +kernel
theorem dX4_at_12 : decode cX4_at 12 = .ok (.iaload, 1) := by decide +kernel
theorem dX4_at_13 : decode cX4_at 13 = .ok (.goto 4, 3) := by decide +kernel
theorem dX4_at_16 : decode cX4_at 16 = .ok (.iconst 0, 1) := by decide +kernel
theorem dX4_at_17 : decode cX4_at 17 = .ok (.ireturn, 1) := by decide +kernel
theorem dX4_put_0 : decode cX4_put 0 = .ok (.iload_n 1, 1) := by decide +kernel
theorem dX4_put_1 : decode cX4_put 1 = .ok (.ifCond .lt 13, 3) := by decide +kernel
theorem dX4_put_4 : decode cX4_put 4 = .ok (.iload_n 1, 1) := by decide +kernel
theorem dX4_put_5 : decode cX4_put 5 = .ok (.aload_n 0, 1) := by decide +kernel
theorem dX4_put_6 : decode cX4_put 6 = .ok (.arraylength, 1) := by decide +kernel
theorem dX4_put_7 : decode cX4_put 7 = .ok (.if_icmp .ge 7, 3) := by decide +kernel
theorem dX4_put_10 : decode cX4_put 10 = .ok (.aload_n 0, 1) := by decide +kernel
theorem dX4_put_11 : decode cX4_put 11 = .ok (.iload_n 1, 1) := by decide +kernel
theorem dX4_put_12 : decode cX4_put 12 = .ok (.iload_n 2, 1) := by decide +kernel
theorem dX4_put_13 : decode cX4_put 13 = .ok (.iastore, 1) := by decide +kernel
theorem dX4_put_14 : decode cX4_put 14 = .ok (.return_, 1) := by decide +kernel
set_option maxRecDepth 20000 in
theorem ggX4_addOne_X4_at : GoodIn wsX4_addOne wsX4_at := goodIn_r _ [4] (by decide +kernel) (by decide +kernel)
set_option maxRecDepth 20000 in
theorem gX4_addOne_X4_at : GoodIn wsX4_addOne (va_wsS RX4 7 yX4_at wsX4_at) := goodIn_app (goodIn_of _ (by decide +kernel)) ggX4_addOne_X4_at
set_option maxRecDepth 20000 in
theorem ggX4_addOne_X4_put : GoodIn wsX4_addOne wsX4_put := goodIn_r _ [7] (by decide +kernel) (by decide +kernel)
set_option maxRecDepth 20000 in
theorem gX4_addOne_X4_put : GoodIn wsX4_addOne (va_wsS RX4 13 yX4_put wsX4_put) := goodIn_app (goodIn_of _ (by decide +kernel)) ggX4_addOne_X4_put
theorem dX4_addOne_0 : decode cX4_addOne 0 = .ok (.aload_n 0, 1) := by decide +kernel
theorem dX4_addOne_1 : decode cX4_addOne 1 = .ok (.iload_n 1, 1) := by decide +kernel
theorem dX4_addOne_2 : decode cX4_addOne 2 = .ok (.aload_n 0, 1) := by decide +kernel
theorem dX4_addOne_3 : decode cX4_addOne 3 = .ok (.iload_n 1, 1) := by decide +kernel
theorem dX4_addOne_4 : decode cX4_addOne 4 = .ok (.invokestatic 7, 3) := by decide +kernel
theorem dX4_addOne_7 : decode cX4_addOne 7 = .ok (.iconst 1, 1) := by decide +kernel
theorem dX4_addOne_8 : decode cX4_addOne 8 = .ok (.iadd, 1) := by decide +kernel
theorem dX4_addOne_9 : decode cX4_addOne 9 = .ok (.invokestatic 13, 3) := by decide +kernel
theorem dX4_addOne_12 : decode cX4_addOne 12 = .ok (.return_, 1) := by decide +kernel
theorem dX5_init_0 : decode cX5_init 0 = .ok (.aload_n 0, 1) := by decide +kernel
theorem dX5_init_1 : decode cX5_init 1 = .ok (.invokespecial 3, 3) := by decide +kernel
theorem dX5_init_4 : decode cX5_init 4 = .ok (.aload_n 0, 1) := by decide +kernel
theorem dX5_init_5 : decode cX5_init 5 = .ok (.aload_n 1, 1) := by decide +kernel
theorem dX5_init_6 : decode cX5_init 6 = .ok (.putfield 9, 3) := by decide +kernel
theorem dX5_init_9 : decode cX5_init 9 = .ok (.aload_n 0, 1) := by decide +kernel
theorem dX5_init_10 : decode cX5_init 10 = .ok (.aload_n 2, 1) := by decide +kernel
theorem dX5_init_11 : decode cX5_init 11 = .ok (.putfield 15, 3) := by decide +kernel
theorem dX5_init_14 : decode cX5_init 14 = .ok (.aload_n 0, 1) := by decide +kernel
theorem dX5_init_15 : decode cX5_init 15 = .ok (.bipush 25, 2) := by decide +kernel
theorem dX5_init_17 : decode cX5_init 17 = .ok (.newarray .int, 2) := by decide +kernel
theorem dX5_init_19 : decode cX5_init 19 = .ok (.putfield 19, 3) := by decide +kernel
theorem dX5_init_22 : decode cX5_init 22 = .ok (.aload_n 0, 1) := by decide +kernel
theorem dX5_init_23 : decode cX5_init 23 = .ok (.sipush 800, 3) := by decide +kernel
theorem dX5_init_26 : decode cX5_init 26 = .ok (.newarray .int, 2) := by decide +kernel
theorem dX5_init_28 : decode cX5_init 28 = .ok (.putfield 23, 3) := by decide +kernel
theorem dX5_init_31 : decode cX5_init 31 = .ok (.return_, 1) := by decide +kernel
set_option maxRecDepth 20000 in
theorem ggX5_forget_J7_fill_53178 : GoodIn wsX5_forget wsJ7_fill_53178 := goodIn_r _ [6] (by decide +kernel) (by decide +kernel)
set_option maxRecDepth 20000 in
theorem gX5_forget_J7_fill_53178 : GoodIn wsX5_forget (va_wsS RX5 26 yJ7_fill_53178 wsJ7_fill_53178) := goodIn_app (goodIn_of _ (by decide +kernel)) ggX5_forget_J7_fill_53178
theorem dX5_forget_0 : decode cX5_forget 0 = .ok (.aload_n 0, 1) := by decide +kernel
theorem dX5_forget_1 : decode cX5_forget 1 = .ok (.getfield 19, 3) := by decide +kernel
theorem dX5_forget_4 : decode cX5_forget 4 = .ok (.iconst 0, 1) := by decide +kernel
theorem dX5_forget_5 : decode cX5_forget 5 = .ok (.invokestatic 26, 3) := by decide +kernel
theorem dX5_forget_8 : decode cX5_forget 8 = .ok (.aload_n 0, 1) := by decide +kernel
theorem dX5_forget_9 : decode cX5_forget 9 = .ok (.getfield 23, 3) := by decide +kernel
theorem dX5_forget_12 : decode cX5_forget 12 = .ok (.iconst 0, 1) := by decide +kernel
theorem dX5_forget_13 : decode cX5_forget 13 = .ok (.invokestatic 26, 3) := by decide +kernel
theorem dX5_forget_16 : decode cX5_forget 16 = .ok (.return_, 1) := by decide +kernel
set_option maxRecDepth 20000 in
theorem ggX5_total_X4_at : GoodIn wsX5_total wsX4_at := goodIn_r _ [5] (by decide +kernel) (by decide +kernel)
set_option maxRecDepth 20000 in
theorem gX5_total_X4_at : GoodIn wsX5_total (va_wsS RX5 32 yX4_at wsX4_at) := goodIn_app (goodIn_of _ (by decide +kernel)) ggX5_total_X4_at
theorem dX5_total_0 : decode cX5_total 0 = .ok (.aload_n 0, 1) := by decide +kernel
theorem dX5_total_1 : decode cX5_total 1 = .ok (.getfield 19, 3) := by decide +kernel
theorem dX5_total_4 : decode cX5_total 4 = .ok (.iload_n 1, 1) := by decide +kernel
theorem dX5_total_5 : decode cX5_total 5 = .ok (.iconst 5, 1) := by decide +kernel
theorem dX5_total_6 : decode cX5_total 6 = .ok (.imul, 1) := by decide +kernel
theorem dX5_total_7 : decode cX5_total 7 = .ok (.iload_n 2, 1) := by decide +kernel
theorem dX5_total_8 : decode cX5_total 8 = .ok (.iadd, 1) := by decide +kernel
theorem dX5_total_9 : decode cX5_total 9 = .ok (.invokestatic 32, 3) := by decide +kernel
theorem dX5_total_12 : decode cX5_total 12 = .ok (.ireturn, 1) := by decide +kernel
set_option maxRecDepth 20000 in
theorem ggX5_take_X5_total : GoodIn wsX5_take wsX5_total := goodIn_r _ [9, 3, 10, 11, 12, 13, 165, 166, 167, 168] (by decide +kernel) (by decide +kernel)
set_option maxRecDepth 20000 in
theorem gX5_take_X5_total : GoodIn wsX5_take (wsV RX5 38 RX5 yX5_total wsX5_total) := goodIn_app (goodIn_of _ (by decide +kernel)) ggX5_take_X5_total
set_option maxRecDepth 20000 in
theorem ggX5_take_X6_resultAt : GoodIn wsX5_take wsX6_resultAt := goodIn_r _ [18, 19, 20, 21, 22, 23, 24, 25, 17, 26, 27, 28, 29, 30, 31, 32, 33, 34, 35, 36, 37, 38, 39, 40, 41, 42, 43, 44, 45, 46, 47, 48, 49, 50, 51, 52, 53, 54, 55, 56, 57, 58, 59, 60, 61, 62, 63, 64, 65, 66, 67, 68, 69, 70, 71, 72, 73, 74, 75, 76, 77, 78, 79, 80, 81, 82, 83, 84, 85, 86, 87, 88, 89, 90, 91, 92, 93, 94, 95, 96, 97, 98, 99, 100, 101, 102, 103, 104, 105, 106, 107, 108, 109, 110, 111, 112, 113, 114, 115, 116, 117, 118, 119, 120, 121, 122, 123, 124, 125, 126, 127, 128, 129, 130, 131, 132, 133, 134, 135, 136, 137, 138, 139, 140, 141, 142, 143, 144, 145, 146, 147, 148, 149, 150, 151, 152, 153, 154, 155, 156, 157, 175, 176, 177, 178, 179, 180, 181, 182, 183, 169, 170, 171, 172, 173, 174, 184, 185, 186, 187, 188] (by decide +kernel) (by decide +kernel)
set_option maxRecDepth 20000 in
theorem gX5_take_X6_resultAt : GoodIn wsX5_take (wsV RX5 48 RX6 yX6_resultAt wsX6_resultAt) := goodIn_app (goodIn_of _ (by decide +kernel)) ggX5_take_X6_resultAt
set_option maxRecDepth 20000 in
theorem ggX5_take_X4_addOne : GoodIn wsX5_take wsX4_addOne := goodIn_r _ [160, 161, 11, 12, 13, 162, 163, 164] (by decide +kernel) (by decide +kernel)
set_option maxRecDepth 20000 in
theorem gX5_take_X4_addOne : GoodIn wsX5_take (va_wsS RX5 54 yX4_addOne wsX4_addOne) := goodIn_app (goodIn_of _ (by decide +kernel)) ggX5_take_X4_addOne
theorem dX5_take_0 : decode cX5_take 0 = .ok (.aload_n 0, 1) := by decide +kernel
theorem dX5_take_1 : decode cX5_take 1 = .ok (.iload_n 1, 1) := by decide +kernel
theorem dX5_take_2 : decode cX5_take 2 = .ok (.iload_n 2, 1) := by decide +kernel
theorem dX5_take_3 : decode cX5_take 3 = .ok (.invokevirtual 38, 3) := by decide +kernel
theorem dX5_take_6 : decode cX5_take 6 = .ok (.ifCond .eq 4, 3) := by decide +kernel
theorem dX5_take_9 : decode cX5_take 9 = .ok (.return_, 1) := by decide +kernel
theorem dX5_take_10 : decode cX5_take 10 = .ok (.iload_n 1, 1) := by decide +kernel
theorem dX5_take_11 : decode cX5_take 11 = .ok (.iconst 5, 1) := by decide +kernel
theorem dX5_take_12 : decode cX5_take 12 = .ok (.imul, 1) := by decide +kernel
theorem dX5_take_13 : decode cX5_take 13 = .ok (.iload_n 2, 1) := by decide +kernel
theorem dX5_take_14 : decode cX5_take 14 = .ok (.iadd, 1) := by decide +kernel
theorem dX5_take_15 : decode cX5_take 15 = .ok (.istore_n 3, 1) := by decide +kernel
theorem dX5_take_16 : decode cX5_take 16 = .ok (.bipush (-9), 2) := by decide +kernel
theorem dX5_take_18 : decode cX5_take 18 = .ok (.istore 4, 2) := by decide +kernel
theorem dX5_take_20 : decode cX5_take 20 = .ok (.iconst 1, 1) := by decide +kernel
theorem dX5_take_21 : decode cX5_take 21 = .ok (.istore 5, 2) := by decide +kernel
theorem dX5_take_23 : decode cX5_take 23 = .ok (.iload 5, 2) := by decide +kernel
theorem dX5_take_25 : decode cX5_take 25 = .ok (.aload_n 0, 1) := by decide +kernel
theorem dX5_take_26 : decode cX5_take 26 = .ok (.getfield 9, 3) := by decide +kernel
theorem dX5_take_29 : decode cX5_take 29 = .ok (.getfield 42, 3) := by decide +kernel
theorem dX5_take_32 : decode cX5_take 32 = .ok (.if_icmp .ge 58, 3) := by decide +kernel
theorem dX5_take_35 : decode cX5_take 35 = .ok (.aload_n 0, 1) := by decide +kernel
theorem dX5_take_36 : decode cX5_take 36 = .ok (.getfield 15, 3) := by decide +kernel
theorem dX5_take_39 : decode cX5_take 39 = .ok (.iload_n 1, 1) := by decide +kernel
theorem dX5_take_40 : decode cX5_take 40 = .ok (.iload 5, 2) := by decide +kernel
theorem dX5_take_42 : decode cX5_take 42 = .ok (.iload_n 2, 1) := by decide +kernel
theorem dX5_take_43 : decode cX5_take 43 = .ok (.invokevirtual 48, 3) := by decide +kernel
theorem dX5_take_46 : decode cX5_take 46 = .ok (.istore 6, 2) := by decide +kernel
theorem dX5_take_48 : decode cX5_take 48 = .ok (.iload 6, 2) := by decide +kernel
theorem dX5_take_50 : decode cX5_take 50 = .ok (.iload 4, 2) := by decide +kernel
theorem dX5_take_52 : decode cX5_take 52 = .ok (.if_icmp .eq 28, 3) := by decide +kernel
theorem dX5_take_55 : decode cX5_take 55 = .ok (.aload_n 0, 1) := by decide +kernel
theorem dX5_take_56 : decode cX5_take 56 = .ok (.getfield 19, 3) := by decide +kernel
theorem dX5_take_59 : decode cX5_take 59 = .ok (.iload_n 3, 1) := by decide +kernel
theorem dX5_take_60 : decode cX5_take 60 = .ok (.invokestatic 54, 3) := by decide +kernel
theorem dX5_take_63 : decode cX5_take 63 = .ok (.aload_n 0, 1) := by decide +kernel
theorem dX5_take_64 : decode cX5_take 64 = .ok (.getfield 23, 3) := by decide +kernel
theorem dX5_take_67 : decode cX5_take 67 = .ok (.iload_n 3, 1) := by decide +kernel
theorem dX5_take_68 : decode cX5_take 68 = .ok (.bipush 32, 2) := by decide +kernel
theorem dX5_take_70 : decode cX5_take 70 = .ok (.imul, 1) := by decide +kernel
theorem dX5_take_71 : decode cX5_take 71 = .ok (.iload 5, 2) := by decide +kernel
theorem dX5_take_73 : decode cX5_take 73 = .ok (.bipush 8, 2) := by decide +kernel
theorem dX5_take_75 : decode cX5_take 75 = .ok (.ishr, 1) := by decide +kernel
theorem dX5_take_76 : decode cX5_take 76 = .ok (.iadd, 1) := by decide +kernel
theorem dX5_take_77 : decode cX5_take 77 = .ok (.invokestatic 54, 3) := by decide +kernel
theorem dX5_take_80 : decode cX5_take 80 = .ok (.iload 6, 2) := by decide +kernel
theorem dX5_take_82 : decode cX5_take 82 = .ok (.istore 4, 2) := by decide +kernel
theorem dX5_take_84 : decode cX5_take 84 = .ok (.iinc 5 1, 3) := by decide +kernel
theorem dX5_take_87 : decode cX5_take 87 = .ok (.goto (-64), 3) := by decide +kernel
theorem dX5_take_90 : decode cX5_take 90 = .ok (.return_, 1) := by decide +kernel
set_option maxRecDepth 20000 in
theorem ggX5_firstCode_X4_at : GoodIn wsX5_firstCode wsX4_at := goodIn_r _ [11] (by decide +kernel) (by decide +kernel)
set_option maxRecDepth 20000 in
theorem gX5_firstCode_X4_at : GoodIn wsX5_firstCode (va_wsS RX5 32 yX4_at wsX4_at) := goodIn_app (goodIn_of _ (by decide +kernel)) ggX5_firstCode_X4_at
set_option maxRecDepth 20000 in
theorem ggX5_firstCode_X6_resultAt : GoodIn wsX5_firstCode wsX6_resultAt := goodIn_r _ [16, 17, 18, 19, 20, 21, 22, 23, 15, 24, 25, 26, 27, 28, 29, 30, 31, 32, 33, 34, 35, 36, 37, 38, 39, 40, 41, 42, 43, 44, 45, 46, 47, 48, 49, 50, 51, 52, 53, 54, 55, 56, 57, 58, 59, 60, 61, 62, 63, 64, 65, 66, 67, 68, 69, 70, 3, 4, 5, 71, 72, 73, 74, 75, 76, 77, 78, 79, 80, 81, 82, 83, 84, 85, 86, 87, 88, 89, 90, 91, 92, 93, 94, 95, 96, 97, 98, 99, 100, 101, 102, 103, 104, 105, 106, 107, 108, 109, 110, 111, 112, 113, 114, 115, 116, 117, 118, 119, 120, 121, 122, 123, 124, 125, 126, 127, 128, 129, 130, 131, 132, 133, 134, 135, 136, 137, 138, 139, 140, 141, 142, 143, 144, 145, 146, 147, 148, 149, 150, 151, 152, 163, 164, 165, 166, 167, 168, 169, 170, 171, 157, 158, 159, 160, 161, 162, 172, 173, 174, 175, 176] (by decide +kernel) (by decide +kernel)
set_option maxRecDepth 20000 in
theorem gX5_firstCode_X6_resultAt : GoodIn wsX5_firstCode (wsV RX5 48 RX6 yX6_resultAt wsX6_resultAt) := goodIn_app (goodIn_of _ (by decide +kernel)) ggX5_firstCode_X6_resultAt
theorem dX5_firstCode_0 : decode cX5_firstCode 0 = .ok (.iload_n 1, 1) := by decide +kernel
theorem dX5_firstCode_1 : decode cX5_firstCode 1 = .ok (.iconst 5, 1) := by decide +kernel
theorem dX5_firstCode_2 : decode cX5_firstCode 2 = .ok (.imul, 1) := by decide +kernel
theorem dX5_firstCode_3 : decode cX5_firstCode 3 = .ok (.iload_n 2, 1) := by decide +kernel
theorem dX5_firstCode_4 : decode cX5_firstCode 4 = .ok (.iadd, 1) := by decide +kernel
theorem dX5_firstCode_5 : decode cX5_firstCode 5 = .ok (.bipush 32, 2) := by decide +kernel
theorem dX5_firstCode_7 : decode cX5_firstCode 7 = .ok (.imul, 1) := by decide +kernel
theorem dX5_firstCode_8 : decode cX5_firstCode 8 = .ok (.istore 4, 2) := by decide +kernel
theorem dX5_firstCode_10 : decode cX5_firstCode 10 = .ok (.iload_n 3, 1) := by decide +kernel
theorem dX5_firstCode_11 : decode cX5_firstCode 11 = .ok (.istore 5, 2) := by decide +kernel
theorem dX5_firstCode_13 : decode cX5_firstCode 13 = .ok (.iconst 0, 1) := by decide +kernel
theorem dX5_firstCode_14 : decode cX5_firstCode 14 = .ok (.istore 6, 2) := by decide +kernel
theorem dX5_firstCode_16 : decode cX5_firstCode 16 = .ok (.iload 6, 2) := by decide +kernel
theorem dX5_firstCode_18 : decode cX5_firstCode 18 = .ok (.bipush 32, 2) := by decide +kernel
theorem dX5_firstCode_20 : decode cX5_firstCode 20 = .ok (.if_icmp .ge 43, 3) := by decide +kernel
theorem dX5_firstCode_23 : decode cX5_firstCode 23 = .ok (.iload 5, 2) := by decide +kernel
theorem dX5_firstCode_25 : decode cX5_firstCode 25 = .ok (.aload_n 0, 1) := by decide +kernel
theorem dX5_firstCode_26 : decode cX5_firstCode 26 = .ok (.getfield 23, 3) := by decide +kernel
theorem dX5_firstCode_29 : decode cX5_firstCode 29 = .ok (.iload 4, 2) := by decide +kernel
theorem dX5_firstCode_31 : decode cX5_firstCode 31 = .ok (.iload 6, 2) := by decide +kernel
theorem dX5_firstCode_33 : decode cX5_firstCode 33 = .ok (.iadd, 1) := by decide +kernel
theorem dX5_firstCode_34 : decode cX5_firstCode 34 = .ok (.invokestatic 32, 3) := by decide +kernel
theorem dX5_firstCode_37 : decode cX5_firstCode 37 = .ok (.if_icmp .lt 26, 3) := by decide +kernel
theorem dX5_firstCode_40 : decode cX5_firstCode 40 = .ok (.iload 5, 2) := by decide +kernel
theorem dX5_firstCode_42 : decode cX5_firstCode 42 = .ok (.aload_n 0, 1) := by decide +kernel
theorem dX5_firstCode_43 : decode cX5_firstCode 43 = .ok (.getfield 23, 3) := by decide +kernel
theorem dX5_firstCode_46 : decode cX5_firstCode 46 = .ok (.iload 4, 2) := by decide +kernel
theorem dX5_firstCode_48 : decode cX5_firstCode 48 = .ok (.iload 6, 2) := by decide +kernel
theorem dX5_firstCode_50 : decode cX5_firstCode 50 = .ok (.iadd, 1) := by decide +kernel
theorem dX5_firstCode_51 : decode cX5_firstCode 51 = .ok (.invokestatic 32, 3) := by decide +kernel
theorem dX5_firstCode_54 : decode cX5_firstCode 54 = .ok (.isub, 1) := by decide +kernel
theorem dX5_firstCode_55 : decode cX5_firstCode 55 = .ok (.istore 5, 2) := by decide +kernel
theorem dX5_firstCode_57 : decode cX5_firstCode 57 = .ok (.iinc 6 1, 3) := by decide +kernel
theorem dX5_firstCode_60 : decode cX5_firstCode 60 = .ok (.goto (-44), 3) := by decide +kernel
theorem dX5_firstCode_63 : decode cX5_firstCode 63 = .ok (.iload 6, 2) := by decide +kernel
theorem dX5_firstCode_65 : decode cX5_firstCode 65 = .ok (.bipush 8, 2) := by decide +kernel
theorem dX5_firstCode_67 : decode cX5_firstCode 67 = .ok (.ishl, 1) := by decide +kernel
theorem dX5_firstCode_68 : decode cX5_firstCode 68 = .ok (.iconst 1, 1) := by decide +kernel
theorem dX5_firstCode_69 : decode cX5_firstCode 69 = .ok (.invokestatic 57, 3) := by decide +kernel
theorem dX5_firstCode_72 : decode cX5_firstCode 72 = .ok (.istore 7, 2) := by decide +kernel
theorem dX5_firstCode_74 : decode cX5_firstCode 74 = .ok (.iload 7, 2) := by decide +kernel
theorem dX5_firstCode_76 : decode cX5_firstCode 76 = .ok (.iconst 1, 1) := by decide +kernel
theorem dX5_firstCode_77 : decode cX5_firstCode 77 = .ok (.if_icmp .ne 8, 3) := by decide +kernel
theorem dX5_firstCode_80 : decode cX5_firstCode 80 = .ok (.bipush (-9), 2) := by decide +kernel
theorem dX5_firstCode_82 : decode cX5_firstCode 82 = .ok (.goto 16, 3) := by decide +kernel
theorem dX5_firstCode_85 : decode cX5_firstCode 85 = .ok (.aload_n 0, 1) := by decide +kernel
theorem dX5_firstCode_86 : decode cX5_firstCode 86 = .ok (.getfield 15, 3) := by decide +kernel
theorem dX5_firstCode_89 : decode cX5_firstCode 89 = .ok (.iload_n 1, 1) := by decide +kernel
theorem dX5_firstCode_90 : decode cX5_firstCode 90 = .ok (.iload 7, 2) := by decide +kernel
theorem dX5_firstCode_92 : decode cX5_firstCode 92 = .ok (.iconst 1, 1) := by decide +kernel
theorem dX5_firstCode_93 : decode cX5_firstCode 93 = .ok (.isub, 1) := by decide +kernel
theorem dX5_firstCode_94 : decode cX5_firstCode 94 = .ok (.iload_n 2, 1) := by decide +kernel
theorem dX5_firstCode_95 : decode cX5_firstCode 95 = .ok (.invokevirtual 48, 3) := by decide +kernel
theorem dX5_firstCode_98 : decode cX5_firstCode 98 = .ok (.istore 8, 2) := by decide +kernel
theorem dX5_firstCode_100 : decode cX5_firstCode 100 = .ok (.iload 7, 2) := by decide +kernel
theorem dX5_firstCode_102 : decode cX5_firstCode 102 = .ok (.istore 9, 2) := by decide +kernel
theorem dX5_firstCode_104 : decode cX5_firstCode 104 = .ok (.iload 9, 2) := by decide +kernel
theorem dX5_firstCode_106 : decode cX5_firstCode 106 = .ok (.aload_n 0, 1) := by decide +kernel
theorem dX5_firstCode_107 : decode cX5_firstCode 107 = .ok (.getfield 9, 3) := by decide +kernel
theorem dX5_firstCode_110 : decode cX5_firstCode 110 = .ok (.getfield 42, 3) := by decide +kernel
theorem dX5_firstCode_113 : decode cX5_firstCode 113 = .ok (.if_icmp .ge 51, 3) := by decide +kernel
theorem dX5_firstCode_116 : decode cX5_firstCode 116 = .ok (.aload_n 0, 1) := by decide +kernel
theorem dX5_firstCode_117 : decode cX5_firstCode 117 = .ok (.getfield 15, 3) := by decide +kernel
theorem dX5_firstCode_120 : decode cX5_firstCode 120 = .ok (.iload_n 1, 1) := by decide +kernel
theorem dX5_firstCode_121 : decode cX5_firstCode 121 = .ok (.iload 9, 2) := by decide +kernel
theorem dX5_firstCode_123 : decode cX5_firstCode 123 = .ok (.iload_n 2, 1) := by decide +kernel
theorem dX5_firstCode_124 : decode cX5_firstCode 124 = .ok (.invokevirtual 48, 3) := by decide +kernel
theorem dX5_firstCode_127 : decode cX5_firstCode 127 = .ok (.istore 10, 2) := by decide +kernel
theorem dX5_firstCode_129 : decode cX5_firstCode 129 = .ok (.iload 5, 2) := by decide +kernel
theorem dX5_firstCode_131 : decode cX5_firstCode 131 = .ok (.iload 10, 2) := by decide +kernel
theorem dX5_firstCode_133 : decode cX5_firstCode 133 = .ok (.iload 8, 2) := by decide +kernel
theorem dX5_firstCode_135 : decode cX5_firstCode 135 = .ok (.if_icmp .ne 7, 3) := by decide +kernel
theorem dX5_firstCode_138 : decode cX5_firstCode 138 = .ok (.iconst 0, 1) := by decide +kernel
theorem dX5_firstCode_139 : decode cX5_firstCode 139 = .ok (.goto 4, 3) := by decide +kernel
theorem dX5_firstCode_142 : decode cX5_firstCode 142 = .ok (.iconst 1, 1) := by decide +kernel
theorem dX5_firstCode_143 : decode cX5_firstCode 143 = .ok (.isub, 1) := by decide +kernel
theorem dX5_firstCode_144 : decode cX5_firstCode 144 = .ok (.istore 5, 2) := by decide +kernel
theorem dX5_firstCode_146 : decode cX5_firstCode 146 = .ok (.iload 5, 2) := by decide +kernel
theorem dX5_firstCode_148 : decode cX5_firstCode 148 = .ok (.ifCond .ge 6, 3) := by decide +kernel
theorem dX5_firstCode_151 : decode cX5_firstCode 151 = .ok (.iload 9, 2) := by decide +kernel
theorem dX5_firstCode_153 : decode cX5_firstCode 153 = .ok (.ireturn, 1) := by decide +kernel
theorem dX5_firstCode_154 : decode cX5_firstCode 154 = .ok (.iload 10, 2) := by decide +kernel
theorem dX5_firstCode_156 : decode cX5_firstCode 156 = .ok (.istore 8, 2) := by decide +kernel
theorem dX5_firstCode_158 : decode cX5_firstCode 158 = .ok (.iinc 9 1, 3) := by decide +kernel
theorem dX5_firstCode_161 : decode cX5_firstCode 161 = .ok (.goto (-57), 3) := by decide +kernel
theorem dX5_firstCode_164 : decode cX5_firstCode 164 = .ok (.bipush (-9), 2) := by decide +kernel
theorem dX5_firstCode_166 : decode cX5_firstCode 166 = .ok (.ireturn, 1) := by decide +kernel
set_option maxRecDepth 20000 in
theorem ggX6_init_X3_init : GoodIn wsX6_init wsX3_init := goodIn_r _ [11, 12, 2, 3, 13, 23, 24, 25, 26, 27] (by decide +kernel) (by decide +kernel)
set_option maxRecDepth 20000 in
theorem gX6_init_X3_init : GoodIn wsX6_init (wsX3_init) := ggX6_init_X3_init
theorem dX6_init_0 : decode cX6_init 0 = .ok (.aload_n 0, 1) := by decide +kernel
theorem dX6_init_1 : decode cX6_init 1 = .ok (.invokespecial 3, 3) := by decide +kernel
theorem dX6_init_4 : decode cX6_init 4 = .ok (.aload_n 0, 1) := by decide +kernel
theorem dX6_init_5 : decode cX6_init 5 = .ok (.aload_n 1, 1) := by decide +kernel
theorem dX6_init_6 : decode cX6_init 6 = .ok (.putfield 9, 3) := by decide +kernel
theorem dX6_init_9 : decode cX6_init 9 = .ok (.aload_n 0, 1) := by decide +kernel
theorem dX6_init_10 : decode cX6_init 10 = .ok (.new 15, 3) := by decide +kernel
theorem dX6_init_13 : decode cX6_init 13 = .ok (.dup, 1) := by decide +kernel
theorem dX6_init_14 : decode cX6_init 14 = .ok (.aload_n 1, 1) := by decide +kernel
theorem dX6_init_15 : decode cX6_init 15 = .ok (.invokespecial 17, 3) := by decide +kernel
theorem dX6_init_18 : decode cX6_init 18 = .ok (.putfield 20, 3) := by decide +kernel
theorem dX6_init_21 : decode cX6_init 21 = .ok (.return_, 1) := by decide +kernel
set_option maxRecDepth 20000 in
theorem ggX6_resultAt_X6_read : GoodIn wsX6_resultAt wsX6_read := goodIn_r _ [9, 10, 1, 3, 2, 11, 12, 13, 14, 4, 15, 16, 17, 18, 19, 20, 21, 22, 23, 24, 25, 26, 27, 28, 29, 30, 31, 32, 33, 34, 35, 36, 37, 38, 39, 40, 41, 42, 43, 44, 45, 46, 47, 48, 49, 50, 51, 52, 53, 54, 55, 56, 57, 58, 59, 60, 61, 62, 8, 63, 64, 65, 66, 67, 68, 69, 70, 71, 72, 73, 74, 75, 76, 77, 78, 79, 80, 81, 82, 83, 84, 85, 86, 87, 88, 89, 90, 91, 92, 93, 94, 95, 96, 97, 98, 99, 100, 101, 102, 103, 104, 105, 106, 107, 108, 109, 110, 111, 112, 113, 114, 115, 116, 117, 118, 119, 120, 121, 122, 123, 124, 125, 126, 127, 128, 129, 130, 131, 141, 142, 143, 144, 145, 146, 147, 148, 149, 150, 151, 152, 153, 154, 155, 156, 157, 158, 159, 160] (by decide +kernel) (by decide +kernel)
set_option maxRecDepth 20000 in
theorem gX6_resultAt_X6_read : GoodIn wsX6_resultAt (wsV RX6 24 RX6 yX6_read wsX6_read) := goodIn_app (goodIn_of _ (by decide +kernel)) ggX6_resultAt_X6_read
set_option maxRecDepth 20000 in
theorem ggX6_resultAt_X3_rounded : GoodIn wsX6_resultAt wsX3_rounded := goodIn_r _ [135, 103, 98, 136, 137, 138, 96, 139, 102, 101, 140, 117, 118, 119, 100, 156, 157, 158, 159, 160, 150, 151, 152, 153, 154, 155] (by decide +kernel) (by decide +kernel)
set_option maxRecDepth 20000 in
theorem gX6_resultAt_X3_rounded : GoodIn wsX6_resultAt (wsV RX6 35 RX3 yX3_rounded wsX3_rounded) := goodIn_app (goodIn_of _ (by decide +kernel)) ggX6_resultAt_X3_rounded
theorem dX6_resultAt_0 : decode cX6_resultAt 0 = .ok (.aload_n 0, 1) := by decide +kernel
theorem dX6_resultAt_1 : decode cX6_resultAt 1 = .ok (.iload_n 1, 1) := by decide +kernel
theorem dX6_resultAt_2 : decode cX6_resultAt 2 = .ok (.iload_n 2, 1) := by decide +kernel
theorem dX6_resultAt_3 : decode cX6_resultAt 3 = .ok (.invokevirtual 24, 3) := by decide +kernel
theorem dX6_resultAt_6 : decode cX6_resultAt 6 = .ok (.aload_n 0, 1) := by decide +kernel
theorem dX6_resultAt_7 : decode cX6_resultAt 7 = .ok (.getfield 28, 3) := by decide +kernel
theorem dX6_resultAt_10 : decode cX6_resultAt 10 = .ok (.ifCond .eq 18, 3) := by decide +kernel
theorem dX6_resultAt_13 : decode cX6_resultAt 13 = .ok (.aload_n 0, 1) := by decide +kernel
theorem dX6_resultAt_14 : decode cX6_resultAt 14 = .ok (.getfield 20, 3) := by decide +kernel
theorem dX6_resultAt_17 : decode cX6_resultAt 17 = .ok (.aload_n 0, 1) := by decide +kernel
theorem dX6_resultAt_18 : decode cX6_resultAt 18 = .ok (.getfield 32, 3) := by decide +kernel
theorem dX6_resultAt_21 : decode cX6_resultAt 21 = .ok (.iload_n 3, 1) := by decide +kernel
theorem dX6_resultAt_22 : decode cX6_resultAt 22 = .ok (.invokevirtual 35, 3) := by decide +kernel
theorem dX6_resultAt_25 : decode cX6_resultAt 25 = .ok (.goto 7, 3) := by decide +kernel
theorem dX6_resultAt_28 : decode cX6_resultAt 28 = .ok (.aload_n 0, 1) := by decide +kernel
theorem dX6_resultAt_29 : decode cX6_resultAt 29 = .ok (.getfield 39, 3) := by decide +kernel
theorem dX6_resultAt_32 : decode cX6_resultAt 32 = .ok (.ireturn, 1) := by decide +kernel
theorem dX6_sortRead_0 : decode cX6_sortRead 0 = .ok (.aload_n 0, 1) := by decide +kernel
theorem dX6_sortRead_1 : decode cX6_sortRead 1 = .ok (.getfield 43, 3) := by decide +kernel
theorem dX6_sortRead_4 : decode cX6_sortRead 4 = .ok (.ireturn, 1) := by decide +kernel
set_option maxRecDepth 20000 in
theorem ggX6_figuresRead_X3_figuresLaid : GoodIn wsX6_figuresRead wsX3_figuresLaid := goodIn_r _ [7, 8, 9, 10, 11, 12, 13, 6, 14, 15, 16, 17, 18, 19, 20, 21, 22, 32, 33, 34, 35, 36, 37, 38, 39, 40, 41, 42] (by decide +kernel) (by decide +kernel)
set_option maxRecDepth 20000 in
theorem gX6_figuresRead_X3_figuresLaid : GoodIn wsX6_figuresRead (wsV RX6 46 RX3 yX3_figuresLaid wsX3_figuresLaid) := goodIn_app (goodIn_of _ (by decide +kernel)) ggX6_figuresRead_X3_figuresLaid
theorem dX6_figuresRead_0 : decode cX6_figuresRead 0 = .ok (.aload_n 0, 1) := by decide +kernel
theorem dX6_figuresRead_1 : decode cX6_figuresRead 1 = .ok (.getfield 28, 3) := by decide +kernel
theorem dX6_figuresRead_4 : decode cX6_figuresRead 4 = .ok (.ifCond .eq 13, 3) := by decide +kernel
theorem dX6_figuresRead_7 : decode cX6_figuresRead 7 = .ok (.aload_n 0, 1) := by decide +kernel
theorem dX6_figuresRead_8 : decode cX6_figuresRead 8 = .ok (.getfield 20, 3) := by decide +kernel
theorem dX6_figuresRead_11 : decode cX6_figuresRead 11 = .ok (.invokevirtual 46, 3) := by decide +kernel
theorem dX6_figuresRead_14 : decode cX6_figuresRead 14 = .ok (.goto 5, 3) := by decide +kernel
theorem dX6_figuresRead_17 : decode cX6_figuresRead 17 = .ok (.bipush (-9), 2) := by decide +kernel
theorem dX6_figuresRead_19 : decode cX6_figuresRead 19 = .ok (.ireturn, 1) := by decide +kernel
set_option maxRecDepth 20000 in
theorem ggX6_hardnessRead_X6_figuresRead : GoodIn wsX6_hardnessRead wsX6_figuresRead := goodIn_r _ [5, 6, 7, 8, 9, 10, 11, 12, 13, 14, 15, 16, 17, 18, 19, 20, 21, 22, 23, 24, 25, 26, 27, 28, 29, 30, 31, 32, 33, 34, 35, 36, 37, 38, 39, 40, 41, 42, 43, 44, 45, 46, 47] (by decide +kernel) (by decide +kernel)
set_option maxRecDepth 20000 in
theorem gX6_hardnessRead_X6_figuresRead : GoodIn wsX6_hardnessRead (wsV RX6 50 RX6 yX6_figuresRead wsX6_figuresRead) := goodIn_app (goodIn_of _ (by decide +kernel)) ggX6_hardnessRead_X6_figuresRead
theorem dX6_hardnessRead_0 : decode cX6_hardnessRead 0 = .ok (.aload_n 0, 1) := by decide +kernel
theorem dX6_hardnessRead_1 : decode cX6_hardnessRead 1 = .ok (.invokevirtual 50, 3) := by decide +kernel
theorem dX6_hardnessRead_4 : decode cX6_hardnessRead 4 = .ok (.istore_n 1, 1) := by decide +kernel
theorem dX6_hardnessRead_5 : decode cX6_hardnessRead 5 = .ok (.iload_n 1, 1) := by decide +kernel
theorem dX6_hardnessRead_6 : decode cX6_hardnessRead 6 = .ok (.ifCond .ge 5, 3) := by decide +kernel
theorem dX6_hardnessRead_9 : decode cX6_hardnessRead 9 = .ok (.iconst 0, 1) := by decide +kernel
theorem dX6_hardnessRead_10 : decode cX6_hardnessRead 10 = .ok (.ireturn, 1) := by decide +kernel
theorem dX6_hardnessRead_11 : decode cX6_hardnessRead 11 = .ok (.iload_n 1, 1) := by decide +kernel
theorem dX6_hardnessRead_12 : decode cX6_hardnessRead 12 = .ok (.bipush 8, 2) := by decide +kernel
theorem dX6_hardnessRead_14 : decode cX6_hardnessRead 14 = .ok (.ishr, 1) := by decide +kernel
theorem dX6_hardnessRead_15 : decode cX6_hardnessRead 15 = .ok (.iconst 1, 1) := by decide +kernel
theorem dX6_hardnessRead_16 : decode cX6_hardnessRead 16 = .ok (.iand, 1) := by decide +kernel
theorem dX6_hardnessRead_17 : decode cX6_hardnessRead 17 = .ok (.istore_n 2, 1) := by decide +kernel
theorem dX6_hardnessRead_18 : decode cX6_hardnessRead 18 = .ok (.iconst 0, 1) := by decide +kernel
theorem dX6_hardnessRead_19 : decode cX6_hardnessRead 19 = .ok (.istore_n 3, 1) := by decide +kernel
theorem dX6_hardnessRead_20 : decode cX6_hardnessRead 20 = .ok (.bipush 8, 2) := by decide +kernel
theorem dX6_hardnessRead_22 : decode cX6_hardnessRead 22 = .ok (.istore 4, 2) := by decide +kernel
theorem dX6_hardnessRead_24 : decode cX6_hardnessRead 24 = .ok (.iload 4, 2) := by decide +kernel
theorem dX6_hardnessRead_26 : decode cX6_hardnessRead 26 = .ok (.ifCond .lt 22, 3) := by decide +kernel
theorem dX6_hardnessRead_29 : decode cX6_hardnessRead 29 = .ok (.iload_n 1, 1) := by decide +kernel
theorem dX6_hardnessRead_30 : decode cX6_hardnessRead 30 = .ok (.iload 4, 2) := by decide +kernel
theorem dX6_hardnessRead_32 : decode cX6_hardnessRead 32 = .ok (.ishr, 1) := by decide +kernel
theorem dX6_hardnessRead_33 : decode cX6_hardnessRead 33 = .ok (.iconst 1, 1) := by decide +kernel
theorem dX6_hardnessRead_34 : decode cX6_hardnessRead 34 = .ok (.iand, 1) := by decide +kernel
theorem dX6_hardnessRead_35 : decode cX6_hardnessRead 35 = .ok (.iload_n 2, 1) := by decide +kernel
theorem dX6_hardnessRead_36 : decode cX6_hardnessRead 36 = .ok (.if_icmp .ne 12, 3) := by decide +kernel
theorem dX6_hardnessRead_39 : decode cX6_hardnessRead 39 = .ok (.iinc 3 1, 3) := by decide +kernel
theorem dX6_hardnessRead_42 : decode cX6_hardnessRead 42 = .ok (.iinc 4 (-1), 3) := by decide +kernel
theorem dX6_hardnessRead_45 : decode cX6_hardnessRead 45 = .ok (.goto (-21), 3) := by decide +kernel
theorem dX6_hardnessRead_48 : decode cX6_hardnessRead 48 = .ok (.iload_n 3, 1) := by decide +kernel
theorem dX6_hardnessRead_49 : decode cX6_hardnessRead 49 = .ok (.ireturn, 1) := by decide +kernel
set_option maxRecDepth 20000 in
theorem ggX6_read_X1_isZero : GoodIn wsX6_read wsX1_isZero := goodIn_r _ [14, 15, 16, 17, 13, 18, 19, 137, 138, 139, 140, 141, 142] (by decide +kernel) (by decide +kernel)
set_option maxRecDepth 20000 in
theorem gX6_read_X1_isZero : GoodIn wsX6_read (wsV RX6 53 RX1 yX1_isZero wsX1_isZero) := goodIn_app (goodIn_of _ (by decide +kernel)) ggX6_read_X1_isZero
set_option maxRecDepth 20000 in
theorem ggX6_read_X1_isBelow : GoodIn wsX6_read wsX1_isBelow := goodIn_r _ [23, 19, 137, 138, 139, 140, 141, 142] (by decide +kernel) (by decide +kernel)
set_option maxRecDepth 20000 in
theorem gX6_read_X1_isBelow : GoodIn wsX6_read (wsV RX6 59 RX1 yX1_isBelow wsX1_isBelow) := goodIn_app (goodIn_of _ (by decide +kernel)) ggX6_read_X1_isBelow
set_option maxRecDepth 20000 in
theorem ggX6_read_X1_isPlain : GoodIn wsX6_read wsX1_isPlain := goodIn_r _ [27, 28, 15, 16, 17, 13, 18, 19, 137, 138, 139, 140, 141, 142] (by decide +kernel) (by decide +kernel)
set_option maxRecDepth 20000 in
theorem gX6_read_X1_isPlain : GoodIn wsX6_read (wsV RX6 62 RX1 yX1_isPlain wsX1_isPlain) := goodIn_app (goodIn_of _ (by decide +kernel)) ggX6_read_X1_isPlain
set_option maxRecDepth 20000 in
theorem ggX6_read_X1_factor : GoodIn wsX6_read wsX1_factor := goodIn_r _ [32, 33, 34, 35, 13, 36, 37, 15, 16, 17, 18, 19, 38, 39, 40, 41, 42, 43, 44, 45, 137, 138, 139, 140, 141, 142] (by decide +kernel) (by decide +kernel)
set_option maxRecDepth 20000 in
theorem gX6_read_X1_factor : GoodIn wsX6_read (wsV RX6 65 RX1 yX1_factor wsX1_factor) := goodIn_app (goodIn_of _ (by decide +kernel)) ggX6_read_X1_factor
set_option maxRecDepth 20000 in
theorem ggX6_read_X1_power : GoodIn wsX6_read wsX1_power := goodIn_r _ [49, 50, 51, 52, 53, 54, 37, 33, 34, 35, 13, 36, 15, 16, 17, 18, 19, 137, 138, 139, 140, 141, 142] (by decide +kernel) (by decide +kernel)
set_option maxRecDepth 20000 in
theorem gX6_read_X1_power : GoodIn wsX6_read (wsV RX6 69 RX1 yX1_power wsX1_power) := goodIn_app (goodIn_of _ (by decide +kernel)) ggX6_read_X1_power
set_option maxRecDepth 20000 in
theorem ggX6_read_X6_reckon : GoodIn wsX6_read wsX6_reckon := goodIn_r _ [59, 60, 61, 62, 58, 63, 64, 65, 66, 67, 68, 5, 6, 7, 69, 70, 71, 72, 73, 74, 75, 76, 77, 78, 79, 80, 81, 82, 83, 84, 85, 86, 87, 88, 128, 129, 130, 131, 132, 133, 134, 135, 136] (by decide +kernel) (by decide +kernel)
set_option maxRecDepth 20000 in
theorem gX6_read_X6_reckon : GoodIn wsX6_read (wsV RX6 72 RX6 yX6_reckon wsX6_reckon) := goodIn_app (goodIn_of _ (by decide +kernel)) ggX6_read_X6_reckon
set_option maxRecDepth 20000 in
theorem ggX6_read_X3_lay : GoodIn wsX6_read wsX3_lay := goodIn_r _ [93, 94, 95, 51, 52, 53, 96, 97, 98, 99, 100, 101, 102, 103, 104, 74, 75, 76, 77, 105, 106, 92, 107, 108, 109, 110, 13, 111, 28, 143, 144, 145, 146, 147, 137, 138, 139, 140, 141, 142] (by decide +kernel) (by decide +kernel)
set_option maxRecDepth 20000 in
theorem gX6_read_X3_lay : GoodIn wsX6_read (wsV RX6 86 RX3 yX3_lay wsX3_lay) := goodIn_app (goodIn_of _ (by decide +kernel)) ggX6_read_X3_lay
set_option maxRecDepth 20000 in
theorem ggX6_read_X3_sortLaid : GoodIn wsX6_read wsX3_sortLaid := goodIn_r _ [115, 98, 96, 97, 143, 144, 145, 146, 147] (by decide +kernel) (by decide +kernel)
set_option maxRecDepth 20000 in
theorem gX6_read_X3_sortLaid : GoodIn wsX6_read (wsV RX6 90 RX3 yX3_sortLaid wsX3_sortLaid) := goodIn_app (goodIn_of _ (by decide +kernel)) ggX6_read_X3_sortLaid
set_option maxRecDepth 20000 in
theorem ggX6_read_X6_settledResult : GoodIn wsX6_read wsX6_settledResult := goodIn_r _ [119, 1, 10, 11, 12, 13, 14, 15, 16, 17, 18, 19, 20, 21, 22, 23, 120, 121, 122, 123, 28, 124, 125, 126, 127, 128, 129, 130, 131, 132, 133, 134, 135, 136, 137, 138, 139, 140, 141, 142] (by decide +kernel) (by decide +kernel)
set_option maxRecDepth 20000 in
theorem gX6_read_X6_settledResult : GoodIn wsX6_read (wsV RX6 93 RX6 yX6_settledResult wsX6_settledResult) := goodIn_app (goodIn_of _ (by decide +kernel)) ggX6_read_X6_settledResult
theorem dX6_read_0 : decode cX6_read 0 = .ok (.aload_n 0, 1) := by decide +kernel
theorem dX6_read_1 : decode cX6_read 1 = .ok (.getfield 9, 3) := by decide +kernel
theorem dX6_read_4 : decode cX6_read 4 = .ok (.iload_n 2, 1) := by decide +kernel
theorem dX6_read_5 : decode cX6_read 5 = .ok (.invokevirtual 53, 3) := by decide +kernel
theorem dX6_read_8 : decode cX6_read 8 = .ok (.istore_n 3, 1) := by decide +kernel
theorem dX6_read_9 : decode cX6_read 9 = .ok (.iload_n 1, 1) := by decide +kernel
theorem dX6_read_10 : decode cX6_read 10 = .ok (.iconst 1, 1) := by decide +kernel
theorem dX6_read_11 : decode cX6_read 11 = .ok (.if_icmp .ne 18, 3) := by decide +kernel
theorem dX6_read_14 : decode cX6_read 14 = .ok (.aload_n 0, 1) := by decide +kernel
theorem dX6_read_15 : decode cX6_read 15 = .ok (.getfield 9, 3) := by decide +kernel
theorem dX6_read_18 : decode cX6_read 18 = .ok (.iload_n 2, 1) := by decide +kernel
theorem dX6_read_19 : decode cX6_read 19 = .ok (.invokevirtual 59, 3) := by decide +kernel
theorem dX6_read_22 : decode cX6_read 22 = .ok (.ifCond .eq 7, 3) := by decide +kernel
theorem dX6_read_25 : decode cX6_read 25 = .ok (.iconst 1, 1) := by decide +kernel
theorem dX6_read_26 : decode cX6_read 26 = .ok (.goto 4, 3) := by decide +kernel
theorem dX6_read_29 : decode cX6_read 29 = .ok (.iconst 0, 1) := by decide +kernel
theorem dX6_read_30 : decode cX6_read 30 = .ok (.istore 4, 2) := by decide +kernel
theorem dX6_read_32 : decode cX6_read 32 = .ok (.aload_n 0, 1) := by decide +kernel
theorem dX6_read_33 : decode cX6_read 33 = .ok (.aload_n 0, 1) := by decide +kernel
theorem dX6_read_34 : decode cX6_read 34 = .ok (.getfield 9, 3) := by decide +kernel
theorem dX6_read_37 : decode cX6_read 37 = .ok (.iload_n 2, 1) := by decide +kernel
theorem dX6_read_38 : decode cX6_read 38 = .ok (.invokevirtual 62, 3) := by decide +kernel
theorem dX6_read_41 : decode cX6_read 41 = .ok (.ifCond .eq 16, 3) := by decide +kernel
theorem dX6_read_44 : decode cX6_read 44 = .ok (.iload_n 3, 1) := by decide +kernel
theorem dX6_read_45 : decode cX6_read 45 = .ok (.ifCond .ne 12, 3) := by decide +kernel
theorem dX6_read_48 : decode cX6_read 48 = .ok (.iload 4, 2) := by decide +kernel
theorem dX6_read_50 : decode cX6_read 50 = .ok (.ifCond .ne 7, 3) := by decide +kernel
theorem dX6_read_53 : decode cX6_read 53 = .ok (.iconst 1, 1) := by decide +kernel
theorem dX6_read_54 : decode cX6_read 54 = .ok (.goto 4, 3) := by decide +kernel
theorem dX6_read_57 : decode cX6_read 57 = .ok (.iconst 0, 1) := by decide +kernel
theorem dX6_read_58 : decode cX6_read 58 = .ok (.putfield 28, 3) := by decide +kernel
theorem dX6_read_61 : decode cX6_read 61 = .ok (.aload_n 0, 1) := by decide +kernel
theorem dX6_read_62 : decode cX6_read 62 = .ok (.getfield 28, 3) := by decide +kernel
theorem dX6_read_65 : decode cX6_read 65 = .ok (.ifCond .eq 82, 3) := by decide +kernel
theorem dX6_read_68 : decode cX6_read 68 = .ok (.aload_n 0, 1) := by decide +kernel
theorem dX6_read_69 : decode cX6_read 69 = .ok (.iload_n 1, 1) := by decide +kernel
theorem dX6_read_70 : decode cX6_read 70 = .ok (.iconst 3, 1) := by decide +kernel
theorem dX6_read_71 : decode cX6_read 71 = .ok (.if_icmp .eq 18, 3) := by decide +kernel
theorem dX6_read_74 : decode cX6_read 74 = .ok (.aload_n 0, 1) := by decide +kernel
theorem dX6_read_75 : decode cX6_read 75 = .ok (.getfield 9, 3) := by decide +kernel
theorem dX6_read_78 : decode cX6_read 78 = .ok (.iload_n 2, 1) := by decide +kernel
theorem dX6_read_79 : decode cX6_read 79 = .ok (.invokevirtual 59, 3) := by decide +kernel
theorem dX6_read_82 : decode cX6_read 82 = .ok (.ifCond .eq 7, 3) := by decide +kernel
theorem dX6_read_85 : decode cX6_read 85 = .ok (.iconst 1, 1) := by decide +kernel
theorem dX6_read_86 : decode cX6_read 86 = .ok (.goto 4, 3) := by decide +kernel
theorem dX6_read_89 : decode cX6_read 89 = .ok (.iconst 0, 1) := by decide +kernel
theorem dX6_read_90 : decode cX6_read 90 = .ok (.putfield 32, 3) := by decide +kernel
theorem dX6_read_93 : decode cX6_read 93 = .ok (.aload_n 0, 1) := by decide +kernel
theorem dX6_read_94 : decode cX6_read 94 = .ok (.iload_n 1, 1) := by decide +kernel
theorem dX6_read_95 : decode cX6_read 95 = .ok (.aload_n 0, 1) := by decide +kernel
theorem dX6_read_96 : decode cX6_read 96 = .ok (.getfield 9, 3) := by decide +kernel
theorem dX6_read_99 : decode cX6_read 99 = .ok (.iload_n 2, 1) := by decide +kernel
theorem dX6_read_100 : decode cX6_read 100 = .ok (.invokevirtual 65, 3) := by decide +kernel
theorem dX6_read_103 : decode cX6_read 103 = .ok (.aload_n 0, 1) := by decide +kernel
theorem dX6_read_104 : decode cX6_read 104 = .ok (.getfield 9, 3) := by decide +kernel
theorem dX6_read_107 : decode cX6_read 107 = .ok (.iload_n 2, 1) := by decide +kernel
theorem dX6_read_108 : decode cX6_read 108 = .ok (.invokevirtual 69, 3) := by decide +kernel
theorem dX6_read_111 : decode cX6_read 111 = .ok (.invokevirtual 72, 3) := by decide +kernel
theorem dX6_read_114 : decode cX6_read 114 = .ok (.aload_n 0, 1) := by decide +kernel
theorem dX6_read_115 : decode cX6_read 115 = .ok (.getfield 20, 3) := by decide +kernel
theorem dX6_read_118 : decode cX6_read 118 = .ok (.aload_n 0, 1) := by decide +kernel
theorem dX6_read_119 : decode cX6_read 119 = .ok (.getfield 76, 3) := by decide +kernel
theorem dX6_read_122 : decode cX6_read 122 = .ok (.aload_n 0, 1) := by decide +kernel
theorem dX6_read_123 : decode cX6_read 123 = .ok (.getfield 80, 3) := by decide +kernel
theorem dX6_read_126 : decode cX6_read 126 = .ok (.aload_n 0, 1) := by decide +kernel
theorem dX6_read_127 : decode cX6_read 127 = .ok (.getfield 83, 3) := by decide +kernel
theorem dX6_read_130 : decode cX6_read 130 = .ok (.invokevirtual 86, 3) := by decide +kernel
theorem dX6_read_133 : decode cX6_read 133 = .ok (.aload_n 0, 1) := by decide +kernel
theorem dX6_read_134 : decode cX6_read 134 = .ok (.aload_n 0, 1) := by decide +kernel
theorem dX6_read_135 : decode cX6_read 135 = .ok (.getfield 20, 3) := by decide +kernel
theorem dX6_read_138 : decode cX6_read 138 = .ok (.invokevirtual 90, 3) := by decide +kernel
theorem dX6_read_141 : decode cX6_read 141 = .ok (.putfield 43, 3) := by decide +kernel
theorem dX6_read_144 : decode cX6_read 144 = .ok (.goto 30, 3) := by decide +kernel
theorem dX6_read_147 : decode cX6_read 147 = .ok (.aload_n 0, 1) := by decide +kernel
theorem dX6_read_148 : decode cX6_read 148 = .ok (.aload_n 0, 1) := by decide +kernel
theorem dX6_read_149 : decode cX6_read 149 = .ok (.iload_n 1, 1) := by decide +kernel
theorem dX6_read_150 : decode cX6_read 150 = .ok (.iload_n 2, 1) := by decide +kernel
theorem dX6_read_151 : decode cX6_read 151 = .ok (.invokevirtual 93, 3) := by decide +kernel
theorem dX6_read_154 : decode cX6_read 154 = .ok (.putfield 39, 3) := by decide +kernel
theorem dX6_read_157 : decode cX6_read 157 = .ok (.aload_n 0, 1) := by decide +kernel
theorem dX6_read_158 : decode cX6_read 158 = .ok (.iload_n 3, 1) := by decide +kernel
theorem dX6_read_159 : decode cX6_read 159 = .ok (.ifCond .eq 11, 3) := by decide +kernel
theorem dX6_read_162 : decode cX6_read 162 = .ok (.iload_n 1, 1) := by decide +kernel
theorem dX6_read_163 : decode cX6_read 163 = .ok (.ifCond .eq 7, 3) := by decide +kernel
theorem dX6_read_166 : decode cX6_read 166 = .ok (.iconst 1, 1) := by decide +kernel
theorem dX6_read_167 : decode cX6_read 167 = .ok (.goto 4, 3) := by decide +kernel
theorem dX6_read_170 : decode cX6_read 170 = .ok (.iconst 0, 1) := by decide +kernel
theorem dX6_read_171 : decode cX6_read 171 = .ok (.putfield 43, 3) := by decide +kernel
theorem dX6_read_174 : decode cX6_read 174 = .ok (.return_, 1) := by decide +kernel
set_option maxRecDepth 20000 in
theorem ggX6_settledResult_X1_isZero : GoodIn wsX6_settledResult wsX1_isZero := goodIn_r _ [6, 7, 8, 9, 5, 10, 11, 34, 35, 36, 37, 38, 39] (by decide +kernel) (by decide +kernel)
set_option maxRecDepth 20000 in
theorem gX6_settledResult_X1_isZero : GoodIn wsX6_settledResult (wsV RX6 53 RX1 yX1_isZero wsX1_isZero) := goodIn_app (goodIn_of _ (by decide +kernel)) ggX6_settledResult_X1_isZero
set_option maxRecDepth 20000 in
theorem ggX6_settledResult_X1_isBelow : GoodIn wsX6_settledResult wsX1_isBelow := goodIn_r _ [15, 11, 34, 35, 36, 37, 38, 39] (by decide +kernel) (by decide +kernel)
set_option maxRecDepth 20000 in
theorem gX6_settledResult_X1_isBelow : GoodIn wsX6_settledResult (wsV RX6 59 RX1 yX1_isBelow wsX1_isBelow) := goodIn_app (goodIn_of _ (by decide +kernel)) ggX6_settledResult_X1_isBelow
set_option maxRecDepth 20000 in
theorem ggX6_settledResult_X1_isNone : GoodIn wsX6_settledResult wsX1_isNone := goodIn_r _ [19, 20, 7, 8, 9, 5, 10, 11, 34, 35, 36, 37, 38, 39] (by decide +kernel) (by decide +kernel)
set_option maxRecDepth 20000 in
theorem gX6_settledResult_X1_isNone : GoodIn wsX6_settledResult (wsV RX6 97 RX1 yX1_isNone wsX1_isNone) := goodIn_app (goodIn_of _ (by decide +kernel)) ggX6_settledResult_X1_isNone
set_option maxRecDepth 20000 in
theorem ggX6_settledResult_X1_none : GoodIn wsX6_settledResult wsX1_none := goodIn_r _ [24, 20, 34, 35, 36, 37, 38, 39] (by decide +kernel) (by decide +kernel)
set_option maxRecDepth 20000 in
theorem gX6_settledResult_X1_none : GoodIn wsX6_settledResult (wsV RX6 100 RX1 yX1_none wsX1_none) := goodIn_app (goodIn_of _ (by decide +kernel)) ggX6_settledResult_X1_none
theorem dX6_settledResult_0 : decode cX6_settledResult 0 = .ok (.aload_n 0, 1) := by decide +kernel
theorem dX6_settledResult_1 : decode cX6_settledResult 1 = .ok (.getfield 9, 3) := by decide +kernel
theorem dX6_settledResult_4 : decode cX6_settledResult 4 = .ok (.iload_n 2, 1) := by decide +kernel
theorem dX6_settledResult_5 : decode cX6_settledResult 5 = .ok (.invokevirtual 53, 3) := by decide +kernel
theorem dX6_settledResult_8 : decode cX6_settledResult 8 = .ok (.istore_n 3, 1) := by decide +kernel
theorem dX6_settledResult_9 : decode cX6_settledResult 9 = .ok (.iload_n 1, 1) := by decide +kernel
theorem dX6_settledResult_10 : decode cX6_settledResult 10 = .ok (.iconst 1, 1) := by decide +kernel
theorem dX6_settledResult_11 : decode cX6_settledResult 11 = .ok (.if_icmp .ne 22, 3) := by decide +kernel
theorem dX6_settledResult_14 : decode cX6_settledResult 14 = .ok (.aload_n 0, 1) := by decide +kernel
theorem dX6_settledResult_15 : decode cX6_settledResult 15 = .ok (.getfield 9, 3) := by decide +kernel
theorem dX6_settledResult_18 : decode cX6_settledResult 18 = .ok (.iload_n 2, 1) := by decide +kernel
theorem dX6_settledResult_19 : decode cX6_settledResult 19 = .ok (.invokevirtual 59, 3) := by decide +kernel
theorem dX6_settledResult_22 : decode cX6_settledResult 22 = .ok (.ifCond .eq 11, 3) := by decide +kernel
theorem dX6_settledResult_25 : decode cX6_settledResult 25 = .ok (.iload_n 3, 1) := by decide +kernel
theorem dX6_settledResult_26 : decode cX6_settledResult 26 = .ok (.ifCond .ne 7, 3) := by decide +kernel
theorem dX6_settledResult_29 : decode cX6_settledResult 29 = .ok (.iconst 1, 1) := by decide +kernel
theorem dX6_settledResult_30 : decode cX6_settledResult 30 = .ok (.goto 4, 3) := by decide +kernel
theorem dX6_settledResult_33 : decode cX6_settledResult 33 = .ok (.iconst 0, 1) := by decide +kernel
theorem dX6_settledResult_34 : decode cX6_settledResult 34 = .ok (.istore 4, 2) := by decide +kernel
theorem dX6_settledResult_36 : decode cX6_settledResult 36 = .ok (.aload_n 0, 1) := by decide +kernel
theorem dX6_settledResult_37 : decode cX6_settledResult 37 = .ok (.getfield 9, 3) := by decide +kernel
theorem dX6_settledResult_40 : decode cX6_settledResult 40 = .ok (.iload_n 2, 1) := by decide +kernel
theorem dX6_settledResult_41 : decode cX6_settledResult 41 = .ok (.invokevirtual 97, 3) := by decide +kernel
theorem dX6_settledResult_44 : decode cX6_settledResult 44 = .ok (.ifCond .ne 8, 3) := by decide +kernel
theorem dX6_settledResult_47 : decode cX6_settledResult 47 = .ok (.iload 4, 2) := by decide +kernel
theorem dX6_settledResult_49 : decode cX6_settledResult 49 = .ok (.ifCond .eq 11, 3) := by decide +kernel
theorem dX6_settledResult_52 : decode cX6_settledResult 52 = .ok (.aload_n 0, 1) := by decide +kernel
theorem dX6_settledResult_53 : decode cX6_settledResult 53 = .ok (.getfield 9, 3) := by decide +kernel
theorem dX6_settledResult_56 : decode cX6_settledResult 56 = .ok (.invokevirtual 100, 3) := by decide +kernel
theorem dX6_settledResult_59 : decode cX6_settledResult 59 = .ok (.ireturn, 1) := by decide +kernel
theorem dX6_settledResult_60 : decode cX6_settledResult 60 = .ok (.iload_n 1, 1) := by decide +kernel
theorem dX6_settledResult_61 : decode cX6_settledResult 61 = .ok (.iconst 3, 1) := by decide +kernel
theorem dX6_settledResult_62 : decode cX6_settledResult 62 = .ok (.if_icmp .ne 7, 3) := by decide +kernel
theorem dX6_settledResult_65 : decode cX6_settledResult 65 = .ok (.iconst 0, 1) := by decide +kernel
theorem dX6_settledResult_66 : decode cX6_settledResult 66 = .ok (.goto 12, 3) := by decide +kernel
theorem dX6_settledResult_69 : decode cX6_settledResult 69 = .ok (.iload_n 2, 1) := by decide +kernel
theorem dX6_settledResult_70 : decode cX6_settledResult 70 = .ok (.aload_n 0, 1) := by decide +kernel
theorem dX6_settledResult_71 : decode cX6_settledResult 71 = .ok (.getfield 9, 3) := by decide +kernel
theorem dX6_settledResult_74 : decode cX6_settledResult 74 = .ok (.getfield 103, 3) := by decide +kernel
theorem dX6_settledResult_77 : decode cX6_settledResult 77 = .ok (.iand, 1) := by decide +kernel
theorem dX6_settledResult_78 : decode cX6_settledResult 78 = .ok (.istore 5, 2) := by decide +kernel
theorem dX6_settledResult_80 : decode cX6_settledResult 80 = .ok (.iload_n 3, 1) := by decide +kernel
theorem dX6_settledResult_81 : decode cX6_settledResult 81 = .ok (.iload_n 1, 1) := by decide +kernel
theorem dX6_settledResult_82 : decode cX6_settledResult 82 = .ok (.ifCond .ne 7, 3) := by decide +kernel
theorem dX6_settledResult_85 : decode cX6_settledResult 85 = .ok (.iconst 1, 1) := by decide +kernel
theorem dX6_settledResult_86 : decode cX6_settledResult 86 = .ok (.goto 4, 3) := by decide +kernel
theorem dX6_settledResult_89 : decode cX6_settledResult 89 = .ok (.iconst 0, 1) := by decide +kernel
theorem dX6_settledResult_90 : decode cX6_settledResult 90 = .ok (.if_icmp .eq 7, 3) := by decide +kernel
theorem dX6_settledResult_93 : decode cX6_settledResult 93 = .ok (.iconst 1, 1) := by decide +kernel
theorem dX6_settledResult_94 : decode cX6_settledResult 94 = .ok (.goto 4, 3) := by decide +kernel
theorem dX6_settledResult_97 : decode cX6_settledResult 97 = .ok (.iconst 0, 1) := by decide +kernel
theorem dX6_settledResult_98 : decode cX6_settledResult 98 = .ok (.istore 6, 2) := by decide +kernel
theorem dX6_settledResult_100 : decode cX6_settledResult 100 = .ok (.iload 6, 2) := by decide +kernel
theorem dX6_settledResult_102 : decode cX6_settledResult 102 = .ok (.ifCond .eq 8, 3) := by decide +kernel
theorem dX6_settledResult_105 : decode cX6_settledResult 105 = .ok (.iload 5, 2) := by decide +kernel
theorem dX6_settledResult_107 : decode cX6_settledResult 107 = .ok (.goto 13, 3) := by decide +kernel
theorem dX6_settledResult_110 : decode cX6_settledResult 110 = .ok (.iload 5, 2) := by decide +kernel
theorem dX6_settledResult_112 : decode cX6_settledResult 112 = .ok (.aload_n 0, 1) := by decide +kernel
theorem dX6_settledResult_113 : decode cX6_settledResult 113 = .ok (.getfield 9, 3) := by decide +kernel
theorem dX6_settledResult_116 : decode cX6_settledResult 116 = .ok (.getfield 106, 3) := by decide +kernel
theorem dX6_settledResult_119 : decode cX6_settledResult 119 = .ok (.iadd, 1) := by decide +kernel
theorem dX6_settledResult_120 : decode cX6_settledResult 120 = .ok (.ireturn, 1) := by decide +kernel
set_option maxRecDepth 20000 in
theorem ggX6_reckon_X6_reckonOver : GoodIn wsX6_reckon wsX6_reckonOver := goodIn_r _ [5, 6, 7, 8, 9, 4, 10, 11, 12, 13, 34, 35, 36, 37, 38, 39, 40, 41, 42] (by decide +kernel) (by decide +kernel)
set_option maxRecDepth 20000 in
theorem gX6_reckon_X6_reckonOver : GoodIn wsX6_reckon (wsV RX6 109 RX6 yX6_reckonOver wsX6_reckonOver) := goodIn_app (goodIn_of _ (by decide +kernel)) ggX6_reckon_X6_reckonOver
set_option maxRecDepth 20000 in
theorem ggX6_reckon_X6_reckonRoot : GoodIn wsX6_reckon wsX6_reckonRoot := goodIn_r _ [17, 18, 19, 20, 21, 22, 23, 24, 25, 26, 27, 28, 29, 7, 8, 9, 4, 10, 11, 12, 13, 34, 35, 36, 37, 38, 39, 40, 41, 42] (by decide +kernel) (by decide +kernel)
set_option maxRecDepth 20000 in
theorem gX6_reckon_X6_reckonRoot : GoodIn wsX6_reckon (wsV RX6 112 RX6 yX6_reckonRoot wsX6_reckonRoot) := goodIn_app (goodIn_of _ (by decide +kernel)) ggX6_reckon_X6_reckonRoot
set_option maxRecDepth 20000 in
theorem ggX6_reckon_X6_reckonThird : GoodIn wsX6_reckon wsX6_reckonThird := goodIn_r _ [33, 18, 19, 20, 21, 22, 23, 24, 25, 26, 27, 28, 29, 7, 8, 9, 4, 10, 11, 12, 13, 34, 35, 36, 37, 38, 39, 40, 41, 42] (by decide +kernel) (by decide +kernel)
set_option maxRecDepth 20000 in
theorem gX6_reckon_X6_reckonThird : GoodIn wsX6_reckon (wsV RX6 115 RX6 yX6_reckonThird wsX6_reckonThird) := goodIn_app (goodIn_of _ (by decide +kernel)) ggX6_reckon_X6_reckonThird
set_option maxRecDepth 20000 in
theorem ggX6_reckon_X6_keep : GoodIn wsX6_reckon wsX6_keep := goodIn_r _ [10, 11, 12, 13, 34, 35, 36, 37, 38, 39, 40, 41, 42] (by decide +kernel) (by decide +kernel)
set_option maxRecDepth 20000 in
theorem gX6_reckon_X6_keep : GoodIn wsX6_reckon (wsV RX6 118 RX6 yX6_keep wsX6_keep) := goodIn_app (goodIn_of _ (by decide +kernel)) ggX6_reckon_X6_keep
theorem dX6_reckon_0 : decode cX6_reckon 0 = .ok (.iload_n 2, 1) := by decide +kernel
theorem dX6_reckon_1 : decode cX6_reckon 1 = .ok (.i2l, 1) := by decide +kernel
theorem dX6_reckon_2 : decode cX6_reckon 2 = .ok (.lstore 4, 2) := by decide +kernel
theorem dX6_reckon_4 : decode cX6_reckon 4 = .ok (.iload_n 1, 1) := by decide +kernel
theorem dX6_reckon_5 : decode cX6_reckon 5 = .ok (.tableswitch 74 0 3 #[31, 40, 49, 58], 31) := by decide +kernel
theorem dX6_reckon_36 : decode cX6_reckon 36 = .ok (.aload_n 0, 1) := by decide +kernel
theorem dX6_reckon_37 : decode cX6_reckon 37 = .ok (.iload_n 2, 1) := by decide +kernel
theorem dX6_reckon_38 : decode cX6_reckon 38 = .ok (.iload_n 3, 1) := by decide +kernel
theorem dX6_reckon_39 : decode cX6_reckon 39 = .ok (.invokevirtual 109, 3) := by decide +kernel
theorem dX6_reckon_42 : decode cX6_reckon 42 = .ok (.goto 53, 3) := by decide +kernel
theorem dX6_reckon_45 : decode cX6_reckon 45 = .ok (.aload_n 0, 1) := by decide +kernel
theorem dX6_reckon_46 : decode cX6_reckon 46 = .ok (.iload_n 2, 1) := by decide +kernel
theorem dX6_reckon_47 : decode cX6_reckon 47 = .ok (.iload_n 3, 1) := by decide +kernel
theorem dX6_reckon_48 : decode cX6_reckon 48 = .ok (.invokevirtual 112, 3) := by decide +kernel
theorem dX6_reckon_51 : decode cX6_reckon 51 = .ok (.goto 44, 3) := by decide +kernel
theorem dX6_reckon_54 : decode cX6_reckon 54 = .ok (.aload_n 0, 1) := by decide +kernel
theorem dX6_reckon_55 : decode cX6_reckon 55 = .ok (.iload_n 2, 1) := by decide +kernel
theorem dX6_reckon_56 : decode cX6_reckon 56 = .ok (.iload_n 3, 1) := by decide +kernel
theorem dX6_reckon_57 : decode cX6_reckon 57 = .ok (.invokevirtual 115, 3) := by decide +kernel
theorem dX6_reckon_60 : decode cX6_reckon 60 = .ok (.goto 35, 3) := by decide +kernel
theorem dX6_reckon_63 : decode cX6_reckon 63 = .ok (.aload_n 0, 1) := by decide +kernel
theorem dX6_reckon_64 : decode cX6_reckon 64 = .ok (.lload 4, 2) := by decide +kernel
theorem dX6_reckon_66 : decode cX6_reckon 66 = .ok (.lload 4, 2) := by decide +kernel
theorem dX6_reckon_68 : decode cX6_reckon 68 = .ok (.lmul, 1) := by decide +kernel
theorem dX6_reckon_69 : decode cX6_reckon 69 = .ok (.iconst 2, 1) := by decide +kernel
theorem dX6_reckon_70 : decode cX6_reckon 70 = .ok (.iload_n 3, 1) := by decide +kernel
theorem dX6_reckon_71 : decode cX6_reckon 71 = .ok (.imul, 1) := by decide +kernel
theorem dX6_reckon_72 : decode cX6_reckon 72 = .ok (.iconst 0, 1) := by decide +kernel
theorem dX6_reckon_73 : decode cX6_reckon 73 = .ok (.invokevirtual 118, 3) := by decide +kernel
theorem dX6_reckon_76 : decode cX6_reckon 76 = .ok (.goto 19, 3) := by decide +kernel
theorem dX6_reckon_79 : decode cX6_reckon 79 = .ok (.aload_n 0, 1) := by decide +kernel
theorem dX6_reckon_80 : decode cX6_reckon 80 = .ok (.lload 4, 2) := by decide +kernel
theorem dX6_reckon_82 : decode cX6_reckon 82 = .ok (.lload 4, 2) := by decide +kernel
theorem dX6_reckon_84 : decode cX6_reckon 84 = .ok (.lmul, 1) := by decide +kernel
theorem dX6_reckon_85 : decode cX6_reckon 85 = .ok (.lload 4, 2) := by decide +kernel
theorem dX6_reckon_87 : decode cX6_reckon 87 = .ok (.lmul, 1) := by decide +kernel
theorem dX6_reckon_88 : decode cX6_reckon 88 = .ok (.iconst 3, 1) := by decide +kernel
theorem dX6_reckon_89 : decode cX6_reckon 89 = .ok (.iload_n 3, 1) := by decide +kernel
theorem dX6_reckon_90 : decode cX6_reckon 90 = .ok (.imul, 1) := by decide +kernel
theorem dX6_reckon_91 : decode cX6_reckon 91 = .ok (.iconst 0, 1) := by decide +kernel
theorem dX6_reckon_92 : decode cX6_reckon 92 = .ok (.invokevirtual 118, 3) := by decide +kernel
theorem dX6_reckon_95 : decode cX6_reckon 95 = .ok (.return_, 1) := by decide +kernel
theorem dX6_keep_0 : decode cX6_keep 0 = .ok (.aload_n 0, 1) := by decide +kernel
theorem dX6_keep_1 : decode cX6_keep 1 = .ok (.lload_n 1, 1) := by decide +kernel
theorem dX6_keep_2 : decode cX6_keep 2 = .ok (.putfield 76, 3) := by decide +kernel
theorem dX6_keep_5 : decode cX6_keep 5 = .ok (.aload_n 0, 1) := by decide +kernel
theorem dX6_keep_6 : decode cX6_keep 6 = .ok (.iload_n 3, 1) := by decide +kernel
theorem dX6_keep_7 : decode cX6_keep 7 = .ok (.putfield 80, 3) := by decide +kernel
theorem dX6_keep_10 : decode cX6_keep 10 = .ok (.aload_n 0, 1) := by decide +kernel
theorem dX6_keep_11 : decode cX6_keep 11 = .ok (.iload 4, 2) := by decide +kernel
theorem dX6_keep_13 : decode cX6_keep 13 = .ok (.putfield 83, 3) := by decide +kernel
theorem dX6_keep_16 : decode cX6_keep 16 = .ok (.return_, 1) := by decide +kernel
set_option maxRecDepth 20000 in
theorem ggX6_reckonOver_X6_keep : GoodIn wsX6_reckonOver wsX6_keep := goodIn_r _ [6, 7, 8, 9, 10, 11, 12, 13, 14, 15, 16, 17, 18] (by decide +kernel) (by decide +kernel)
set_option maxRecDepth 20000 in
theorem gX6_reckonOver_X6_keep : GoodIn wsX6_reckonOver (wsV RX6 118 RX6 yX6_keep wsX6_keep) := goodIn_app (goodIn_of _ (by decide +kernel)) ggX6_reckonOver_X6_keep
theorem dX6_reckonOver_0 : decode cX6_reckonOver 0 = .ok (.ldc2_w 121, 3) := by decide +kernel
theorem dX6_reckonOver_3 : decode cX6_reckonOver 3 = .ok (.lstore_n 3, 1) := by decide +kernel
theorem dX6_reckonOver_4 : decode cX6_reckonOver 4 = .ok (.iload_n 1, 1) := by decide +kernel
theorem dX6_reckonOver_5 : decode cX6_reckonOver 5 = .ok (.ifCond .le 10, 3) := by decide +kernel
theorem dX6_reckonOver_8 : decode cX6_reckonOver 8 = .ok (.lload_n 3, 1) := by decide +kernel
theorem dX6_reckonOver_9 : decode cX6_reckonOver 9 = .ok (.iload_n 1, 1) := by decide +kernel
theorem dX6_reckonOver_10 : decode cX6_reckonOver 10 = .ok (.i2l, 1) := by decide +kernel
theorem dX6_reckonOver_11 : decode cX6_reckonOver 11 = .ok (.ldiv, 1) := by decide +kernel
theorem dX6_reckonOver_12 : decode cX6_reckonOver 12 = .ok (.goto 4, 3) := by decide +kernel
theorem dX6_reckonOver_15 : decode cX6_reckonOver 15 = .ok (.lload_n 3, 1) := by decide +kernel
theorem dX6_reckonOver_16 : decode cX6_reckonOver 16 = .ok (.lstore 5, 2) := by decide +kernel
theorem dX6_reckonOver_18 : decode cX6_reckonOver 18 = .ok (.aload_n 0, 1) := by decide +kernel
theorem dX6_reckonOver_19 : decode cX6_reckonOver 19 = .ok (.lload 5, 2) := by decide +kernel
theorem dX6_reckonOver_21 : decode cX6_reckonOver 21 = .ok (.iload_n 2, 1) := by decide +kernel
theorem dX6_reckonOver_22 : decode cX6_reckonOver 22 = .ok (.ineg, 1) := by decide +kernel
theorem dX6_reckonOver_23 : decode cX6_reckonOver 23 = .ok (.bipush 40, 2) := by decide +kernel
theorem dX6_reckonOver_25 : decode cX6_reckonOver 25 = .ok (.isub, 1) := by decide +kernel
theorem dX6_reckonOver_26 : decode cX6_reckonOver 26 = .ok (.lload 5, 2) := by decide +kernel
theorem dX6_reckonOver_28 : decode cX6_reckonOver 28 = .ok (.iload_n 1, 1) := by decide +kernel
theorem dX6_reckonOver_29 : decode cX6_reckonOver 29 = .ok (.i2l, 1) := by decide +kernel
theorem dX6_reckonOver_30 : decode cX6_reckonOver 30 = .ok (.lmul, 1) := by decide +kernel
theorem dX6_reckonOver_31 : decode cX6_reckonOver 31 = .ok (.lload_n 3, 1) := by decide +kernel
theorem dX6_reckonOver_32 : decode cX6_reckonOver 32 = .ok (.lcmp, 1) := by decide +kernel
theorem dX6_reckonOver_33 : decode cX6_reckonOver 33 = .ok (.ifCond .eq 7, 3) := by decide +kernel
theorem dX6_reckonOver_36 : decode cX6_reckonOver 36 = .ok (.iconst 1, 1) := by decide +kernel
theorem dX6_reckonOver_37 : decode cX6_reckonOver 37 = .ok (.goto 4, 3) := by decide +kernel
theorem dX6_reckonOver_40 : decode cX6_reckonOver 40 = .ok (.iconst 0, 1) := by decide +kernel
theorem dX6_reckonOver_41 : decode cX6_reckonOver 41 = .ok (.invokevirtual 118, 3) := by decide +kernel
theorem dX6_reckonOver_44 : decode cX6_reckonOver 44 = .ok (.return_, 1) := by decide +kernel
set_option maxRecDepth 20000 in
theorem ggX6_reckonRoot_J6_numberOfLeadingZeros_0f7a4 : GoodIn wsX6_reckonRoot wsJ6_numberOfLeadingZeros_0f7a4 := goodIn_r _ [4, 5] (by decide +kernel) (by decide +kernel)
set_option maxRecDepth 20000 in
theorem gX6_reckonRoot_J6_numberOfLeadingZeros_0f7a4 : GoodIn wsX6_reckonRoot (va_wsS RX6 123 yJ6_numberOfLeadingZeros_0f7a4 wsJ6_numberOfLeadingZeros_0f7a4) := goodIn_app (goodIn_of _ (by decide +kernel)) ggX6_reckonRoot_J6_numberOfLeadingZeros_0f7a4
set_option maxRecDepth 20000 in
theorem ggX6_reckonRoot_J9_floorMod_7cf53 : GoodIn wsX6_reckonRoot wsJ9_floorMod_7cf53 := goodIn_r _ [9] (by decide +kernel) (by decide +kernel)
set_option maxRecDepth 20000 in
theorem gX6_reckonRoot_J9_floorMod_7cf53 : GoodIn wsX6_reckonRoot (va_wsS RX6 128 yJ9_floorMod_7cf53 wsJ9_floorMod_7cf53) := goodIn_app (goodIn_of _ (by decide +kernel)) ggX6_reckonRoot_J9_floorMod_7cf53
set_option maxRecDepth 20000 in
theorem ggX6_reckonRoot_J9_floorDiv_7cf53 : GoodIn wsX6_reckonRoot wsJ9_floorDiv_7cf53 := goodIn_r _ [12] (by decide +kernel) (by decide +kernel)
set_option maxRecDepth 20000 in
theorem gX6_reckonRoot_J9_floorDiv_7cf53 : GoodIn wsX6_reckonRoot (va_wsS RX6 133 yJ9_floorDiv_7cf53 wsJ9_floorDiv_7cf53) := goodIn_app (goodIn_of _ (by decide +kernel)) ggX6_reckonRoot_J9_floorDiv_7cf53
set_option maxRecDepth 20000 in
theorem ggX6_reckonRoot_X6_keep : GoodIn wsX6_reckonRoot wsX6_keep := goodIn_r _ [17, 18, 19, 20, 21, 22, 23, 24, 25, 26, 27, 28, 29] (by decide +kernel) (by decide +kernel)
set_option maxRecDepth 20000 in
theorem gX6_reckonRoot_X6_keep : GoodIn wsX6_reckonRoot (wsV RX6 118 RX6 yX6_keep wsX6_keep) := goodIn_app (goodIn_of _ (by decide +kernel)) ggX6_reckonRoot_X6_keep
theorem dX6_reckonRoot_0 : decode cX6_reckonRoot 0 = .ok (.bipush 7, 2) := by decide +kernel
theorem dX6_reckonRoot_2 : decode cX6_reckonRoot 2 = .ok (.iload_n 1, 1) := by decide +kernel
theorem dX6_reckonRoot_3 : decode cX6_reckonRoot 3 = .ok (.invokestatic 123, 3) := by decide +kernel
theorem dX6_reckonRoot_6 : decode cX6_reckonRoot 6 = .ok (.iadd, 1) := by decide +kernel
theorem dX6_reckonRoot_7 : decode cX6_reckonRoot 7 = .ok (.istore_n 3, 1) := by decide +kernel
theorem dX6_reckonRoot_8 : decode cX6_reckonRoot 8 = .ok (.iload_n 3, 1) := by decide +kernel
theorem dX6_reckonRoot_9 : decode cX6_reckonRoot 9 = .ok (.iload_n 2, 1) := by decide +kernel
theorem dX6_reckonRoot_10 : decode cX6_reckonRoot 10 = .ok (.iload_n 3, 1) := by decide +kernel
theorem dX6_reckonRoot_11 : decode cX6_reckonRoot 11 = .ok (.isub, 1) := by decide +kernel
theorem dX6_reckonRoot_12 : decode cX6_reckonRoot 12 = .ok (.iconst 2, 1) := by decide +kernel
theorem dX6_reckonRoot_13 : decode cX6_reckonRoot 13 = .ok (.invokestatic 128, 3) := by decide +kernel
theorem dX6_reckonRoot_16 : decode cX6_reckonRoot 16 = .ok (.iadd, 1) := by decide +kernel
theorem dX6_reckonRoot_17 : decode cX6_reckonRoot 17 = .ok (.istore_n 3, 1) := by decide +kernel
theorem dX6_reckonRoot_18 : decode cX6_reckonRoot 18 = .ok (.iload_n 1, 1) := by decide +kernel
theorem dX6_reckonRoot_19 : decode cX6_reckonRoot 19 = .ok (.i2l, 1) := by decide +kernel
theorem dX6_reckonRoot_20 : decode cX6_reckonRoot 20 = .ok (.iload_n 3, 1) := by decide +kernel
theorem dX6_reckonRoot_21 : decode cX6_reckonRoot 21 = .ok (.lshl, 1) := by decide +kernel
theorem dX6_reckonRoot_22 : decode cX6_reckonRoot 22 = .ok (.lstore 4, 2) := by decide +kernel
theorem dX6_reckonRoot_24 : decode cX6_reckonRoot 24 = .ok (.lconst 0, 1) := by decide +kernel
theorem dX6_reckonRoot_25 : decode cX6_reckonRoot 25 = .ok (.lstore 6, 2) := by decide +kernel
theorem dX6_reckonRoot_27 : decode cX6_reckonRoot 27 = .ok (.bipush 19, 2) := by decide +kernel
theorem dX6_reckonRoot_29 : decode cX6_reckonRoot 29 = .ok (.istore 8, 2) := by decide +kernel
theorem dX6_reckonRoot_31 : decode cX6_reckonRoot 31 = .ok (.iload 8, 2) := by decide +kernel
theorem dX6_reckonRoot_33 : decode cX6_reckonRoot 33 = .ok (.ifCond .lt 33, 3) := by decide +kernel
theorem dX6_reckonRoot_36 : decode cX6_reckonRoot 36 = .ok (.lload 6, 2) := by decide +kernel
theorem dX6_reckonRoot_38 : decode cX6_reckonRoot 38 = .ok (.lconst 1, 1) := by decide +kernel
theorem dX6_reckonRoot_39 : decode cX6_reckonRoot 39 = .ok (.iload 8, 2) := by decide +kernel
theorem dX6_reckonRoot_41 : decode cX6_reckonRoot 41 = .ok (.lshl, 1) := by decide +kernel
theorem dX6_reckonRoot_42 : decode cX6_reckonRoot 42 = .ok (.ladd, 1) := by decide +kernel
theorem dX6_reckonRoot_43 : decode cX6_reckonRoot 43 = .ok (.lstore 9, 2) := by decide +kernel
theorem dX6_reckonRoot_45 : decode cX6_reckonRoot 45 = .ok (.lload 9, 2) := by decide +kernel
theorem dX6_reckonRoot_47 : decode cX6_reckonRoot 47 = .ok (.lload 9, 2) := by decide +kernel
theorem dX6_reckonRoot_49 : decode cX6_reckonRoot 49 = .ok (.lmul, 1) := by decide +kernel
theorem dX6_reckonRoot_50 : decode cX6_reckonRoot 50 = .ok (.lload 4, 2) := by decide +kernel
theorem dX6_reckonRoot_52 : decode cX6_reckonRoot 52 = .ok (.lcmp, 1) := by decide +kernel
theorem dX6_reckonRoot_53 : decode cX6_reckonRoot 53 = .ok (.ifCond .gt 7, 3) := by decide +kernel
theorem dX6_reckonRoot_56 : decode cX6_reckonRoot 56 = .ok (.lload 9, 2) := by decide +kernel
theorem dX6_reckonRoot_58 : decode cX6_reckonRoot 58 = .ok (.lstore 6, 2) := by decide +kernel
theorem dX6_reckonRoot_60 : decode cX6_reckonRoot 60 = .ok (.iinc 8 (-1), 3) := by decide +kernel
theorem dX6_reckonRoot_63 : decode cX6_reckonRoot 63 = .ok (.goto (-32), 3) := by decide +kernel
theorem dX6_reckonRoot_66 : decode cX6_reckonRoot 66 = .ok (.aload_n 0, 1) := by decide +kernel
theorem dX6_reckonRoot_67 : decode cX6_reckonRoot 67 = .ok (.lload 6, 2) := by decide +kernel
theorem dX6_reckonRoot_69 : decode cX6_reckonRoot 69 = .ok (.iload_n 2, 1) := by decide +kernel
theorem dX6_reckonRoot_70 : decode cX6_reckonRoot 70 = .ok (.iload_n 3, 1) := by decide +kernel
theorem dX6_reckonRoot_71 : decode cX6_reckonRoot 71 = .ok (.isub, 1) := by decide +kernel
theorem dX6_reckonRoot_72 : decode cX6_reckonRoot 72 = .ok (.iconst 2, 1) := by decide +kernel
theorem dX6_reckonRoot_73 : decode cX6_reckonRoot 73 = .ok (.invokestatic 133, 3) := by decide +kernel
theorem dX6_reckonRoot_76 : decode cX6_reckonRoot 76 = .ok (.lload 6, 2) := by decide +kernel
theorem dX6_reckonRoot_78 : decode cX6_reckonRoot 78 = .ok (.lload 6, 2) := by decide +kernel
theorem dX6_reckonRoot_80 : decode cX6_reckonRoot 80 = .ok (.lmul, 1) := by decide +kernel
theorem dX6_reckonRoot_81 : decode cX6_reckonRoot 81 = .ok (.lload 4, 2) := by decide +kernel
theorem dX6_reckonRoot_83 : decode cX6_reckonRoot 83 = .ok (.lcmp, 1) := by decide +kernel
theorem dX6_reckonRoot_84 : decode cX6_reckonRoot 84 = .ok (.ifCond .eq 7, 3) := by decide +kernel
theorem dX6_reckonRoot_87 : decode cX6_reckonRoot 87 = .ok (.iconst 1, 1) := by decide +kernel
theorem dX6_reckonRoot_88 : decode cX6_reckonRoot 88 = .ok (.goto 4, 3) := by decide +kernel
theorem dX6_reckonRoot_91 : decode cX6_reckonRoot 91 = .ok (.iconst 0, 1) := by decide +kernel
theorem dX6_reckonRoot_92 : decode cX6_reckonRoot 92 = .ok (.invokevirtual 118, 3) := by decide +kernel
theorem dX6_reckonRoot_95 : decode cX6_reckonRoot 95 = .ok (.return_, 1) := by decide +kernel
set_option maxRecDepth 20000 in
theorem ggX6_reckonThird_J6_numberOfLeadingZeros_0f7a4 : GoodIn wsX6_reckonThird wsJ6_numberOfLeadingZeros_0f7a4 := goodIn_r _ [4, 5] (by decide +kernel) (by decide +kernel)
set_option maxRecDepth 20000 in
theorem gX6_reckonThird_J6_numberOfLeadingZeros_0f7a4 : GoodIn wsX6_reckonThird (va_wsS RX6 123 yJ6_numberOfLeadingZeros_0f7a4 wsJ6_numberOfLeadingZeros_0f7a4) := goodIn_app (goodIn_of _ (by decide +kernel)) ggX6_reckonThird_J6_numberOfLeadingZeros_0f7a4
set_option maxRecDepth 20000 in
theorem ggX6_reckonThird_J9_floorMod_7cf53 : GoodIn wsX6_reckonThird wsJ9_floorMod_7cf53 := goodIn_r _ [9] (by decide +kernel) (by decide +kernel)
set_option maxRecDepth 20000 in
theorem gX6_reckonThird_J9_floorMod_7cf53 : GoodIn wsX6_reckonThird (va_wsS RX6 128 yJ9_floorMod_7cf53 wsJ9_floorMod_7cf53) := goodIn_app (goodIn_of _ (by decide +kernel)) ggX6_reckonThird_J9_floorMod_7cf53
set_option maxRecDepth 20000 in
theorem ggX6_reckonThird_J9_floorDiv_7cf53 : GoodIn wsX6_reckonThird wsJ9_floorDiv_7cf53 := goodIn_r _ [12] (by decide +kernel) (by decide +kernel)
set_option maxRecDepth 20000 in
theorem gX6_reckonThird_J9_floorDiv_7cf53 : GoodIn wsX6_reckonThird (va_wsS RX6 133 yJ9_floorDiv_7cf53 wsJ9_floorDiv_7cf53) := goodIn_app (goodIn_of _ (by decide +kernel)) ggX6_reckonThird_J9_floorDiv_7cf53
set_option maxRecDepth 20000 in
theorem ggX6_reckonThird_X6_keep : GoodIn wsX6_reckonThird wsX6_keep := goodIn_r _ [17, 18, 19, 20, 21, 22, 23, 24, 25, 26, 27, 28, 29] (by decide +kernel) (by decide +kernel)
set_option maxRecDepth 20000 in
theorem gX6_reckonThird_X6_keep : GoodIn wsX6_reckonThird (wsV RX6 118 RX6 yX6_keep wsX6_keep) := goodIn_app (goodIn_of _ (by decide +kernel)) ggX6_reckonThird_X6_keep
theorem dX6_reckonThird_0 : decode cX6_reckonThird 0 = .ok (.bipush 26, 2) := by decide +kernel
theorem dX6_reckonThird_2 : decode cX6_reckonThird 2 = .ok (.iload_n 1, 1) := by decide +kernel
theorem dX6_reckonThird_3 : decode cX6_reckonThird 3 = .ok (.invokestatic 123, 3) := by decide +kernel
theorem dX6_reckonThird_6 : decode cX6_reckonThird 6 = .ok (.iadd, 1) := by decide +kernel
theorem dX6_reckonThird_7 : decode cX6_reckonThird 7 = .ok (.istore_n 3, 1) := by decide +kernel
theorem dX6_reckonThird_8 : decode cX6_reckonThird 8 = .ok (.iload_n 3, 1) := by decide +kernel
theorem dX6_reckonThird_9 : decode cX6_reckonThird 9 = .ok (.iload_n 2, 1) := by decide +kernel
theorem dX6_reckonThird_10 : decode cX6_reckonThird 10 = .ok (.iload_n 3, 1) := by decide +kernel
theorem dX6_reckonThird_11 : decode cX6_reckonThird 11 = .ok (.isub, 1) := by decide +kernel
theorem dX6_reckonThird_12 : decode cX6_reckonThird 12 = .ok (.iconst 3, 1) := by decide +kernel
theorem dX6_reckonThird_13 : decode cX6_reckonThird 13 = .ok (.invokestatic 128, 3) := by decide +kernel
theorem dX6_reckonThird_16 : decode cX6_reckonThird 16 = .ok (.iadd, 1) := by decide +kernel
theorem dX6_reckonThird_17 : decode cX6_reckonThird 17 = .ok (.istore_n 3, 1) := by decide +kernel
theorem dX6_reckonThird_18 : decode cX6_reckonThird 18 = .ok (.iload_n 1, 1) := by decide +kernel
theorem dX6_reckonThird_19 : decode cX6_reckonThird 19 = .ok (.i2l, 1) := by decide +kernel
theorem dX6_reckonThird_20 : decode cX6_reckonThird 20 = .ok (.iload_n 3, 1) := by decide +kernel
theorem dX6_reckonThird_21 : decode cX6_reckonThird 21 = .ok (.lshl, 1) := by decide +kernel
theorem dX6_reckonThird_22 : decode cX6_reckonThird 22 = .ok (.lstore 4, 2) := by decide +kernel
theorem dX6_reckonThird_24 : decode cX6_reckonThird 24 = .ok (.lconst 0, 1) := by decide +kernel
theorem dX6_reckonThird_25 : decode cX6_reckonThird 25 = .ok (.lstore 6, 2) := by decide +kernel
theorem dX6_reckonThird_27 : decode cX6_reckonThird 27 = .ok (.bipush 19, 2) := by decide +kernel
theorem dX6_reckonThird_29 : decode cX6_reckonThird 29 = .ok (.istore 8, 2) := by decide +kernel
theorem dX6_reckonThird_31 : decode cX6_reckonThird 31 = .ok (.iload 8, 2) := by decide +kernel
theorem dX6_reckonThird_33 : decode cX6_reckonThird 33 = .ok (.ifCond .lt 36, 3) := by decide +kernel
theorem dX6_reckonThird_36 : decode cX6_reckonThird 36 = .ok (.lload 6, 2) := by decide +kernel
theorem dX6_reckonThird_38 : decode cX6_reckonThird 38 = .ok (.lconst 1, 1) := by decide +kernel
theorem dX6_reckonThird_39 : decode cX6_reckonThird 39 = .ok (.iload 8, 2) := by decide +kernel
theorem dX6_reckonThird_41 : decode cX6_reckonThird 41 = .ok (.lshl, 1) := by decide +kernel
theorem dX6_reckonThird_42 : decode cX6_reckonThird 42 = .ok (.ladd, 1) := by decide +kernel
theorem dX6_reckonThird_43 : decode cX6_reckonThird 43 = .ok (.lstore 9, 2) := by decide +kernel
theorem dX6_reckonThird_45 : decode cX6_reckonThird 45 = .ok (.lload 9, 2) := by decide +kernel
theorem dX6_reckonThird_47 : decode cX6_reckonThird 47 = .ok (.lload 9, 2) := by decide +kernel
theorem dX6_reckonThird_49 : decode cX6_reckonThird 49 = .ok (.lmul, 1) := by decide +kernel
theorem dX6_reckonThird_50 : decode cX6_reckonThird 50 = .ok (.lload 9, 2) := by decide +kernel
theorem dX6_reckonThird_52 : decode cX6_reckonThird 52 = .ok (.lmul, 1) := by decide +kernel
theorem dX6_reckonThird_53 : decode cX6_reckonThird 53 = .ok (.lload 4, 2) := by decide +kernel
theorem dX6_reckonThird_55 : decode cX6_reckonThird 55 = .ok (.lcmp, 1) := by decide +kernel
theorem dX6_reckonThird_56 : decode cX6_reckonThird 56 = .ok (.ifCond .gt 7, 3) := by decide +kernel
theorem dX6_reckonThird_59 : decode cX6_reckonThird 59 = .ok (.lload 9, 2) := by decide +kernel
theorem dX6_reckonThird_61 : decode cX6_reckonThird 61 = .ok (.lstore 6, 2) := by decide +kernel
theorem dX6_reckonThird_63 : decode cX6_reckonThird 63 = .ok (.iinc 8 (-1), 3) := by decide +kernel
theorem dX6_reckonThird_66 : decode cX6_reckonThird 66 = .ok (.goto (-35), 3) := by decide +kernel
theorem dX6_reckonThird_69 : decode cX6_reckonThird 69 = .ok (.aload_n 0, 1) := by decide +kernel
theorem dX6_reckonThird_70 : decode cX6_reckonThird 70 = .ok (.lload 6, 2) := by decide +kernel
theorem dX6_reckonThird_72 : decode cX6_reckonThird 72 = .ok (.iload_n 2, 1) := by decide +kernel
theorem dX6_reckonThird_73 : decode cX6_reckonThird 73 = .ok (.iload_n 3, 1) := by decide +kernel
theorem dX6_reckonThird_74 : decode cX6_reckonThird 74 = .ok (.isub, 1) := by decide +kernel
theorem dX6_reckonThird_75 : decode cX6_reckonThird 75 = .ok (.iconst 3, 1) := by decide +kernel
theorem dX6_reckonThird_76 : decode cX6_reckonThird 76 = .ok (.invokestatic 133, 3) := by decide +kernel
theorem dX6_reckonThird_79 : decode cX6_reckonThird 79 = .ok (.lload 6, 2) := by decide +kernel
theorem dX6_reckonThird_81 : decode cX6_reckonThird 81 = .ok (.lload 6, 2) := by decide +kernel
theorem dX6_reckonThird_83 : decode cX6_reckonThird 83 = .ok (.lmul, 1) := by decide +kernel
theorem dX6_reckonThird_84 : decode cX6_reckonThird 84 = .ok (.lload 6, 2) := by decide +kernel
theorem dX6_reckonThird_86 : decode cX6_reckonThird 86 = .ok (.lmul, 1) := by decide +kernel
theorem dX6_reckonThird_87 : decode cX6_reckonThird 87 = .ok (.lload 4, 2) := by decide +kernel
theorem dX6_reckonThird_89 : decode cX6_reckonThird 89 = .ok (.lcmp, 1) := by decide +kernel
theorem dX6_reckonThird_90 : decode cX6_reckonThird 90 = .ok (.ifCond .eq 7, 3) := by decide +kernel
theorem dX6_reckonThird_93 : decode cX6_reckonThird 93 = .ok (.iconst 1, 1) := by decide +kernel
theorem dX6_reckonThird_94 : decode cX6_reckonThird 94 = .ok (.goto 4, 3) := by decide +kernel
theorem dX6_reckonThird_97 : decode cX6_reckonThird 97 = .ok (.iconst 0, 1) := by decide +kernel
theorem dX6_reckonThird_98 : decode cX6_reckonThird 98 = .ok (.invokevirtual 118, 3) := by decide +kernel
theorem dX6_reckonThird_101 : decode cX6_reckonThird 101 = .ok (.return_, 1) := by decide +kernel
