set_option maxRecDepth 20000 in
theorem ggX8_hardOf_X8_figuresOf : GoodIn wsX8_hardOf wsX8_figuresOf := goodIn_r _ [5, 6, 7, 8, 9, 10, 4, 11, 12, 13, 14, 15, 16, 17, 18, 19, 20, 21, 22, 23, 24, 25, 26, 27, 28, 29, 30, 31, 32, 33, 34, 35, 36, 37, 38, 39, 40, 41, 42, 43, 44, 45, 46, 47, 48, 49, 50, 51, 52, 53, 54, 55, 56, 57, 58, 59, 60, 61, 62, 63, 64, 65, 66, 67, 68, 69, 70, 71, 72, 73, 74, 75, 76, 77, 78, 79, 80] (by decide +kernel) (by decide +kernel)
set_option maxRecDepth 20000 in
theorem gX8_hardOf_X8_figuresOf : GoodIn wsX8_hardOf (wsV RX8 171 RX8 yX8_figuresOf wsX8_figuresOf) := goodIn_app (goodIn_of _ (by decide +kernel)) ggX8_hardOf_X8_figuresOf
theorem dX8_hardOf_0 : decode cX8_hardOf 0 = .ok (.aload_n 0, 1) := by decide +kernel
theorem dX8_hardOf_1 : decode cX8_hardOf 1 = .ok (.iload_n 1, 1) := by decide +kernel
theorem dX8_hardOf_2 : decode cX8_hardOf 2 = .ok (.iload_n 2, 1) := by decide +kernel
theorem dX8_hardOf_3 : decode cX8_hardOf 3 = .ok (.invokevirtual 171, 3) := by decide +kernel
theorem dX8_hardOf_6 : decode cX8_hardOf 6 = .ok (.istore_n 3, 1) := by decide +kernel
theorem dX8_hardOf_7 : decode cX8_hardOf 7 = .ok (.iload_n 3, 1) := by decide +kernel
theorem dX8_hardOf_8 : decode cX8_hardOf 8 = .ok (.ifCond .ge 5, 3) := by decide +kernel
theorem dX8_hardOf_11 : decode cX8_hardOf 11 = .ok (.iconst 0, 1) := by decide +kernel
theorem dX8_hardOf_12 : decode cX8_hardOf 12 = .ok (.ireturn, 1) := by decide +kernel
theorem dX8_hardOf_13 : decode cX8_hardOf 13 = .ok (.iconst 1, 1) := by decide +kernel
theorem dX8_hardOf_14 : decode cX8_hardOf 14 = .ok (.istore 4, 2) := by decide +kernel
theorem dX8_hardOf_16 : decode cX8_hardOf 16 = .ok (.iload 4, 2) := by decide +kernel
theorem dX8_hardOf_18 : decode cX8_hardOf 18 = .ok (.bipush 9, 2) := by decide +kernel
theorem dX8_hardOf_20 : decode cX8_hardOf 20 = .ok (.if_icmp .ge 27, 3) := by decide +kernel
theorem dX8_hardOf_23 : decode cX8_hardOf 23 = .ok (.iload_n 3, 1) := by decide +kernel
theorem dX8_hardOf_24 : decode cX8_hardOf 24 = .ok (.bipush 8, 2) := by decide +kernel
theorem dX8_hardOf_26 : decode cX8_hardOf 26 = .ok (.iload 4, 2) := by decide +kernel
theorem dX8_hardOf_28 : decode cX8_hardOf 28 = .ok (.isub, 1) := by decide +kernel
theorem dX8_hardOf_29 : decode cX8_hardOf 29 = .ok (.ishr, 1) := by decide +kernel
theorem dX8_hardOf_30 : decode cX8_hardOf 30 = .ok (.iconst 1, 1) := by decide +kernel
theorem dX8_hardOf_31 : decode cX8_hardOf 31 = .ok (.iand, 1) := by decide +kernel
theorem dX8_hardOf_32 : decode cX8_hardOf 32 = .ok (.iload_n 3, 1) := by decide +kernel
theorem dX8_hardOf_33 : decode cX8_hardOf 33 = .ok (.bipush 8, 2) := by decide +kernel
theorem dX8_hardOf_35 : decode cX8_hardOf 35 = .ok (.ishr, 1) := by decide +kernel
theorem dX8_hardOf_36 : decode cX8_hardOf 36 = .ok (.iconst 1, 1) := by decide +kernel
theorem dX8_hardOf_37 : decode cX8_hardOf 37 = .ok (.iand, 1) := by decide +kernel
theorem dX8_hardOf_38 : decode cX8_hardOf 38 = .ok (.if_icmp .ne 9, 3) := by decide +kernel
theorem dX8_hardOf_41 : decode cX8_hardOf 41 = .ok (.iinc 4 1, 3) := by decide +kernel
theorem dX8_hardOf_44 : decode cX8_hardOf 44 = .ok (.goto (-28), 3) := by decide +kernel
theorem dX8_hardOf_47 : decode cX8_hardOf 47 = .ok (.iload 4, 2) := by decide +kernel
theorem dX8_hardOf_49 : decode cX8_hardOf 49 = .ok (.ireturn, 1) := by decide +kernel
set_option maxRecDepth 20000 in
theorem ggX8_hard_X8_isFunction : GoodIn wsX8_hard wsX8_isFunction := goodIn_r _ [4, 5, 6, 3, 7] (by decide +kernel) (by decide +kernel)
set_option maxRecDepth 20000 in
theorem gX8_hard_X8_isFunction : GoodIn wsX8_hard (va_wsS RX8 161 yX8_isFunction wsX8_isFunction) := goodIn_app (goodIn_of _ (by decide +kernel)) ggX8_hard_X8_isFunction
set_option maxRecDepth 20000 in
theorem ggX8_hard_X8_isCode : GoodIn wsX8_hard wsX8_isCode := goodIn_r _ [11, 12, 5, 6, 3, 7, 76, 77, 78, 79, 80, 81, 82, 83, 84, 85, 86, 87, 88, 89, 90, 91, 92, 93, 94, 95, 96, 97, 98, 99, 100] (by decide +kernel) (by decide +kernel)
set_option maxRecDepth 20000 in
theorem gX8_hard_X8_isCode : GoodIn wsX8_hard (wsV RX8 87 RX8 yX8_isCode wsX8_isCode) := goodIn_app (goodIn_of _ (by decide +kernel)) ggX8_hard_X8_isCode
set_option maxRecDepth 20000 in
theorem ggX8_hard_X8_hardOf : GoodIn wsX8_hard wsX8_hardOf := goodIn_r _ [16, 17, 18, 19, 3, 20, 21, 22, 23, 24, 25, 26, 27, 28, 29, 30, 31, 32, 33, 34, 35, 36, 37, 38, 39, 40, 41, 42, 43, 44, 45, 46, 47, 48, 49, 50, 51, 52, 53, 54, 55, 56, 57, 58, 59, 60, 61, 62, 63, 64, 65, 66, 67, 68, 69, 70, 76, 77, 78, 79, 80, 81, 82, 83, 84, 85, 86, 87, 88, 89, 90, 91, 92, 93, 94, 95, 96, 97, 98, 99, 100] (by decide +kernel) (by decide +kernel)
set_option maxRecDepth 20000 in
theorem gX8_hard_X8_hardOf : GoodIn wsX8_hard (wsV RX8 174 RX8 yX8_hardOf wsX8_hardOf) := goodIn_app (goodIn_of _ (by decide +kernel)) ggX8_hard_X8_hardOf
set_option maxRecDepth 20000 in
theorem ggX8_hard_X8_refuse : GoodIn wsX8_hard wsX8_refuse := goodIn_r _ [74, 75, 76, 77, 78, 79, 80, 81, 82, 83, 84, 85, 86, 87, 88, 89, 90, 91, 92, 93, 94, 95, 96, 97, 98, 99, 100] (by decide +kernel) (by decide +kernel)
set_option maxRecDepth 20000 in
theorem gX8_hard_X8_refuse : GoodIn wsX8_hard (wsV RX8 51 RX8 yX8_refuse wsX8_refuse) := goodIn_app (goodIn_of _ (by decide +kernel)) ggX8_hard_X8_refuse
theorem dX8_hard_0 : decode cX8_hard 0 = .ok (.iload_n 1, 1) := by decide +kernel
theorem dX8_hard_1 : decode cX8_hard 1 = .ok (.invokestatic 161, 3) := by decide +kernel
theorem dX8_hard_4 : decode cX8_hard 4 = .ok (.ifCond .eq 20, 3) := by decide +kernel
theorem dX8_hard_7 : decode cX8_hard 7 = .ok (.aload_n 0, 1) := by decide +kernel
theorem dX8_hard_8 : decode cX8_hard 8 = .ok (.iload_n 2, 1) := by decide +kernel
theorem dX8_hard_9 : decode cX8_hard 9 = .ok (.invokevirtual 87, 3) := by decide +kernel
theorem dX8_hard_12 : decode cX8_hard 12 = .ok (.ifCond .eq 12, 3) := by decide +kernel
theorem dX8_hard_15 : decode cX8_hard 15 = .ok (.aload_n 0, 1) := by decide +kernel
theorem dX8_hard_16 : decode cX8_hard 16 = .ok (.iload_n 1, 1) := by decide +kernel
theorem dX8_hard_17 : decode cX8_hard 17 = .ok (.iload_n 2, 1) := by decide +kernel
theorem dX8_hard_18 : decode cX8_hard 18 = .ok (.invokevirtual 174, 3) := by decide +kernel
theorem dX8_hard_21 : decode cX8_hard 21 = .ok (.goto 8, 3) := by decide +kernel
theorem dX8_hard_24 : decode cX8_hard 24 = .ok (.aload_n 0, 1) := by decide +kernel
theorem dX8_hard_25 : decode cX8_hard 25 = .ok (.iconst (-1), 1) := by decide +kernel
theorem dX8_hard_26 : decode cX8_hard 26 = .ok (.invokevirtual 51, 3) := by decide +kernel
theorem dX8_hard_29 : decode cX8_hard 29 = .ok (.ireturn, 1) := by decide +kernel
set_option maxRecDepth 20000 in
theorem ggX8_know_X8_hardOf : GoodIn wsX8_know wsX8_hardOf := goodIn_r _ [9, 10, 11, 12, 8, 13, 14, 15, 16, 17, 18, 19, 20, 21, 22, 23, 24, 25, 26, 27, 28, 29, 30, 31, 32, 33, 34, 35, 36, 37, 38, 39, 40, 41, 42, 43, 44, 45, 46, 47, 48, 49, 50, 51, 52, 53, 54, 55, 56, 57, 58, 59, 60, 61, 62, 63, 72, 73, 74, 75, 76, 77, 78, 79, 80, 81, 82, 83, 84, 85, 86, 87, 88, 89, 90, 91, 92, 93, 94, 95, 96] (by decide +kernel) (by decide +kernel)
set_option maxRecDepth 20000 in
theorem gX8_know_X8_hardOf : GoodIn wsX8_know (wsV RX8 174 RX8 yX8_hardOf wsX8_hardOf) := goodIn_app (goodIn_of _ (by decide +kernel)) ggX8_know_X8_hardOf
set_option maxRecDepth 20000 in
theorem ggX8_know_X8_sortOf : GoodIn wsX8_know wsX8_sortOf := goodIn_r _ [67, 16, 17, 18, 8, 19, 20, 14, 21, 22, 23, 24, 25, 26, 27, 28, 29, 30, 31, 32, 33, 34, 35, 36, 37, 38, 39, 40, 41, 42, 43, 44, 45, 46, 47, 48, 49, 50, 51, 52, 53, 54, 55, 56, 57, 58, 59, 60, 61, 62, 63, 68, 69, 70, 71, 15, 72, 73, 74, 75, 76, 77, 78, 79, 80, 81, 82, 83, 84, 85, 86, 87, 88, 89, 90, 91, 92, 93, 94, 95, 96] (by decide +kernel) (by decide +kernel)
set_option maxRecDepth 20000 in
theorem gX8_know_X8_sortOf : GoodIn wsX8_know (wsV RX8 168 RX8 yX8_sortOf wsX8_sortOf) := goodIn_app (goodIn_of _ (by decide +kernel)) ggX8_know_X8_sortOf
theorem dX8_know_0 : decode cX8_know 0 = .ok (.aload_n 0, 1) := by decide +kernel
theorem dX8_know_1 : decode cX8_know 1 = .ok (.getfield 13, 3) := by decide +kernel
theorem dX8_know_4 : decode cX8_know 4 = .ok (.iload_n 1, 1) := by decide +kernel
theorem dX8_know_5 : decode cX8_know 5 = .ok (.baload, 1) := by decide +kernel
theorem dX8_know_6 : decode cX8_know 6 = .ok (.ifCond .eq 4, 3) := by decide +kernel
theorem dX8_know_9 : decode cX8_know 9 = .ok (.return_, 1) := by decide +kernel
theorem dX8_know_10 : decode cX8_know 10 = .ok (.aload_n 0, 1) := by decide +kernel
theorem dX8_know_11 : decode cX8_know 11 = .ok (.getfield 13, 3) := by decide +kernel
theorem dX8_know_14 : decode cX8_know 14 = .ok (.iload_n 1, 1) := by decide +kernel
theorem dX8_know_15 : decode cX8_know 15 = .ok (.iconst 1, 1) := by decide +kernel
theorem dX8_know_16 : decode cX8_know 16 = .ok (.bastore, 1) := by decide +kernel
theorem dX8_know_17 : decode cX8_know 17 = .ok (.iconst 0, 1) := by decide +kernel
theorem dX8_know_18 : decode cX8_know 18 = .ok (.istore_n 2, 1) := by decide +kernel
theorem dX8_know_19 : decode cX8_know 19 = .ok (.iload_n 2, 1) := by decide +kernel
theorem dX8_know_20 : decode cX8_know 20 = .ok (.aload_n 0, 1) := by decide +kernel
theorem dX8_know_21 : decode cX8_know 21 = .ok (.getfield 62, 3) := by decide +kernel
theorem dX8_know_24 : decode cX8_know 24 = .ok (.if_icmp .ge 45, 3) := by decide +kernel
theorem dX8_know_27 : decode cX8_know 27 = .ok (.aload_n 0, 1) := by decide +kernel
theorem dX8_know_28 : decode cX8_know 28 = .ok (.getfield 18, 3) := by decide +kernel
theorem dX8_know_31 : decode cX8_know 31 = .ok (.sipush 16384, 3) := by decide +kernel
theorem dX8_know_34 : decode cX8_know 34 = .ok (.iload_n 1, 1) := by decide +kernel
theorem dX8_know_35 : decode cX8_know 35 = .ok (.imul, 1) := by decide +kernel
theorem dX8_know_36 : decode cX8_know 36 = .ok (.iload_n 2, 1) := by decide +kernel
theorem dX8_know_37 : decode cX8_know 37 = .ok (.iadd, 1) := by decide +kernel
theorem dX8_know_38 : decode cX8_know 38 = .ok (.aload_n 0, 1) := by decide +kernel
theorem dX8_know_39 : decode cX8_know 39 = .ok (.iload_n 1, 1) := by decide +kernel
theorem dX8_know_40 : decode cX8_know 40 = .ok (.iload_n 2, 1) := by decide +kernel
theorem dX8_know_41 : decode cX8_know 41 = .ok (.invokevirtual 174, 3) := by decide +kernel
theorem dX8_know_44 : decode cX8_know 44 = .ok (.iastore, 1) := by decide +kernel
theorem dX8_know_45 : decode cX8_know 45 = .ok (.aload_n 0, 1) := by decide +kernel
theorem dX8_know_46 : decode cX8_know 46 = .ok (.getfield 21, 3) := by decide +kernel
theorem dX8_know_49 : decode cX8_know 49 = .ok (.sipush 16384, 3) := by decide +kernel
theorem dX8_know_52 : decode cX8_know 52 = .ok (.iload_n 1, 1) := by decide +kernel
theorem dX8_know_53 : decode cX8_know 53 = .ok (.imul, 1) := by decide +kernel
theorem dX8_know_54 : decode cX8_know 54 = .ok (.iload_n 2, 1) := by decide +kernel
theorem dX8_know_55 : decode cX8_know 55 = .ok (.iadd, 1) := by decide +kernel
theorem dX8_know_56 : decode cX8_know 56 = .ok (.aload_n 0, 1) := by decide +kernel
theorem dX8_know_57 : decode cX8_know 57 = .ok (.iload_n 1, 1) := by decide +kernel
theorem dX8_know_58 : decode cX8_know 58 = .ok (.iload_n 2, 1) := by decide +kernel
theorem dX8_know_59 : decode cX8_know 59 = .ok (.invokevirtual 168, 3) := by decide +kernel
theorem dX8_know_62 : decode cX8_know 62 = .ok (.iastore, 1) := by decide +kernel
theorem dX8_know_63 : decode cX8_know 63 = .ok (.iinc 2 1, 3) := by decide +kernel
theorem dX8_know_66 : decode cX8_know 66 = .ok (.goto (-47), 3) := by decide +kernel
theorem dX8_know_69 : decode cX8_know 69 = .ok (.return_, 1) := by decide +kernel
set_option maxRecDepth 20000 in
theorem ggX8_hardest_X8_isFunction : GoodIn wsX8_hardest wsX8_isFunction := goodIn_r _ [10, 11, 12, 9, 13] (by decide +kernel) (by decide +kernel)
set_option maxRecDepth 20000 in
theorem gX8_hardest_X8_isFunction : GoodIn wsX8_hardest (va_wsS RX8 161 yX8_isFunction wsX8_isFunction) := goodIn_app (goodIn_of _ (by decide +kernel)) ggX8_hardest_X8_isFunction
set_option maxRecDepth 20000 in
theorem ggX8_hardest_X8_refuse : GoodIn wsX8_hardest wsX8_refuse := goodIn_r _ [17, 18, 91, 92, 93, 94, 95, 96, 97, 98, 99, 100, 101, 102, 103, 104, 105, 106, 107, 108, 109, 110, 111, 112, 113, 114, 115] (by decide +kernel) (by decide +kernel)
set_option maxRecDepth 20000 in
theorem gX8_hardest_X8_refuse : GoodIn wsX8_hardest (wsV RX8 51 RX8 yX8_refuse wsX8_refuse) := goodIn_app (goodIn_of _ (by decide +kernel)) ggX8_hardest_X8_refuse
set_option maxRecDepth 20000 in
theorem ggX8_hardest_X8_know : GoodIn wsX8_hardest wsX8_know := goodIn_r _ [22, 23, 1, 2, 24, 25, 26, 27, 9, 28, 29, 30, 31, 32, 33, 34, 35, 36, 37, 38, 39, 40, 41, 42, 43, 44, 45, 46, 47, 48, 49, 50, 51, 52, 53, 54, 55, 56, 57, 58, 59, 60, 61, 62, 63, 64, 65, 66, 67, 68, 69, 70, 71, 72, 73, 74, 75, 76, 77, 78, 79, 80, 81, 82, 83, 84, 85, 86, 87, 88, 89, 90, 91, 92, 93, 94, 95, 96, 97, 98, 99, 100, 101, 102, 103, 104, 105, 106, 107, 108, 109, 110, 111, 112, 113, 114, 115] (by decide +kernel) (by decide +kernel)
set_option maxRecDepth 20000 in
theorem gX8_hardest_X8_know : GoodIn wsX8_hardest (wsV RX8 177 RX8 yX8_know wsX8_know) := goodIn_app (goodIn_of _ (by decide +kernel)) ggX8_hardest_X8_know
theorem dX8_hardest_0 : decode cX8_hardest 0 = .ok (.iload_n 1, 1) := by decide +kernel
theorem dX8_hardest_1 : decode cX8_hardest 1 = .ok (.invokestatic 161, 3) := by decide +kernel
theorem dX8_hardest_4 : decode cX8_hardest 4 = .ok (.ifCond .ne 9, 3) := by decide +kernel
theorem dX8_hardest_7 : decode cX8_hardest 7 = .ok (.aload_n 0, 1) := by decide +kernel
theorem dX8_hardest_8 : decode cX8_hardest 8 = .ok (.iconst (-1), 1) := by decide +kernel
theorem dX8_hardest_9 : decode cX8_hardest 9 = .ok (.invokevirtual 51, 3) := by decide +kernel
theorem dX8_hardest_12 : decode cX8_hardest 12 = .ok (.ireturn, 1) := by decide +kernel
theorem dX8_hardest_13 : decode cX8_hardest 13 = .ok (.aload_n 0, 1) := by decide +kernel
theorem dX8_hardest_14 : decode cX8_hardest 14 = .ok (.iload_n 1, 1) := by decide +kernel
theorem dX8_hardest_15 : decode cX8_hardest 15 = .ok (.invokevirtual 177, 3) := by decide +kernel
theorem dX8_hardest_18 : decode cX8_hardest 18 = .ok (.iconst 0, 1) := by decide +kernel
theorem dX8_hardest_19 : decode cX8_hardest 19 = .ok (.istore_n 3, 1) := by decide +kernel
theorem dX8_hardest_20 : decode cX8_hardest 20 = .ok (.iconst 0, 1) := by decide +kernel
theorem dX8_hardest_21 : decode cX8_hardest 21 = .ok (.istore 4, 2) := by decide +kernel
theorem dX8_hardest_23 : decode cX8_hardest 23 = .ok (.iload 4, 2) := by decide +kernel
theorem dX8_hardest_25 : decode cX8_hardest 25 = .ok (.aload_n 0, 1) := by decide +kernel
theorem dX8_hardest_26 : decode cX8_hardest 26 = .ok (.getfield 62, 3) := by decide +kernel
theorem dX8_hardest_29 : decode cX8_hardest 29 = .ok (.if_icmp .ge 27, 3) := by decide +kernel
theorem dX8_hardest_32 : decode cX8_hardest 32 = .ok (.iload_n 3, 1) := by decide +kernel
theorem dX8_hardest_33 : decode cX8_hardest 33 = .ok (.aload_n 0, 1) := by decide +kernel
theorem dX8_hardest_34 : decode cX8_hardest 34 = .ok (.getfield 18, 3) := by decide +kernel
theorem dX8_hardest_37 : decode cX8_hardest 37 = .ok (.sipush 16384, 3) := by decide +kernel
theorem dX8_hardest_40 : decode cX8_hardest 40 = .ok (.iload_n 1, 1) := by decide +kernel
theorem dX8_hardest_41 : decode cX8_hardest 41 = .ok (.imul, 1) := by decide +kernel
theorem dX8_hardest_42 : decode cX8_hardest 42 = .ok (.iload 4, 2) := by decide +kernel
theorem dX8_hardest_44 : decode cX8_hardest 44 = .ok (.iadd, 1) := by decide +kernel
theorem dX8_hardest_45 : decode cX8_hardest 45 = .ok (.iaload, 1) := by decide +kernel
theorem dX8_hardest_46 : decode cX8_hardest 46 = .ok (.invokestatic 181, 3) := by decide +kernel
theorem dX8_hardest_49 : decode cX8_hardest 49 = .ok (.istore_n 3, 1) := by decide +kernel
theorem dX8_hardest_50 : decode cX8_hardest 50 = .ok (.iinc 4 1, 3) := by decide +kernel
theorem dX8_hardest_53 : decode cX8_hardest 53 = .ok (.goto (-30), 3) := by decide +kernel
theorem dX8_hardest_56 : decode cX8_hardest 56 = .ok (.iload_n 2, 1) := by decide +kernel
theorem dX8_hardest_57 : decode cX8_hardest 57 = .ok (.istore 4, 2) := by decide +kernel
theorem dX8_hardest_59 : decode cX8_hardest 59 = .ok (.iconst 0, 1) := by decide +kernel
theorem dX8_hardest_60 : decode cX8_hardest 60 = .ok (.istore 5, 2) := by decide +kernel
theorem dX8_hardest_62 : decode cX8_hardest 62 = .ok (.iload 5, 2) := by decide +kernel
theorem dX8_hardest_64 : decode cX8_hardest 64 = .ok (.aload_n 0, 1) := by decide +kernel
theorem dX8_hardest_65 : decode cX8_hardest 65 = .ok (.getfield 62, 3) := by decide +kernel
theorem dX8_hardest_68 : decode cX8_hardest 68 = .ok (.if_icmp .ge 44, 3) := by decide +kernel
theorem dX8_hardest_71 : decode cX8_hardest 71 = .ok (.iload_n 2, 1) := by decide +kernel
theorem dX8_hardest_72 : decode cX8_hardest 72 = .ok (.ifCond .lt 40, 3) := by decide +kernel
theorem dX8_hardest_75 : decode cX8_hardest 75 = .ok (.aload_n 0, 1) := by decide +kernel
theorem dX8_hardest_76 : decode cX8_hardest 76 = .ok (.getfield 18, 3) := by decide +kernel
theorem dX8_hardest_79 : decode cX8_hardest 79 = .ok (.sipush 16384, 3) := by decide +kernel
theorem dX8_hardest_82 : decode cX8_hardest 82 = .ok (.iload_n 1, 1) := by decide +kernel
theorem dX8_hardest_83 : decode cX8_hardest 83 = .ok (.imul, 1) := by decide +kernel
theorem dX8_hardest_84 : decode cX8_hardest 84 = .ok (.iload 5, 2) := by decide +kernel
theorem dX8_hardest_86 : decode cX8_hardest 86 = .ok (.iadd, 1) := by decide +kernel
theorem dX8_hardest_87 : decode cX8_hardest 87 = .ok (.iaload, 1) := by decide +kernel
theorem dX8_hardest_88 : decode cX8_hardest 88 = .ok (.iload_n 3, 1) := by decide +kernel
theorem dX8_hardest_89 : decode cX8_hardest 89 = .ok (.if_icmp .eq 6, 3) := by decide +kernel
theorem dX8_hardest_92 : decode cX8_hardest 92 = .ok (.goto 14, 3) := by decide +kernel
theorem dX8_hardest_95 : decode cX8_hardest 95 = .ok (.iload 4, 2) := by decide +kernel
theorem dX8_hardest_97 : decode cX8_hardest 97 = .ok (.ifCond .ne 6, 3) := by decide +kernel
theorem dX8_hardest_100 : decode cX8_hardest 100 = .ok (.iload 5, 2) := by decide +kernel
theorem dX8_hardest_102 : decode cX8_hardest 102 = .ok (.ireturn, 1) := by decide +kernel
theorem dX8_hardest_103 : decode cX8_hardest 103 = .ok (.iinc 4 (-1), 3) := by decide +kernel
theorem dX8_hardest_106 : decode cX8_hardest 106 = .ok (.iinc 5 1, 3) := by decide +kernel
theorem dX8_hardest_109 : decode cX8_hardest 109 = .ok (.goto (-47), 3) := by decide +kernel
theorem dX8_hardest_112 : decode cX8_hardest 112 = .ok (.bipush (-9), 2) := by decide +kernel
theorem dX8_hardest_114 : decode cX8_hardest 114 = .ok (.ireturn, 1) := by decide +kernel
set_option maxRecDepth 20000 in
theorem ggX8_count_X8_isFunction : GoodIn wsX8_count wsX8_isFunction := goodIn_r _ [6, 7, 8, 5, 9] (by decide +kernel) (by decide +kernel)
set_option maxRecDepth 20000 in
theorem gX8_count_X8_isFunction : GoodIn wsX8_count (va_wsS RX8 161 yX8_isFunction wsX8_isFunction) := goodIn_app (goodIn_of _ (by decide +kernel)) ggX8_count_X8_isFunction
set_option maxRecDepth 20000 in
theorem ggX8_count_X8_refuse : GoodIn wsX8_count wsX8_refuse := goodIn_r _ [13, 14, 87, 88, 89, 90, 91, 92, 93, 94, 95, 96, 97, 98, 99, 100, 101, 102, 103, 104, 105, 106, 107, 108, 109, 110, 111] (by decide +kernel) (by decide +kernel)
set_option maxRecDepth 20000 in
theorem gX8_count_X8_refuse : GoodIn wsX8_count (wsV RX8 51 RX8 yX8_refuse wsX8_refuse) := goodIn_app (goodIn_of _ (by decide +kernel)) ggX8_count_X8_refuse
set_option maxRecDepth 20000 in
theorem ggX8_count_X8_know : GoodIn wsX8_count wsX8_know := goodIn_r _ [18, 19, 1, 2, 20, 21, 22, 23, 5, 24, 25, 26, 27, 28, 29, 30, 31, 32, 33, 34, 35, 36, 37, 38, 39, 40, 41, 42, 43, 44, 45, 46, 47, 48, 49, 50, 51, 52, 53, 54, 55, 56, 57, 58, 59, 60, 61, 62, 63, 64, 65, 66, 67, 68, 69, 70, 71, 72, 73, 74, 75, 76, 77, 78, 79, 80, 81, 82, 83, 84, 85, 86, 87, 88, 89, 90, 91, 92, 93, 94, 95, 96, 97, 98, 99, 100, 101, 102, 103, 104, 105, 106, 107, 108, 109, 110, 111] (by decide +kernel) (by decide +kernel)
set_option maxRecDepth 20000 in
theorem gX8_count_X8_know : GoodIn wsX8_count (wsV RX8 177 RX8 yX8_know wsX8_know) := goodIn_app (goodIn_of _ (by decide +kernel)) ggX8_count_X8_know
theorem dX8_count_0 : decode cX8_count 0 = .ok (.iload_n 1, 1) := by decide +kernel
theorem dX8_count_1 : decode cX8_count 1 = .ok (.invokestatic 161, 3) := by decide +kernel
theorem dX8_count_4 : decode cX8_count 4 = .ok (.ifCond .ne 9, 3) := by decide +kernel
theorem dX8_count_7 : decode cX8_count 7 = .ok (.aload_n 0, 1) := by decide +kernel
theorem dX8_count_8 : decode cX8_count 8 = .ok (.iconst (-1), 1) := by decide +kernel
theorem dX8_count_9 : decode cX8_count 9 = .ok (.invokevirtual 51, 3) := by decide +kernel
theorem dX8_count_12 : decode cX8_count 12 = .ok (.ireturn, 1) := by decide +kernel
theorem dX8_count_13 : decode cX8_count 13 = .ok (.iload_n 2, 1) := by decide +kernel
theorem dX8_count_14 : decode cX8_count 14 = .ok (.ifCond .ge 10, 3) := by decide +kernel
theorem dX8_count_17 : decode cX8_count 17 = .ok (.aload_n 0, 1) := by decide +kernel
theorem dX8_count_18 : decode cX8_count 18 = .ok (.bipush (-4), 2) := by decide +kernel
theorem dX8_count_20 : decode cX8_count 20 = .ok (.invokevirtual 51, 3) := by decide +kernel
theorem dX8_count_23 : decode cX8_count 23 = .ok (.ireturn, 1) := by decide +kernel
theorem dX8_count_24 : decode cX8_count 24 = .ok (.iload_n 2, 1) := by decide +kernel
theorem dX8_count_25 : decode cX8_count 25 = .ok (.bipush 9, 2) := by decide +kernel
theorem dX8_count_27 : decode cX8_count 27 = .ok (.if_icmp .le 10, 3) := by decide +kernel
theorem dX8_count_30 : decode cX8_count 30 = .ok (.aload_n 0, 1) := by decide +kernel
theorem dX8_count_31 : decode cX8_count 31 = .ok (.bipush (-6), 2) := by decide +kernel
theorem dX8_count_33 : decode cX8_count 33 = .ok (.invokevirtual 51, 3) := by decide +kernel
theorem dX8_count_36 : decode cX8_count 36 = .ok (.ireturn, 1) := by decide +kernel
theorem dX8_count_37 : decode cX8_count 37 = .ok (.aload_n 0, 1) := by decide +kernel
theorem dX8_count_38 : decode cX8_count 38 = .ok (.iload_n 1, 1) := by decide +kernel
theorem dX8_count_39 : decode cX8_count 39 = .ok (.invokevirtual 177, 3) := by decide +kernel
theorem dX8_count_42 : decode cX8_count 42 = .ok (.iconst 0, 1) := by decide +kernel
theorem dX8_count_43 : decode cX8_count 43 = .ok (.istore_n 3, 1) := by decide +kernel
theorem dX8_count_44 : decode cX8_count 44 = .ok (.iconst 0, 1) := by decide +kernel
theorem dX8_count_45 : decode cX8_count 45 = .ok (.istore 4, 2) := by decide +kernel
theorem dX8_count_47 : decode cX8_count 47 = .ok (.iload 4, 2) := by decide +kernel
theorem dX8_count_49 : decode cX8_count 49 = .ok (.aload_n 0, 1) := by decide +kernel
theorem dX8_count_50 : decode cX8_count 50 = .ok (.getfield 62, 3) := by decide +kernel
theorem dX8_count_53 : decode cX8_count 53 = .ok (.if_icmp .ge 34, 3) := by decide +kernel
theorem dX8_count_56 : decode cX8_count 56 = .ok (.iload_n 3, 1) := by decide +kernel
theorem dX8_count_57 : decode cX8_count 57 = .ok (.aload_n 0, 1) := by decide +kernel
theorem dX8_count_58 : decode cX8_count 58 = .ok (.getfield 18, 3) := by decide +kernel
theorem dX8_count_61 : decode cX8_count 61 = .ok (.sipush 16384, 3) := by decide +kernel
theorem dX8_count_64 : decode cX8_count 64 = .ok (.iload_n 1, 1) := by decide +kernel
theorem dX8_count_65 : decode cX8_count 65 = .ok (.imul, 1) := by decide +kernel
theorem dX8_count_66 : decode cX8_count 66 = .ok (.iload 4, 2) := by decide +kernel
theorem dX8_count_68 : decode cX8_count 68 = .ok (.iadd, 1) := by decide +kernel
theorem dX8_count_69 : decode cX8_count 69 = .ok (.iaload, 1) := by decide +kernel
theorem dX8_count_70 : decode cX8_count 70 = .ok (.iload_n 2, 1) := by decide +kernel
theorem dX8_count_71 : decode cX8_count 71 = .ok (.if_icmp .ne 7, 3) := by decide +kernel
theorem dX8_count_74 : decode cX8_count 74 = .ok (.iconst 1, 1) := by decide +kernel
theorem dX8_count_75 : decode cX8_count 75 = .ok (.goto 4, 3) := by decide +kernel
theorem dX8_count_78 : decode cX8_count 78 = .ok (.iconst 0, 1) := by decide +kernel
theorem dX8_count_79 : decode cX8_count 79 = .ok (.iadd, 1) := by decide +kernel
theorem dX8_count_80 : decode cX8_count 80 = .ok (.istore_n 3, 1) := by decide +kernel
theorem dX8_count_81 : decode cX8_count 81 = .ok (.iinc 4 1, 3) := by decide +kernel
theorem dX8_count_84 : decode cX8_count 84 = .ok (.goto (-37), 3) := by decide +kernel
theorem dX8_count_87 : decode cX8_count 87 = .ok (.iload_n 3, 1) := by decide +kernel
theorem dX8_count_88 : decode cX8_count 88 = .ok (.ireturn, 1) := by decide +kernel
set_option maxRecDepth 20000 in
theorem ggX8_all_X8_isFunction : GoodIn wsX8_all wsX8_isFunction := goodIn_r _ [6, 7, 8, 5, 9] (by decide +kernel) (by decide +kernel)
set_option maxRecDepth 20000 in
theorem gX8_all_X8_isFunction : GoodIn wsX8_all (va_wsS RX8 161 yX8_isFunction wsX8_isFunction) := goodIn_app (goodIn_of _ (by decide +kernel)) ggX8_all_X8_isFunction
set_option maxRecDepth 20000 in
theorem ggX8_all_X8_refuse : GoodIn wsX8_all wsX8_refuse := goodIn_r _ [13, 14, 87, 88, 89, 90, 91, 92, 93, 94, 95, 96, 97, 98, 99, 100, 101, 102, 103, 104, 105, 106, 107, 108, 109, 110, 111] (by decide +kernel) (by decide +kernel)
set_option maxRecDepth 20000 in
theorem gX8_all_X8_refuse : GoodIn wsX8_all (wsV RX8 51 RX8 yX8_refuse wsX8_refuse) := goodIn_app (goodIn_of _ (by decide +kernel)) ggX8_all_X8_refuse
set_option maxRecDepth 20000 in
theorem ggX8_all_X8_isIn : GoodIn wsX8_all wsX8_isIn := goodIn_r _ [9] (by decide +kernel) (by decide +kernel)
set_option maxRecDepth 20000 in
theorem gX8_all_X8_isIn : GoodIn wsX8_all (va_wsS RX8 80 yX8_isIn wsX8_isIn) := goodIn_app (goodIn_of _ (by decide +kernel)) ggX8_all_X8_isIn
set_option maxRecDepth 20000 in
theorem ggX8_all_X8_know : GoodIn wsX8_all wsX8_know := goodIn_r _ [18, 19, 1, 20, 2, 21, 22, 23, 5, 24, 25, 26, 27, 28, 29, 30, 31, 32, 33, 34, 35, 36, 37, 38, 39, 40, 41, 42, 43, 44, 45, 46, 47, 48, 49, 50, 51, 52, 53, 54, 55, 56, 57, 58, 59, 60, 61, 62, 63, 64, 65, 66, 67, 68, 69, 70, 71, 72, 73, 74, 75, 76, 77, 78, 79, 80, 81, 82, 83, 84, 85, 86, 87, 88, 89, 90, 91, 92, 93, 94, 95, 96, 97, 98, 99, 100, 101, 102, 103, 104, 105, 106, 107, 108, 109, 110, 111] (by decide +kernel) (by decide +kernel)
set_option maxRecDepth 20000 in
theorem gX8_all_X8_know : GoodIn wsX8_all (wsV RX8 177 RX8 yX8_know wsX8_know) := goodIn_app (goodIn_of _ (by decide +kernel)) ggX8_all_X8_know
theorem dX8_all_0 : decode cX8_all 0 = .ok (.iload_n 1, 1) := by decide +kernel
theorem dX8_all_1 : decode cX8_all 1 = .ok (.invokestatic 161, 3) := by decide +kernel
theorem dX8_all_4 : decode cX8_all 4 = .ok (.ifCond .ne 9, 3) := by decide +kernel
theorem dX8_all_7 : decode cX8_all 7 = .ok (.aload_n 0, 1) := by decide +kernel
theorem dX8_all_8 : decode cX8_all 8 = .ok (.iconst (-1), 1) := by decide +kernel
theorem dX8_all_9 : decode cX8_all 9 = .ok (.invokevirtual 51, 3) := by decide +kernel
theorem dX8_all_12 : decode cX8_all 12 = .ok (.ireturn, 1) := by decide +kernel
theorem dX8_all_13 : decode cX8_all 13 = .ok (.iload_n 2, 1) := by decide +kernel
theorem dX8_all_14 : decode cX8_all 14 = .ok (.iconst 4, 1) := by decide +kernel
theorem dX8_all_15 : decode cX8_all 15 = .ok (.invokestatic 80, 3) := by decide +kernel
theorem dX8_all_18 : decode cX8_all 18 = .ok (.ifCond .ne 10, 3) := by decide +kernel
theorem dX8_all_21 : decode cX8_all 21 = .ok (.aload_n 0, 1) := by decide +kernel
theorem dX8_all_22 : decode cX8_all 22 = .ok (.bipush (-2), 2) := by decide +kernel
theorem dX8_all_24 : decode cX8_all 24 = .ok (.invokevirtual 51, 3) := by decide +kernel
theorem dX8_all_27 : decode cX8_all 27 = .ok (.ireturn, 1) := by decide +kernel
theorem dX8_all_28 : decode cX8_all 28 = .ok (.aload_n 0, 1) := by decide +kernel
theorem dX8_all_29 : decode cX8_all 29 = .ok (.iload_n 1, 1) := by decide +kernel
theorem dX8_all_30 : decode cX8_all 30 = .ok (.invokevirtual 177, 3) := by decide +kernel
theorem dX8_all_33 : decode cX8_all 33 = .ok (.iconst 0, 1) := by decide +kernel
theorem dX8_all_34 : decode cX8_all 34 = .ok (.istore_n 3, 1) := by decide +kernel
theorem dX8_all_35 : decode cX8_all 35 = .ok (.iconst 0, 1) := by decide +kernel
theorem dX8_all_36 : decode cX8_all 36 = .ok (.istore 4, 2) := by decide +kernel
theorem dX8_all_38 : decode cX8_all 38 = .ok (.iload 4, 2) := by decide +kernel
theorem dX8_all_40 : decode cX8_all 40 = .ok (.aload_n 0, 1) := by decide +kernel
theorem dX8_all_41 : decode cX8_all 41 = .ok (.getfield 62, 3) := by decide +kernel
theorem dX8_all_44 : decode cX8_all 44 = .ok (.if_icmp .ge 34, 3) := by decide +kernel
theorem dX8_all_47 : decode cX8_all 47 = .ok (.iload_n 3, 1) := by decide +kernel
theorem dX8_all_48 : decode cX8_all 48 = .ok (.aload_n 0, 1) := by decide +kernel
theorem dX8_all_49 : decode cX8_all 49 = .ok (.getfield 21, 3) := by decide +kernel
theorem dX8_all_52 : decode cX8_all 52 = .ok (.sipush 16384, 3) := by decide +kernel
theorem dX8_all_55 : decode cX8_all 55 = .ok (.iload_n 1, 1) := by decide +kernel
theorem dX8_all_56 : decode cX8_all 56 = .ok (.imul, 1) := by decide +kernel
theorem dX8_all_57 : decode cX8_all 57 = .ok (.iload 4, 2) := by decide +kernel
theorem dX8_all_59 : decode cX8_all 59 = .ok (.iadd, 1) := by decide +kernel
theorem dX8_all_60 : decode cX8_all 60 = .ok (.iaload, 1) := by decide +kernel
theorem dX8_all_61 : decode cX8_all 61 = .ok (.iload_n 2, 1) := by decide +kernel
theorem dX8_all_62 : decode cX8_all 62 = .ok (.if_icmp .ne 7, 3) := by decide +kernel
theorem dX8_all_65 : decode cX8_all 65 = .ok (.iconst 1, 1) := by decide +kernel
theorem dX8_all_66 : decode cX8_all 66 = .ok (.goto 4, 3) := by decide +kernel
theorem dX8_all_69 : decode cX8_all 69 = .ok (.iconst 0, 1) := by decide +kernel
theorem dX8_all_70 : decode cX8_all 70 = .ok (.iadd, 1) := by decide +kernel
theorem dX8_all_71 : decode cX8_all 71 = .ok (.istore_n 3, 1) := by decide +kernel
theorem dX8_all_72 : decode cX8_all 72 = .ok (.iinc 4 1, 3) := by decide +kernel
theorem dX8_all_75 : decode cX8_all 75 = .ok (.goto (-37), 3) := by decide +kernel
theorem dX8_all_78 : decode cX8_all 78 = .ok (.iload_n 3, 1) := by decide +kernel
theorem dX8_all_79 : decode cX8_all 79 = .ok (.ireturn, 1) := by decide +kernel
set_option maxRecDepth 20000 in
theorem ggX8_findSpans_X8_rightOf : GoodIn wsX8_findSpans wsX8_rightOf := goodIn_r _ [11, 12, 13, 14, 15, 10, 16, 4, 17, 18, 19, 20, 21, 22, 23, 24, 25, 26, 27, 28, 29, 30, 31, 32, 33, 34, 35, 36, 37, 38, 39, 40, 41, 42, 43, 44, 45, 46, 47, 48, 49, 50, 51, 52, 53, 54, 55, 56, 57, 58, 59, 60, 61, 62, 63, 64, 65, 66, 67, 68, 69, 70, 71, 72, 73, 74, 75, 76, 77, 78, 79, 80, 81, 82, 83, 84, 85, 86, 87, 88, 89, 90, 91, 92, 93] (by decide +kernel) (by decide +kernel)
set_option maxRecDepth 20000 in
theorem gX8_findSpans_X8_rightOf : GoodIn wsX8_findSpans (wsV RX8 164 RX8 yX8_rightOf wsX8_rightOf) := goodIn_app (goodIn_of _ (by decide +kernel)) ggX8_findSpans_X8_rightOf
theorem dX8_findSpans_0 : decode cX8_findSpans 0 = .ok (.aload_n 0, 1) := by decide +kernel
theorem dX8_findSpans_1 : decode cX8_findSpans 1 = .ok (.getfield 77, 3) := by decide +kernel
theorem dX8_findSpans_4 : decode cX8_findSpans 4 = .ok (.iload_n 1, 1) := by decide +kernel
theorem dX8_findSpans_5 : decode cX8_findSpans 5 = .ok (.if_icmp .ne 12, 3) := by decide +kernel
theorem dX8_findSpans_8 : decode cX8_findSpans 8 = .ok (.aload_n 0, 1) := by decide +kernel
theorem dX8_findSpans_9 : decode cX8_findSpans 9 = .ok (.getfield 184, 3) := by decide +kernel
theorem dX8_findSpans_12 : decode cX8_findSpans 12 = .ok (.iload_n 2, 1) := by decide +kernel
theorem dX8_findSpans_13 : decode cX8_findSpans 13 = .ok (.if_icmp .ne 4, 3) := by decide +kernel
theorem dX8_findSpans_16 : decode cX8_findSpans 16 = .ok (.return_, 1) := by decide +kernel
theorem dX8_findSpans_17 : decode cX8_findSpans 17 = .ok (.aload_n 0, 1) := by decide +kernel
theorem dX8_findSpans_18 : decode cX8_findSpans 18 = .ok (.iload_n 1, 1) := by decide +kernel
theorem dX8_findSpans_19 : decode cX8_findSpans 19 = .ok (.putfield 77, 3) := by decide +kernel
theorem dX8_findSpans_22 : decode cX8_findSpans 22 = .ok (.aload_n 0, 1) := by decide +kernel
theorem dX8_findSpans_23 : decode cX8_findSpans 23 = .ok (.iload_n 2, 1) := by decide +kernel
theorem dX8_findSpans_24 : decode cX8_findSpans 24 = .ok (.putfield 184, 3) := by decide +kernel
theorem dX8_findSpans_27 : decode cX8_findSpans 27 = .ok (.aload_n 0, 1) := by decide +kernel
theorem dX8_findSpans_28 : decode cX8_findSpans 28 = .ok (.iconst 0, 1) := by decide +kernel
theorem dX8_findSpans_29 : decode cX8_findSpans 29 = .ok (.putfield 187, 3) := by decide +kernel
theorem dX8_findSpans_32 : decode cX8_findSpans 32 = .ok (.iconst (-1), 1) := by decide +kernel
theorem dX8_findSpans_33 : decode cX8_findSpans 33 = .ok (.istore_n 3, 1) := by decide +kernel
theorem dX8_findSpans_34 : decode cX8_findSpans 34 = .ok (.iconst 1, 1) := by decide +kernel
theorem dX8_findSpans_35 : decode cX8_findSpans 35 = .ok (.istore 4, 2) := by decide +kernel
theorem dX8_findSpans_37 : decode cX8_findSpans 37 = .ok (.iload 4, 2) := by decide +kernel
theorem dX8_findSpans_39 : decode cX8_findSpans 39 = .ok (.aload_n 0, 1) := by decide +kernel
theorem dX8_findSpans_40 : decode cX8_findSpans 40 = .ok (.getfield 68, 3) := by decide +kernel
theorem dX8_findSpans_43 : decode cX8_findSpans 43 = .ok (.if_icmp .gt 69, 3) := by decide +kernel
theorem dX8_findSpans_46 : decode cX8_findSpans 46 = .ok (.aload_n 0, 1) := by decide +kernel
theorem dX8_findSpans_47 : decode cX8_findSpans 47 = .ok (.iload_n 1, 1) := by decide +kernel
theorem dX8_findSpans_48 : decode cX8_findSpans 48 = .ok (.iload 4, 2) := by decide +kernel
theorem dX8_findSpans_50 : decode cX8_findSpans 50 = .ok (.iload_n 2, 1) := by decide +kernel
theorem dX8_findSpans_51 : decode cX8_findSpans 51 = .ok (.invokevirtual 164, 3) := by decide +kernel
theorem dX8_findSpans_54 : decode cX8_findSpans 54 = .ok (.istore 5, 2) := by decide +kernel
theorem dX8_findSpans_56 : decode cX8_findSpans 56 = .ok (.aload_n 0, 1) := by decide +kernel
theorem dX8_findSpans_57 : decode cX8_findSpans 57 = .ok (.getfield 187, 3) := by decide +kernel
theorem dX8_findSpans_60 : decode cX8_findSpans 60 = .ok (.ifCond .eq 9, 3) := by decide +kernel
theorem dX8_findSpans_63 : decode cX8_findSpans 63 = .ok (.iload 5, 2) := by decide +kernel
theorem dX8_findSpans_65 : decode cX8_findSpans 65 = .ok (.iload_n 3, 1) := by decide +kernel
theorem dX8_findSpans_66 : decode cX8_findSpans 66 = .ok (.if_icmp .eq 24, 3) := by decide +kernel
theorem dX8_findSpans_69 : decode cX8_findSpans 69 = .ok (.aload_n 0, 1) := by decide +kernel
theorem dX8_findSpans_70 : decode cX8_findSpans 70 = .ok (.getfield 24, 3) := by decide +kernel
theorem dX8_findSpans_73 : decode cX8_findSpans 73 = .ok (.aload_n 0, 1) := by decide +kernel
theorem dX8_findSpans_74 : decode cX8_findSpans 74 = .ok (.getfield 187, 3) := by decide +kernel
theorem dX8_findSpans_77 : decode cX8_findSpans 77 = .ok (.iload 4, 2) := by decide +kernel
theorem dX8_findSpans_79 : decode cX8_findSpans 79 = .ok (.iastore, 1) := by decide +kernel
theorem dX8_findSpans_80 : decode cX8_findSpans 80 = .ok (.aload_n 0, 1) := by decide +kernel
theorem dX8_findSpans_81 : decode cX8_findSpans 81 = .ok (.dup, 1) := by decide +kernel
theorem dX8_findSpans_82 : decode cX8_findSpans 82 = .ok (.getfield 187, 3) := by decide +kernel
theorem dX8_findSpans_85 : decode cX8_findSpans 85 = .ok (.iconst 1, 1) := by decide +kernel
theorem dX8_findSpans_86 : decode cX8_findSpans 86 = .ok (.iadd, 1) := by decide +kernel
theorem dX8_findSpans_87 : decode cX8_findSpans 87 = .ok (.putfield 187, 3) := by decide +kernel
theorem dX8_findSpans_90 : decode cX8_findSpans 90 = .ok (.aload_n 0, 1) := by decide +kernel
theorem dX8_findSpans_91 : decode cX8_findSpans 91 = .ok (.getfield 27, 3) := by decide +kernel
theorem dX8_findSpans_94 : decode cX8_findSpans 94 = .ok (.aload_n 0, 1) := by decide +kernel
theorem dX8_findSpans_95 : decode cX8_findSpans 95 = .ok (.getfield 187, 3) := by decide +kernel
theorem dX8_findSpans_98 : decode cX8_findSpans 98 = .ok (.iconst 1, 1) := by decide +kernel
theorem dX8_findSpans_99 : decode cX8_findSpans 99 = .ok (.isub, 1) := by decide +kernel
theorem dX8_findSpans_100 : decode cX8_findSpans 100 = .ok (.iload 4, 2) := by decide +kernel
theorem dX8_findSpans_102 : decode cX8_findSpans 102 = .ok (.iastore, 1) := by decide +kernel
theorem dX8_findSpans_103 : decode cX8_findSpans 103 = .ok (.iload 5, 2) := by decide +kernel
theorem dX8_findSpans_105 : decode cX8_findSpans 105 = .ok (.istore_n 3, 1) := by decide +kernel
theorem dX8_findSpans_106 : decode cX8_findSpans 106 = .ok (.iinc 4 1, 3) := by decide +kernel
theorem dX8_findSpans_109 : decode cX8_findSpans 109 = .ok (.goto (-72), 3) := by decide +kernel
theorem dX8_findSpans_112 : decode cX8_findSpans 112 = .ok (.return_, 1) := by decide +kernel
set_option maxRecDepth 20000 in
theorem ggX8_spans_X8_isFunction : GoodIn wsX8_spans wsX8_isFunction := goodIn_r _ [5, 6, 7, 4, 8] (by decide +kernel) (by decide +kernel)
set_option maxRecDepth 20000 in
theorem gX8_spans_X8_isFunction : GoodIn wsX8_spans (va_wsS RX8 161 yX8_isFunction wsX8_isFunction) := goodIn_app (goodIn_of _ (by decide +kernel)) ggX8_spans_X8_isFunction
set_option maxRecDepth 20000 in
theorem ggX8_spans_X8_isIn : GoodIn wsX8_spans wsX8_isIn := goodIn_r _ [8] (by decide +kernel) (by decide +kernel)
set_option maxRecDepth 20000 in
theorem gX8_spans_X8_isIn : GoodIn wsX8_spans (va_wsS RX8 80 yX8_isIn wsX8_isIn) := goodIn_app (goodIn_of _ (by decide +kernel)) ggX8_spans_X8_isIn
set_option maxRecDepth 20000 in
theorem ggX8_spans_X8_refuse : GoodIn wsX8_spans wsX8_refuse := goodIn_r _ [12, 13, 84, 85, 86, 87, 88, 89, 90, 91, 92, 93, 94, 95, 96, 97, 98, 99, 100, 101, 102, 103, 104, 105, 106, 107, 108] (by decide +kernel) (by decide +kernel)
set_option maxRecDepth 20000 in
theorem gX8_spans_X8_refuse : GoodIn wsX8_spans (wsV RX8 51 RX8 yX8_refuse wsX8_refuse) := goodIn_app (goodIn_of _ (by decide +kernel)) ggX8_spans_X8_refuse
set_option maxRecDepth 20000 in
theorem ggX8_spans_X8_findSpans : GoodIn wsX8_spans wsX8_findSpans := goodIn_r _ [17, 18, 19, 1, 20, 21, 22, 23, 24, 25, 4, 26, 27, 28, 29, 30, 31, 32, 33, 34, 35, 36, 37, 38, 39, 40, 41, 42, 43, 44, 45, 46, 47, 48, 49, 50, 51, 52, 53, 54, 55, 56, 57, 58, 59, 60, 61, 62, 63, 64, 65, 66, 67, 68, 69, 70, 71, 72, 73, 74, 75, 76, 77, 78, 79, 80, 81, 82, 83, 84, 85, 86, 87, 88, 89, 90, 91, 92, 93, 94, 95, 96, 97, 98, 99, 100, 101, 102, 103, 104, 105, 106, 107, 108] (by decide +kernel) (by decide +kernel)
set_option maxRecDepth 20000 in
theorem gX8_spans_X8_findSpans : GoodIn wsX8_spans (wsV RX8 190 RX8 yX8_findSpans wsX8_findSpans) := goodIn_app (goodIn_of _ (by decide +kernel)) ggX8_spans_X8_findSpans
theorem dX8_spans_0 : decode cX8_spans 0 = .ok (.iload_n 1, 1) := by decide +kernel
theorem dX8_spans_1 : decode cX8_spans 1 = .ok (.invokestatic 161, 3) := by decide +kernel
theorem dX8_spans_4 : decode cX8_spans 4 = .ok (.ifCond .eq 11, 3) := by decide +kernel
theorem dX8_spans_7 : decode cX8_spans 7 = .ok (.iload_n 2, 1) := by decide +kernel
theorem dX8_spans_8 : decode cX8_spans 8 = .ok (.iconst 5, 1) := by decide +kernel
theorem dX8_spans_9 : decode cX8_spans 9 = .ok (.invokestatic 80, 3) := by decide +kernel
theorem dX8_spans_12 : decode cX8_spans 12 = .ok (.ifCond .ne 9, 3) := by decide +kernel
theorem dX8_spans_15 : decode cX8_spans 15 = .ok (.aload_n 0, 1) := by decide +kernel
theorem dX8_spans_16 : decode cX8_spans 16 = .ok (.iconst (-1), 1) := by decide +kernel
theorem dX8_spans_17 : decode cX8_spans 17 = .ok (.invokevirtual 51, 3) := by decide +kernel
theorem dX8_spans_20 : decode cX8_spans 20 = .ok (.ireturn, 1) := by decide +kernel
theorem dX8_spans_21 : decode cX8_spans 21 = .ok (.aload_n 0, 1) := by decide +kernel
theorem dX8_spans_22 : decode cX8_spans 22 = .ok (.iload_n 1, 1) := by decide +kernel
theorem dX8_spans_23 : decode cX8_spans 23 = .ok (.iload_n 2, 1) := by decide +kernel
theorem dX8_spans_24 : decode cX8_spans 24 = .ok (.invokevirtual 190, 3) := by decide +kernel
theorem dX8_spans_27 : decode cX8_spans 27 = .ok (.aload_n 0, 1) := by decide +kernel
theorem dX8_spans_28 : decode cX8_spans 28 = .ok (.getfield 187, 3) := by decide +kernel
theorem dX8_spans_31 : decode cX8_spans 31 = .ok (.ireturn, 1) := by decide +kernel
set_option maxRecDepth 20000 in
theorem ggX8_span_X8_isFunction : GoodIn wsX8_span wsX8_isFunction := goodIn_r _ [7, 8, 9, 6, 10] (by decide +kernel) (by decide +kernel)
set_option maxRecDepth 20000 in
theorem gX8_span_X8_isFunction : GoodIn wsX8_span (va_wsS RX8 161 yX8_isFunction wsX8_isFunction) := goodIn_app (goodIn_of _ (by decide +kernel)) ggX8_span_X8_isFunction
set_option maxRecDepth 20000 in
theorem ggX8_span_X8_isIn : GoodIn wsX8_span wsX8_isIn := goodIn_r _ [10] (by decide +kernel) (by decide +kernel)
set_option maxRecDepth 20000 in
theorem gX8_span_X8_isIn : GoodIn wsX8_span (va_wsS RX8 80 yX8_isIn wsX8_isIn) := goodIn_app (goodIn_of _ (by decide +kernel)) ggX8_span_X8_isIn
set_option maxRecDepth 20000 in
theorem ggX8_span_X8_refuse : GoodIn wsX8_span wsX8_refuse := goodIn_r _ [14, 15, 84, 85, 86, 87, 88, 89, 90, 91, 92, 93, 94, 95, 96, 97, 98, 99, 100, 101, 102, 103, 104, 105, 106, 107, 108] (by decide +kernel) (by decide +kernel)
set_option maxRecDepth 20000 in
theorem gX8_span_X8_refuse : GoodIn wsX8_span (wsV RX8 51 RX8 yX8_refuse wsX8_refuse) := goodIn_app (goodIn_of _ (by decide +kernel)) ggX8_span_X8_refuse
set_option maxRecDepth 20000 in
theorem ggX8_span_X8_findSpans : GoodIn wsX8_span wsX8_findSpans := goodIn_r _ [19, 20, 21, 1, 22, 2, 3, 23, 24, 25, 6, 26, 27, 28, 29, 30, 31, 32, 33, 34, 35, 36, 37, 38, 39, 40, 41, 42, 43, 44, 45, 46, 47, 48, 49, 50, 51, 52, 53, 54, 55, 56, 57, 58, 59, 60, 61, 62, 63, 64, 65, 66, 67, 68, 69, 70, 71, 72, 73, 74, 75, 76, 77, 78, 79, 80, 81, 82, 83, 84, 85, 86, 87, 88, 89, 90, 91, 92, 93, 94, 95, 96, 97, 98, 99, 100, 101, 102, 103, 104, 105, 106, 107, 108] (by decide +kernel) (by decide +kernel)
set_option maxRecDepth 20000 in
theorem gX8_span_X8_findSpans : GoodIn wsX8_span (wsV RX8 190 RX8 yX8_findSpans wsX8_findSpans) := goodIn_app (goodIn_of _ (by decide +kernel)) ggX8_span_X8_findSpans
set_option maxRecDepth 20000 in
theorem ggX8_span_X8_rightOf : GoodIn wsX8_span wsX8_rightOf := goodIn_r _ [26, 27, 28, 29, 30, 6, 31, 22, 32, 33, 34, 35, 36, 37, 38, 39, 40, 41, 42, 43, 44, 45, 46, 47, 48, 49, 50, 51, 52, 53, 54, 55, 56, 57, 58, 59, 60, 61, 62, 63, 64, 65, 66, 67, 68, 69, 70, 71, 72, 73, 74, 75, 76, 77, 78, 79, 80, 81, 82, 83, 84, 85, 86, 87, 88, 89, 90, 91, 92, 93, 94, 95, 96, 97, 98, 99, 100, 101, 102, 103, 104, 105, 106, 107, 108] (by decide +kernel) (by decide +kernel)
set_option maxRecDepth 20000 in
theorem gX8_span_X8_rightOf : GoodIn wsX8_span (wsV RX8 164 RX8 yX8_rightOf wsX8_rightOf) := goodIn_app (goodIn_of _ (by decide +kernel)) ggX8_span_X8_rightOf
theorem dX8_span_0 : decode cX8_span 0 = .ok (.iload_n 1, 1) := by decide +kernel
theorem dX8_span_1 : decode cX8_span 1 = .ok (.invokestatic 161, 3) := by decide +kernel
theorem dX8_span_4 : decode cX8_span 4 = .ok (.ifCond .eq 11, 3) := by decide +kernel
theorem dX8_span_7 : decode cX8_span 7 = .ok (.iload_n 2, 1) := by decide +kernel
theorem dX8_span_8 : decode cX8_span 8 = .ok (.iconst 5, 1) := by decide +kernel
theorem dX8_span_9 : decode cX8_span 9 = .ok (.invokestatic 80, 3) := by decide +kernel
theorem dX8_span_12 : decode cX8_span 12 = .ok (.ifCond .ne 9, 3) := by decide +kernel
theorem dX8_span_15 : decode cX8_span 15 = .ok (.aload_n 0, 1) := by decide +kernel
theorem dX8_span_16 : decode cX8_span 16 = .ok (.iconst (-1), 1) := by decide +kernel
theorem dX8_span_17 : decode cX8_span 17 = .ok (.invokevirtual 51, 3) := by decide +kernel
theorem dX8_span_20 : decode cX8_span 20 = .ok (.ireturn, 1) := by decide +kernel
theorem dX8_span_21 : decode cX8_span 21 = .ok (.aload_n 0, 1) := by decide +kernel
theorem dX8_span_22 : decode cX8_span 22 = .ok (.iload_n 1, 1) := by decide +kernel
theorem dX8_span_23 : decode cX8_span 23 = .ok (.iload_n 2, 1) := by decide +kernel
theorem dX8_span_24 : decode cX8_span 24 = .ok (.invokevirtual 190, 3) := by decide +kernel
theorem dX8_span_27 : decode cX8_span 27 = .ok (.iload_n 3, 1) := by decide +kernel
theorem dX8_span_28 : decode cX8_span 28 = .ok (.aload_n 0, 1) := by decide +kernel
theorem dX8_span_29 : decode cX8_span 29 = .ok (.getfield 187, 3) := by decide +kernel
theorem dX8_span_32 : decode cX8_span 32 = .ok (.invokestatic 80, 3) := by decide +kernel
theorem dX8_span_35 : decode cX8_span 35 = .ok (.ifCond .ne 9, 3) := by decide +kernel
theorem dX8_span_38 : decode cX8_span 38 = .ok (.aload_n 0, 1) := by decide +kernel
theorem dX8_span_39 : decode cX8_span 39 = .ok (.iconst (-1), 1) := by decide +kernel
theorem dX8_span_40 : decode cX8_span 40 = .ok (.invokevirtual 51, 3) := by decide +kernel
theorem dX8_span_43 : decode cX8_span 43 = .ok (.ireturn, 1) := by decide +kernel
theorem dX8_span_44 : decode cX8_span 44 = .ok (.iload 4, 2) := by decide +kernel
theorem dX8_span_46 : decode cX8_span 46 = .ok (.tableswitch 53 0 2 #[26, 33, 40], 26) := by decide +kernel
theorem dX8_span_72 : decode cX8_span 72 = .ok (.aload_n 0, 1) := by decide +kernel
theorem dX8_span_73 : decode cX8_span 73 = .ok (.getfield 24, 3) := by decide +kernel
theorem dX8_span_76 : decode cX8_span 76 = .ok (.iload_n 3, 1) := by decide +kernel
theorem dX8_span_77 : decode cX8_span 77 = .ok (.iaload, 1) := by decide +kernel
theorem dX8_span_78 : decode cX8_span 78 = .ok (.ireturn, 1) := by decide +kernel
theorem dX8_span_79 : decode cX8_span 79 = .ok (.aload_n 0, 1) := by decide +kernel
theorem dX8_span_80 : decode cX8_span 80 = .ok (.getfield 27, 3) := by decide +kernel
theorem dX8_span_83 : decode cX8_span 83 = .ok (.iload_n 3, 1) := by decide +kernel
theorem dX8_span_84 : decode cX8_span 84 = .ok (.iaload, 1) := by decide +kernel
theorem dX8_span_85 : decode cX8_span 85 = .ok (.ireturn, 1) := by decide +kernel
theorem dX8_span_86 : decode cX8_span 86 = .ok (.aload_n 0, 1) := by decide +kernel
theorem dX8_span_87 : decode cX8_span 87 = .ok (.iload_n 1, 1) := by decide +kernel
theorem dX8_span_88 : decode cX8_span 88 = .ok (.aload_n 0, 1) := by decide +kernel
theorem dX8_span_89 : decode cX8_span 89 = .ok (.getfield 24, 3) := by decide +kernel
theorem dX8_span_92 : decode cX8_span 92 = .ok (.iload_n 3, 1) := by decide +kernel
theorem dX8_span_93 : decode cX8_span 93 = .ok (.iaload, 1) := by decide +kernel
theorem dX8_span_94 : decode cX8_span 94 = .ok (.iload_n 2, 1) := by decide +kernel
theorem dX8_span_95 : decode cX8_span 95 = .ok (.invokevirtual 164, 3) := by decide +kernel
theorem dX8_span_98 : decode cX8_span 98 = .ok (.ireturn, 1) := by decide +kernel
theorem dX8_span_99 : decode cX8_span 99 = .ok (.aload_n 0, 1) := by decide +kernel
theorem dX8_span_100 : decode cX8_span 100 = .ok (.bipush (-2), 2) := by decide +kernel
theorem dX8_span_102 : decode cX8_span 102 = .ok (.invokevirtual 51, 3) := by decide +kernel
theorem dX8_span_105 : decode cX8_span 105 = .ok (.ireturn, 1) := by decide +kernel
theorem dX8_isPower_0 : decode cX8_isPower 0 = .ok (.iload_n 1, 1) := by decide +kernel
theorem dX8_isPower_1 : decode cX8_isPower 1 = .ok (.ifCond .le 19, 3) := by decide +kernel
theorem dX8_isPower_4 : decode cX8_isPower 4 = .ok (.iload_n 1, 1) := by decide +kernel
theorem dX8_isPower_5 : decode cX8_isPower 5 = .ok (.iconst 1, 1) := by decide +kernel
theorem dX8_isPower_6 : decode cX8_isPower 6 = .ok (.aload_n 0, 1) := by decide +kernel
theorem dX8_isPower_7 : decode cX8_isPower 7 = .ok (.getfield 55, 3) := by decide +kernel
theorem dX8_isPower_10 : decode cX8_isPower 10 = .ok (.ishl, 1) := by decide +kernel
theorem dX8_isPower_11 : decode cX8_isPower 11 = .ok (.iconst 1, 1) := by decide +kernel
theorem dX8_isPower_12 : decode cX8_isPower 12 = .ok (.isub, 1) := by decide +kernel
theorem dX8_isPower_13 : decode cX8_isPower 13 = .ok (.if_icmp .ge 7, 3) := by decide +kernel
theorem dX8_isPower_16 : decode cX8_isPower 16 = .ok (.iconst 1, 1) := by decide +kernel
theorem dX8_isPower_17 : decode cX8_isPower 17 = .ok (.goto 4, 3) := by decide +kernel
theorem dX8_isPower_20 : decode cX8_isPower 20 = .ok (.iconst 0, 1) := by decide +kernel
theorem dX8_isPower_21 : decode cX8_isPower 21 = .ok (.ireturn, 1) := by decide +kernel
set_option maxRecDepth 20000 in
theorem ggX8_table_X8_isFunction : GoodIn wsX8_table wsX8_isFunction := goodIn_r _ [8, 9, 10, 7, 11] (by decide +kernel) (by decide +kernel)
set_option maxRecDepth 20000 in
theorem gX8_table_X8_isFunction : GoodIn wsX8_table (va_wsS RX8 161 yX8_isFunction wsX8_isFunction) := goodIn_app (goodIn_of _ (by decide +kernel)) ggX8_table_X8_isFunction
set_option maxRecDepth 20000 in
theorem ggX8_table_X8_isIn : GoodIn wsX8_table wsX8_isIn := goodIn_r _ [11] (by decide +kernel) (by decide +kernel)
set_option maxRecDepth 20000 in
theorem gX8_table_X8_isIn : GoodIn wsX8_table (va_wsS RX8 80 yX8_isIn wsX8_isIn) := goodIn_app (goodIn_of _ (by decide +kernel)) ggX8_table_X8_isIn
set_option maxRecDepth 20000 in
theorem ggX8_table_X8_isPower : GoodIn wsX8_table wsX8_isPower := goodIn_r _ [15, 16, 112, 113, 114, 115, 116, 117, 118, 119, 120, 121, 122, 123, 124, 125, 126, 127, 128, 129, 130, 131, 132, 133, 134, 135, 136] (by decide +kernel) (by decide +kernel)
set_option maxRecDepth 20000 in
theorem gX8_table_X8_isPower : GoodIn wsX8_table (wsV RX8 193 RX8 yX8_isPower wsX8_isPower) := goodIn_app (goodIn_of _ (by decide +kernel)) ggX8_table_X8_isPower
set_option maxRecDepth 20000 in
theorem ggX8_table_X8_refuse : GoodIn wsX8_table wsX8_refuse := goodIn_r _ [20, 21, 112, 113, 114, 115, 116, 117, 118, 119, 120, 121, 122, 123, 124, 125, 126, 127, 128, 129, 130, 131, 132, 133, 134, 135, 136] (by decide +kernel) (by decide +kernel)
set_option maxRecDepth 20000 in
theorem gX8_table_X8_refuse : GoodIn wsX8_table (wsV RX8 51 RX8 yX8_refuse wsX8_refuse) := goodIn_app (goodIn_of _ (by decide +kernel)) ggX8_table_X8_refuse
set_option maxRecDepth 20000 in
theorem ggX8_table_X8_rightOf : GoodIn wsX8_table wsX8_rightOf := goodIn_r _ [25, 26, 27, 28, 29, 7, 30, 31, 32, 33, 34, 35, 36, 37, 38, 39, 40, 41, 42, 43, 44, 45, 46, 47, 48, 49, 50, 3, 51, 52, 53, 54, 55, 56, 57, 58, 59, 60, 61, 62, 63, 64, 65, 66, 67, 68, 69, 70, 71, 72, 73, 74, 75, 76, 77, 78, 79, 80, 81, 82, 112, 113, 114, 115, 116, 117, 118, 119, 120, 121, 122, 123, 124, 125, 126, 127, 128, 129, 130, 131, 132, 133, 134, 135, 136] (by decide +kernel) (by decide +kernel)
set_option maxRecDepth 20000 in
theorem gX8_table_X8_rightOf : GoodIn wsX8_table (wsV RX8 164 RX8 yX8_rightOf wsX8_rightOf) := goodIn_app (goodIn_of _ (by decide +kernel)) ggX8_table_X8_rightOf
set_option maxRecDepth 20000 in
theorem ggX8_table_X8_flat : GoodIn wsX8_table wsX8_flat := goodIn_r _ [86, 4, 87, 88, 89, 7, 90, 91, 2, 92, 93, 94, 112, 113, 114, 115, 116, 117, 118, 119, 120, 121, 122, 123, 124, 125, 126, 127, 128, 129, 130, 131, 132, 133, 134, 135, 136] (by decide +kernel) (by decide +kernel)
set_option maxRecDepth 20000 in
theorem gX8_table_X8_flat : GoodIn wsX8_table (wsV RX8 199 RX8 yX8_flat wsX8_flat) := goodIn_app (goodIn_of _ (by decide +kernel)) ggX8_table_X8_flat
set_option maxRecDepth 20000 in
theorem ggX8_table_X8_line : GoodIn wsX8_table wsX8_line := goodIn_r _ [98, 1, 99, 100, 4, 101, 102, 103, 104, 105, 106, 107, 108, 109, 110, 111, 87, 88, 89, 7, 90, 91, 2, 92, 93, 94, 112, 113, 114, 115, 116, 117, 118, 119, 120, 121, 122, 123, 124, 125, 126, 127, 128, 129, 130, 131, 132, 133, 134, 135, 136] (by decide +kernel) (by decide +kernel)
set_option maxRecDepth 20000 in
theorem gX8_table_X8_line : GoodIn wsX8_table (wsV RX8 202 RX8 yX8_line wsX8_line) := goodIn_app (goodIn_of _ (by decide +kernel)) ggX8_table_X8_line
theorem dX8_table_0 : decode cX8_table 0 = .ok (.iload_n 1, 1) := by decide +kernel
theorem dX8_table_1 : decode cX8_table 1 = .ok (.invokestatic 161, 3) := by decide +kernel
theorem dX8_table_4 : decode cX8_table 4 = .ok (.ifCond .eq 19, 3) := by decide +kernel
theorem dX8_table_7 : decode cX8_table 7 = .ok (.iload_n 2, 1) := by decide +kernel
theorem dX8_table_8 : decode cX8_table 8 = .ok (.iconst 5, 1) := by decide +kernel
theorem dX8_table_9 : decode cX8_table 9 = .ok (.invokestatic 80, 3) := by decide +kernel
theorem dX8_table_12 : decode cX8_table 12 = .ok (.ifCond .eq 11, 3) := by decide +kernel
theorem dX8_table_15 : decode cX8_table 15 = .ok (.aload_n 0, 1) := by decide +kernel
theorem dX8_table_16 : decode cX8_table 16 = .ok (.iload_n 3, 1) := by decide +kernel
theorem dX8_table_17 : decode cX8_table 17 = .ok (.invokevirtual 193, 3) := by decide +kernel
theorem dX8_table_20 : decode cX8_table 20 = .ok (.ifCond .ne 9, 3) := by decide +kernel
theorem dX8_table_23 : decode cX8_table 23 = .ok (.aload_n 0, 1) := by decide +kernel
theorem dX8_table_24 : decode cX8_table 24 = .ok (.iconst (-1), 1) := by decide +kernel
theorem dX8_table_25 : decode cX8_table 25 = .ok (.invokevirtual 51, 3) := by decide +kernel
theorem dX8_table_28 : decode cX8_table 28 = .ok (.ireturn, 1) := by decide +kernel
theorem dX8_table_29 : decode cX8_table 29 = .ok (.iload 4, 2) := by decide +kernel
theorem dX8_table_31 : decode cX8_table 31 = .ok (.iconst 2, 1) := by decide +kernel
theorem dX8_table_32 : decode cX8_table 32 = .ok (.invokestatic 80, 3) := by decide +kernel
theorem dX8_table_35 : decode cX8_table 35 = .ok (.ifCond .ne 10, 3) := by decide +kernel
theorem dX8_table_38 : decode cX8_table 38 = .ok (.aload_n 0, 1) := by decide +kernel
theorem dX8_table_39 : decode cX8_table 39 = .ok (.bipush (-2), 2) := by decide +kernel
theorem dX8_table_41 : decode cX8_table 41 = .ok (.invokevirtual 51, 3) := by decide +kernel
theorem dX8_table_44 : decode cX8_table 44 = .ok (.ireturn, 1) := by decide +kernel
theorem dX8_table_45 : decode cX8_table 45 = .ok (.iload 5, 2) := by decide +kernel
theorem dX8_table_47 : decode cX8_table 47 = .ok (.ifCond .ge 10, 3) := by decide +kernel
theorem dX8_table_50 : decode cX8_table 50 = .ok (.aload_n 0, 1) := by decide +kernel
theorem dX8_table_51 : decode cX8_table 51 = .ok (.bipush (-4), 2) := by decide +kernel
theorem dX8_table_53 : decode cX8_table 53 = .ok (.invokevirtual 51, 3) := by decide +kernel
theorem dX8_table_56 : decode cX8_table 56 = .ok (.ireturn, 1) := by decide +kernel
theorem dX8_table_57 : decode cX8_table 57 = .ok (.iload 5, 2) := by decide +kernel
theorem dX8_table_59 : decode cX8_table 59 = .ok (.bipush 10, 2) := by decide +kernel
theorem dX8_table_61 : decode cX8_table 61 = .ok (.if_icmp .le 10, 3) := by decide +kernel
theorem dX8_table_64 : decode cX8_table 64 = .ok (.aload_n 0, 1) := by decide +kernel
theorem dX8_table_65 : decode cX8_table 65 = .ok (.bipush (-6), 2) := by decide +kernel
theorem dX8_table_67 : decode cX8_table 67 = .ok (.invokevirtual 51, 3) := by decide +kernel
theorem dX8_table_70 : decode cX8_table 70 = .ok (.ireturn, 1) := by decide +kernel
theorem dX8_table_71 : decode cX8_table 71 = .ok (.aload_n 0, 1) := by decide +kernel
theorem dX8_table_72 : decode cX8_table 72 = .ok (.iload 5, 2) := by decide +kernel
theorem dX8_table_74 : decode cX8_table 74 = .ok (.putfield 196, 3) := by decide +kernel
theorem dX8_table_77 : decode cX8_table 77 = .ok (.aload_n 0, 1) := by decide +kernel
theorem dX8_table_78 : decode cX8_table 78 = .ok (.iconst 0, 1) := by decide +kernel
theorem dX8_table_79 : decode cX8_table 79 = .ok (.putfield 74, 3) := by decide +kernel
theorem dX8_table_82 : decode cX8_table 82 = .ok (.iconst 1, 1) := by decide +kernel
theorem dX8_table_83 : decode cX8_table 83 = .ok (.aload_n 0, 1) := by decide +kernel
theorem dX8_table_84 : decode cX8_table 84 = .ok (.getfield 59, 3) := by decide +kernel
theorem dX8_table_87 : decode cX8_table 87 = .ok (.ishl, 1) := by decide +kernel
theorem dX8_table_88 : decode cX8_table 88 = .ok (.istore 6, 2) := by decide +kernel
theorem dX8_table_90 : decode cX8_table 90 = .ok (.iconst 0, 1) := by decide +kernel
theorem dX8_table_91 : decode cX8_table 91 = .ok (.istore 7, 2) := by decide +kernel
theorem dX8_table_93 : decode cX8_table 93 = .ok (.iload 7, 2) := by decide +kernel
theorem dX8_table_95 : decode cX8_table 95 = .ok (.iload 6, 2) := by decide +kernel
theorem dX8_table_97 : decode cX8_table 97 = .ok (.if_icmp .ge 35, 3) := by decide +kernel
theorem dX8_table_100 : decode cX8_table 100 = .ok (.aload_n 0, 1) := by decide +kernel
theorem dX8_table_101 : decode cX8_table 101 = .ok (.getfield 43, 3) := by decide +kernel
theorem dX8_table_104 : decode cX8_table 104 = .ok (.iload 7, 2) := by decide +kernel
theorem dX8_table_106 : decode cX8_table 106 = .ok (.aload_n 0, 1) := by decide +kernel
theorem dX8_table_107 : decode cX8_table 107 = .ok (.iload_n 1, 1) := by decide +kernel
theorem dX8_table_108 : decode cX8_table 108 = .ok (.iload_n 3, 1) := by decide +kernel
theorem dX8_table_109 : decode cX8_table 109 = .ok (.aload_n 0, 1) := by decide +kernel
theorem dX8_table_110 : decode cX8_table 110 = .ok (.getfield 59, 3) := by decide +kernel
theorem dX8_table_113 : decode cX8_table 113 = .ok (.ishl, 1) := by decide +kernel
theorem dX8_table_114 : decode cX8_table 114 = .ok (.iload 7, 2) := by decide +kernel
theorem dX8_table_116 : decode cX8_table 116 = .ok (.iadd, 1) := by decide +kernel
theorem dX8_table_117 : decode cX8_table 117 = .ok (.iload_n 2, 1) := by decide +kernel
theorem dX8_table_118 : decode cX8_table 118 = .ok (.invokevirtual 164, 3) := by decide +kernel
theorem dX8_table_121 : decode cX8_table 121 = .ok (.i2l, 1) := by decide +kernel
theorem dX8_table_122 : decode cX8_table 122 = .ok (.iload 5, 2) := by decide +kernel
theorem dX8_table_124 : decode cX8_table 124 = .ok (.lshl, 1) := by decide +kernel
theorem dX8_table_125 : decode cX8_table 125 = .ok (.lastore, 1) := by decide +kernel
theorem dX8_table_126 : decode cX8_table 126 = .ok (.iinc 7 1, 3) := by decide +kernel
theorem dX8_table_129 : decode cX8_table 129 = .ok (.goto (-36), 3) := by decide +kernel
theorem dX8_table_132 : decode cX8_table 132 = .ok (.iconst 0, 1) := by decide +kernel
theorem dX8_table_133 : decode cX8_table 133 = .ok (.istore 7, 2) := by decide +kernel
theorem dX8_table_135 : decode cX8_table 135 = .ok (.iload 7, 2) := by decide +kernel
theorem dX8_table_137 : decode cX8_table 137 = .ok (.iload 6, 2) := by decide +kernel
theorem dX8_table_139 : decode cX8_table 139 = .ok (.if_icmp .ge 42, 3) := by decide +kernel
theorem dX8_table_142 : decode cX8_table 142 = .ok (.iload 4, 2) := by decide +kernel
theorem dX8_table_144 : decode cX8_table 144 = .ok (.ifCond .ne 14, 3) := by decide +kernel
theorem dX8_table_147 : decode cX8_table 147 = .ok (.aload_n 0, 1) := by decide +kernel
theorem dX8_table_148 : decode cX8_table 148 = .ok (.iload 7, 2) := by decide +kernel
theorem dX8_table_150 : decode cX8_table 150 = .ok (.iload 6, 2) := by decide +kernel
theorem dX8_table_152 : decode cX8_table 152 = .ok (.invokevirtual 199, 3) := by decide +kernel
theorem dX8_table_155 : decode cX8_table 155 = .ok (.goto 11, 3) := by decide +kernel
theorem dX8_table_158 : decode cX8_table 158 = .ok (.aload_n 0, 1) := by decide +kernel
theorem dX8_table_159 : decode cX8_table 159 = .ok (.iload 7, 2) := by decide +kernel
theorem dX8_table_161 : decode cX8_table 161 = .ok (.iload 6, 2) := by decide +kernel
theorem dX8_table_163 : decode cX8_table 163 = .ok (.invokevirtual 202, 3) := by decide +kernel
theorem dX8_table_166 : decode cX8_table 166 = .ok (.istore 7, 2) := by decide +kernel
theorem dX8_table_168 : decode cX8_table 168 = .ok (.aload_n 0, 1) := by decide +kernel
theorem dX8_table_169 : decode cX8_table 169 = .ok (.dup, 1) := by decide +kernel
theorem dX8_table_170 : decode cX8_table 170 = .ok (.getfield 74, 3) := by decide +kernel
theorem dX8_table_173 : decode cX8_table 173 = .ok (.iconst 1, 1) := by decide +kernel
theorem dX8_table_174 : decode cX8_table 174 = .ok (.iadd, 1) := by decide +kernel
theorem dX8_table_175 : decode cX8_table 175 = .ok (.putfield 74, 3) := by decide +kernel
theorem dX8_table_178 : decode cX8_table 178 = .ok (.goto (-43), 3) := by decide +kernel
theorem dX8_table_181 : decode cX8_table 181 = .ok (.aload_n 0, 1) := by decide +kernel
theorem dX8_table_182 : decode cX8_table 182 = .ok (.getfield 74, 3) := by decide +kernel
theorem dX8_table_185 : decode cX8_table 185 = .ok (.ireturn, 1) := by decide +kernel
set_option maxRecDepth 20000 in
theorem ggX8_flat_X8_lays : GoodIn wsX8_flat wsX8_lays := goodIn_r _ [6, 7, 8, 9, 10, 11, 12, 13, 14, 15, 16, 17, 18, 19, 20, 21, 22, 23, 24, 25, 26, 27, 28, 29, 30, 31, 32, 33, 34, 35, 36] (by decide +kernel) (by decide +kernel)
set_option maxRecDepth 20000 in
theorem gX8_flat_X8_lays : GoodIn wsX8_flat (wsV RX8 205 RX8 yX8_lays wsX8_lays) := goodIn_app (goodIn_of _ (by decide +kernel)) ggX8_flat_X8_lays
theorem dX8_flat_0 : decode cX8_flat 0 = .ok (.iload_n 1, 1) := by decide +kernel
theorem dX8_flat_1 : decode cX8_flat 1 = .ok (.istore_n 3, 1) := by decide +kernel
theorem dX8_flat_2 : decode cX8_flat 2 = .ok (.iload_n 3, 1) := by decide +kernel
theorem dX8_flat_3 : decode cX8_flat 3 = .ok (.iload_n 2, 1) := by decide +kernel
theorem dX8_flat_4 : decode cX8_flat 4 = .ok (.if_icmp .ge 25, 3) := by decide +kernel
theorem dX8_flat_7 : decode cX8_flat 7 = .ok (.aload_n 0, 1) := by decide +kernel
theorem dX8_flat_8 : decode cX8_flat 8 = .ok (.getfield 43, 3) := by decide +kernel
theorem dX8_flat_11 : decode cX8_flat 11 = .ok (.iload_n 3, 1) := by decide +kernel
theorem dX8_flat_12 : decode cX8_flat 12 = .ok (.laload, 1) := by decide +kernel
theorem dX8_flat_13 : decode cX8_flat 13 = .ok (.aload_n 0, 1) := by decide +kernel
theorem dX8_flat_14 : decode cX8_flat 14 = .ok (.getfield 43, 3) := by decide +kernel
theorem dX8_flat_17 : decode cX8_flat 17 = .ok (.iload_n 1, 1) := by decide +kernel
theorem dX8_flat_18 : decode cX8_flat 18 = .ok (.laload, 1) := by decide +kernel
theorem dX8_flat_19 : decode cX8_flat 19 = .ok (.lcmp, 1) := by decide +kernel
theorem dX8_flat_20 : decode cX8_flat 20 = .ok (.ifCond .ne 9, 3) := by decide +kernel
theorem dX8_flat_23 : decode cX8_flat 23 = .ok (.iinc 3 1, 3) := by decide +kernel
theorem dX8_flat_26 : decode cX8_flat 26 = .ok (.goto (-24), 3) := by decide +kernel
theorem dX8_flat_29 : decode cX8_flat 29 = .ok (.aload_n 0, 1) := by decide +kernel
theorem dX8_flat_30 : decode cX8_flat 30 = .ok (.iload_n 1, 1) := by decide +kernel
theorem dX8_flat_31 : decode cX8_flat 31 = .ok (.iload_n 3, 1) := by decide +kernel
theorem dX8_flat_32 : decode cX8_flat 32 = .ok (.iconst 1, 1) := by decide +kernel
theorem dX8_flat_33 : decode cX8_flat 33 = .ok (.isub, 1) := by decide +kernel
theorem dX8_flat_34 : decode cX8_flat 34 = .ok (.aload_n 0, 1) := by decide +kernel
theorem dX8_flat_35 : decode cX8_flat 35 = .ok (.getfield 43, 3) := by decide +kernel
theorem dX8_flat_38 : decode cX8_flat 38 = .ok (.iload_n 1, 1) := by decide +kernel
theorem dX8_flat_39 : decode cX8_flat 39 = .ok (.laload, 1) := by decide +kernel
theorem dX8_flat_40 : decode cX8_flat 40 = .ok (.lconst 0, 1) := by decide +kernel
theorem dX8_flat_41 : decode cX8_flat 41 = .ok (.invokevirtual 205, 3) := by decide +kernel
theorem dX8_flat_44 : decode cX8_flat 44 = .ok (.iload_n 3, 1) := by decide +kernel
theorem dX8_flat_45 : decode cX8_flat 45 = .ok (.ireturn, 1) := by decide +kernel
theorem dX8_lays_0 : decode cX8_lays 0 = .ok (.aload_n 0, 1) := by decide +kernel
theorem dX8_lays_1 : decode cX8_lays 1 = .ok (.getfield 30, 3) := by decide +kernel
theorem dX8_lays_4 : decode cX8_lays 4 = .ok (.aload_n 0, 1) := by decide +kernel
theorem dX8_lays_5 : decode cX8_lays 5 = .ok (.getfield 74, 3) := by decide +kernel
theorem dX8_lays_8 : decode cX8_lays 8 = .ok (.iload_n 1, 1) := by decide +kernel
theorem dX8_lays_9 : decode cX8_lays 9 = .ok (.iastore, 1) := by decide +kernel
theorem dX8_lays_10 : decode cX8_lays 10 = .ok (.aload_n 0, 1) := by decide +kernel
theorem dX8_lays_11 : decode cX8_lays 11 = .ok (.getfield 33, 3) := by decide +kernel
theorem dX8_lays_14 : decode cX8_lays 14 = .ok (.aload_n 0, 1) := by decide +kernel
theorem dX8_lays_15 : decode cX8_lays 15 = .ok (.getfield 74, 3) := by decide +kernel
theorem dX8_lays_18 : decode cX8_lays 18 = .ok (.iload_n 2, 1) := by decide +kernel
theorem dX8_lays_19 : decode cX8_lays 19 = .ok (.iastore, 1) := by decide +kernel
theorem dX8_lays_20 : decode cX8_lays 20 = .ok (.aload_n 0, 1) := by decide +kernel
theorem dX8_lays_21 : decode cX8_lays 21 = .ok (.getfield 36, 3) := by decide +kernel
theorem dX8_lays_24 : decode cX8_lays 24 = .ok (.aload_n 0, 1) := by decide +kernel
theorem dX8_lays_25 : decode cX8_lays 25 = .ok (.getfield 74, 3) := by decide +kernel
theorem dX8_lays_28 : decode cX8_lays 28 = .ok (.lload_n 3, 1) := by decide +kernel
theorem dX8_lays_29 : decode cX8_lays 29 = .ok (.lastore, 1) := by decide +kernel
theorem dX8_lays_30 : decode cX8_lays 30 = .ok (.aload_n 0, 1) := by decide +kernel
theorem dX8_lays_31 : decode cX8_lays 31 = .ok (.getfield 40, 3) := by decide +kernel
theorem dX8_lays_34 : decode cX8_lays 34 = .ok (.aload_n 0, 1) := by decide +kernel
theorem dX8_lays_35 : decode cX8_lays 35 = .ok (.getfield 74, 3) := by decide +kernel
theorem dX8_lays_38 : decode cX8_lays 38 = .ok (.lload 5, 2) := by decide +kernel
theorem dX8_lays_40 : decode cX8_lays 40 = .ok (.lastore, 1) := by decide +kernel
theorem dX8_lays_41 : decode cX8_lays 41 = .ok (.return_, 1) := by decide +kernel
set_option maxRecDepth 20000 in
theorem ggX8_line_J9_floorDiv_f86c9 : GoodIn wsX8_line wsJ9_floorDiv_f86c9 := goodIn_r _ [15] (by decide +kernel) (by decide +kernel)
set_option maxRecDepth 20000 in
theorem gX8_line_J9_floorDiv_f86c9 : GoodIn wsX8_line (va_wsS RX8 213 yJ9_floorDiv_f86c9 wsJ9_floorDiv_f86c9) := goodIn_app (goodIn_of _ (by decide +kernel)) ggX8_line_J9_floorDiv_f86c9
set_option maxRecDepth 20000 in
theorem ggX8_line_X8_lays : GoodIn wsX8_line wsX8_lays := goodIn_r _ [20, 21, 22, 23, 24, 25, 26, 27, 28, 29, 30, 31, 32, 33, 34, 35, 36, 37, 38, 39, 40, 41, 42, 43, 44, 45, 46, 47, 48, 49, 50] (by decide +kernel) (by decide +kernel)
set_option maxRecDepth 20000 in
theorem gX8_line_X8_lays : GoodIn wsX8_line (wsV RX8 205 RX8 yX8_lays wsX8_lays) := goodIn_app (goodIn_of _ (by decide +kernel)) ggX8_line_X8_lays
theorem dX8_line_0 : decode cX8_line 0 = .ok (.lconst 1, 1) := by decide +kernel
theorem dX8_line_1 : decode cX8_line 1 = .ok (.aload_n 0, 1) := by decide +kernel
theorem dX8_line_2 : decode cX8_line 2 = .ok (.getfield 196, 3) := by decide +kernel
theorem dX8_line_5 : decode cX8_line 5 = .ok (.lshl, 1) := by decide +kernel
theorem dX8_line_6 : decode cX8_line 6 = .ok (.lstore_n 3, 1) := by decide +kernel
theorem dX8_line_7 : decode cX8_line 7 = .ok (.ldc2_w 209, 3) := by decide +kernel
theorem dX8_line_10 : decode cX8_line 10 = .ok (.lstore 5, 2) := by decide +kernel
theorem dX8_line_12 : decode cX8_line 12 = .ok (.ldc2_w 211, 3) := by decide +kernel
theorem dX8_line_15 : decode cX8_line 15 = .ok (.lstore 7, 2) := by decide +kernel
theorem dX8_line_17 : decode cX8_line 17 = .ok (.iload_n 1, 1) := by decide +kernel
theorem dX8_line_18 : decode cX8_line 18 = .ok (.iconst 1, 1) := by decide +kernel
theorem dX8_line_19 : decode cX8_line 19 = .ok (.iadd, 1) := by decide +kernel
theorem dX8_line_20 : decode cX8_line 20 = .ok (.istore 9, 2) := by decide +kernel
theorem dX8_line_22 : decode cX8_line 22 = .ok (.iload 9, 2) := by decide +kernel
theorem dX8_line_24 : decode cX8_line 24 = .ok (.iload_n 2, 1) := by decide +kernel
theorem dX8_line_25 : decode cX8_line 25 = .ok (.if_icmp .ge 7, 3) := by decide +kernel
theorem dX8_line_28 : decode cX8_line 28 = .ok (.iconst 1, 1) := by decide +kernel
theorem dX8_line_29 : decode cX8_line 29 = .ok (.goto 4, 3) := by decide +kernel
theorem dX8_line_32 : decode cX8_line 32 = .ok (.iconst 0, 1) := by decide +kernel
theorem dX8_line_33 : decode cX8_line 33 = .ok (.istore 10, 2) := by decide +kernel
theorem dX8_line_35 : decode cX8_line 35 = .ok (.iload 10, 2) := by decide +kernel
theorem dX8_line_37 : decode cX8_line 37 = .ok (.ifCond .eq 149, 3) := by decide +kernel
theorem dX8_line_40 : decode cX8_line 40 = .ok (.lload 5, 2) := by decide +kernel
theorem dX8_line_42 : decode cX8_line 42 = .ok (.lstore 11, 2) := by decide +kernel
theorem dX8_line_44 : decode cX8_line 44 = .ok (.lload 7, 2) := by decide +kernel
theorem dX8_line_46 : decode cX8_line 46 = .ok (.lstore 13, 2) := by decide +kernel
theorem dX8_line_48 : decode cX8_line 48 = .ok (.iload_n 1, 1) := by decide +kernel
theorem dX8_line_49 : decode cX8_line 49 = .ok (.istore 15, 2) := by decide +kernel
theorem dX8_line_51 : decode cX8_line 51 = .ok (.iload 15, 2) := by decide +kernel
theorem dX8_line_53 : decode cX8_line 53 = .ok (.iload 9, 2) := by decide +kernel
theorem dX8_line_55 : decode cX8_line 55 = .ok (.if_icmp .ge 81, 3) := by decide +kernel
theorem dX8_line_58 : decode cX8_line 58 = .ok (.iload 9, 2) := by decide +kernel
theorem dX8_line_60 : decode cX8_line 60 = .ok (.iload 15, 2) := by decide +kernel
theorem dX8_line_62 : decode cX8_line 62 = .ok (.isub, 1) := by decide +kernel
theorem dX8_line_63 : decode cX8_line 63 = .ok (.i2l, 1) := by decide +kernel
theorem dX8_line_64 : decode cX8_line 64 = .ok (.lstore 16, 2) := by decide +kernel
theorem dX8_line_66 : decode cX8_line 66 = .ok (.lload 13, 2) := by decide +kernel
theorem dX8_line_68 : decode cX8_line 68 = .ok (.aload_n 0, 1) := by decide +kernel
theorem dX8_line_69 : decode cX8_line 69 = .ok (.getfield 43, 3) := by decide +kernel
theorem dX8_line_72 : decode cX8_line 72 = .ok (.iload 9, 2) := by decide +kernel
theorem dX8_line_74 : decode cX8_line 74 = .ok (.laload, 1) := by decide +kernel
theorem dX8_line_75 : decode cX8_line 75 = .ok (.aload_n 0, 1) := by decide +kernel
theorem dX8_line_76 : decode cX8_line 76 = .ok (.getfield 43, 3) := by decide +kernel
theorem dX8_line_79 : decode cX8_line 79 = .ok (.iload 15, 2) := by decide +kernel
theorem dX8_line_81 : decode cX8_line 81 = .ok (.laload, 1) := by decide +kernel
theorem dX8_line_82 : decode cX8_line 82 = .ok (.lsub, 1) := by decide +kernel
theorem dX8_line_83 : decode cX8_line 83 = .ok (.lload_n 3, 1) := by decide +kernel
theorem dX8_line_84 : decode cX8_line 84 = .ok (.ladd, 1) := by decide +kernel
theorem dX8_line_85 : decode cX8_line 85 = .ok (.lconst 1, 1) := by decide +kernel
theorem dX8_line_86 : decode cX8_line 86 = .ok (.lsub, 1) := by decide +kernel
theorem dX8_line_87 : decode cX8_line 87 = .ok (.lload 16, 2) := by decide +kernel
theorem dX8_line_89 : decode cX8_line 89 = .ok (.invokestatic 213, 3) := by decide +kernel
theorem dX8_line_92 : decode cX8_line 92 = .ok (.invokestatic 217, 3) := by decide +kernel
theorem dX8_line_95 : decode cX8_line 95 = .ok (.lstore 13, 2) := by decide +kernel
theorem dX8_line_97 : decode cX8_line 97 = .ok (.lload 11, 2) := by decide +kernel
theorem dX8_line_99 : decode cX8_line 99 = .ok (.aload_n 0, 1) := by decide +kernel
theorem dX8_line_100 : decode cX8_line 100 = .ok (.getfield 43, 3) := by decide +kernel
theorem dX8_line_103 : decode cX8_line 103 = .ok (.iload 9, 2) := by decide +kernel
theorem dX8_line_105 : decode cX8_line 105 = .ok (.laload, 1) := by decide +kernel
theorem dX8_line_106 : decode cX8_line 106 = .ok (.aload_n 0, 1) := by decide +kernel
theorem dX8_line_107 : decode cX8_line 107 = .ok (.getfield 43, 3) := by decide +kernel
theorem dX8_line_110 : decode cX8_line 110 = .ok (.iload 15, 2) := by decide +kernel
theorem dX8_line_112 : decode cX8_line 112 = .ok (.laload, 1) := by decide +kernel
theorem dX8_line_113 : decode cX8_line 113 = .ok (.lsub, 1) := by decide +kernel
theorem dX8_line_114 : decode cX8_line 114 = .ok (.lload_n 3, 1) := by decide +kernel
theorem dX8_line_115 : decode cX8_line 115 = .ok (.lsub, 1) := by decide +kernel
theorem dX8_line_116 : decode cX8_line 116 = .ok (.lconst 1, 1) := by decide +kernel
theorem dX8_line_117 : decode cX8_line 117 = .ok (.ladd, 1) := by decide +kernel
theorem dX8_line_118 : decode cX8_line 118 = .ok (.lneg, 1) := by decide +kernel
theorem dX8_line_119 : decode cX8_line 119 = .ok (.lload 16, 2) := by decide +kernel
theorem dX8_line_121 : decode cX8_line 121 = .ok (.invokestatic 213, 3) := by decide +kernel
theorem dX8_line_124 : decode cX8_line 124 = .ok (.lneg, 1) := by decide +kernel
theorem dX8_line_125 : decode cX8_line 125 = .ok (.invokestatic 220, 3) := by decide +kernel
theorem dX8_line_128 : decode cX8_line 128 = .ok (.lstore 11, 2) := by decide +kernel
theorem dX8_line_130 : decode cX8_line 130 = .ok (.iinc 15 1, 3) := by decide +kernel
theorem dX8_line_133 : decode cX8_line 133 = .ok (.goto (-82), 3) := by decide +kernel
theorem dX8_line_136 : decode cX8_line 136 = .ok (.lload 11, 2) := by decide +kernel
theorem dX8_line_138 : decode cX8_line 138 = .ok (.lload 13, 2) := by decide +kernel
theorem dX8_line_140 : decode cX8_line 140 = .ok (.lcmp, 1) := by decide +kernel
theorem dX8_line_141 : decode cX8_line 141 = .ok (.ifCond .gt 7, 3) := by decide +kernel
theorem dX8_line_144 : decode cX8_line 144 = .ok (.iconst 1, 1) := by decide +kernel
theorem dX8_line_145 : decode cX8_line 145 = .ok (.goto 4, 3) := by decide +kernel
theorem dX8_line_148 : decode cX8_line 148 = .ok (.iconst 0, 1) := by decide +kernel
theorem dX8_line_149 : decode cX8_line 149 = .ok (.istore 10, 2) := by decide +kernel
theorem dX8_line_151 : decode cX8_line 151 = .ok (.iload 10, 2) := by decide +kernel
theorem dX8_line_153 : decode cX8_line 153 = .ok (.ifCond .ne 6, 3) := by decide +kernel
theorem dX8_line_156 : decode cX8_line 156 = .ok (.goto (-121), 3) := by decide +kernel
theorem dX8_line_159 : decode cX8_line 159 = .ok (.lload 11, 2) := by decide +kernel
theorem dX8_line_161 : decode cX8_line 161 = .ok (.lstore 5, 2) := by decide +kernel
theorem dX8_line_163 : decode cX8_line 163 = .ok (.lload 13, 2) := by decide +kernel
theorem dX8_line_165 : decode cX8_line 165 = .ok (.lstore 7, 2) := by decide +kernel
theorem dX8_line_167 : decode cX8_line 167 = .ok (.iinc 9 1, 3) := by decide +kernel
theorem dX8_line_170 : decode cX8_line 170 = .ok (.iload 9, 2) := by decide +kernel
theorem dX8_line_172 : decode cX8_line 172 = .ok (.iload_n 2, 1) := by decide +kernel
theorem dX8_line_173 : decode cX8_line 173 = .ok (.if_icmp .ge 7, 3) := by decide +kernel
theorem dX8_line_176 : decode cX8_line 176 = .ok (.iconst 1, 1) := by decide +kernel
theorem dX8_line_177 : decode cX8_line 177 = .ok (.goto 4, 3) := by decide +kernel
theorem dX8_line_180 : decode cX8_line 180 = .ok (.iconst 0, 1) := by decide +kernel
theorem dX8_line_181 : decode cX8_line 181 = .ok (.istore 10, 2) := by decide +kernel
theorem dX8_line_183 : decode cX8_line 183 = .ok (.goto (-148), 3) := by decide +kernel
theorem dX8_line_186 : decode cX8_line 186 = .ok (.lload 5, 2) := by decide +kernel
theorem dX8_line_188 : decode cX8_line 188 = .ok (.lconst 0, 1) := by decide +kernel
theorem dX8_line_189 : decode cX8_line 189 = .ok (.lcmp, 1) := by decide +kernel
theorem dX8_line_190 : decode cX8_line 190 = .ok (.ifCond .le 8, 3) := by decide +kernel
theorem dX8_line_193 : decode cX8_line 193 = .ok (.lload 5, 2) := by decide +kernel
theorem dX8_line_195 : decode cX8_line 195 = .ok (.goto 16, 3) := by decide +kernel
theorem dX8_line_198 : decode cX8_line 198 = .ok (.lload 7, 2) := by decide +kernel
theorem dX8_line_200 : decode cX8_line 200 = .ok (.lconst 0, 1) := by decide +kernel
theorem dX8_line_201 : decode cX8_line 201 = .ok (.lcmp, 1) := by decide +kernel
theorem dX8_line_202 : decode cX8_line 202 = .ok (.ifCond .ge 8, 3) := by decide +kernel
theorem dX8_line_205 : decode cX8_line 205 = .ok (.lload 7, 2) := by decide +kernel
theorem dX8_line_207 : decode cX8_line 207 = .ok (.goto 4, 3) := by decide +kernel
theorem dX8_line_210 : decode cX8_line 210 = .ok (.lconst 0, 1) := by decide +kernel
theorem dX8_line_211 : decode cX8_line 211 = .ok (.lstore 11, 2) := by decide +kernel
theorem dX8_line_213 : decode cX8_line 213 = .ok (.aload_n 0, 1) := by decide +kernel
theorem dX8_line_214 : decode cX8_line 214 = .ok (.getfield 43, 3) := by decide +kernel
theorem dX8_line_217 : decode cX8_line 217 = .ok (.iload_n 1, 1) := by decide +kernel
theorem dX8_line_218 : decode cX8_line 218 = .ok (.laload, 1) := by decide +kernel
theorem dX8_line_219 : decode cX8_line 219 = .ok (.lload 11, 2) := by decide +kernel
theorem dX8_line_221 : decode cX8_line 221 = .ok (.iload_n 1, 1) := by decide +kernel
theorem dX8_line_222 : decode cX8_line 222 = .ok (.i2l, 1) := by decide +kernel
theorem dX8_line_223 : decode cX8_line 223 = .ok (.lmul, 1) := by decide +kernel
theorem dX8_line_224 : decode cX8_line 224 = .ok (.lsub, 1) := by decide +kernel
theorem dX8_line_225 : decode cX8_line 225 = .ok (.lstore 13, 2) := by decide +kernel
theorem dX8_line_227 : decode cX8_line 227 = .ok (.iload_n 1, 1) := by decide +kernel
theorem dX8_line_228 : decode cX8_line 228 = .ok (.istore 15, 2) := by decide +kernel
theorem dX8_line_230 : decode cX8_line 230 = .ok (.iload 15, 2) := by decide +kernel
theorem dX8_line_232 : decode cX8_line 232 = .ok (.iload 9, 2) := by decide +kernel
theorem dX8_line_234 : decode cX8_line 234 = .ok (.if_icmp .ge 30, 3) := by decide +kernel
theorem dX8_line_237 : decode cX8_line 237 = .ok (.lload 13, 2) := by decide +kernel
theorem dX8_line_239 : decode cX8_line 239 = .ok (.aload_n 0, 1) := by decide +kernel
theorem dX8_line_240 : decode cX8_line 240 = .ok (.getfield 43, 3) := by decide +kernel
theorem dX8_line_243 : decode cX8_line 243 = .ok (.iload 15, 2) := by decide +kernel
theorem dX8_line_245 : decode cX8_line 245 = .ok (.laload, 1) := by decide +kernel
theorem dX8_line_246 : decode cX8_line 246 = .ok (.lload 11, 2) := by decide +kernel
theorem dX8_line_248 : decode cX8_line 248 = .ok (.iload 15, 2) := by decide +kernel
theorem dX8_line_250 : decode cX8_line 250 = .ok (.i2l, 1) := by decide +kernel
theorem dX8_line_251 : decode cX8_line 251 = .ok (.lmul, 1) := by decide +kernel
theorem dX8_line_252 : decode cX8_line 252 = .ok (.lsub, 1) := by decide +kernel
theorem dX8_line_253 : decode cX8_line 253 = .ok (.invokestatic 220, 3) := by decide +kernel
theorem dX8_line_256 : decode cX8_line 256 = .ok (.lstore 13, 2) := by decide +kernel
theorem dX8_line_258 : decode cX8_line 258 = .ok (.iinc 15 1, 3) := by decide +kernel
theorem dX8_line_261 : decode cX8_line 261 = .ok (.goto (-31), 3) := by decide +kernel
theorem dX8_line_264 : decode cX8_line 264 = .ok (.aload_n 0, 1) := by decide +kernel
theorem dX8_line_265 : decode cX8_line 265 = .ok (.iload_n 1, 1) := by decide +kernel
theorem dX8_line_266 : decode cX8_line 266 = .ok (.iload 9, 2) := by decide +kernel
theorem dX8_line_268 : decode cX8_line 268 = .ok (.iconst 1, 1) := by decide +kernel
theorem dX8_line_269 : decode cX8_line 269 = .ok (.isub, 1) := by decide +kernel
theorem dX8_line_270 : decode cX8_line 270 = .ok (.lload 13, 2) := by decide +kernel
theorem dX8_line_272 : decode cX8_line 272 = .ok (.lload 11, 2) := by decide +kernel
theorem dX8_line_274 : decode cX8_line 274 = .ok (.invokevirtual 205, 3) := by decide +kernel
theorem dX8_line_277 : decode cX8_line 277 = .ok (.iload 9, 2) := by decide +kernel
theorem dX8_line_279 : decode cX8_line 279 = .ok (.ireturn, 1) := by decide +kernel
set_option maxRecDepth 20000 in
theorem ggX8_part_X8_refuseFar : GoodIn wsX8_part wsX8_refuseFar := goodIn_r _ [10, 11, 12, 13, 14, 9, 15, 16, 20, 21, 22, 23, 24, 25, 26, 27, 28, 29, 30, 31, 32, 33, 34, 35, 36, 37, 38, 39, 40, 41, 42, 43, 44] (by decide +kernel) (by decide +kernel)
set_option maxRecDepth 20000 in
theorem gX8_part_X8_refuseFar : GoodIn wsX8_part (wsV RX8 91 RX8 yX8_refuseFar wsX8_refuseFar) := goodIn_app (goodIn_of _ (by decide +kernel)) ggX8_part_X8_refuseFar
set_option maxRecDepth 20000 in
theorem ggX8_part_X8_isIn : GoodIn wsX8_part wsX8_isIn := goodIn_r _ [19] (by decide +kernel) (by decide +kernel)
set_option maxRecDepth 20000 in
theorem gX8_part_X8_isIn : GoodIn wsX8_part (va_wsS RX8 80 yX8_isIn wsX8_isIn) := goodIn_app (goodIn_of _ (by decide +kernel)) ggX8_part_X8_isIn
theorem dX8_part_0 : decode cX8_part 0 = .ok (.aload_n 0, 1) := by decide +kernel
theorem dX8_part_1 : decode cX8_part 1 = .ok (.getfield 74, 3) := by decide +kernel
theorem dX8_part_4 : decode cX8_part 4 = .ok (.ifCond .ge 10, 3) := by decide +kernel
theorem dX8_part_7 : decode cX8_part 7 = .ok (.aload_n 0, 1) := by decide +kernel
theorem dX8_part_8 : decode cX8_part 8 = .ok (.bipush (-3), 2) := by decide +kernel
theorem dX8_part_10 : decode cX8_part 10 = .ok (.invokevirtual 91, 3) := by decide +kernel
theorem dX8_part_13 : decode cX8_part 13 = .ok (.ireturn, 1) := by decide +kernel
theorem dX8_part_14 : decode cX8_part 14 = .ok (.iload_n 1, 1) := by decide +kernel
theorem dX8_part_15 : decode cX8_part 15 = .ok (.aload_n 0, 1) := by decide +kernel
theorem dX8_part_16 : decode cX8_part 16 = .ok (.getfield 74, 3) := by decide +kernel
theorem dX8_part_19 : decode cX8_part 19 = .ok (.invokestatic 80, 3) := by decide +kernel
theorem dX8_part_22 : decode cX8_part 22 = .ok (.ifCond .ne 9, 3) := by decide +kernel
theorem dX8_part_25 : decode cX8_part 25 = .ok (.aload_n 0, 1) := by decide +kernel
theorem dX8_part_26 : decode cX8_part 26 = .ok (.iconst (-1), 1) := by decide +kernel
theorem dX8_part_27 : decode cX8_part 27 = .ok (.invokevirtual 91, 3) := by decide +kernel
theorem dX8_part_30 : decode cX8_part 30 = .ok (.ireturn, 1) := by decide +kernel
theorem dX8_part_31 : decode cX8_part 31 = .ok (.iload_n 2, 1) := by decide +kernel
theorem dX8_part_32 : decode cX8_part 32 = .ok (.tableswitch 62 0 3 #[32, 39, 46, 54], 32) := by decide +kernel
theorem dX8_part_64 : decode cX8_part 64 = .ok (.aload_n 0, 1) := by decide +kernel
theorem dX8_part_65 : decode cX8_part 65 = .ok (.getfield 30, 3) := by decide +kernel
theorem dX8_part_68 : decode cX8_part 68 = .ok (.iload_n 1, 1) := by decide +kernel
theorem dX8_part_69 : decode cX8_part 69 = .ok (.iaload, 1) := by decide +kernel
theorem dX8_part_70 : decode cX8_part 70 = .ok (.ireturn, 1) := by decide +kernel
theorem dX8_part_71 : decode cX8_part 71 = .ok (.aload_n 0, 1) := by decide +kernel
theorem dX8_part_72 : decode cX8_part 72 = .ok (.getfield 33, 3) := by decide +kernel
theorem dX8_part_75 : decode cX8_part 75 = .ok (.iload_n 1, 1) := by decide +kernel
theorem dX8_part_76 : decode cX8_part 76 = .ok (.iaload, 1) := by decide +kernel
theorem dX8_part_77 : decode cX8_part 77 = .ok (.ireturn, 1) := by decide +kernel
theorem dX8_part_78 : decode cX8_part 78 = .ok (.aload_n 0, 1) := by decide +kernel
theorem dX8_part_79 : decode cX8_part 79 = .ok (.getfield 36, 3) := by decide +kernel
theorem dX8_part_82 : decode cX8_part 82 = .ok (.iload_n 1, 1) := by decide +kernel
theorem dX8_part_83 : decode cX8_part 83 = .ok (.laload, 1) := by decide +kernel
theorem dX8_part_84 : decode cX8_part 84 = .ok (.l2i, 1) := by decide +kernel
theorem dX8_part_85 : decode cX8_part 85 = .ok (.ireturn, 1) := by decide +kernel
theorem dX8_part_86 : decode cX8_part 86 = .ok (.aload_n 0, 1) := by decide +kernel
theorem dX8_part_87 : decode cX8_part 87 = .ok (.getfield 40, 3) := by decide +kernel
theorem dX8_part_90 : decode cX8_part 90 = .ok (.iload_n 1, 1) := by decide +kernel
theorem dX8_part_91 : decode cX8_part 91 = .ok (.laload, 1) := by decide +kernel
theorem dX8_part_92 : decode cX8_part 92 = .ok (.l2i, 1) := by decide +kernel
theorem dX8_part_93 : decode cX8_part 93 = .ok (.ireturn, 1) := by decide +kernel
theorem dX8_part_94 : decode cX8_part 94 = .ok (.aload_n 0, 1) := by decide +kernel
theorem dX8_part_95 : decode cX8_part 95 = .ok (.bipush (-2), 2) := by decide +kernel
theorem dX8_part_97 : decode cX8_part 97 = .ok (.invokevirtual 91, 3) := by decide +kernel
theorem dX8_part_100 : decode cX8_part 100 = .ok (.ireturn, 1) := by decide +kernel
set_option maxRecDepth 20000 in
theorem ggX8_look_X8_refuse : GoodIn wsX8_look wsX8_refuse := goodIn_r _ [11, 12, 16, 17, 18, 19, 20, 21, 22, 23, 24, 25, 26, 27, 28, 29, 30, 31, 32, 33, 34, 35, 36, 37, 38, 39, 40] (by decide +kernel) (by decide +kernel)
set_option maxRecDepth 20000 in
theorem gX8_look_X8_refuse : GoodIn wsX8_look (wsV RX8 51 RX8 yX8_refuse wsX8_refuse) := goodIn_app (goodIn_of _ (by decide +kernel)) ggX8_look_X8_refuse
set_option maxRecDepth 20000 in
theorem ggX8_look_X8_isIn : GoodIn wsX8_look wsX8_isIn := goodIn_r _ [15] (by decide +kernel) (by decide +kernel)
set_option maxRecDepth 20000 in
theorem gX8_look_X8_isIn : GoodIn wsX8_look (va_wsS RX8 80 yX8_isIn wsX8_isIn) := goodIn_app (goodIn_of _ (by decide +kernel)) ggX8_look_X8_isIn
theorem dX8_look_0 : decode cX8_look 0 = .ok (.aload_n 0, 1) := by decide +kernel
theorem dX8_look_1 : decode cX8_look 1 = .ok (.getfield 74, 3) := by decide +kernel
theorem dX8_look_4 : decode cX8_look 4 = .ok (.ifCond .ge 10, 3) := by decide +kernel
theorem dX8_look_7 : decode cX8_look 7 = .ok (.aload_n 0, 1) := by decide +kernel
theorem dX8_look_8 : decode cX8_look 8 = .ok (.bipush (-3), 2) := by decide +kernel
theorem dX8_look_10 : decode cX8_look 10 = .ok (.invokevirtual 51, 3) := by decide +kernel
theorem dX8_look_13 : decode cX8_look 13 = .ok (.ireturn, 1) := by decide +kernel
theorem dX8_look_14 : decode cX8_look 14 = .ok (.iload_n 1, 1) := by decide +kernel
theorem dX8_look_15 : decode cX8_look 15 = .ok (.iconst 1, 1) := by decide +kernel
theorem dX8_look_16 : decode cX8_look 16 = .ok (.aload_n 0, 1) := by decide +kernel
theorem dX8_look_17 : decode cX8_look 17 = .ok (.getfield 59, 3) := by decide +kernel
theorem dX8_look_20 : decode cX8_look 20 = .ok (.ishl, 1) := by decide +kernel
theorem dX8_look_21 : decode cX8_look 21 = .ok (.invokestatic 80, 3) := by decide +kernel
theorem dX8_look_24 : decode cX8_look 24 = .ok (.ifCond .ne 9, 3) := by decide +kernel
theorem dX8_look_27 : decode cX8_look 27 = .ok (.aload_n 0, 1) := by decide +kernel
theorem dX8_look_28 : decode cX8_look 28 = .ok (.iconst (-1), 1) := by decide +kernel
theorem dX8_look_29 : decode cX8_look 29 = .ok (.invokevirtual 51, 3) := by decide +kernel
theorem dX8_look_32 : decode cX8_look 32 = .ok (.ireturn, 1) := by decide +kernel
theorem dX8_look_33 : decode cX8_look 33 = .ok (.iconst 0, 1) := by decide +kernel
theorem dX8_look_34 : decode cX8_look 34 = .ok (.istore_n 2, 1) := by decide +kernel
theorem dX8_look_35 : decode cX8_look 35 = .ok (.aload_n 0, 1) := by decide +kernel
theorem dX8_look_36 : decode cX8_look 36 = .ok (.getfield 33, 3) := by decide +kernel
theorem dX8_look_39 : decode cX8_look 39 = .ok (.iload_n 2, 1) := by decide +kernel
theorem dX8_look_40 : decode cX8_look 40 = .ok (.iaload, 1) := by decide +kernel
theorem dX8_look_41 : decode cX8_look 41 = .ok (.iload_n 1, 1) := by decide +kernel
theorem dX8_look_42 : decode cX8_look 42 = .ok (.if_icmp .ge 9, 3) := by decide +kernel
theorem dX8_look_45 : decode cX8_look 45 = .ok (.iinc 2 1, 3) := by decide +kernel
theorem dX8_look_48 : decode cX8_look 48 = .ok (.goto (-13), 3) := by decide +kernel
theorem dX8_look_51 : decode cX8_look 51 = .ok (.aload_n 0, 1) := by decide +kernel
theorem dX8_look_52 : decode cX8_look 52 = .ok (.getfield 36, 3) := by decide +kernel
theorem dX8_look_55 : decode cX8_look 55 = .ok (.iload_n 2, 1) := by decide +kernel
theorem dX8_look_56 : decode cX8_look 56 = .ok (.laload, 1) := by decide +kernel
theorem dX8_look_57 : decode cX8_look 57 = .ok (.aload_n 0, 1) := by decide +kernel
theorem dX8_look_58 : decode cX8_look 58 = .ok (.getfield 40, 3) := by decide +kernel
theorem dX8_look_61 : decode cX8_look 61 = .ok (.iload_n 2, 1) := by decide +kernel
theorem dX8_look_62 : decode cX8_look 62 = .ok (.laload, 1) := by decide +kernel
theorem dX8_look_63 : decode cX8_look 63 = .ok (.iload_n 1, 1) := by decide +kernel
theorem dX8_look_64 : decode cX8_look 64 = .ok (.i2l, 1) := by decide +kernel
theorem dX8_look_65 : decode cX8_look 65 = .ok (.lmul, 1) := by decide +kernel
theorem dX8_look_66 : decode cX8_look 66 = .ok (.ladd, 1) := by decide +kernel
theorem dX8_look_67 : decode cX8_look 67 = .ok (.aload_n 0, 1) := by decide +kernel
theorem dX8_look_68 : decode cX8_look 68 = .ok (.getfield 196, 3) := by decide +kernel
theorem dX8_look_71 : decode cX8_look 71 = .ok (.lshr, 1) := by decide +kernel
theorem dX8_look_72 : decode cX8_look 72 = .ok (.l2i, 1) := by decide +kernel
theorem dX8_look_73 : decode cX8_look 73 = .ok (.ireturn, 1) := by decide +kernel
set_option maxRecDepth 20000 in
theorem ggX8_fits_X8_isFunction : GoodIn wsX8_fits wsX8_isFunction := goodIn_r _ [7, 8, 9, 6, 10] (by decide +kernel) (by decide +kernel)
set_option maxRecDepth 20000 in
theorem gX8_fits_X8_isFunction : GoodIn wsX8_fits (va_wsS RX8 161 yX8_isFunction wsX8_isFunction) := goodIn_app (goodIn_of _ (by decide +kernel)) ggX8_fits_X8_isFunction
set_option maxRecDepth 20000 in
theorem ggX8_fits_X8_isIn : GoodIn wsX8_fits wsX8_isIn := goodIn_r _ [10] (by decide +kernel) (by decide +kernel)
set_option maxRecDepth 20000 in
theorem gX8_fits_X8_isIn : GoodIn wsX8_fits (va_wsS RX8 80 yX8_isIn wsX8_isIn) := goodIn_app (goodIn_of _ (by decide +kernel)) ggX8_fits_X8_isIn
set_option maxRecDepth 20000 in
theorem ggX8_fits_X8_isPower : GoodIn wsX8_fits wsX8_isPower := goodIn_r _ [14, 15, 82, 83, 84, 85, 86, 87, 88, 89, 90, 91, 92, 93, 94, 95, 96, 97, 98, 99, 100, 101, 102, 103, 104, 105, 106] (by decide +kernel) (by decide +kernel)
set_option maxRecDepth 20000 in
theorem gX8_fits_X8_isPower : GoodIn wsX8_fits (wsV RX8 193 RX8 yX8_isPower wsX8_isPower) := goodIn_app (goodIn_of _ (by decide +kernel)) ggX8_fits_X8_isPower
set_option maxRecDepth 20000 in
theorem ggX8_fits_X8_refuse : GoodIn wsX8_fits wsX8_refuse := goodIn_r _ [19, 20, 82, 83, 84, 85, 86, 87, 88, 89, 90, 91, 92, 93, 94, 95, 96, 97, 98, 99, 100, 101, 102, 103, 104, 105, 106] (by decide +kernel) (by decide +kernel)
set_option maxRecDepth 20000 in
theorem gX8_fits_X8_refuse : GoodIn wsX8_fits (wsV RX8 51 RX8 yX8_refuse wsX8_refuse) := goodIn_app (goodIn_of _ (by decide +kernel)) ggX8_fits_X8_refuse
set_option maxRecDepth 20000 in
theorem ggX8_fits_X8_rightOf : GoodIn wsX8_fits wsX8_rightOf := goodIn_r _ [24, 25, 26, 27, 28, 6, 29, 30, 31, 32, 33, 34, 35, 36, 37, 38, 39, 40, 41, 42, 43, 44, 45, 46, 47, 48, 49, 1, 50, 51, 52, 53, 54, 55, 56, 57, 58, 59, 60, 61, 62, 63, 64, 65, 66, 67, 68, 69, 70, 71, 72, 73, 74, 75, 76, 77, 78, 79, 80, 81, 82, 83, 84, 85, 86, 87, 88, 89, 90, 91, 92, 93, 94, 95, 96, 97, 98, 99, 100, 101, 102, 103, 104, 105, 106] (by decide +kernel) (by decide +kernel)
set_option maxRecDepth 20000 in
theorem gX8_fits_X8_rightOf : GoodIn wsX8_fits (wsV RX8 164 RX8 yX8_rightOf wsX8_rightOf) := goodIn_app (goodIn_of _ (by decide +kernel)) ggX8_fits_X8_rightOf
theorem dX8_fits_0 : decode cX8_fits 0 = .ok (.iload_n 1, 1) := by decide +kernel
theorem dX8_fits_1 : decode cX8_fits 1 = .ok (.invokestatic 161, 3) := by decide +kernel
theorem dX8_fits_4 : decode cX8_fits 4 = .ok (.ifCond .eq 54, 3) := by decide +kernel
theorem dX8_fits_7 : decode cX8_fits 7 = .ok (.iload_n 2, 1) := by decide +kernel
theorem dX8_fits_8 : decode cX8_fits 8 = .ok (.iconst 5, 1) := by decide +kernel
theorem dX8_fits_9 : decode cX8_fits 9 = .ok (.invokestatic 80, 3) := by decide +kernel
theorem dX8_fits_12 : decode cX8_fits 12 = .ok (.ifCond .eq 46, 3) := by decide +kernel
theorem dX8_fits_15 : decode cX8_fits 15 = .ok (.aload_n 0, 1) := by decide +kernel
theorem dX8_fits_16 : decode cX8_fits 16 = .ok (.iload_n 3, 1) := by decide +kernel
theorem dX8_fits_17 : decode cX8_fits 17 = .ok (.invokevirtual 193, 3) := by decide +kernel
theorem dX8_fits_20 : decode cX8_fits 20 = .ok (.ifCond .eq 38, 3) := by decide +kernel
theorem dX8_fits_23 : decode cX8_fits 23 = .ok (.iload 4, 2) := by decide +kernel
theorem dX8_fits_25 : decode cX8_fits 25 = .ok (.iconst 1, 1) := by decide +kernel
theorem dX8_fits_26 : decode cX8_fits 26 = .ok (.aload_n 0, 1) := by decide +kernel
theorem dX8_fits_27 : decode cX8_fits 27 = .ok (.getfield 59, 3) := by decide +kernel
theorem dX8_fits_30 : decode cX8_fits 30 = .ok (.ishl, 1) := by decide +kernel
theorem dX8_fits_31 : decode cX8_fits 31 = .ok (.invokestatic 80, 3) := by decide +kernel
theorem dX8_fits_34 : decode cX8_fits 34 = .ok (.ifCond .eq 24, 3) := by decide +kernel
theorem dX8_fits_37 : decode cX8_fits 37 = .ok (.iload 5, 2) := by decide +kernel
theorem dX8_fits_39 : decode cX8_fits 39 = .ok (.iconst 1, 1) := by decide +kernel
theorem dX8_fits_40 : decode cX8_fits 40 = .ok (.aload_n 0, 1) := by decide +kernel
theorem dX8_fits_41 : decode cX8_fits 41 = .ok (.getfield 59, 3) := by decide +kernel
theorem dX8_fits_44 : decode cX8_fits 44 = .ok (.ishl, 1) := by decide +kernel
theorem dX8_fits_45 : decode cX8_fits 45 = .ok (.invokestatic 80, 3) := by decide +kernel
theorem dX8_fits_48 : decode cX8_fits 48 = .ok (.ifCond .eq 10, 3) := by decide +kernel
theorem dX8_fits_51 : decode cX8_fits 51 = .ok (.iload 4, 2) := by decide +kernel
theorem dX8_fits_53 : decode cX8_fits 53 = .ok (.iload 5, 2) := by decide +kernel
theorem dX8_fits_55 : decode cX8_fits 55 = .ok (.if_icmp .le 9, 3) := by decide +kernel
theorem dX8_fits_58 : decode cX8_fits 58 = .ok (.aload_n 0, 1) := by decide +kernel
theorem dX8_fits_59 : decode cX8_fits 59 = .ok (.iconst (-1), 1) := by decide +kernel
theorem dX8_fits_60 : decode cX8_fits 60 = .ok (.invokevirtual 51, 3) := by decide +kernel
theorem dX8_fits_63 : decode cX8_fits 63 = .ok (.ireturn, 1) := by decide +kernel
theorem dX8_fits_64 : decode cX8_fits 64 = .ok (.iload 6, 2) := by decide +kernel
theorem dX8_fits_66 : decode cX8_fits 66 = .ok (.ldc 222, 2) := by decide +kernel
theorem dX8_fits_68 : decode cX8_fits 68 = .ok (.if_icmp .lt 15, 3) := by decide +kernel
theorem dX8_fits_71 : decode cX8_fits 71 = .ok (.iload 7, 2) := by decide +kernel
theorem dX8_fits_73 : decode cX8_fits 73 = .ok (.ldc 222, 2) := by decide +kernel
theorem dX8_fits_75 : decode cX8_fits 75 = .ok (.if_icmp .lt 8, 3) := by decide +kernel
theorem dX8_fits_78 : decode cX8_fits 78 = .ok (.iload 8, 2) := by decide +kernel
theorem dX8_fits_80 : decode cX8_fits 80 = .ok (.ifCond .ge 10, 3) := by decide +kernel
theorem dX8_fits_83 : decode cX8_fits 83 = .ok (.aload_n 0, 1) := by decide +kernel
theorem dX8_fits_84 : decode cX8_fits 84 = .ok (.bipush (-4), 2) := by decide +kernel
theorem dX8_fits_86 : decode cX8_fits 86 = .ok (.invokevirtual 51, 3) := by decide +kernel
theorem dX8_fits_89 : decode cX8_fits 89 = .ok (.ireturn, 1) := by decide +kernel
theorem dX8_fits_90 : decode cX8_fits 90 = .ok (.iload 6, 2) := by decide +kernel
theorem dX8_fits_92 : decode cX8_fits 92 = .ok (.ldc 50, 2) := by decide +kernel
theorem dX8_fits_94 : decode cX8_fits 94 = .ok (.if_icmp .gt 17, 3) := by decide +kernel
theorem dX8_fits_97 : decode cX8_fits 97 = .ok (.iload 7, 2) := by decide +kernel
theorem dX8_fits_99 : decode cX8_fits 99 = .ok (.ldc 50, 2) := by decide +kernel
theorem dX8_fits_101 : decode cX8_fits 101 = .ok (.if_icmp .gt 10, 3) := by decide +kernel
theorem dX8_fits_104 : decode cX8_fits 104 = .ok (.iload 8, 2) := by decide +kernel
theorem dX8_fits_106 : decode cX8_fits 106 = .ok (.bipush 10, 2) := by decide +kernel
theorem dX8_fits_108 : decode cX8_fits 108 = .ok (.if_icmp .le 10, 3) := by decide +kernel
theorem dX8_fits_111 : decode cX8_fits 111 = .ok (.aload_n 0, 1) := by decide +kernel
theorem dX8_fits_112 : decode cX8_fits 112 = .ok (.bipush (-6), 2) := by decide +kernel
theorem dX8_fits_114 : decode cX8_fits 114 = .ok (.invokevirtual 51, 3) := by decide +kernel
theorem dX8_fits_117 : decode cX8_fits 117 = .ok (.ireturn, 1) := by decide +kernel
theorem dX8_fits_118 : decode cX8_fits 118 = .ok (.iload 4, 2) := by decide +kernel
theorem dX8_fits_120 : decode cX8_fits 120 = .ok (.istore 9, 2) := by decide +kernel
theorem dX8_fits_122 : decode cX8_fits 122 = .ok (.iload 9, 2) := by decide +kernel
theorem dX8_fits_124 : decode cX8_fits 124 = .ok (.iload 5, 2) := by decide +kernel
theorem dX8_fits_126 : decode cX8_fits 126 = .ok (.if_icmp .gt 46, 3) := by decide +kernel
theorem dX8_fits_129 : decode cX8_fits 129 = .ok (.iload 6, 2) := by decide +kernel
theorem dX8_fits_131 : decode cX8_fits 131 = .ok (.i2l, 1) := by decide +kernel
theorem dX8_fits_132 : decode cX8_fits 132 = .ok (.iload 7, 2) := by decide +kernel
theorem dX8_fits_134 : decode cX8_fits 134 = .ok (.i2l, 1) := by decide +kernel
theorem dX8_fits_135 : decode cX8_fits 135 = .ok (.iload 9, 2) := by decide +kernel
theorem dX8_fits_137 : decode cX8_fits 137 = .ok (.i2l, 1) := by decide +kernel
theorem dX8_fits_138 : decode cX8_fits 138 = .ok (.lmul, 1) := by decide +kernel
theorem dX8_fits_139 : decode cX8_fits 139 = .ok (.ladd, 1) := by decide +kernel
theorem dX8_fits_140 : decode cX8_fits 140 = .ok (.iload 8, 2) := by decide +kernel
theorem dX8_fits_142 : decode cX8_fits 142 = .ok (.lshr, 1) := by decide +kernel
theorem dX8_fits_143 : decode cX8_fits 143 = .ok (.aload_n 0, 1) := by decide +kernel
theorem dX8_fits_144 : decode cX8_fits 144 = .ok (.iload_n 1, 1) := by decide +kernel
theorem dX8_fits_145 : decode cX8_fits 145 = .ok (.iload_n 3, 1) := by decide +kernel
theorem dX8_fits_146 : decode cX8_fits 146 = .ok (.aload_n 0, 1) := by decide +kernel
theorem dX8_fits_147 : decode cX8_fits 147 = .ok (.getfield 59, 3) := by decide +kernel
theorem dX8_fits_150 : decode cX8_fits 150 = .ok (.ishl, 1) := by decide +kernel
theorem dX8_fits_151 : decode cX8_fits 151 = .ok (.iload 9, 2) := by decide +kernel
theorem dX8_fits_153 : decode cX8_fits 153 = .ok (.iadd, 1) := by decide +kernel
theorem dX8_fits_154 : decode cX8_fits 154 = .ok (.iload_n 2, 1) := by decide +kernel
theorem dX8_fits_155 : decode cX8_fits 155 = .ok (.invokevirtual 164, 3) := by decide +kernel
theorem dX8_fits_158 : decode cX8_fits 158 = .ok (.i2l, 1) := by decide +kernel
theorem dX8_fits_159 : decode cX8_fits 159 = .ok (.lcmp, 1) := by decide +kernel
theorem dX8_fits_160 : decode cX8_fits 160 = .ok (.ifCond .eq 6, 3) := by decide +kernel
theorem dX8_fits_163 : decode cX8_fits 163 = .ok (.iload 9, 2) := by decide +kernel
theorem dX8_fits_165 : decode cX8_fits 165 = .ok (.ireturn, 1) := by decide +kernel
theorem dX8_fits_166 : decode cX8_fits 166 = .ok (.iinc 9 1, 3) := by decide +kernel
theorem dX8_fits_169 : decode cX8_fits 169 = .ok (.goto (-47), 3) := by decide +kernel
theorem dX8_fits_172 : decode cX8_fits 172 = .ok (.bipush (-9), 2) := by decide +kernel
theorem dX8_fits_174 : decode cX8_fits 174 = .ok (.ireturn, 1) := by decide +kernel
theorem dX8_status_0 : decode cX8_status 0 = .ok (.iload_n 1, 1) := by decide +kernel
theorem dX8_status_1 : decode cX8_status 1 = .ok (.bipush 10, 2) := by decide +kernel
theorem dX8_status_3 : decode cX8_status 3 = .ok (.if_icmp .le 19, 3) := by decide +kernel
theorem dX8_status_6 : decode cX8_status 6 = .ok (.iload_n 1, 1) := by decide +kernel
theorem dX8_status_7 : decode cX8_status 7 = .ok (.bipush 17, 2) := by decide +kernel
theorem dX8_status_9 : decode cX8_status 9 = .ok (.if_icmp .ge 13, 3) := by decide +kernel
theorem dX8_status_12 : decode cX8_status 12 = .ok (.aload_n 0, 1) := by decide +kernel
theorem dX8_status_13 : decode cX8_status 13 = .ok (.getfield 7, 3) := by decide +kernel
theorem dX8_status_16 : decode cX8_status 16 = .ok (.iload_n 1, 1) := by decide +kernel
theorem dX8_status_17 : decode cX8_status 17 = .ok (.bipush 10, 2) := by decide +kernel
theorem dX8_status_19 : decode cX8_status 19 = .ok (.isub, 1) := by decide +kernel
theorem dX8_status_20 : decode cX8_status 20 = .ok (.iaload, 1) := by decide +kernel
theorem dX8_status_21 : decode cX8_status 21 = .ok (.ireturn, 1) := by decide +kernel
theorem dX8_status_22 : decode cX8_status 22 = .ok (.iload_n 1, 1) := by decide +kernel
theorem dX8_status_23 : decode cX8_status 23 = .ok (.tableswitch 70 0 4 #[33, 38, 43, 48, 61], 33) := by decide +kernel
theorem dX8_status_56 : decode cX8_status 56 = .ok (.aload_n 0, 1) := by decide +kernel
theorem dX8_status_57 : decode cX8_status 57 = .ok (.getfield 55, 3) := by decide +kernel
theorem dX8_status_60 : decode cX8_status 60 = .ok (.ireturn, 1) := by decide +kernel
theorem dX8_status_61 : decode cX8_status 61 = .ok (.aload_n 0, 1) := by decide +kernel
theorem dX8_status_62 : decode cX8_status 62 = .ok (.getfield 59, 3) := by decide +kernel
theorem dX8_status_65 : decode cX8_status 65 = .ok (.ireturn, 1) := by decide +kernel
theorem dX8_status_66 : decode cX8_status 66 = .ok (.aload_n 0, 1) := by decide +kernel
theorem dX8_status_67 : decode cX8_status 67 = .ok (.getfield 62, 3) := by decide +kernel
theorem dX8_status_70 : decode cX8_status 70 = .ok (.ireturn, 1) := by decide +kernel
theorem dX8_status_71 : decode cX8_status 71 = .ok (.aload_n 0, 1) := by decide +kernel
theorem dX8_status_72 : decode cX8_status 72 = .ok (.getfield 74, 3) := by decide +kernel
theorem dX8_status_75 : decode cX8_status 75 = .ok (.ifCond .ge 7, 3) := by decide +kernel
theorem dX8_status_78 : decode cX8_status 78 = .ok (.iconst 0, 1) := by decide +kernel
theorem dX8_status_79 : decode cX8_status 79 = .ok (.goto 4, 3) := by decide +kernel
theorem dX8_status_82 : decode cX8_status 82 = .ok (.iconst 1, 1) := by decide +kernel
theorem dX8_status_83 : decode cX8_status 83 = .ok (.ireturn, 1) := by decide +kernel
theorem dX8_status_84 : decode cX8_status 84 = .ok (.iconst 0, 1) := by decide +kernel
theorem dX8_status_85 : decode cX8_status 85 = .ok (.aload_n 0, 1) := by decide +kernel
theorem dX8_status_86 : decode cX8_status 86 = .ok (.getfield 74, 3) := by decide +kernel
theorem dX8_status_89 : decode cX8_status 89 = .ok (.invokestatic 181, 3) := by decide +kernel
theorem dX8_status_92 : decode cX8_status 92 = .ok (.ireturn, 1) := by decide +kernel
theorem dX8_status_93 : decode cX8_status 93 = .ok (.bipush (-9), 2) := by decide +kernel
theorem dX8_status_95 : decode cX8_status 95 = .ok (.ireturn, 1) := by decide +kernel
