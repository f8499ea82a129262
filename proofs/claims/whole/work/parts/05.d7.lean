set_option maxRecDepth 20000 in
theorem ggX7_init_X1_init : GoodIn wsX7_init wsX1_init := goodIn_r _ [32, 33, 2, 3, 34, 35, 36, 6, 37, 38, 39, 40, 41, 42, 43, 86, 87, 88, 89, 90, 91] (by decide +kernel) (by decide +kernel)
set_option maxRecDepth 20000 in
theorem gX7_init_X1_init : GoodIn wsX7_init (wsX1_init) := ggX7_init_X1_init
set_option maxRecDepth 20000 in
theorem ggX7_init_X3_init : GoodIn wsX7_init wsX3_init := goodIn_r _ [46, 47, 2, 3, 48, 99, 100, 101, 102, 103] (by decide +kernel) (by decide +kernel)
set_option maxRecDepth 20000 in
theorem gX7_init_X3_init : GoodIn wsX7_init (wsX3_init) := ggX7_init_X3_init
set_option maxRecDepth 20000 in
theorem ggX7_init_X6_init : GoodIn wsX7_init wsX6_init := goodIn_r _ [51, 52, 2, 3, 53, 54, 9, 10, 55, 56, 45, 46, 47, 48, 104, 105, 106, 107, 108, 109, 110, 111, 112, 99, 100, 101, 102, 103] (by decide +kernel) (by decide +kernel)
set_option maxRecDepth 20000 in
theorem gX7_init_X6_init : GoodIn wsX7_init (wsX6_init) := ggX7_init_X6_init
set_option maxRecDepth 20000 in
theorem ggX7_init_X0_init : GoodIn wsX7_init wsX0_init := goodIn_r _ [59, 60, 2, 3, 61, 62, 28, 63, 64, 65, 66, 67, 113, 114, 115, 116, 117, 118, 119] (by decide +kernel) (by decide +kernel)
set_option maxRecDepth 20000 in
theorem gX7_init_X0_init : GoodIn wsX7_init (wsX0_init) := ggX7_init_X0_init
set_option maxRecDepth 20000 in
theorem ggX7_init_X5_init : GoodIn wsX7_init wsX5_init := goodIn_r _ [70, 71, 2, 3, 72, 73, 28, 74, 75, 120, 121, 122, 123] (by decide +kernel) (by decide +kernel)
set_option maxRecDepth 20000 in
theorem gX7_init_X5_init : GoodIn wsX7_init (wsX5_init) := ggX7_init_X5_init
set_option maxRecDepth 20000 in
theorem ggX7_init_X2_init : GoodIn wsX7_init wsX2_init := goodIn_r _ [78, 79, 2, 3, 80, 81, 28, 82, 83, 84, 85, 124, 125, 126, 127, 128, 129, 130, 131, 132, 133] (by decide +kernel) (by decide +kernel)
set_option maxRecDepth 20000 in
theorem gX7_init_X2_init : GoodIn wsX7_init (wsX2_init) := ggX7_init_X2_init
theorem dX7_init_0 : decode cX7_init 0 = .ok (.aload_n 0, 1) := by decide +kernel
theorem dX7_init_1 : decode cX7_init 1 = .ok (.invokespecial 3, 3) := by decide +kernel
theorem dX7_init_4 : decode cX7_init 4 = .ok (.aload_n 0, 1) := by decide +kernel
theorem dX7_init_5 : decode cX7_init 5 = .ok (.new 9, 3) := by decide +kernel
theorem dX7_init_8 : decode cX7_init 8 = .ok (.dup, 1) := by decide +kernel
theorem dX7_init_9 : decode cX7_init 9 = .ok (.invokespecial 11, 3) := by decide +kernel
theorem dX7_init_12 : decode cX7_init 12 = .ok (.putfield 12, 3) := by decide +kernel
theorem dX7_init_15 : decode cX7_init 15 = .ok (.aload_n 0, 1) := by decide +kernel
theorem dX7_init_16 : decode cX7_init 16 = .ok (.new 16, 3) := by decide +kernel
theorem dX7_init_19 : decode cX7_init 19 = .ok (.dup, 1) := by decide +kernel
theorem dX7_init_20 : decode cX7_init 20 = .ok (.aload_n 0, 1) := by decide +kernel
theorem dX7_init_21 : decode cX7_init 21 = .ok (.getfield 12, 3) := by decide +kernel
theorem dX7_init_24 : decode cX7_init 24 = .ok (.invokespecial 18, 3) := by decide +kernel
theorem dX7_init_27 : decode cX7_init 27 = .ok (.putfield 21, 3) := by decide +kernel
theorem dX7_init_30 : decode cX7_init 30 = .ok (.aload_n 0, 1) := by decide +kernel
theorem dX7_init_31 : decode cX7_init 31 = .ok (.new 25, 3) := by decide +kernel
theorem dX7_init_34 : decode cX7_init 34 = .ok (.dup, 1) := by decide +kernel
theorem dX7_init_35 : decode cX7_init 35 = .ok (.aload_n 0, 1) := by decide +kernel
theorem dX7_init_36 : decode cX7_init 36 = .ok (.getfield 12, 3) := by decide +kernel
theorem dX7_init_39 : decode cX7_init 39 = .ok (.invokespecial 27, 3) := by decide +kernel
theorem dX7_init_42 : decode cX7_init 42 = .ok (.putfield 28, 3) := by decide +kernel
theorem dX7_init_45 : decode cX7_init 45 = .ok (.aload_n 0, 1) := by decide +kernel
theorem dX7_init_46 : decode cX7_init 46 = .ok (.new 32, 3) := by decide +kernel
theorem dX7_init_49 : decode cX7_init 49 = .ok (.dup, 1) := by decide +kernel
theorem dX7_init_50 : decode cX7_init 50 = .ok (.aload_n 0, 1) := by decide +kernel
theorem dX7_init_51 : decode cX7_init 51 = .ok (.getfield 12, 3) := by decide +kernel
theorem dX7_init_54 : decode cX7_init 54 = .ok (.aload_n 0, 1) := by decide +kernel
theorem dX7_init_55 : decode cX7_init 55 = .ok (.getfield 28, 3) := by decide +kernel
theorem dX7_init_58 : decode cX7_init 58 = .ok (.invokespecial 34, 3) := by decide +kernel
theorem dX7_init_61 : decode cX7_init 61 = .ok (.putfield 37, 3) := by decide +kernel
theorem dX7_init_64 : decode cX7_init 64 = .ok (.aload_n 0, 1) := by decide +kernel
theorem dX7_init_65 : decode cX7_init 65 = .ok (.new 41, 3) := by decide +kernel
theorem dX7_init_68 : decode cX7_init 68 = .ok (.dup, 1) := by decide +kernel
theorem dX7_init_69 : decode cX7_init 69 = .ok (.aload_n 0, 1) := by decide +kernel
theorem dX7_init_70 : decode cX7_init 70 = .ok (.getfield 12, 3) := by decide +kernel
theorem dX7_init_73 : decode cX7_init 73 = .ok (.aload_n 0, 1) := by decide +kernel
theorem dX7_init_74 : decode cX7_init 74 = .ok (.getfield 28, 3) := by decide +kernel
theorem dX7_init_77 : decode cX7_init 77 = .ok (.invokespecial 43, 3) := by decide +kernel
theorem dX7_init_80 : decode cX7_init 80 = .ok (.putfield 44, 3) := by decide +kernel
theorem dX7_init_83 : decode cX7_init 83 = .ok (.aload_n 0, 1) := by decide +kernel
theorem dX7_init_84 : decode cX7_init 84 = .ok (.new 48, 3) := by decide +kernel
theorem dX7_init_87 : decode cX7_init 87 = .ok (.dup, 1) := by decide +kernel
theorem dX7_init_88 : decode cX7_init 88 = .ok (.aload_n 0, 1) := by decide +kernel
theorem dX7_init_89 : decode cX7_init 89 = .ok (.getfield 12, 3) := by decide +kernel
theorem dX7_init_92 : decode cX7_init 92 = .ok (.aload_n 0, 1) := by decide +kernel
theorem dX7_init_93 : decode cX7_init 93 = .ok (.getfield 28, 3) := by decide +kernel
theorem dX7_init_96 : decode cX7_init 96 = .ok (.invokespecial 50, 3) := by decide +kernel
theorem dX7_init_99 : decode cX7_init 99 = .ok (.putfield 51, 3) := by decide +kernel
theorem dX7_init_102 : decode cX7_init 102 = .ok (.aload_n 0, 1) := by decide +kernel
theorem dX7_init_103 : decode cX7_init 103 = .ok (.bipush 7, 2) := by decide +kernel
theorem dX7_init_105 : decode cX7_init 105 = .ok (.newarray .int, 2) := by decide +kernel
theorem dX7_init_107 : decode cX7_init 107 = .ok (.putfield 55, 3) := by decide +kernel
theorem dX7_init_110 : decode cX7_init 110 = .ok (.return_, 1) := by decide +kernel
set_option maxRecDepth 20000 in
theorem ggX7_make_X7_refuse : GoodIn wsX7_make wsX7_refuse := goodIn_r _ [9, 10, 11, 12, 13, 14, 15, 16, 17, 18, 19, 20, 60, 61, 62, 63, 64, 65, 66] (by decide +kernel) (by decide +kernel)
set_option maxRecDepth 20000 in
theorem gX7_make_X7_refuse : GoodIn wsX7_make (wsV RX7 59 RX7 yX7_refuse wsX7_refuse) := goodIn_app (goodIn_of _ (by decide +kernel)) ggX7_make_X7_refuse
set_option maxRecDepth 20000 in
theorem ggX7_make_X1_become : GoodIn wsX7_make wsX1_become := goodIn_r _ [25, 26, 27, 28, 29, 30, 31, 67, 68, 69, 70, 71, 72] (by decide +kernel) (by decide +kernel)
set_option maxRecDepth 20000 in
theorem gX7_make_X1_become : GoodIn wsX7_make (wsV RX7 70 RX1 yX1_become wsX1_become) := goodIn_app (goodIn_of _ (by decide +kernel)) ggX7_make_X1_become
set_option maxRecDepth 20000 in
theorem ggX7_make_X0_forget : GoodIn wsX7_make wsX0_forget := goodIn_r _ [36, 37, 38, 39, 40, 41, 42, 43, 44, 45, 73, 74, 75, 76, 77, 78, 79] (by decide +kernel) (by decide +kernel)
set_option maxRecDepth 20000 in
theorem gX7_make_X0_forget : GoodIn wsX7_make (wsV RX7 74 RX0 yX0_forget wsX0_forget) := goodIn_app (goodIn_of _ (by decide +kernel)) ggX7_make_X0_forget
set_option maxRecDepth 20000 in
theorem ggX7_make_X5_forget : GoodIn wsX7_make wsX5_forget := goodIn_r _ [50, 51, 52, 53, 43, 44, 45, 80, 81, 82, 83] (by decide +kernel) (by decide +kernel)
set_option maxRecDepth 20000 in
theorem gX7_make_X5_forget : GoodIn wsX7_make (wsV RX7 77 RX5 yX5_forget wsX5_forget) := goodIn_app (goodIn_of _ (by decide +kernel)) ggX7_make_X5_forget
set_option maxRecDepth 20000 in
theorem ggX7_make_X2_forget : GoodIn wsX7_make wsX2_forget := goodIn_r _ [58, 59, 84, 85, 86, 87, 88, 89, 90, 91, 92, 93] (by decide +kernel) (by decide +kernel)
set_option maxRecDepth 20000 in
theorem gX7_make_X2_forget : GoodIn wsX7_make (wsV RX7 78 RX2 yX2_forget wsX2_forget) := goodIn_app (goodIn_of _ (by decide +kernel)) ggX7_make_X2_forget
theorem dX7_make_0 : decode cX7_make 0 = .ok (.iload_n 1, 1) := by decide +kernel
theorem dX7_make_1 : decode cX7_make 1 = .ok (.iconst 2, 1) := by decide +kernel
theorem dX7_make_2 : decode cX7_make 2 = .ok (.if_icmp .lt 8, 3) := by decide +kernel
theorem dX7_make_5 : decode cX7_make 5 = .ok (.iload_n 2, 1) := by decide +kernel
theorem dX7_make_6 : decode cX7_make 6 = .ok (.iconst 1, 1) := by decide +kernel
theorem dX7_make_7 : decode cX7_make 7 = .ok (.if_icmp .ge 10, 3) := by decide +kernel
theorem dX7_make_10 : decode cX7_make 10 = .ok (.aload_n 0, 1) := by decide +kernel
theorem dX7_make_11 : decode cX7_make 11 = .ok (.bipush (-4), 2) := by decide +kernel
theorem dX7_make_13 : decode cX7_make 13 = .ok (.invokevirtual 59, 3) := by decide +kernel
theorem dX7_make_16 : decode cX7_make 16 = .ok (.ireturn, 1) := by decide +kernel
theorem dX7_make_17 : decode cX7_make 17 = .ok (.iload_n 1, 1) := by decide +kernel
theorem dX7_make_18 : decode cX7_make 18 = .ok (.iconst 5, 1) := by decide +kernel
theorem dX7_make_19 : decode cX7_make 19 = .ok (.if_icmp .gt 9, 3) := by decide +kernel
theorem dX7_make_22 : decode cX7_make 22 = .ok (.iload_n 2, 1) := by decide +kernel
theorem dX7_make_23 : decode cX7_make 23 = .ok (.bipush 8, 2) := by decide +kernel
theorem dX7_make_25 : decode cX7_make 25 = .ok (.if_icmp .le 10, 3) := by decide +kernel
theorem dX7_make_28 : decode cX7_make 28 = .ok (.aload_n 0, 1) := by decide +kernel
theorem dX7_make_29 : decode cX7_make 29 = .ok (.bipush (-6), 2) := by decide +kernel
theorem dX7_make_31 : decode cX7_make 31 = .ok (.invokevirtual 59, 3) := by decide +kernel
theorem dX7_make_34 : decode cX7_make 34 = .ok (.ireturn, 1) := by decide +kernel
theorem dX7_make_35 : decode cX7_make 35 = .ok (.iload_n 1, 1) := by decide +kernel
theorem dX7_make_36 : decode cX7_make 36 = .ok (.aload_n 0, 1) := by decide +kernel
theorem dX7_make_37 : decode cX7_make 37 = .ok (.getfield 12, 3) := by decide +kernel
theorem dX7_make_40 : decode cX7_make 40 = .ok (.getfield 63, 3) := by decide +kernel
theorem dX7_make_43 : decode cX7_make 43 = .ok (.if_icmp .ne 14, 3) := by decide +kernel
theorem dX7_make_46 : decode cX7_make 46 = .ok (.iload_n 2, 1) := by decide +kernel
theorem dX7_make_47 : decode cX7_make 47 = .ok (.aload_n 0, 1) := by decide +kernel
theorem dX7_make_48 : decode cX7_make 48 = .ok (.getfield 12, 3) := by decide +kernel
theorem dX7_make_51 : decode cX7_make 51 = .ok (.getfield 67, 3) := by decide +kernel
theorem dX7_make_54 : decode cX7_make 54 = .ok (.if_icmp .eq 26, 3) := by decide +kernel
theorem dX7_make_57 : decode cX7_make 57 = .ok (.aload_n 0, 1) := by decide +kernel
theorem dX7_make_58 : decode cX7_make 58 = .ok (.getfield 12, 3) := by decide +kernel
theorem dX7_make_61 : decode cX7_make 61 = .ok (.iload_n 1, 1) := by decide +kernel
theorem dX7_make_62 : decode cX7_make 62 = .ok (.iload_n 2, 1) := by decide +kernel
theorem dX7_make_63 : decode cX7_make 63 = .ok (.invokevirtual 70, 3) := by decide +kernel
theorem dX7_make_66 : decode cX7_make 66 = .ok (.aload_n 0, 1) := by decide +kernel
theorem dX7_make_67 : decode cX7_make 67 = .ok (.getfield 37, 3) := by decide +kernel
theorem dX7_make_70 : decode cX7_make 70 = .ok (.invokevirtual 74, 3) := by decide +kernel
theorem dX7_make_73 : decode cX7_make 73 = .ok (.aload_n 0, 1) := by decide +kernel
theorem dX7_make_74 : decode cX7_make 74 = .ok (.getfield 44, 3) := by decide +kernel
theorem dX7_make_77 : decode cX7_make 77 = .ok (.invokevirtual 77, 3) := by decide +kernel
theorem dX7_make_80 : decode cX7_make 80 = .ok (.aload_n 0, 1) := by decide +kernel
theorem dX7_make_81 : decode cX7_make 81 = .ok (.getfield 51, 3) := by decide +kernel
theorem dX7_make_84 : decode cX7_make 84 = .ok (.invokevirtual 78, 3) := by decide +kernel
theorem dX7_make_87 : decode cX7_make 87 = .ok (.aload_n 0, 1) := by decide +kernel
theorem dX7_make_88 : decode cX7_make 88 = .ok (.getfield 12, 3) := by decide +kernel
theorem dX7_make_91 : decode cX7_make 91 = .ok (.getfield 79, 3) := by decide +kernel
theorem dX7_make_94 : decode cX7_make 94 = .ok (.ireturn, 1) := by decide +kernel
set_option maxRecDepth 20000 in
theorem ggX7_about_X1_isCode : GoodIn wsX7_about wsX1_isCode := goodIn_r _ [6, 7, 104, 105, 106, 107, 108, 109] (by decide +kernel) (by decide +kernel)
set_option maxRecDepth 20000 in
theorem gX7_about_X1_isCode : GoodIn wsX7_about (wsV RX7 82 RX1 yX1_isCode wsX1_isCode) := goodIn_app (goodIn_of _ (by decide +kernel)) ggX7_about_X1_isCode
set_option maxRecDepth 20000 in
theorem ggX7_about_X7_refuseAsTold : GoodIn wsX7_about wsX7_refuseAsTold := goodIn_r _ [12, 13, 14, 15, 16, 11, 17, 18, 19, 20, 21, 22, 23, 24, 25, 26, 27, 28, 97, 98, 99, 100, 101, 102, 103] (by decide +kernel) (by decide +kernel)
set_option maxRecDepth 20000 in
theorem gX7_about_X7_refuseAsTold : GoodIn wsX7_about (wsV RX7 86 RX7 yX7_refuseAsTold wsX7_refuseAsTold) := goodIn_app (goodIn_of _ (by decide +kernel)) ggX7_about_X7_refuseAsTold
set_option maxRecDepth 20000 in
theorem ggX7_about_X1_isPlain : GoodIn wsX7_about wsX1_isPlain := goodIn_r _ [32, 33, 34, 35, 36, 5, 37, 38, 104, 105, 106, 107, 108, 109] (by decide +kernel) (by decide +kernel)
set_option maxRecDepth 20000 in
theorem gX7_about_X1_isPlain : GoodIn wsX7_about (wsV RX7 89 RX1 yX1_isPlain wsX1_isPlain) := goodIn_app (goodIn_of _ (by decide +kernel)) ggX7_about_X1_isPlain
set_option maxRecDepth 20000 in
theorem ggX7_about_X1_kindOf : GoodIn wsX7_about wsX1_kindOf := goodIn_r _ [42, 43, 30, 31, 5, 32, 33, 34, 35, 36, 37, 38, 44, 45, 46, 47, 48, 49, 50, 51, 104, 105, 106, 107, 108, 109] (by decide +kernel) (by decide +kernel)
set_option maxRecDepth 20000 in
theorem gX7_about_X1_kindOf : GoodIn wsX7_about (wsV RX7 92 RX1 yX1_kindOf wsX1_kindOf) := goodIn_app (goodIn_of _ (by decide +kernel)) ggX7_about_X1_kindOf
set_option maxRecDepth 20000 in
theorem ggX7_about_X1_isBelow : GoodIn wsX7_about wsX1_isBelow := goodIn_r _ [55, 38, 104, 105, 106, 107, 108, 109] (by decide +kernel) (by decide +kernel)
set_option maxRecDepth 20000 in
theorem gX7_about_X1_isBelow : GoodIn wsX7_about (wsV RX7 95 RX1 yX1_isBelow wsX1_isBelow) := goodIn_app (goodIn_of _ (by decide +kernel)) ggX7_about_X1_isBelow
set_option maxRecDepth 20000 in
theorem ggX7_about_X1_powerBits : GoodIn wsX7_about wsX1_powerBits := goodIn_r _ [59, 60, 34, 35, 36, 5, 37, 38, 104, 105, 106, 107, 108, 109] (by decide +kernel) (by decide +kernel)
set_option maxRecDepth 20000 in
theorem gX7_about_X1_powerBits : GoodIn wsX7_about (wsV RX7 98 RX1 yX1_powerBits wsX1_powerBits) := goodIn_app (goodIn_of _ (by decide +kernel)) ggX7_about_X1_powerBits
set_option maxRecDepth 20000 in
theorem ggX7_about_X1_figureBits : GoodIn wsX7_about wsX1_figureBits := goodIn_r _ [64, 65, 66, 67, 5, 68, 60, 104, 105, 106, 107, 108, 109] (by decide +kernel) (by decide +kernel)
set_option maxRecDepth 20000 in
theorem gX7_about_X1_figureBits : GoodIn wsX7_about (wsV RX7 101 RX1 yX1_figureBits wsX1_figureBits) := goodIn_app (goodIn_of _ (by decide +kernel)) ggX7_about_X1_figureBits
set_option maxRecDepth 20000 in
theorem ggX7_about_X1_oddFactor : GoodIn wsX7_about wsX1_oddFactor := goodIn_r _ [72, 73, 74, 75, 5, 76, 77, 57, 58, 59, 60, 34, 35, 36, 37, 38, 78, 62, 63, 64, 65, 66, 67, 68, 79, 80, 81, 82, 83, 104, 105, 106, 107, 108, 109] (by decide +kernel) (by decide +kernel)
set_option maxRecDepth 20000 in
theorem gX7_about_X1_oddFactor : GoodIn wsX7_about (wsV RX7 104 RX1 yX1_oddFactor wsX1_oddFactor) := goodIn_app (goodIn_of _ (by decide +kernel)) ggX7_about_X1_oddFactor
set_option maxRecDepth 20000 in
theorem ggX7_about_X1_powerOfOddFactor : GoodIn wsX7_about wsX1_powerOfOddFactor := goodIn_r _ [87, 73, 74, 75, 5, 76, 77, 57, 58, 59, 60, 34, 35, 36, 37, 38, 78, 62, 63, 64, 65, 66, 67, 68, 88, 89, 90, 91, 92, 93, 94, 95, 96, 79, 80, 81, 82, 83, 104, 105, 106, 107, 108, 109] (by decide +kernel) (by decide +kernel)
set_option maxRecDepth 20000 in
theorem gX7_about_X1_powerOfOddFactor : GoodIn wsX7_about (wsV RX7 107 RX1 yX1_powerOfOddFactor wsX1_powerOfOddFactor) := goodIn_app (goodIn_of _ (by decide +kernel)) ggX7_about_X1_powerOfOddFactor
theorem dX7_about_0 : decode cX7_about 0 = .ok (.aload_n 0, 1) := by decide +kernel
theorem dX7_about_1 : decode cX7_about 1 = .ok (.getfield 12, 3) := by decide +kernel
theorem dX7_about_4 : decode cX7_about 4 = .ok (.iload_n 1, 1) := by decide +kernel
theorem dX7_about_5 : decode cX7_about 5 = .ok (.invokevirtual 82, 3) := by decide +kernel
theorem dX7_about_8 : decode cX7_about 8 = .ok (.ifCond .ne 9, 3) := by decide +kernel
theorem dX7_about_11 : decode cX7_about 11 = .ok (.aload_n 0, 1) := by decide +kernel
theorem dX7_about_12 : decode cX7_about 12 = .ok (.iconst (-1), 1) := by decide +kernel
theorem dX7_about_13 : decode cX7_about 13 = .ok (.invokevirtual 86, 3) := by decide +kernel
theorem dX7_about_16 : decode cX7_about 16 = .ok (.ireturn, 1) := by decide +kernel
theorem dX7_about_17 : decode cX7_about 17 = .ok (.iload_n 2, 1) := by decide +kernel
theorem dX7_about_18 : decode cX7_about 18 = .ok (.ifCond .lt 8, 3) := by decide +kernel
theorem dX7_about_21 : decode cX7_about 21 = .ok (.iload_n 2, 1) := by decide +kernel
theorem dX7_about_22 : decode cX7_about 22 = .ok (.iconst 5, 1) := by decide +kernel
theorem dX7_about_23 : decode cX7_about 23 = .ok (.if_icmp .le 10, 3) := by decide +kernel
theorem dX7_about_26 : decode cX7_about 26 = .ok (.aload_n 0, 1) := by decide +kernel
theorem dX7_about_27 : decode cX7_about 27 = .ok (.bipush (-2), 2) := by decide +kernel
theorem dX7_about_29 : decode cX7_about 29 = .ok (.invokevirtual 86, 3) := by decide +kernel
theorem dX7_about_32 : decode cX7_about 32 = .ok (.ireturn, 1) := by decide +kernel
theorem dX7_about_33 : decode cX7_about 33 = .ok (.iload_n 2, 1) := by decide +kernel
theorem dX7_about_34 : decode cX7_about 34 = .ok (.iconst 4, 1) := by decide +kernel
theorem dX7_about_35 : decode cX7_about 35 = .ok (.if_icmp .lt 21, 3) := by decide +kernel
theorem dX7_about_38 : decode cX7_about 38 = .ok (.aload_n 0, 1) := by decide +kernel
theorem dX7_about_39 : decode cX7_about 39 = .ok (.getfield 12, 3) := by decide +kernel
theorem dX7_about_42 : decode cX7_about 42 = .ok (.iload_n 1, 1) := by decide +kernel
theorem dX7_about_43 : decode cX7_about 43 = .ok (.invokevirtual 89, 3) := by decide +kernel
theorem dX7_about_46 : decode cX7_about 46 = .ok (.ifCond .ne 10, 3) := by decide +kernel
theorem dX7_about_49 : decode cX7_about 49 = .ok (.aload_n 0, 1) := by decide +kernel
theorem dX7_about_50 : decode cX7_about 50 = .ok (.bipush (-3), 2) := by decide +kernel
theorem dX7_about_52 : decode cX7_about 52 = .ok (.invokevirtual 86, 3) := by decide +kernel
theorem dX7_about_55 : decode cX7_about 55 = .ok (.ireturn, 1) := by decide +kernel
theorem dX7_about_56 : decode cX7_about 56 = .ok (.iload_n 2, 1) := by decide +kernel
theorem dX7_about_57 : decode cX7_about 57 = .ok (.tableswitch 88 0 4 #[35, 44, 61, 70, 79], 35) := by decide +kernel
theorem dX7_about_92 : decode cX7_about 92 = .ok (.aload_n 0, 1) := by decide +kernel
theorem dX7_about_93 : decode cX7_about 93 = .ok (.getfield 12, 3) := by decide +kernel
theorem dX7_about_96 : decode cX7_about 96 = .ok (.iload_n 1, 1) := by decide +kernel
theorem dX7_about_97 : decode cX7_about 97 = .ok (.invokevirtual 92, 3) := by decide +kernel
theorem dX7_about_100 : decode cX7_about 100 = .ok (.ireturn, 1) := by decide +kernel
theorem dX7_about_101 : decode cX7_about 101 = .ok (.aload_n 0, 1) := by decide +kernel
theorem dX7_about_102 : decode cX7_about 102 = .ok (.getfield 12, 3) := by decide +kernel
theorem dX7_about_105 : decode cX7_about 105 = .ok (.iload_n 1, 1) := by decide +kernel
theorem dX7_about_106 : decode cX7_about 106 = .ok (.invokevirtual 95, 3) := by decide +kernel
theorem dX7_about_109 : decode cX7_about 109 = .ok (.ifCond .eq 7, 3) := by decide +kernel
theorem dX7_about_112 : decode cX7_about 112 = .ok (.iconst 1, 1) := by decide +kernel
theorem dX7_about_113 : decode cX7_about 113 = .ok (.goto 4, 3) := by decide +kernel
theorem dX7_about_116 : decode cX7_about 116 = .ok (.iconst 0, 1) := by decide +kernel
theorem dX7_about_117 : decode cX7_about 117 = .ok (.ireturn, 1) := by decide +kernel
theorem dX7_about_118 : decode cX7_about 118 = .ok (.aload_n 0, 1) := by decide +kernel
theorem dX7_about_119 : decode cX7_about 119 = .ok (.getfield 12, 3) := by decide +kernel
theorem dX7_about_122 : decode cX7_about 122 = .ok (.iload_n 1, 1) := by decide +kernel
theorem dX7_about_123 : decode cX7_about 123 = .ok (.invokevirtual 98, 3) := by decide +kernel
theorem dX7_about_126 : decode cX7_about 126 = .ok (.ireturn, 1) := by decide +kernel
theorem dX7_about_127 : decode cX7_about 127 = .ok (.aload_n 0, 1) := by decide +kernel
theorem dX7_about_128 : decode cX7_about 128 = .ok (.getfield 12, 3) := by decide +kernel
theorem dX7_about_131 : decode cX7_about 131 = .ok (.iload_n 1, 1) := by decide +kernel
theorem dX7_about_132 : decode cX7_about 132 = .ok (.invokevirtual 101, 3) := by decide +kernel
theorem dX7_about_135 : decode cX7_about 135 = .ok (.ireturn, 1) := by decide +kernel
theorem dX7_about_136 : decode cX7_about 136 = .ok (.aload_n 0, 1) := by decide +kernel
theorem dX7_about_137 : decode cX7_about 137 = .ok (.getfield 12, 3) := by decide +kernel
theorem dX7_about_140 : decode cX7_about 140 = .ok (.iload_n 1, 1) := by decide +kernel
theorem dX7_about_141 : decode cX7_about 141 = .ok (.invokevirtual 104, 3) := by decide +kernel
theorem dX7_about_144 : decode cX7_about 144 = .ok (.ireturn, 1) := by decide +kernel
theorem dX7_about_145 : decode cX7_about 145 = .ok (.aload_n 0, 1) := by decide +kernel
theorem dX7_about_146 : decode cX7_about 146 = .ok (.getfield 12, 3) := by decide +kernel
theorem dX7_about_149 : decode cX7_about 149 = .ok (.iload_n 1, 1) := by decide +kernel
theorem dX7_about_150 : decode cX7_about 150 = .ok (.invokevirtual 107, 3) := by decide +kernel
theorem dX7_about_153 : decode cX7_about 153 = .ok (.ireturn, 1) := by decide +kernel
set_option maxRecDepth 20000 in
theorem ggX7_next_X1_isCode : GoodIn wsX7_next wsX1_isCode := goodIn_r _ [6, 7, 53, 54, 55, 56, 57, 58] (by decide +kernel) (by decide +kernel)
set_option maxRecDepth 20000 in
theorem gX7_next_X1_isCode : GoodIn wsX7_next (wsV RX7 82 RX1 yX1_isCode wsX1_isCode) := goodIn_app (goodIn_of _ (by decide +kernel)) ggX7_next_X1_isCode
set_option maxRecDepth 20000 in
theorem ggX7_next_X7_refuse : GoodIn wsX7_next wsX7_refuse := goodIn_r _ [12, 13, 14, 15, 16, 17, 18, 19, 20, 21, 22, 23, 46, 47, 48, 49, 50, 51, 52] (by decide +kernel) (by decide +kernel)
set_option maxRecDepth 20000 in
theorem gX7_next_X7_refuse : GoodIn wsX7_next (wsV RX7 59 RX7 yX7_refuse wsX7_refuse) := goodIn_app (goodIn_of _ (by decide +kernel)) ggX7_next_X7_refuse
set_option maxRecDepth 20000 in
theorem ggX7_next_X1_isPlain : GoodIn wsX7_next wsX1_isPlain := goodIn_r _ [27, 28, 29, 30, 31, 5, 32, 33, 53, 54, 55, 56, 57, 58] (by decide +kernel) (by decide +kernel)
set_option maxRecDepth 20000 in
theorem gX7_next_X1_isPlain : GoodIn wsX7_next (wsV RX7 89 RX1 yX1_isPlain wsX1_isPlain) := goodIn_app (goodIn_of _ (by decide +kernel)) ggX7_next_X1_isPlain
set_option maxRecDepth 20000 in
theorem ggX7_next_X1_codeAbove : GoodIn wsX7_next wsX1_codeAbove := goodIn_r _ [37, 33, 38, 39, 40, 5, 41, 42, 43, 44, 45, 29, 30, 31, 32, 53, 54, 55, 56, 57, 58] (by decide +kernel) (by decide +kernel)
set_option maxRecDepth 20000 in
theorem gX7_next_X1_codeAbove : GoodIn wsX7_next (wsV RX7 110 RX1 yX1_codeAbove wsX1_codeAbove) := goodIn_app (goodIn_of _ (by decide +kernel)) ggX7_next_X1_codeAbove
theorem dX7_next_0 : decode cX7_next 0 = .ok (.aload_n 0, 1) := by decide +kernel
theorem dX7_next_1 : decode cX7_next 1 = .ok (.getfield 12, 3) := by decide +kernel
theorem dX7_next_4 : decode cX7_next 4 = .ok (.iload_n 1, 1) := by decide +kernel
theorem dX7_next_5 : decode cX7_next 5 = .ok (.invokevirtual 82, 3) := by decide +kernel
theorem dX7_next_8 : decode cX7_next 8 = .ok (.ifCond .ne 9, 3) := by decide +kernel
theorem dX7_next_11 : decode cX7_next 11 = .ok (.aload_n 0, 1) := by decide +kernel
theorem dX7_next_12 : decode cX7_next 12 = .ok (.iconst (-1), 1) := by decide +kernel
theorem dX7_next_13 : decode cX7_next 13 = .ok (.invokevirtual 59, 3) := by decide +kernel
theorem dX7_next_16 : decode cX7_next 16 = .ok (.ireturn, 1) := by decide +kernel
theorem dX7_next_17 : decode cX7_next 17 = .ok (.aload_n 0, 1) := by decide +kernel
theorem dX7_next_18 : decode cX7_next 18 = .ok (.getfield 12, 3) := by decide +kernel
theorem dX7_next_21 : decode cX7_next 21 = .ok (.iload_n 1, 1) := by decide +kernel
theorem dX7_next_22 : decode cX7_next 22 = .ok (.invokevirtual 89, 3) := by decide +kernel
theorem dX7_next_25 : decode cX7_next 25 = .ok (.ifCond .ne 10, 3) := by decide +kernel
theorem dX7_next_28 : decode cX7_next 28 = .ok (.aload_n 0, 1) := by decide +kernel
theorem dX7_next_29 : decode cX7_next 29 = .ok (.bipush (-3), 2) := by decide +kernel
theorem dX7_next_31 : decode cX7_next 31 = .ok (.invokevirtual 59, 3) := by decide +kernel
theorem dX7_next_34 : decode cX7_next 34 = .ok (.ireturn, 1) := by decide +kernel
theorem dX7_next_35 : decode cX7_next 35 = .ok (.aload_n 0, 1) := by decide +kernel
theorem dX7_next_36 : decode cX7_next 36 = .ok (.getfield 12, 3) := by decide +kernel
theorem dX7_next_39 : decode cX7_next 39 = .ok (.iload_n 1, 1) := by decide +kernel
theorem dX7_next_40 : decode cX7_next 40 = .ok (.invokevirtual 110, 3) := by decide +kernel
theorem dX7_next_43 : decode cX7_next 43 = .ok (.ireturn, 1) := by decide +kernel
set_option maxRecDepth 20000 in
theorem ggX7_between_X1_isCode : GoodIn wsX7_between wsX1_isCode := goodIn_r _ [13, 14, 56, 57, 58, 59, 60, 61] (by decide +kernel) (by decide +kernel)
set_option maxRecDepth 20000 in
theorem gX7_between_X1_isCode : GoodIn wsX7_between (wsV RX7 82 RX1 yX1_isCode wsX1_isCode) := goodIn_app (goodIn_of _ (by decide +kernel)) ggX7_between_X1_isCode
set_option maxRecDepth 20000 in
theorem ggX7_between_X7_refuse : GoodIn wsX7_between wsX7_refuse := goodIn_r _ [19, 20, 21, 22, 23, 24, 25, 26, 27, 28, 29, 30, 49, 50, 51, 52, 53, 54, 55] (by decide +kernel) (by decide +kernel)
set_option maxRecDepth 20000 in
theorem gX7_between_X7_refuse : GoodIn wsX7_between (wsV RX7 59 RX7 yX7_refuse wsX7_refuse) := goodIn_app (goodIn_of _ (by decide +kernel)) ggX7_between_X7_refuse
set_option maxRecDepth 20000 in
theorem ggX7_between_X1_isPlain : GoodIn wsX7_between wsX1_isPlain := goodIn_r _ [34, 35, 36, 37, 38, 12, 39, 40, 56, 57, 58, 59, 60, 61] (by decide +kernel) (by decide +kernel)
set_option maxRecDepth 20000 in
theorem gX7_between_X1_isPlain : GoodIn wsX7_between (wsV RX7 89 RX1 yX1_isPlain wsX1_isPlain) := goodIn_app (goodIn_of _ (by decide +kernel)) ggX7_between_X1_isPlain
set_option maxRecDepth 20000 in
theorem ggX7_between_X1_stepsFromZero : GoodIn wsX7_between wsX1_stepsFromZero := goodIn_r _ [44, 45, 46, 47, 12, 48, 40, 36, 37, 38, 39, 56, 57, 58, 59, 60, 61] (by decide +kernel) (by decide +kernel)
set_option maxRecDepth 20000 in
theorem gX7_between_X1_stepsFromZero : GoodIn wsX7_between (wsV RX7 113 RX1 yX1_stepsFromZero wsX1_stepsFromZero) := goodIn_app (goodIn_of _ (by decide +kernel)) ggX7_between_X1_stepsFromZero
theorem dX7_between_0 : decode cX7_between 0 = .ok (.aload_n 0, 1) := by decide +kernel
theorem dX7_between_1 : decode cX7_between 1 = .ok (.getfield 12, 3) := by decide +kernel
theorem dX7_between_4 : decode cX7_between 4 = .ok (.iload_n 1, 1) := by decide +kernel
theorem dX7_between_5 : decode cX7_between 5 = .ok (.invokevirtual 82, 3) := by decide +kernel
theorem dX7_between_8 : decode cX7_between 8 = .ok (.ifCond .eq 14, 3) := by decide +kernel
theorem dX7_between_11 : decode cX7_between 11 = .ok (.aload_n 0, 1) := by decide +kernel
theorem dX7_between_12 : decode cX7_between 12 = .ok (.getfield 12, 3) := by decide +kernel
theorem dX7_between_15 : decode cX7_between 15 = .ok (.iload_n 2, 1) := by decide +kernel
theorem dX7_between_16 : decode cX7_between 16 = .ok (.invokevirtual 82, 3) := by decide +kernel
theorem dX7_between_19 : decode cX7_between 19 = .ok (.ifCond .ne 9, 3) := by decide +kernel
theorem dX7_between_22 : decode cX7_between 22 = .ok (.aload_n 0, 1) := by decide +kernel
theorem dX7_between_23 : decode cX7_between 23 = .ok (.iconst (-1), 1) := by decide +kernel
theorem dX7_between_24 : decode cX7_between 24 = .ok (.invokevirtual 59, 3) := by decide +kernel
theorem dX7_between_27 : decode cX7_between 27 = .ok (.ireturn, 1) := by decide +kernel
theorem dX7_between_28 : decode cX7_between 28 = .ok (.aload_n 0, 1) := by decide +kernel
theorem dX7_between_29 : decode cX7_between 29 = .ok (.getfield 12, 3) := by decide +kernel
theorem dX7_between_32 : decode cX7_between 32 = .ok (.iload_n 1, 1) := by decide +kernel
theorem dX7_between_33 : decode cX7_between 33 = .ok (.invokevirtual 89, 3) := by decide +kernel
theorem dX7_between_36 : decode cX7_between 36 = .ok (.ifCond .eq 14, 3) := by decide +kernel
theorem dX7_between_39 : decode cX7_between 39 = .ok (.aload_n 0, 1) := by decide +kernel
theorem dX7_between_40 : decode cX7_between 40 = .ok (.getfield 12, 3) := by decide +kernel
theorem dX7_between_43 : decode cX7_between 43 = .ok (.iload_n 2, 1) := by decide +kernel
theorem dX7_between_44 : decode cX7_between 44 = .ok (.invokevirtual 89, 3) := by decide +kernel
theorem dX7_between_47 : decode cX7_between 47 = .ok (.ifCond .ne 10, 3) := by decide +kernel
theorem dX7_between_50 : decode cX7_between 50 = .ok (.aload_n 0, 1) := by decide +kernel
theorem dX7_between_51 : decode cX7_between 51 = .ok (.bipush (-3), 2) := by decide +kernel
theorem dX7_between_53 : decode cX7_between 53 = .ok (.invokevirtual 59, 3) := by decide +kernel
theorem dX7_between_56 : decode cX7_between 56 = .ok (.ireturn, 1) := by decide +kernel
theorem dX7_between_57 : decode cX7_between 57 = .ok (.aload_n 0, 1) := by decide +kernel
theorem dX7_between_58 : decode cX7_between 58 = .ok (.getfield 12, 3) := by decide +kernel
theorem dX7_between_61 : decode cX7_between 61 = .ok (.iload_n 1, 1) := by decide +kernel
theorem dX7_between_62 : decode cX7_between 62 = .ok (.invokevirtual 113, 3) := by decide +kernel
theorem dX7_between_65 : decode cX7_between 65 = .ok (.aload_n 0, 1) := by decide +kernel
theorem dX7_between_66 : decode cX7_between 66 = .ok (.getfield 12, 3) := by decide +kernel
theorem dX7_between_69 : decode cX7_between 69 = .ok (.iload_n 2, 1) := by decide +kernel
theorem dX7_between_70 : decode cX7_between 70 = .ok (.invokevirtual 113, 3) := by decide +kernel
theorem dX7_between_73 : decode cX7_between 73 = .ok (.isub, 1) := by decide +kernel
theorem dX7_between_74 : decode cX7_between 74 = .ok (.invokestatic 116, 3) := by decide +kernel
theorem dX7_between_77 : decode cX7_between 77 = .ok (.istore_n 3, 1) := by decide +kernel
theorem dX7_between_78 : decode cX7_between 78 = .ok (.iload_n 3, 1) := by decide +kernel
theorem dX7_between_79 : decode cX7_between 79 = .ok (.iconst 1, 1) := by decide +kernel
theorem dX7_between_80 : decode cX7_between 80 = .ok (.isub, 1) := by decide +kernel
theorem dX7_between_81 : decode cX7_between 81 = .ok (.iconst 0, 1) := by decide +kernel
theorem dX7_between_82 : decode cX7_between 82 = .ok (.invokestatic 121, 3) := by decide +kernel
theorem dX7_between_85 : decode cX7_between 85 = .ok (.ireturn, 1) := by decide +kernel
set_option maxRecDepth 20000 in
theorem ggX7_round_X7_isRounding : GoodIn wsX7_round wsX7_isRounding := goodIn_r _ [11] (by decide +kernel) (by decide +kernel)
set_option maxRecDepth 20000 in
theorem gX7_round_X7_isRounding : GoodIn wsX7_round (va_wsS RX7 125 yX7_isRounding wsX7_isRounding) := goodIn_app (goodIn_of _ (by decide +kernel)) ggX7_round_X7_isRounding
set_option maxRecDepth 20000 in
theorem ggX7_round_X7_refuse : GoodIn wsX7_round wsX7_refuse := goodIn_r _ [15, 16, 17, 18, 19, 20, 21, 22, 23, 24, 25, 26, 70, 71, 72, 73, 74, 75, 76] (by decide +kernel) (by decide +kernel)
set_option maxRecDepth 20000 in
theorem gX7_round_X7_refuse : GoodIn wsX7_round (wsV RX7 59 RX7 yX7_refuse wsX7_refuse) := goodIn_app (goodIn_of _ (by decide +kernel)) ggX7_round_X7_refuse
set_option maxRecDepth 20000 in
theorem ggX7_round_X3_lay : GoodIn wsX7_round wsX3_lay := goodIn_r _ [31, 32, 33, 34, 6, 35, 36, 37, 38, 39, 40, 41, 42, 43, 44, 45, 46, 47, 48, 49, 50, 30, 51, 52, 53, 54, 55, 56, 57, 77, 78, 79, 80, 81, 82, 83, 84, 85, 86, 87] (by decide +kernel) (by decide +kernel)
set_option maxRecDepth 20000 in
theorem gX7_round_X3_lay : GoodIn wsX7_round (wsV RX7 130 RX3 yX3_lay wsX3_lay) := goodIn_app (goodIn_of _ (by decide +kernel)) ggX7_round_X3_lay
set_option maxRecDepth 20000 in
theorem ggX7_round_X3_rounded : GoodIn wsX7_round wsX3_rounded := goodIn_r _ [61, 39, 32, 62, 63, 64, 30, 65, 38, 37, 66, 67, 68, 69, 36, 77, 78, 79, 80, 81, 82, 83, 84, 85, 86, 87] (by decide +kernel) (by decide +kernel)
set_option maxRecDepth 20000 in
theorem gX7_round_X3_rounded : GoodIn wsX7_round (wsV RX7 134 RX3 yX3_rounded wsX3_rounded) := goodIn_app (goodIn_of _ (by decide +kernel)) ggX7_round_X3_rounded
theorem dX7_round_0 : decode cX7_round 0 = .ok (.iload_n 3, 1) := by decide +kernel
theorem dX7_round_1 : decode cX7_round 1 = .ok (.invokestatic 125, 3) := by decide +kernel
theorem dX7_round_4 : decode cX7_round 4 = .ok (.ifCond .ne 9, 3) := by decide +kernel
theorem dX7_round_7 : decode cX7_round 7 = .ok (.aload_n 0, 1) := by decide +kernel
theorem dX7_round_8 : decode cX7_round 8 = .ok (.iconst (-1), 1) := by decide +kernel
theorem dX7_round_9 : decode cX7_round 9 = .ok (.invokevirtual 59, 3) := by decide +kernel
theorem dX7_round_12 : decode cX7_round 12 = .ok (.ireturn, 1) := by decide +kernel
theorem dX7_round_13 : decode cX7_round 13 = .ok (.iload_n 1, 1) := by decide +kernel
theorem dX7_round_14 : decode cX7_round 14 = .ok (.ldc 128, 2) := by decide +kernel
theorem dX7_round_16 : decode cX7_round 16 = .ok (.if_icmp .lt 9, 3) := by decide +kernel
theorem dX7_round_19 : decode cX7_round 19 = .ok (.iload_n 2, 1) := by decide +kernel
theorem dX7_round_20 : decode cX7_round 20 = .ok (.bipush (-60), 2) := by decide +kernel
theorem dX7_round_22 : decode cX7_round 22 = .ok (.if_icmp .ge 10, 3) := by decide +kernel
theorem dX7_round_25 : decode cX7_round 25 = .ok (.aload_n 0, 1) := by decide +kernel
theorem dX7_round_26 : decode cX7_round 26 = .ok (.bipush (-4), 2) := by decide +kernel
theorem dX7_round_28 : decode cX7_round 28 = .ok (.invokevirtual 59, 3) := by decide +kernel
theorem dX7_round_31 : decode cX7_round 31 = .ok (.ireturn, 1) := by decide +kernel
theorem dX7_round_32 : decode cX7_round 32 = .ok (.iload_n 1, 1) := by decide +kernel
theorem dX7_round_33 : decode cX7_round 33 = .ok (.ldc 129, 2) := by decide +kernel
theorem dX7_round_35 : decode cX7_round 35 = .ok (.if_icmp .gt 9, 3) := by decide +kernel
theorem dX7_round_38 : decode cX7_round 38 = .ok (.iload_n 2, 1) := by decide +kernel
theorem dX7_round_39 : decode cX7_round 39 = .ok (.bipush 60, 2) := by decide +kernel
theorem dX7_round_41 : decode cX7_round 41 = .ok (.if_icmp .le 10, 3) := by decide +kernel
theorem dX7_round_44 : decode cX7_round 44 = .ok (.aload_n 0, 1) := by decide +kernel
theorem dX7_round_45 : decode cX7_round 45 = .ok (.bipush (-6), 2) := by decide +kernel
theorem dX7_round_47 : decode cX7_round 47 = .ok (.invokevirtual 59, 3) := by decide +kernel
theorem dX7_round_50 : decode cX7_round 50 = .ok (.ireturn, 1) := by decide +kernel
theorem dX7_round_51 : decode cX7_round 51 = .ok (.iload_n 1, 1) := by decide +kernel
theorem dX7_round_52 : decode cX7_round 52 = .ok (.ifCond .ne 5, 3) := by decide +kernel
theorem dX7_round_55 : decode cX7_round 55 = .ok (.iconst 0, 1) := by decide +kernel
theorem dX7_round_56 : decode cX7_round 56 = .ok (.ireturn, 1) := by decide +kernel
theorem dX7_round_57 : decode cX7_round 57 = .ok (.aload_n 0, 1) := by decide +kernel
theorem dX7_round_58 : decode cX7_round 58 = .ok (.getfield 21, 3) := by decide +kernel
theorem dX7_round_61 : decode cX7_round 61 = .ok (.iload_n 1, 1) := by decide +kernel
theorem dX7_round_62 : decode cX7_round 62 = .ok (.invokestatic 116, 3) := by decide +kernel
theorem dX7_round_65 : decode cX7_round 65 = .ok (.i2l, 1) := by decide +kernel
theorem dX7_round_66 : decode cX7_round 66 = .ok (.iload_n 2, 1) := by decide +kernel
theorem dX7_round_67 : decode cX7_round 67 = .ok (.iconst 0, 1) := by decide +kernel
theorem dX7_round_68 : decode cX7_round 68 = .ok (.invokevirtual 130, 3) := by decide +kernel
theorem dX7_round_71 : decode cX7_round 71 = .ok (.aload_n 0, 1) := by decide +kernel
theorem dX7_round_72 : decode cX7_round 72 = .ok (.getfield 21, 3) := by decide +kernel
theorem dX7_round_75 : decode cX7_round 75 = .ok (.iload_n 1, 1) := by decide +kernel
theorem dX7_round_76 : decode cX7_round 76 = .ok (.ifCond .ge 7, 3) := by decide +kernel
theorem dX7_round_79 : decode cX7_round 79 = .ok (.iconst 1, 1) := by decide +kernel
theorem dX7_round_80 : decode cX7_round 80 = .ok (.goto 4, 3) := by decide +kernel
theorem dX7_round_83 : decode cX7_round 83 = .ok (.iconst 0, 1) := by decide +kernel
theorem dX7_round_84 : decode cX7_round 84 = .ok (.iload_n 3, 1) := by decide +kernel
theorem dX7_round_85 : decode cX7_round 85 = .ok (.invokevirtual 134, 3) := by decide +kernel
theorem dX7_round_88 : decode cX7_round 88 = .ok (.ireturn, 1) := by decide +kernel
set_option maxRecDepth 20000 in
theorem ggX7_right_X7_isFunction : GoodIn wsX7_right wsX7_isFunction := goodIn_r _ [6] (by decide +kernel) (by decide +kernel)
set_option maxRecDepth 20000 in
theorem gX7_right_X7_isFunction : GoodIn wsX7_right (va_wsS RX7 138 yX7_isFunction wsX7_isFunction) := goodIn_app (goodIn_of _ (by decide +kernel)) ggX7_right_X7_isFunction
set_option maxRecDepth 20000 in
theorem ggX7_right_X1_isCode : GoodIn wsX7_right wsX1_isCode := goodIn_r _ [11, 12, 181, 182, 183, 184, 185, 186] (by decide +kernel) (by decide +kernel)
set_option maxRecDepth 20000 in
theorem gX7_right_X1_isCode : GoodIn wsX7_right (wsV RX7 82 RX1 yX1_isCode wsX1_isCode) := goodIn_app (goodIn_of _ (by decide +kernel)) ggX7_right_X1_isCode
set_option maxRecDepth 20000 in
theorem ggX7_right_X7_isRounding : GoodIn wsX7_right wsX7_isRounding := goodIn_r _ [15] (by decide +kernel) (by decide +kernel)
set_option maxRecDepth 20000 in
theorem gX7_right_X7_isRounding : GoodIn wsX7_right (va_wsS RX7 125 yX7_isRounding wsX7_isRounding) := goodIn_app (goodIn_of _ (by decide +kernel)) ggX7_right_X7_isRounding
set_option maxRecDepth 20000 in
theorem ggX7_right_X7_refuse : GoodIn wsX7_right wsX7_refuse := goodIn_r _ [19, 20, 21, 22, 23, 24, 25, 26, 27, 28, 29, 30, 174, 175, 176, 177, 178, 179, 180] (by decide +kernel) (by decide +kernel)
set_option maxRecDepth 20000 in
theorem gX7_right_X7_refuse : GoodIn wsX7_right (wsV RX7 59 RX7 yX7_refuse wsX7_refuse) := goodIn_app (goodIn_of _ (by decide +kernel)) ggX7_right_X7_refuse
set_option maxRecDepth 20000 in
theorem ggX7_right_X6_resultAt : GoodIn wsX7_right wsX6_resultAt := goodIn_r _ [35, 36, 37, 38, 39, 40, 41, 42, 34, 43, 44, 45, 46, 47, 48, 49, 50, 51, 10, 52, 53, 54, 55, 56, 57, 58, 59, 60, 61, 62, 63, 64, 65, 66, 67, 68, 69, 70, 71, 72, 73, 74, 75, 76, 77, 78, 79, 80, 81, 82, 83, 84, 85, 86, 87, 88, 89, 90, 91, 92, 93, 94, 95, 96, 97, 98, 99, 100, 101, 102, 103, 104, 105, 106, 107, 108, 109, 110, 111, 112, 113, 114, 115, 116, 117, 118, 119, 120, 121, 122, 123, 124, 125, 126, 127, 128, 129, 130, 131, 132, 133, 134, 135, 136, 137, 138, 139, 140, 141, 142, 143, 144, 145, 146, 147, 148, 149, 150, 151, 152, 153, 154, 155, 156, 157, 158, 159, 160, 161, 162, 163, 164, 165, 166, 167, 168, 169, 170, 171, 172, 173, 187, 188, 189, 190, 191, 192, 193, 194, 195, 181, 182, 183, 184, 185, 186, 196, 197, 198, 199, 200] (by decide +kernel) (by decide +kernel)
set_option maxRecDepth 20000 in
theorem gX7_right_X6_resultAt : GoodIn wsX7_right (wsV RX7 141 RX6 yX6_resultAt wsX6_resultAt) := goodIn_app (goodIn_of _ (by decide +kernel)) ggX7_right_X6_resultAt
theorem dX7_right_0 : decode cX7_right 0 = .ok (.iload_n 1, 1) := by decide +kernel
theorem dX7_right_1 : decode cX7_right 1 = .ok (.invokestatic 138, 3) := by decide +kernel
theorem dX7_right_4 : decode cX7_right 4 = .ok (.ifCond .eq 21, 3) := by decide +kernel
theorem dX7_right_7 : decode cX7_right 7 = .ok (.aload_n 0, 1) := by decide +kernel
theorem dX7_right_8 : decode cX7_right 8 = .ok (.getfield 12, 3) := by decide +kernel
theorem dX7_right_11 : decode cX7_right 11 = .ok (.iload_n 2, 1) := by decide +kernel
theorem dX7_right_12 : decode cX7_right 12 = .ok (.invokevirtual 82, 3) := by decide +kernel
theorem dX7_right_15 : decode cX7_right 15 = .ok (.ifCond .eq 10, 3) := by decide +kernel
theorem dX7_right_18 : decode cX7_right 18 = .ok (.iload_n 3, 1) := by decide +kernel
theorem dX7_right_19 : decode cX7_right 19 = .ok (.invokestatic 125, 3) := by decide +kernel
theorem dX7_right_22 : decode cX7_right 22 = .ok (.ifCond .ne 9, 3) := by decide +kernel
theorem dX7_right_25 : decode cX7_right 25 = .ok (.aload_n 0, 1) := by decide +kernel
theorem dX7_right_26 : decode cX7_right 26 = .ok (.iconst (-1), 1) := by decide +kernel
theorem dX7_right_27 : decode cX7_right 27 = .ok (.invokevirtual 59, 3) := by decide +kernel
theorem dX7_right_30 : decode cX7_right 30 = .ok (.ireturn, 1) := by decide +kernel
theorem dX7_right_31 : decode cX7_right 31 = .ok (.aload_n 0, 1) := by decide +kernel
theorem dX7_right_32 : decode cX7_right 32 = .ok (.getfield 28, 3) := by decide +kernel
theorem dX7_right_35 : decode cX7_right 35 = .ok (.iload_n 1, 1) := by decide +kernel
theorem dX7_right_36 : decode cX7_right 36 = .ok (.iload_n 2, 1) := by decide +kernel
theorem dX7_right_37 : decode cX7_right 37 = .ok (.iload_n 3, 1) := by decide +kernel
theorem dX7_right_38 : decode cX7_right 38 = .ok (.invokevirtual 141, 3) := by decide +kernel
theorem dX7_right_41 : decode cX7_right 41 = .ok (.ireturn, 1) := by decide +kernel
set_option maxRecDepth 20000 in
theorem ggX7_sort_X7_isFunction : GoodIn wsX7_sort wsX7_isFunction := goodIn_r _ [6] (by decide +kernel) (by decide +kernel)
set_option maxRecDepth 20000 in
theorem gX7_sort_X7_isFunction : GoodIn wsX7_sort (va_wsS RX7 138 yX7_isFunction wsX7_isFunction) := goodIn_app (goodIn_of _ (by decide +kernel)) ggX7_sort_X7_isFunction
set_option maxRecDepth 20000 in
theorem ggX7_sort_X1_isCode : GoodIn wsX7_sort wsX1_isCode := goodIn_r _ [11, 12, 169, 170, 171, 172, 173, 174] (by decide +kernel) (by decide +kernel)
set_option maxRecDepth 20000 in
theorem gX7_sort_X1_isCode : GoodIn wsX7_sort (wsV RX7 82 RX1 yX1_isCode wsX1_isCode) := goodIn_app (goodIn_of _ (by decide +kernel)) ggX7_sort_X1_isCode
set_option maxRecDepth 20000 in
theorem ggX7_sort_X7_refuse : GoodIn wsX7_sort wsX7_refuse := goodIn_r _ [16, 17, 18, 19, 20, 21, 22, 23, 24, 25, 26, 27, 162, 163, 164, 165, 166, 167, 168] (by decide +kernel) (by decide +kernel)
set_option maxRecDepth 20000 in
theorem gX7_sort_X7_refuse : GoodIn wsX7_sort (wsV RX7 59 RX7 yX7_refuse wsX7_refuse) := goodIn_app (goodIn_of _ (by decide +kernel)) ggX7_sort_X7_refuse
set_option maxRecDepth 20000 in
theorem ggX7_sort_X6_read : GoodIn wsX7_sort wsX6_read := goodIn_r _ [32, 33, 34, 35, 36, 37, 38, 39, 40, 41, 42, 43, 44, 10, 45, 46, 47, 48, 49, 50, 51, 52, 53, 54, 55, 56, 57, 58, 59, 60, 61, 62, 63, 64, 65, 66, 67, 68, 69, 70, 71, 72, 73, 74, 75, 76, 77, 78, 79, 80, 81, 82, 83, 84, 85, 86, 87, 88, 31, 89, 90, 91, 92, 93, 94, 95, 96, 97, 98, 99, 100, 101, 102, 103, 104, 105, 106, 107, 108, 109, 110, 111, 112, 113, 114, 115, 116, 117, 118, 119, 120, 121, 122, 123, 124, 125, 126, 127, 128, 129, 130, 131, 132, 133, 134, 135, 136, 137, 138, 139, 140, 141, 142, 143, 144, 145, 146, 147, 148, 149, 150, 151, 152, 153, 154, 155, 156, 157, 175, 176, 177, 178, 179, 180, 181, 182, 183, 169, 170, 171, 172, 173, 174, 184, 185, 186, 187, 188] (by decide +kernel) (by decide +kernel)
set_option maxRecDepth 20000 in
theorem gX7_sort_X6_read : GoodIn wsX7_sort (wsV RX7 145 RX6 yX6_read wsX6_read) := goodIn_app (goodIn_of _ (by decide +kernel)) ggX7_sort_X6_read
set_option maxRecDepth 20000 in
theorem ggX7_sort_X6_sortRead : GoodIn wsX7_sort wsX6_sortRead := goodIn_r _ [161, 40, 175, 176, 177, 178, 179, 180, 181, 182, 183] (by decide +kernel) (by decide +kernel)
set_option maxRecDepth 20000 in
theorem gX7_sort_X6_sortRead : GoodIn wsX7_sort (wsV RX7 148 RX6 yX6_sortRead wsX6_sortRead) := goodIn_app (goodIn_of _ (by decide +kernel)) ggX7_sort_X6_sortRead
theorem dX7_sort_0 : decode cX7_sort 0 = .ok (.iload_n 1, 1) := by decide +kernel
theorem dX7_sort_1 : decode cX7_sort 1 = .ok (.invokestatic 138, 3) := by decide +kernel
theorem dX7_sort_4 : decode cX7_sort 4 = .ok (.ifCond .eq 14, 3) := by decide +kernel
theorem dX7_sort_7 : decode cX7_sort 7 = .ok (.aload_n 0, 1) := by decide +kernel
theorem dX7_sort_8 : decode cX7_sort 8 = .ok (.getfield 12, 3) := by decide +kernel
theorem dX7_sort_11 : decode cX7_sort 11 = .ok (.iload_n 2, 1) := by decide +kernel
theorem dX7_sort_12 : decode cX7_sort 12 = .ok (.invokevirtual 82, 3) := by decide +kernel
theorem dX7_sort_15 : decode cX7_sort 15 = .ok (.ifCond .ne 9, 3) := by decide +kernel
theorem dX7_sort_18 : decode cX7_sort 18 = .ok (.aload_n 0, 1) := by decide +kernel
theorem dX7_sort_19 : decode cX7_sort 19 = .ok (.iconst (-1), 1) := by decide +kernel
theorem dX7_sort_20 : decode cX7_sort 20 = .ok (.invokevirtual 59, 3) := by decide +kernel
theorem dX7_sort_23 : decode cX7_sort 23 = .ok (.ireturn, 1) := by decide +kernel
theorem dX7_sort_24 : decode cX7_sort 24 = .ok (.aload_n 0, 1) := by decide +kernel
theorem dX7_sort_25 : decode cX7_sort 25 = .ok (.getfield 28, 3) := by decide +kernel
theorem dX7_sort_28 : decode cX7_sort 28 = .ok (.iload_n 1, 1) := by decide +kernel
theorem dX7_sort_29 : decode cX7_sort 29 = .ok (.iload_n 2, 1) := by decide +kernel
theorem dX7_sort_30 : decode cX7_sort 30 = .ok (.invokevirtual 145, 3) := by decide +kernel
theorem dX7_sort_33 : decode cX7_sort 33 = .ok (.aload_n 0, 1) := by decide +kernel
theorem dX7_sort_34 : decode cX7_sort 34 = .ok (.getfield 28, 3) := by decide +kernel
theorem dX7_sort_37 : decode cX7_sort 37 = .ok (.invokevirtual 148, 3) := by decide +kernel
theorem dX7_sort_40 : decode cX7_sort 40 = .ok (.ireturn, 1) := by decide +kernel
set_option maxRecDepth 20000 in
theorem ggX7_figures_X7_isFunction : GoodIn wsX7_figures wsX7_isFunction := goodIn_r _ [6] (by decide +kernel) (by decide +kernel)
set_option maxRecDepth 20000 in
theorem gX7_figures_X7_isFunction : GoodIn wsX7_figures (va_wsS RX7 138 yX7_isFunction wsX7_isFunction) := goodIn_app (goodIn_of _ (by decide +kernel)) ggX7_figures_X7_isFunction
set_option maxRecDepth 20000 in
theorem ggX7_figures_X1_isCode : GoodIn wsX7_figures wsX1_isCode := goodIn_r _ [11, 12, 174, 175, 176, 177, 178, 179] (by decide +kernel) (by decide +kernel)
set_option maxRecDepth 20000 in
theorem gX7_figures_X1_isCode : GoodIn wsX7_figures (wsV RX7 82 RX1 yX1_isCode wsX1_isCode) := goodIn_app (goodIn_of _ (by decide +kernel)) ggX7_figures_X1_isCode
set_option maxRecDepth 20000 in
theorem ggX7_figures_X7_refuse : GoodIn wsX7_figures wsX7_refuse := goodIn_r _ [16, 17, 18, 19, 20, 21, 22, 23, 24, 25, 26, 27, 167, 168, 169, 170, 171, 172, 173] (by decide +kernel) (by decide +kernel)
set_option maxRecDepth 20000 in
theorem gX7_figures_X7_refuse : GoodIn wsX7_figures (wsV RX7 59 RX7 yX7_refuse wsX7_refuse) := goodIn_app (goodIn_of _ (by decide +kernel)) ggX7_figures_X7_refuse
set_option maxRecDepth 20000 in
theorem ggX7_figures_X6_read : GoodIn wsX7_figures wsX6_read := goodIn_r _ [32, 33, 34, 35, 36, 37, 38, 39, 40, 41, 42, 43, 44, 10, 45, 46, 47, 48, 49, 50, 51, 52, 53, 54, 55, 56, 57, 58, 59, 60, 61, 62, 63, 64, 65, 66, 67, 68, 69, 70, 71, 72, 73, 74, 75, 76, 77, 78, 79, 80, 81, 82, 83, 84, 85, 86, 87, 88, 31, 89, 90, 91, 92, 93, 94, 95, 96, 97, 98, 99, 100, 101, 102, 103, 104, 105, 106, 107, 108, 109, 110, 111, 112, 113, 114, 115, 116, 117, 118, 119, 120, 121, 122, 123, 124, 125, 126, 127, 128, 129, 130, 131, 132, 133, 134, 135, 136, 137, 138, 139, 140, 141, 142, 143, 144, 145, 146, 147, 148, 149, 150, 151, 152, 153, 154, 155, 156, 157, 180, 181, 182, 183, 184, 185, 186, 187, 188, 174, 175, 176, 177, 178, 179, 189, 190, 191, 192, 193] (by decide +kernel) (by decide +kernel)
set_option maxRecDepth 20000 in
theorem gX7_figures_X6_read : GoodIn wsX7_figures (wsV RX7 145 RX6 yX6_read wsX6_read) := goodIn_app (goodIn_of _ (by decide +kernel)) ggX7_figures_X6_read
set_option maxRecDepth 20000 in
theorem ggX7_figures_X6_figuresRead : GoodIn wsX7_figures wsX6_figuresRead := goodIn_r _ [161, 34, 36, 162, 163, 164, 122, 165, 129, 124, 127, 166, 143, 144, 145, 128, 126, 138, 139, 140, 10, 141, 59, 180, 181, 182, 183, 184, 185, 186, 187, 188, 189, 190, 191, 192, 193, 174, 175, 176, 177, 178, 179] (by decide +kernel) (by decide +kernel)
set_option maxRecDepth 20000 in
theorem gX7_figures_X6_figuresRead : GoodIn wsX7_figures (wsV RX7 152 RX6 yX6_figuresRead wsX6_figuresRead) := goodIn_app (goodIn_of _ (by decide +kernel)) ggX7_figures_X6_figuresRead
theorem dX7_figures_0 : decode cX7_figures 0 = .ok (.iload_n 1, 1) := by decide +kernel
theorem dX7_figures_1 : decode cX7_figures 1 = .ok (.invokestatic 138, 3) := by decide +kernel
theorem dX7_figures_4 : decode cX7_figures 4 = .ok (.ifCond .eq 14, 3) := by decide +kernel
theorem dX7_figures_7 : decode cX7_figures 7 = .ok (.aload_n 0, 1) := by decide +kernel
theorem dX7_figures_8 : decode cX7_figures 8 = .ok (.getfield 12, 3) := by decide +kernel
theorem dX7_figures_11 : decode cX7_figures 11 = .ok (.iload_n 2, 1) := by decide +kernel
theorem dX7_figures_12 : decode cX7_figures 12 = .ok (.invokevirtual 82, 3) := by decide +kernel
theorem dX7_figures_15 : decode cX7_figures 15 = .ok (.ifCond .ne 9, 3) := by decide +kernel
theorem dX7_figures_18 : decode cX7_figures 18 = .ok (.aload_n 0, 1) := by decide +kernel
theorem dX7_figures_19 : decode cX7_figures 19 = .ok (.iconst (-1), 1) := by decide +kernel
theorem dX7_figures_20 : decode cX7_figures 20 = .ok (.invokevirtual 59, 3) := by decide +kernel
theorem dX7_figures_23 : decode cX7_figures 23 = .ok (.ireturn, 1) := by decide +kernel
theorem dX7_figures_24 : decode cX7_figures 24 = .ok (.aload_n 0, 1) := by decide +kernel
theorem dX7_figures_25 : decode cX7_figures 25 = .ok (.getfield 28, 3) := by decide +kernel
theorem dX7_figures_28 : decode cX7_figures 28 = .ok (.iload_n 1, 1) := by decide +kernel
theorem dX7_figures_29 : decode cX7_figures 29 = .ok (.iload_n 2, 1) := by decide +kernel
theorem dX7_figures_30 : decode cX7_figures 30 = .ok (.invokevirtual 145, 3) := by decide +kernel
theorem dX7_figures_33 : decode cX7_figures 33 = .ok (.aload_n 0, 1) := by decide +kernel
theorem dX7_figures_34 : decode cX7_figures 34 = .ok (.getfield 28, 3) := by decide +kernel
theorem dX7_figures_37 : decode cX7_figures 37 = .ok (.invokevirtual 152, 3) := by decide +kernel
theorem dX7_figures_40 : decode cX7_figures 40 = .ok (.ireturn, 1) := by decide +kernel
set_option maxRecDepth 20000 in
theorem ggX7_hard_X7_isFunction : GoodIn wsX7_hard wsX7_isFunction := goodIn_r _ [6] (by decide +kernel) (by decide +kernel)
set_option maxRecDepth 20000 in
theorem gX7_hard_X7_isFunction : GoodIn wsX7_hard (va_wsS RX7 138 yX7_isFunction wsX7_isFunction) := goodIn_app (goodIn_of _ (by decide +kernel)) ggX7_hard_X7_isFunction
set_option maxRecDepth 20000 in
theorem ggX7_hard_X1_isCode : GoodIn wsX7_hard wsX1_isCode := goodIn_r _ [11, 12, 178, 179, 180, 181, 182, 183] (by decide +kernel) (by decide +kernel)
set_option maxRecDepth 20000 in
theorem gX7_hard_X1_isCode : GoodIn wsX7_hard (wsV RX7 82 RX1 yX1_isCode wsX1_isCode) := goodIn_app (goodIn_of _ (by decide +kernel)) ggX7_hard_X1_isCode
set_option maxRecDepth 20000 in
theorem ggX7_hard_X7_refuse : GoodIn wsX7_hard wsX7_refuse := goodIn_r _ [16, 17, 18, 19, 20, 21, 22, 23, 24, 25, 26, 27, 171, 172, 173, 174, 175, 176, 177] (by decide +kernel) (by decide +kernel)
set_option maxRecDepth 20000 in
theorem gX7_hard_X7_refuse : GoodIn wsX7_hard (wsV RX7 59 RX7 yX7_refuse wsX7_refuse) := goodIn_app (goodIn_of _ (by decide +kernel)) ggX7_hard_X7_refuse
set_option maxRecDepth 20000 in
theorem ggX7_hard_X6_read : GoodIn wsX7_hard wsX6_read := goodIn_r _ [32, 33, 34, 35, 36, 37, 38, 39, 40, 41, 42, 43, 44, 10, 45, 46, 47, 48, 49, 50, 51, 52, 53, 54, 55, 56, 57, 58, 59, 60, 61, 62, 63, 64, 65, 66, 67, 68, 69, 70, 71, 72, 73, 74, 75, 76, 77, 78, 79, 80, 81, 82, 83, 84, 85, 86, 87, 88, 31, 89, 90, 91, 92, 93, 94, 95, 96, 97, 98, 99, 100, 101, 102, 103, 104, 105, 106, 107, 108, 109, 110, 111, 112, 113, 114, 115, 116, 117, 118, 119, 120, 121, 122, 123, 124, 125, 126, 127, 128, 129, 130, 131, 132, 133, 134, 135, 136, 137, 138, 139, 140, 141, 142, 143, 144, 145, 146, 147, 148, 149, 150, 151, 152, 153, 154, 155, 156, 157, 184, 185, 186, 187, 188, 189, 190, 191, 192, 178, 179, 180, 181, 182, 183, 193, 194, 195, 196, 197] (by decide +kernel) (by decide +kernel)
set_option maxRecDepth 20000 in
theorem gX7_hard_X6_read : GoodIn wsX7_hard (wsV RX7 145 RX6 yX6_read wsX6_read) := goodIn_app (goodIn_of _ (by decide +kernel)) ggX7_hard_X6_read
set_option maxRecDepth 20000 in
theorem ggX7_hard_X6_hardnessRead : GoodIn wsX7_hard wsX6_hardnessRead := goodIn_r _ [161, 162, 163, 164, 31, 165, 34, 36, 166, 167, 168, 122, 169, 129, 124, 127, 170, 143, 144, 145, 128, 126, 138, 139, 140, 10, 141, 59, 184, 185, 186, 187, 188, 189, 190, 191, 192, 193, 194, 195, 196, 197, 178, 179, 180, 181, 182, 183] (by decide +kernel) (by decide +kernel)
set_option maxRecDepth 20000 in
theorem gX7_hard_X6_hardnessRead : GoodIn wsX7_hard (wsV RX7 155 RX6 yX6_hardnessRead wsX6_hardnessRead) := goodIn_app (goodIn_of _ (by decide +kernel)) ggX7_hard_X6_hardnessRead
theorem dX7_hard_0 : decode cX7_hard 0 = .ok (.iload_n 1, 1) := by decide +kernel
theorem dX7_hard_1 : decode cX7_hard 1 = .ok (.invokestatic 138, 3) := by decide +kernel
theorem dX7_hard_4 : decode cX7_hard 4 = .ok (.ifCond .eq 14, 3) := by decide +kernel
theorem dX7_hard_7 : decode cX7_hard 7 = .ok (.aload_n 0, 1) := by decide +kernel
theorem dX7_hard_8 : decode cX7_hard 8 = .ok (.getfield 12, 3) := by decide +kernel
theorem dX7_hard_11 : decode cX7_hard 11 = .ok (.iload_n 2, 1) := by decide +kernel
theorem dX7_hard_12 : decode cX7_hard 12 = .ok (.invokevirtual 82, 3) := by decide +kernel
theorem dX7_hard_15 : decode cX7_hard 15 = .ok (.ifCond .ne 9, 3) := by decide +kernel
theorem dX7_hard_18 : decode cX7_hard 18 = .ok (.aload_n 0, 1) := by decide +kernel
theorem dX7_hard_19 : decode cX7_hard 19 = .ok (.iconst (-1), 1) := by decide +kernel
theorem dX7_hard_20 : decode cX7_hard 20 = .ok (.invokevirtual 59, 3) := by decide +kernel
theorem dX7_hard_23 : decode cX7_hard 23 = .ok (.ireturn, 1) := by decide +kernel
theorem dX7_hard_24 : decode cX7_hard 24 = .ok (.aload_n 0, 1) := by decide +kernel
theorem dX7_hard_25 : decode cX7_hard 25 = .ok (.getfield 28, 3) := by decide +kernel
theorem dX7_hard_28 : decode cX7_hard 28 = .ok (.iload_n 1, 1) := by decide +kernel
theorem dX7_hard_29 : decode cX7_hard 29 = .ok (.iload_n 2, 1) := by decide +kernel
theorem dX7_hard_30 : decode cX7_hard 30 = .ok (.invokevirtual 145, 3) := by decide +kernel
theorem dX7_hard_33 : decode cX7_hard 33 = .ok (.aload_n 0, 1) := by decide +kernel
theorem dX7_hard_34 : decode cX7_hard 34 = .ok (.getfield 28, 3) := by decide +kernel
theorem dX7_hard_37 : decode cX7_hard 37 = .ok (.invokevirtual 155, 3) := by decide +kernel
theorem dX7_hard_40 : decode cX7_hard 40 = .ok (.ireturn, 1) := by decide +kernel
set_option maxRecDepth 20000 in
theorem ggX7_hardest_X7_isFunction : GoodIn wsX7_hardest wsX7_isFunction := goodIn_r _ [5] (by decide +kernel) (by decide +kernel)
set_option maxRecDepth 20000 in
theorem gX7_hardest_X7_isFunction : GoodIn wsX7_hardest (va_wsS RX7 138 yX7_isFunction wsX7_isFunction) := goodIn_app (goodIn_of _ (by decide +kernel)) ggX7_hardest_X7_isFunction
set_option maxRecDepth 20000 in
theorem ggX7_hardest_X7_refuse : GoodIn wsX7_hardest wsX7_refuse := goodIn_r _ [9, 10, 11, 12, 13, 14, 15, 16, 17, 18, 19, 20, 204, 205, 206, 207, 208, 209, 210] (by decide +kernel) (by decide +kernel)
set_option maxRecDepth 20000 in
theorem gX7_hardest_X7_refuse : GoodIn wsX7_hardest (wsV RX7 59 RX7 yX7_refuse wsX7_refuse) := goodIn_app (goodIn_of _ (by decide +kernel)) ggX7_hardest_X7_refuse
set_option maxRecDepth 20000 in
theorem ggX7_hardest_X0_take : GoodIn wsX7_hardest wsX0_take := goodIn_r _ [25, 26, 27, 28, 29, 30, 31, 16, 13, 17, 32, 19, 20, 33, 34, 35, 36, 37, 38, 39, 40, 41, 42, 43, 44, 45, 46, 47, 48, 49, 50, 51, 52, 53, 54, 55, 56, 57, 58, 59, 60, 61, 62, 63, 64, 65, 66, 67, 68, 69, 70, 71, 72, 73, 74, 75, 76, 77, 78, 79, 80, 81, 82, 83, 84, 85, 86, 87, 88, 89, 90, 91, 92, 93, 94, 95, 96, 97, 98, 99, 100, 101, 102, 103, 104, 105, 106, 107, 108, 109, 110, 111, 112, 113, 114, 115, 116, 117, 118, 119, 120, 121, 122, 123, 124, 125, 126, 127, 128, 129, 130, 131, 132, 133, 134, 135, 136, 137, 138, 139, 140, 141, 142, 143, 144, 145, 146, 147, 148, 149, 150, 151, 152, 153, 154, 155, 156, 157, 158, 159, 160, 161, 162, 163, 164, 165, 166, 167, 168, 169, 170, 171, 172, 173, 174, 175, 176, 177, 178, 179, 180, 181, 12, 14, 15, 18, 182, 183, 184, 24, 185, 186, 187, 211, 212, 213, 214, 215, 216, 217, 218, 219, 220, 221, 222, 223, 224, 225, 226, 227, 228, 229, 230, 231, 232, 233, 234, 235, 236, 237] (by decide +kernel) (by decide +kernel)
set_option maxRecDepth 20000 in
theorem gX7_hardest_X0_take : GoodIn wsX7_hardest (wsV RX7 158 RX0 yX0_take wsX0_take) := goodIn_app (goodIn_of _ (by decide +kernel)) ggX7_hardest_X0_take
set_option maxRecDepth 20000 in
theorem ggX7_hardest_X0_hardestCode : GoodIn wsX7_hardest wsX0_hardestCode := goodIn_r _ [191, 27, 28, 192, 193, 194, 24, 195, 196, 197, 198, 199, 30, 31, 16, 13, 17, 200, 201, 202, 203, 186, 187, 33, 34, 35, 36, 37, 38, 39, 40, 41, 42, 43, 44, 45, 46, 47, 48, 49, 50, 51, 52, 53, 54, 55, 56, 57, 58, 59, 60, 61, 62, 63, 64, 65, 66, 67, 68, 69, 70, 71, 72, 73, 74, 75, 76, 77, 78, 79, 80, 81, 82, 83, 84, 85, 86, 87, 88, 89, 90, 91, 92, 93, 94, 95, 96, 97, 98, 99, 100, 101, 102, 103, 104, 105, 106, 107, 108, 109, 110, 111, 112, 113, 114, 115, 116, 117, 118, 119, 120, 121, 122, 123, 124, 125, 126, 127, 128, 129, 130, 131, 132, 133, 134, 135, 136, 137, 138, 139, 140, 141, 142, 143, 144, 145, 146, 147, 148, 149, 150, 151, 152, 153, 154, 155, 156, 157, 158, 159, 160, 161, 162, 163, 164, 165, 166, 167, 168, 169, 170, 171, 172, 173, 174, 175, 176, 211, 212, 213, 214, 215, 216, 217, 218, 219, 220, 221, 222, 223, 224, 225, 226, 227, 228, 229, 230, 231, 232, 233, 234, 235, 236, 237] (by decide +kernel) (by decide +kernel)
set_option maxRecDepth 20000 in
theorem gX7_hardest_X0_hardestCode : GoodIn wsX7_hardest (wsV RX7 162 RX0 yX0_hardestCode wsX0_hardestCode) := goodIn_app (goodIn_of _ (by decide +kernel)) ggX7_hardest_X0_hardestCode
theorem dX7_hardest_0 : decode cX7_hardest 0 = .ok (.iload_n 1, 1) := by decide +kernel
theorem dX7_hardest_1 : decode cX7_hardest 1 = .ok (.invokestatic 138, 3) := by decide +kernel
theorem dX7_hardest_4 : decode cX7_hardest 4 = .ok (.ifCond .ne 9, 3) := by decide +kernel
theorem dX7_hardest_7 : decode cX7_hardest 7 = .ok (.aload_n 0, 1) := by decide +kernel
theorem dX7_hardest_8 : decode cX7_hardest 8 = .ok (.iconst (-1), 1) := by decide +kernel
theorem dX7_hardest_9 : decode cX7_hardest 9 = .ok (.invokevirtual 59, 3) := by decide +kernel
theorem dX7_hardest_12 : decode cX7_hardest 12 = .ok (.ireturn, 1) := by decide +kernel
theorem dX7_hardest_13 : decode cX7_hardest 13 = .ok (.aload_n 0, 1) := by decide +kernel
theorem dX7_hardest_14 : decode cX7_hardest 14 = .ok (.getfield 37, 3) := by decide +kernel
theorem dX7_hardest_17 : decode cX7_hardest 17 = .ok (.iload_n 1, 1) := by decide +kernel
theorem dX7_hardest_18 : decode cX7_hardest 18 = .ok (.invokevirtual 158, 3) := by decide +kernel
theorem dX7_hardest_21 : decode cX7_hardest 21 = .ok (.aload_n 0, 1) := by decide +kernel
theorem dX7_hardest_22 : decode cX7_hardest 22 = .ok (.getfield 37, 3) := by decide +kernel
theorem dX7_hardest_25 : decode cX7_hardest 25 = .ok (.iload_n 1, 1) := by decide +kernel
theorem dX7_hardest_26 : decode cX7_hardest 26 = .ok (.iload_n 2, 1) := by decide +kernel
theorem dX7_hardest_27 : decode cX7_hardest 27 = .ok (.invokevirtual 162, 3) := by decide +kernel
theorem dX7_hardest_30 : decode cX7_hardest 30 = .ok (.ireturn, 1) := by decide +kernel
set_option maxRecDepth 20000 in
theorem ggX7_count_X7_isFunction : GoodIn wsX7_count wsX7_isFunction := goodIn_r _ [5] (by decide +kernel) (by decide +kernel)
set_option maxRecDepth 20000 in
theorem gX7_count_X7_isFunction : GoodIn wsX7_count (va_wsS RX7 138 yX7_isFunction wsX7_isFunction) := goodIn_app (goodIn_of _ (by decide +kernel)) ggX7_count_X7_isFunction
set_option maxRecDepth 20000 in
theorem ggX7_count_X7_refuse : GoodIn wsX7_count wsX7_refuse := goodIn_r _ [9, 10, 11, 12, 13, 14, 15, 16, 17, 18, 19, 20, 192, 193, 194, 195, 196, 197, 198] (by decide +kernel) (by decide +kernel)
set_option maxRecDepth 20000 in
theorem gX7_count_X7_refuse : GoodIn wsX7_count (wsV RX7 59 RX7 yX7_refuse wsX7_refuse) := goodIn_app (goodIn_of _ (by decide +kernel)) ggX7_count_X7_refuse
set_option maxRecDepth 20000 in
theorem ggX7_count_X0_take : GoodIn wsX7_count wsX0_take := goodIn_r _ [25, 26, 27, 28, 29, 30, 31, 16, 13, 17, 32, 19, 20, 33, 34, 35, 36, 37, 38, 39, 40, 41, 42, 43, 44, 45, 46, 47, 48, 49, 50, 51, 52, 53, 54, 55, 56, 57, 58, 59, 60, 61, 62, 63, 64, 65, 66, 67, 68, 69, 70, 71, 72, 73, 74, 75, 76, 77, 78, 79, 80, 81, 82, 83, 84, 85, 86, 87, 88, 89, 90, 91, 92, 93, 94, 95, 96, 97, 98, 99, 100, 101, 102, 103, 104, 105, 106, 107, 108, 109, 110, 111, 112, 113, 114, 115, 116, 117, 118, 119, 120, 121, 122, 123, 124, 125, 126, 127, 128, 129, 130, 131, 132, 133, 134, 135, 136, 137, 138, 139, 140, 141, 142, 143, 144, 145, 146, 147, 148, 149, 150, 151, 152, 153, 154, 155, 156, 157, 158, 159, 160, 161, 162, 163, 164, 165, 166, 167, 168, 169, 170, 171, 172, 173, 174, 175, 176, 177, 178, 179, 180, 181, 12, 14, 15, 18, 182, 183, 184, 24, 185, 186, 187, 199, 200, 201, 202, 203, 204, 205, 206, 207, 208, 209, 210, 211, 212, 213, 214, 215, 216, 217, 218, 219, 220, 221, 222, 223, 224, 225] (by decide +kernel) (by decide +kernel)
set_option maxRecDepth 20000 in
theorem gX7_count_X0_take : GoodIn wsX7_count (wsV RX7 158 RX0 yX0_take wsX0_take) := goodIn_app (goodIn_of _ (by decide +kernel)) ggX7_count_X0_take
set_option maxRecDepth 20000 in
theorem ggX7_count_X0_ofHardness : GoodIn wsX7_count wsX0_ofHardness := goodIn_r _ [191, 30, 31, 16, 13, 17, 199, 200, 201, 202, 203, 204, 205] (by decide +kernel) (by decide +kernel)
set_option maxRecDepth 20000 in
theorem gX7_count_X0_ofHardness : GoodIn wsX7_count (wsV RX7 165 RX0 yX0_ofHardness wsX0_ofHardness) := goodIn_app (goodIn_of _ (by decide +kernel)) ggX7_count_X0_ofHardness
theorem dX7_count_0 : decode cX7_count 0 = .ok (.iload_n 1, 1) := by decide +kernel
theorem dX7_count_1 : decode cX7_count 1 = .ok (.invokestatic 138, 3) := by decide +kernel
theorem dX7_count_4 : decode cX7_count 4 = .ok (.ifCond .ne 9, 3) := by decide +kernel
theorem dX7_count_7 : decode cX7_count 7 = .ok (.aload_n 0, 1) := by decide +kernel
theorem dX7_count_8 : decode cX7_count 8 = .ok (.iconst (-1), 1) := by decide +kernel
theorem dX7_count_9 : decode cX7_count 9 = .ok (.invokevirtual 59, 3) := by decide +kernel
theorem dX7_count_12 : decode cX7_count 12 = .ok (.ireturn, 1) := by decide +kernel
theorem dX7_count_13 : decode cX7_count 13 = .ok (.iload_n 2, 1) := by decide +kernel
theorem dX7_count_14 : decode cX7_count 14 = .ok (.ifCond .ge 10, 3) := by decide +kernel
theorem dX7_count_17 : decode cX7_count 17 = .ok (.aload_n 0, 1) := by decide +kernel
theorem dX7_count_18 : decode cX7_count 18 = .ok (.bipush (-4), 2) := by decide +kernel
theorem dX7_count_20 : decode cX7_count 20 = .ok (.invokevirtual 59, 3) := by decide +kernel
theorem dX7_count_23 : decode cX7_count 23 = .ok (.ireturn, 1) := by decide +kernel
theorem dX7_count_24 : decode cX7_count 24 = .ok (.iload_n 2, 1) := by decide +kernel
theorem dX7_count_25 : decode cX7_count 25 = .ok (.bipush 10, 2) := by decide +kernel
theorem dX7_count_27 : decode cX7_count 27 = .ok (.if_icmp .lt 10, 3) := by decide +kernel
theorem dX7_count_30 : decode cX7_count 30 = .ok (.aload_n 0, 1) := by decide +kernel
theorem dX7_count_31 : decode cX7_count 31 = .ok (.bipush (-6), 2) := by decide +kernel
theorem dX7_count_33 : decode cX7_count 33 = .ok (.invokevirtual 59, 3) := by decide +kernel
theorem dX7_count_36 : decode cX7_count 36 = .ok (.ireturn, 1) := by decide +kernel
theorem dX7_count_37 : decode cX7_count 37 = .ok (.aload_n 0, 1) := by decide +kernel
theorem dX7_count_38 : decode cX7_count 38 = .ok (.getfield 37, 3) := by decide +kernel
theorem dX7_count_41 : decode cX7_count 41 = .ok (.iload_n 1, 1) := by decide +kernel
theorem dX7_count_42 : decode cX7_count 42 = .ok (.invokevirtual 158, 3) := by decide +kernel
theorem dX7_count_45 : decode cX7_count 45 = .ok (.aload_n 0, 1) := by decide +kernel
theorem dX7_count_46 : decode cX7_count 46 = .ok (.getfield 37, 3) := by decide +kernel
theorem dX7_count_49 : decode cX7_count 49 = .ok (.iload_n 1, 1) := by decide +kernel
theorem dX7_count_50 : decode cX7_count 50 = .ok (.iload_n 2, 1) := by decide +kernel
theorem dX7_count_51 : decode cX7_count 51 = .ok (.invokevirtual 165, 3) := by decide +kernel
theorem dX7_count_54 : decode cX7_count 54 = .ok (.ireturn, 1) := by decide +kernel
set_option maxRecDepth 20000 in
theorem ggX7_all_X7_isFunction : GoodIn wsX7_all wsX7_isFunction := goodIn_r _ [5] (by decide +kernel) (by decide +kernel)
set_option maxRecDepth 20000 in
theorem gX7_all_X7_isFunction : GoodIn wsX7_all (va_wsS RX7 138 yX7_isFunction wsX7_isFunction) := goodIn_app (goodIn_of _ (by decide +kernel)) ggX7_all_X7_isFunction
set_option maxRecDepth 20000 in
theorem ggX7_all_X7_refuse : GoodIn wsX7_all wsX7_refuse := goodIn_r _ [9, 10, 11, 12, 13, 14, 15, 16, 17, 18, 19, 20, 192, 193, 194, 195, 196, 197, 198] (by decide +kernel) (by decide +kernel)
set_option maxRecDepth 20000 in
theorem gX7_all_X7_refuse : GoodIn wsX7_all (wsV RX7 59 RX7 yX7_refuse wsX7_refuse) := goodIn_app (goodIn_of _ (by decide +kernel)) ggX7_all_X7_refuse
set_option maxRecDepth 20000 in
theorem ggX7_all_X0_take : GoodIn wsX7_all wsX0_take := goodIn_r _ [25, 26, 27, 28, 29, 30, 31, 16, 13, 17, 32, 19, 20, 33, 34, 35, 36, 37, 38, 39, 40, 41, 42, 43, 44, 45, 46, 47, 48, 49, 50, 51, 52, 53, 54, 55, 56, 57, 58, 59, 60, 61, 62, 63, 64, 65, 66, 67, 68, 69, 70, 71, 72, 73, 74, 75, 76, 77, 78, 79, 80, 81, 82, 83, 84, 85, 86, 87, 88, 89, 90, 91, 92, 93, 94, 95, 96, 97, 98, 99, 100, 101, 102, 103, 104, 105, 106, 107, 108, 109, 110, 111, 112, 113, 114, 115, 116, 117, 118, 119, 120, 121, 122, 123, 124, 125, 126, 127, 128, 129, 130, 131, 132, 133, 134, 135, 136, 137, 138, 139, 140, 141, 142, 143, 144, 145, 146, 147, 148, 149, 150, 151, 152, 153, 154, 155, 156, 157, 158, 159, 160, 161, 162, 163, 164, 165, 166, 167, 168, 169, 170, 171, 172, 173, 174, 175, 176, 177, 178, 179, 180, 181, 12, 14, 15, 18, 182, 183, 184, 24, 185, 186, 187, 199, 200, 201, 202, 203, 204, 205, 206, 207, 208, 209, 210, 211, 212, 213, 214, 215, 216, 217, 218, 219, 220, 221, 222, 223, 224, 225] (by decide +kernel) (by decide +kernel)
set_option maxRecDepth 20000 in
theorem gX7_all_X0_take : GoodIn wsX7_all (wsV RX7 158 RX0 yX0_take wsX0_take) := goodIn_app (goodIn_of _ (by decide +kernel)) ggX7_all_X0_take
set_option maxRecDepth 20000 in
theorem ggX7_all_X0_ofSort : GoodIn wsX7_all wsX0_ofSort := goodIn_r _ [191, 29, 31, 16, 13, 17, 199, 200, 201, 202, 203, 204, 205] (by decide +kernel) (by decide +kernel)
set_option maxRecDepth 20000 in
theorem gX7_all_X0_ofSort : GoodIn wsX7_all (wsV RX7 168 RX0 yX0_ofSort wsX0_ofSort) := goodIn_app (goodIn_of _ (by decide +kernel)) ggX7_all_X0_ofSort
theorem dX7_all_0 : decode cX7_all 0 = .ok (.iload_n 1, 1) := by decide +kernel
theorem dX7_all_1 : decode cX7_all 1 = .ok (.invokestatic 138, 3) := by decide +kernel
theorem dX7_all_4 : decode cX7_all 4 = .ok (.ifCond .ne 9, 3) := by decide +kernel
theorem dX7_all_7 : decode cX7_all 7 = .ok (.aload_n 0, 1) := by decide +kernel
theorem dX7_all_8 : decode cX7_all 8 = .ok (.iconst (-1), 1) := by decide +kernel
theorem dX7_all_9 : decode cX7_all 9 = .ok (.invokevirtual 59, 3) := by decide +kernel
theorem dX7_all_12 : decode cX7_all 12 = .ok (.ireturn, 1) := by decide +kernel
theorem dX7_all_13 : decode cX7_all 13 = .ok (.iload_n 2, 1) := by decide +kernel
theorem dX7_all_14 : decode cX7_all 14 = .ok (.ifCond .lt 8, 3) := by decide +kernel
theorem dX7_all_17 : decode cX7_all 17 = .ok (.iload_n 2, 1) := by decide +kernel
theorem dX7_all_18 : decode cX7_all 18 = .ok (.iconst 4, 1) := by decide +kernel
theorem dX7_all_19 : decode cX7_all 19 = .ok (.if_icmp .lt 10, 3) := by decide +kernel
theorem dX7_all_22 : decode cX7_all 22 = .ok (.aload_n 0, 1) := by decide +kernel
theorem dX7_all_23 : decode cX7_all 23 = .ok (.bipush (-2), 2) := by decide +kernel
theorem dX7_all_25 : decode cX7_all 25 = .ok (.invokevirtual 59, 3) := by decide +kernel
theorem dX7_all_28 : decode cX7_all 28 = .ok (.ireturn, 1) := by decide +kernel
theorem dX7_all_29 : decode cX7_all 29 = .ok (.aload_n 0, 1) := by decide +kernel
theorem dX7_all_30 : decode cX7_all 30 = .ok (.getfield 37, 3) := by decide +kernel
theorem dX7_all_33 : decode cX7_all 33 = .ok (.iload_n 1, 1) := by decide +kernel
theorem dX7_all_34 : decode cX7_all 34 = .ok (.invokevirtual 158, 3) := by decide +kernel
theorem dX7_all_37 : decode cX7_all 37 = .ok (.aload_n 0, 1) := by decide +kernel
theorem dX7_all_38 : decode cX7_all 38 = .ok (.getfield 37, 3) := by decide +kernel
theorem dX7_all_41 : decode cX7_all 41 = .ok (.iload_n 1, 1) := by decide +kernel
theorem dX7_all_42 : decode cX7_all 42 = .ok (.iload_n 2, 1) := by decide +kernel
theorem dX7_all_43 : decode cX7_all 43 = .ok (.invokevirtual 168, 3) := by decide +kernel
theorem dX7_all_46 : decode cX7_all 46 = .ok (.ireturn, 1) := by decide +kernel
set_option maxRecDepth 20000 in
theorem ggX7_spans_X7_isFunction : GoodIn wsX7_spans wsX7_isFunction := goodIn_r _ [5] (by decide +kernel) (by decide +kernel)
set_option maxRecDepth 20000 in
theorem gX7_spans_X7_isFunction : GoodIn wsX7_spans (va_wsS RX7 138 yX7_isFunction wsX7_isFunction) := goodIn_app (goodIn_of _ (by decide +kernel)) ggX7_spans_X7_isFunction
set_option maxRecDepth 20000 in
theorem ggX7_spans_X7_isRounding : GoodIn wsX7_spans wsX7_isRounding := goodIn_r _ [8] (by decide +kernel) (by decide +kernel)
set_option maxRecDepth 20000 in
theorem gX7_spans_X7_isRounding : GoodIn wsX7_spans (va_wsS RX7 125 yX7_isRounding wsX7_isRounding) := goodIn_app (goodIn_of _ (by decide +kernel)) ggX7_spans_X7_isRounding
set_option maxRecDepth 20000 in
theorem ggX7_spans_X7_refuse : GoodIn wsX7_spans wsX7_refuse := goodIn_r _ [12, 13, 14, 15, 16, 17, 18, 19, 20, 21, 22, 23, 184, 185, 186, 187, 188, 189, 190] (by decide +kernel) (by decide +kernel)
set_option maxRecDepth 20000 in
theorem gX7_spans_X7_refuse : GoodIn wsX7_spans (wsV RX7 59 RX7 yX7_refuse wsX7_refuse) := goodIn_app (goodIn_of _ (by decide +kernel)) ggX7_spans_X7_refuse
set_option maxRecDepth 20000 in
theorem ggX7_spans_X5_take : GoodIn wsX7_spans wsX5_take := goodIn_r _ [28, 29, 30, 31, 32, 33, 34, 35, 27, 36, 37, 19, 16, 20, 38, 39, 40, 41, 42, 43, 44, 45, 46, 47, 48, 49, 50, 51, 52, 53, 54, 55, 56, 57, 58, 59, 60, 61, 62, 63, 64, 65, 66, 67, 68, 69, 70, 71, 72, 73, 74, 75, 76, 77, 78, 79, 80, 81, 82, 83, 84, 85, 86, 87, 88, 89, 90, 91, 92, 93, 94, 95, 96, 97, 98, 99, 100, 101, 102, 103, 104, 105, 106, 107, 108, 109, 110, 111, 112, 113, 114, 115, 116, 117, 118, 119, 120, 121, 122, 123, 124, 125, 126, 127, 128, 129, 130, 131, 132, 133, 134, 135, 136, 137, 138, 139, 140, 141, 142, 143, 144, 145, 146, 147, 148, 149, 150, 151, 152, 153, 154, 155, 156, 157, 158, 159, 160, 161, 162, 163, 164, 165, 166, 167, 168, 169, 170, 171, 172, 173, 174, 175, 176, 177, 178, 179, 180, 181, 182, 15, 17, 18, 21, 22, 23, 191, 192, 193, 194, 195, 196, 197, 198, 199, 200, 201, 202, 203, 204, 205, 206, 207, 208, 209, 210, 211, 212, 213, 214] (by decide +kernel) (by decide +kernel)
set_option maxRecDepth 20000 in
theorem gX7_spans_X5_take : GoodIn wsX7_spans (wsV RX7 171 RX5 yX5_take wsX5_take) := goodIn_app (goodIn_of _ (by decide +kernel)) ggX7_spans_X5_take
set_option maxRecDepth 20000 in
theorem ggX7_spans_X5_total : GoodIn wsX7_spans wsX5_total := goodIn_r _ [36, 31, 37, 19, 16, 20, 191, 192, 193, 194] (by decide +kernel) (by decide +kernel)
set_option maxRecDepth 20000 in
theorem gX7_spans_X5_total : GoodIn wsX7_spans (wsV RX7 173 RX5 yX5_total wsX5_total) := goodIn_app (goodIn_of _ (by decide +kernel)) ggX7_spans_X5_total
theorem dX7_spans_0 : decode cX7_spans 0 = .ok (.iload_n 1, 1) := by decide +kernel
theorem dX7_spans_1 : decode cX7_spans 1 = .ok (.invokestatic 138, 3) := by decide +kernel
theorem dX7_spans_4 : decode cX7_spans 4 = .ok (.ifCond .eq 10, 3) := by decide +kernel
theorem dX7_spans_7 : decode cX7_spans 7 = .ok (.iload_n 2, 1) := by decide +kernel
theorem dX7_spans_8 : decode cX7_spans 8 = .ok (.invokestatic 125, 3) := by decide +kernel
theorem dX7_spans_11 : decode cX7_spans 11 = .ok (.ifCond .ne 9, 3) := by decide +kernel
theorem dX7_spans_14 : decode cX7_spans 14 = .ok (.aload_n 0, 1) := by decide +kernel
theorem dX7_spans_15 : decode cX7_spans 15 = .ok (.iconst (-1), 1) := by decide +kernel
theorem dX7_spans_16 : decode cX7_spans 16 = .ok (.invokevirtual 59, 3) := by decide +kernel
theorem dX7_spans_19 : decode cX7_spans 19 = .ok (.ireturn, 1) := by decide +kernel
theorem dX7_spans_20 : decode cX7_spans 20 = .ok (.aload_n 0, 1) := by decide +kernel
theorem dX7_spans_21 : decode cX7_spans 21 = .ok (.getfield 44, 3) := by decide +kernel
theorem dX7_spans_24 : decode cX7_spans 24 = .ok (.iload_n 1, 1) := by decide +kernel
theorem dX7_spans_25 : decode cX7_spans 25 = .ok (.iload_n 2, 1) := by decide +kernel
theorem dX7_spans_26 : decode cX7_spans 26 = .ok (.invokevirtual 171, 3) := by decide +kernel
theorem dX7_spans_29 : decode cX7_spans 29 = .ok (.aload_n 0, 1) := by decide +kernel
theorem dX7_spans_30 : decode cX7_spans 30 = .ok (.getfield 44, 3) := by decide +kernel
theorem dX7_spans_33 : decode cX7_spans 33 = .ok (.iload_n 1, 1) := by decide +kernel
theorem dX7_spans_34 : decode cX7_spans 34 = .ok (.iload_n 2, 1) := by decide +kernel
theorem dX7_spans_35 : decode cX7_spans 35 = .ok (.invokevirtual 173, 3) := by decide +kernel
theorem dX7_spans_38 : decode cX7_spans 38 = .ok (.ireturn, 1) := by decide +kernel
set_option maxRecDepth 20000 in
theorem ggX7_span_X7_isFunction : GoodIn wsX7_span wsX7_isFunction := goodIn_r _ [7] (by decide +kernel) (by decide +kernel)
set_option maxRecDepth 20000 in
theorem gX7_span_X7_isFunction : GoodIn wsX7_span (va_wsS RX7 138 yX7_isFunction wsX7_isFunction) := goodIn_app (goodIn_of _ (by decide +kernel)) ggX7_span_X7_isFunction
set_option maxRecDepth 20000 in
theorem ggX7_span_X7_isRounding : GoodIn wsX7_span wsX7_isRounding := goodIn_r _ [10] (by decide +kernel) (by decide +kernel)
set_option maxRecDepth 20000 in
theorem gX7_span_X7_isRounding : GoodIn wsX7_span (va_wsS RX7 125 yX7_isRounding wsX7_isRounding) := goodIn_app (goodIn_of _ (by decide +kernel)) ggX7_span_X7_isRounding
set_option maxRecDepth 20000 in
theorem ggX7_span_X7_refuse : GoodIn wsX7_span wsX7_refuse := goodIn_r _ [14, 15, 16, 17, 18, 19, 20, 21, 22, 23, 24, 25, 193, 194, 195, 196, 197, 198, 199] (by decide +kernel) (by decide +kernel)
set_option maxRecDepth 20000 in
theorem gX7_span_X7_refuse : GoodIn wsX7_span (wsV RX7 59 RX7 yX7_refuse wsX7_refuse) := goodIn_app (goodIn_of _ (by decide +kernel)) ggX7_span_X7_refuse
set_option maxRecDepth 20000 in
theorem ggX7_span_X5_take : GoodIn wsX7_span wsX5_take := goodIn_r _ [30, 31, 32, 33, 34, 35, 36, 37, 29, 38, 39, 21, 18, 22, 40, 41, 42, 43, 44, 45, 46, 47, 48, 49, 50, 51, 52, 53, 54, 55, 56, 57, 58, 59, 60, 61, 62, 63, 64, 65, 66, 67, 68, 69, 70, 71, 72, 73, 74, 75, 76, 77, 78, 79, 80, 81, 82, 83, 84, 85, 86, 87, 88, 89, 90, 91, 92, 93, 94, 95, 96, 97, 98, 99, 100, 101, 102, 103, 104, 105, 106, 107, 108, 109, 110, 111, 112, 113, 114, 115, 116, 117, 118, 119, 120, 121, 122, 123, 124, 125, 126, 127, 128, 129, 130, 131, 132, 133, 134, 135, 136, 137, 138, 139, 140, 141, 142, 143, 144, 145, 146, 147, 148, 149, 150, 151, 152, 153, 154, 155, 156, 157, 158, 159, 160, 161, 162, 163, 164, 165, 166, 167, 168, 169, 170, 171, 172, 173, 174, 175, 176, 177, 178, 179, 180, 181, 182, 183, 184, 17, 19, 20, 23, 24, 25, 200, 201, 202, 203, 204, 205, 206, 207, 208, 209, 210, 211, 212, 213, 214, 215, 216, 217, 218, 219, 220, 221, 222, 223] (by decide +kernel) (by decide +kernel)
set_option maxRecDepth 20000 in
theorem gX7_span_X5_take : GoodIn wsX7_span (wsV RX7 171 RX5 yX5_take wsX5_take) := goodIn_app (goodIn_of _ (by decide +kernel)) ggX7_span_X5_take
set_option maxRecDepth 20000 in
theorem ggX7_span_X5_total : GoodIn wsX7_span wsX5_total := goodIn_r _ [38, 33, 39, 21, 18, 22, 200, 201, 202, 203] (by decide +kernel) (by decide +kernel)
set_option maxRecDepth 20000 in
theorem gX7_span_X5_total : GoodIn wsX7_span (wsV RX7 173 RX5 yX5_total wsX5_total) := goodIn_app (goodIn_of _ (by decide +kernel)) ggX7_span_X5_total
set_option maxRecDepth 20000 in
theorem ggX7_span_X1_greatestPlain : GoodIn wsX7_span wsX1_greatestPlain := goodIn_r _ [158, 76, 204, 205, 206, 207, 208, 209] (by decide +kernel) (by decide +kernel)
set_option maxRecDepth 20000 in
theorem gX7_span_X1_greatestPlain : GoodIn wsX7_span (wsV RX7 176 RX1 yX1_greatestPlain wsX1_greatestPlain) := goodIn_app (goodIn_of _ (by decide +kernel)) ggX7_span_X1_greatestPlain
set_option maxRecDepth 20000 in
theorem ggX7_span_X5_firstCode : GoodIn wsX7_span wsX5_firstCode := goodIn_r _ [190, 34, 191, 99, 100, 101, 32, 31, 39, 21, 18, 22, 40, 41, 42, 43, 44, 45, 46, 47, 48, 49, 50, 51, 52, 53, 54, 55, 56, 57, 58, 59, 60, 61, 62, 63, 64, 65, 66, 67, 68, 69, 70, 71, 72, 73, 74, 75, 76, 77, 78, 79, 80, 81, 82, 83, 84, 85, 86, 87, 88, 89, 90, 91, 92, 93, 94, 95, 96, 97, 98, 102, 103, 104, 105, 106, 107, 108, 109, 110, 111, 112, 113, 114, 115, 116, 117, 118, 119, 120, 121, 122, 123, 124, 125, 126, 127, 128, 129, 130, 131, 132, 133, 134, 135, 136, 137, 138, 139, 140, 141, 142, 143, 144, 145, 146, 147, 148, 149, 150, 151, 152, 153, 154, 155, 156, 157, 158, 159, 160, 161, 162, 163, 164, 165, 166, 167, 168, 169, 170, 171, 172, 173, 174, 175, 176, 177, 178, 179, 180, 181, 182, 183, 200, 201, 202, 203, 204, 205, 206, 207, 208, 209, 210, 211, 212, 213, 214, 215, 216, 217, 218, 219, 220, 221, 222, 223] (by decide +kernel) (by decide +kernel)
set_option maxRecDepth 20000 in
theorem gX7_span_X5_firstCode : GoodIn wsX7_span (wsV RX7 179 RX5 yX5_firstCode wsX5_firstCode) := goodIn_app (goodIn_of _ (by decide +kernel)) ggX7_span_X5_firstCode
set_option maxRecDepth 20000 in
theorem ggX7_span_X6_resultAt : GoodIn wsX7_span wsX6_resultAt := goodIn_r _ [44, 45, 46, 47, 48, 49, 50, 51, 43, 52, 53, 54, 55, 56, 57, 58, 59, 60, 61, 62, 63, 64, 65, 66, 67, 68, 69, 70, 71, 72, 73, 74, 75, 76, 77, 78, 79, 80, 81, 82, 83, 84, 85, 86, 87, 88, 89, 90, 91, 92, 93, 94, 95, 96, 97, 98, 99, 100, 101, 102, 103, 104, 105, 106, 107, 108, 109, 110, 111, 112, 113, 114, 115, 116, 117, 118, 119, 120, 121, 122, 123, 124, 125, 126, 127, 128, 129, 130, 131, 132, 133, 134, 135, 136, 137, 138, 139, 140, 141, 142, 143, 144, 145, 146, 147, 148, 149, 150, 151, 152, 153, 154, 155, 156, 157, 158, 159, 160, 161, 162, 163, 164, 165, 166, 167, 168, 169, 170, 171, 172, 173, 174, 175, 176, 177, 178, 179, 180, 181, 182, 183, 210, 211, 212, 213, 214, 215, 216, 217, 218, 204, 205, 206, 207, 208, 209, 219, 220, 221, 222, 223] (by decide +kernel) (by decide +kernel)
set_option maxRecDepth 20000 in
theorem gX7_span_X6_resultAt : GoodIn wsX7_span (wsV RX7 141 RX6 yX6_resultAt wsX6_resultAt) := goodIn_app (goodIn_of _ (by decide +kernel)) ggX7_span_X6_resultAt
theorem dX7_span_0 : decode cX7_span 0 = .ok (.iload_n 1, 1) := by decide +kernel
theorem dX7_span_1 : decode cX7_span 1 = .ok (.invokestatic 138, 3) := by decide +kernel
theorem dX7_span_4 : decode cX7_span 4 = .ok (.ifCond .eq 10, 3) := by decide +kernel
theorem dX7_span_7 : decode cX7_span 7 = .ok (.iload_n 2, 1) := by decide +kernel
theorem dX7_span_8 : decode cX7_span 8 = .ok (.invokestatic 125, 3) := by decide +kernel
theorem dX7_span_11 : decode cX7_span 11 = .ok (.ifCond .ne 9, 3) := by decide +kernel
theorem dX7_span_14 : decode cX7_span 14 = .ok (.aload_n 0, 1) := by decide +kernel
theorem dX7_span_15 : decode cX7_span 15 = .ok (.iconst (-1), 1) := by decide +kernel
theorem dX7_span_16 : decode cX7_span 16 = .ok (.invokevirtual 59, 3) := by decide +kernel
theorem dX7_span_19 : decode cX7_span 19 = .ok (.ireturn, 1) := by decide +kernel
theorem dX7_span_20 : decode cX7_span 20 = .ok (.aload_n 0, 1) := by decide +kernel
theorem dX7_span_21 : decode cX7_span 21 = .ok (.getfield 44, 3) := by decide +kernel
theorem dX7_span_24 : decode cX7_span 24 = .ok (.iload_n 1, 1) := by decide +kernel
theorem dX7_span_25 : decode cX7_span 25 = .ok (.iload_n 2, 1) := by decide +kernel
theorem dX7_span_26 : decode cX7_span 26 = .ok (.invokevirtual 171, 3) := by decide +kernel
theorem dX7_span_29 : decode cX7_span 29 = .ok (.iload_n 3, 1) := by decide +kernel
theorem dX7_span_30 : decode cX7_span 30 = .ok (.ifCond .lt 16, 3) := by decide +kernel
theorem dX7_span_33 : decode cX7_span 33 = .ok (.iload_n 3, 1) := by decide +kernel
theorem dX7_span_34 : decode cX7_span 34 = .ok (.aload_n 0, 1) := by decide +kernel
theorem dX7_span_35 : decode cX7_span 35 = .ok (.getfield 44, 3) := by decide +kernel
theorem dX7_span_38 : decode cX7_span 38 = .ok (.iload_n 1, 1) := by decide +kernel
theorem dX7_span_39 : decode cX7_span 39 = .ok (.iload_n 2, 1) := by decide +kernel
theorem dX7_span_40 : decode cX7_span 40 = .ok (.invokevirtual 173, 3) := by decide +kernel
theorem dX7_span_43 : decode cX7_span 43 = .ok (.if_icmp .lt 9, 3) := by decide +kernel
theorem dX7_span_46 : decode cX7_span 46 = .ok (.aload_n 0, 1) := by decide +kernel
theorem dX7_span_47 : decode cX7_span 47 = .ok (.iconst (-1), 1) := by decide +kernel
theorem dX7_span_48 : decode cX7_span 48 = .ok (.invokevirtual 59, 3) := by decide +kernel
theorem dX7_span_51 : decode cX7_span 51 = .ok (.ireturn, 1) := by decide +kernel
theorem dX7_span_52 : decode cX7_span 52 = .ok (.iload 4, 2) := by decide +kernel
theorem dX7_span_54 : decode cX7_span 54 = .ok (.ifCond .lt 9, 3) := by decide +kernel
theorem dX7_span_57 : decode cX7_span 57 = .ok (.iload 4, 2) := by decide +kernel
theorem dX7_span_59 : decode cX7_span 59 = .ok (.iconst 2, 1) := by decide +kernel
theorem dX7_span_60 : decode cX7_span 60 = .ok (.if_icmp .le 10, 3) := by decide +kernel
theorem dX7_span_63 : decode cX7_span 63 = .ok (.aload_n 0, 1) := by decide +kernel
theorem dX7_span_64 : decode cX7_span 64 = .ok (.bipush (-2), 2) := by decide +kernel
theorem dX7_span_66 : decode cX7_span 66 = .ok (.invokevirtual 59, 3) := by decide +kernel
theorem dX7_span_69 : decode cX7_span 69 = .ok (.ireturn, 1) := by decide +kernel
theorem dX7_span_70 : decode cX7_span 70 = .ok (.iload 4, 2) := by decide +kernel
theorem dX7_span_72 : decode cX7_span 72 = .ok (.iconst 1, 1) := by decide +kernel
theorem dX7_span_73 : decode cX7_span 73 = .ok (.if_icmp .ne 55, 3) := by decide +kernel
theorem dX7_span_76 : decode cX7_span 76 = .ok (.iload_n 3, 1) := by decide +kernel
theorem dX7_span_77 : decode cX7_span 77 = .ok (.iconst 1, 1) := by decide +kernel
theorem dX7_span_78 : decode cX7_span 78 = .ok (.iadd, 1) := by decide +kernel
theorem dX7_span_79 : decode cX7_span 79 = .ok (.aload_n 0, 1) := by decide +kernel
theorem dX7_span_80 : decode cX7_span 80 = .ok (.getfield 44, 3) := by decide +kernel
theorem dX7_span_83 : decode cX7_span 83 = .ok (.iload_n 1, 1) := by decide +kernel
theorem dX7_span_84 : decode cX7_span 84 = .ok (.iload_n 2, 1) := by decide +kernel
theorem dX7_span_85 : decode cX7_span 85 = .ok (.invokevirtual 173, 3) := by decide +kernel
theorem dX7_span_88 : decode cX7_span 88 = .ok (.if_icmp .ne 7, 3) := by decide +kernel
theorem dX7_span_91 : decode cX7_span 91 = .ok (.iconst 1, 1) := by decide +kernel
theorem dX7_span_92 : decode cX7_span 92 = .ok (.goto 4, 3) := by decide +kernel
theorem dX7_span_95 : decode cX7_span 95 = .ok (.iconst 0, 1) := by decide +kernel
theorem dX7_span_96 : decode cX7_span 96 = .ok (.istore 5, 2) := by decide +kernel
theorem dX7_span_98 : decode cX7_span 98 = .ok (.iload 5, 2) := by decide +kernel
theorem dX7_span_100 : decode cX7_span 100 = .ok (.ifCond .eq 13, 3) := by decide +kernel
theorem dX7_span_103 : decode cX7_span 103 = .ok (.aload_n 0, 1) := by decide +kernel
theorem dX7_span_104 : decode cX7_span 104 = .ok (.getfield 12, 3) := by decide +kernel
theorem dX7_span_107 : decode cX7_span 107 = .ok (.invokevirtual 176, 3) := by decide +kernel
theorem dX7_span_110 : decode cX7_span 110 = .ok (.goto 17, 3) := by decide +kernel
theorem dX7_span_113 : decode cX7_span 113 = .ok (.aload_n 0, 1) := by decide +kernel
theorem dX7_span_114 : decode cX7_span 114 = .ok (.getfield 44, 3) := by decide +kernel
theorem dX7_span_117 : decode cX7_span 117 = .ok (.iload_n 1, 1) := by decide +kernel
theorem dX7_span_118 : decode cX7_span 118 = .ok (.iload_n 2, 1) := by decide +kernel
theorem dX7_span_119 : decode cX7_span 119 = .ok (.iload_n 3, 1) := by decide +kernel
theorem dX7_span_120 : decode cX7_span 120 = .ok (.iconst 1, 1) := by decide +kernel
theorem dX7_span_121 : decode cX7_span 121 = .ok (.iadd, 1) := by decide +kernel
theorem dX7_span_122 : decode cX7_span 122 = .ok (.invokevirtual 179, 3) := by decide +kernel
theorem dX7_span_125 : decode cX7_span 125 = .ok (.iconst 1, 1) := by decide +kernel
theorem dX7_span_126 : decode cX7_span 126 = .ok (.isub, 1) := by decide +kernel
theorem dX7_span_127 : decode cX7_span 127 = .ok (.ireturn, 1) := by decide +kernel
theorem dX7_span_128 : decode cX7_span 128 = .ok (.aload_n 0, 1) := by decide +kernel
theorem dX7_span_129 : decode cX7_span 129 = .ok (.getfield 44, 3) := by decide +kernel
theorem dX7_span_132 : decode cX7_span 132 = .ok (.iload_n 1, 1) := by decide +kernel
theorem dX7_span_133 : decode cX7_span 133 = .ok (.iload_n 2, 1) := by decide +kernel
theorem dX7_span_134 : decode cX7_span 134 = .ok (.iload_n 3, 1) := by decide +kernel
theorem dX7_span_135 : decode cX7_span 135 = .ok (.invokevirtual 179, 3) := by decide +kernel
theorem dX7_span_138 : decode cX7_span 138 = .ok (.istore 5, 2) := by decide +kernel
theorem dX7_span_140 : decode cX7_span 140 = .ok (.iload 4, 2) := by decide +kernel
theorem dX7_span_142 : decode cX7_span 142 = .ok (.ifCond .ne 8, 3) := by decide +kernel
theorem dX7_span_145 : decode cX7_span 145 = .ok (.iload 5, 2) := by decide +kernel
theorem dX7_span_147 : decode cX7_span 147 = .ok (.goto 14, 3) := by decide +kernel
theorem dX7_span_150 : decode cX7_span 150 = .ok (.aload_n 0, 1) := by decide +kernel
theorem dX7_span_151 : decode cX7_span 151 = .ok (.getfield 28, 3) := by decide +kernel
theorem dX7_span_154 : decode cX7_span 154 = .ok (.iload_n 1, 1) := by decide +kernel
theorem dX7_span_155 : decode cX7_span 155 = .ok (.iload 5, 2) := by decide +kernel
theorem dX7_span_157 : decode cX7_span 157 = .ok (.iload_n 2, 1) := by decide +kernel
theorem dX7_span_158 : decode cX7_span 158 = .ok (.invokevirtual 141, 3) := by decide +kernel
theorem dX7_span_161 : decode cX7_span 161 = .ok (.ireturn, 1) := by decide +kernel
set_option maxRecDepth 20000 in
theorem ggX7_table_X7_isFunction : GoodIn wsX7_table wsX7_isFunction := goodIn_r _ [6] (by decide +kernel) (by decide +kernel)
set_option maxRecDepth 20000 in
theorem gX7_table_X7_isFunction : GoodIn wsX7_table (va_wsS RX7 138 yX7_isFunction wsX7_isFunction) := goodIn_app (goodIn_of _ (by decide +kernel)) ggX7_table_X7_isFunction
set_option maxRecDepth 20000 in
theorem ggX7_table_X7_isRounding : GoodIn wsX7_table wsX7_isRounding := goodIn_r _ [9] (by decide +kernel) (by decide +kernel)
set_option maxRecDepth 20000 in
theorem gX7_table_X7_isRounding : GoodIn wsX7_table (va_wsS RX7 125 yX7_isRounding wsX7_isRounding) := goodIn_app (goodIn_of _ (by decide +kernel)) ggX7_table_X7_isRounding
set_option maxRecDepth 20000 in
theorem ggX7_table_X1_isPower : GoodIn wsX7_table wsX1_isPower := goodIn_r _ [14, 15, 238, 239, 240, 241, 242, 243] (by decide +kernel) (by decide +kernel)
set_option maxRecDepth 20000 in
theorem gX7_table_X1_isPower : GoodIn wsX7_table (wsV RX7 182 RX1 yX1_isPower wsX1_isPower) := goodIn_app (goodIn_of _ (by decide +kernel)) ggX7_table_X1_isPower
set_option maxRecDepth 20000 in
theorem ggX7_table_X7_refuse : GoodIn wsX7_table wsX7_refuse := goodIn_r _ [19, 20, 21, 22, 23, 24, 25, 26, 27, 28, 29, 30, 231, 232, 233, 234, 235, 236, 237] (by decide +kernel) (by decide +kernel)
set_option maxRecDepth 20000 in
theorem gX7_table_X7_refuse : GoodIn wsX7_table (wsV RX7 59 RX7 yX7_refuse wsX7_refuse) := goodIn_app (goodIn_of _ (by decide +kernel)) ggX7_table_X7_refuse
set_option maxRecDepth 20000 in
theorem ggX7_table_X2_readDue : GoodIn wsX7_table wsX2_readDue := goodIn_r _ [35, 36, 37, 38, 39, 40, 41, 13, 42, 43, 44, 45, 46, 47, 48, 49, 50, 51, 52, 53, 54, 55, 56, 57, 58, 59, 60, 61, 62, 63, 64, 65, 66, 67, 68, 69, 70, 71, 72, 73, 74, 75, 76, 77, 78, 79, 80, 81, 82, 83, 84, 85, 86, 87, 88, 89, 90, 91, 92, 93, 94, 95, 96, 97, 98, 99, 100, 101, 102, 103, 104, 105, 106, 107, 108, 109, 110, 111, 112, 113, 114, 115, 116, 117, 118, 119, 120, 121, 122, 123, 124, 125, 126, 127, 128, 129, 130, 131, 132, 133, 134, 135, 136, 137, 138, 139, 140, 141, 142, 143, 144, 145, 146, 147, 148, 149, 150, 151, 152, 153, 154, 155, 156, 157, 158, 159, 160, 161, 162, 163, 164, 165, 166, 167, 168, 169, 170, 171, 172, 173, 174, 175, 176, 177, 178, 179, 180, 181, 182, 183, 184, 185, 186, 187, 29, 23, 30, 244, 245, 246, 247, 248, 249, 250, 251, 252, 253, 238, 239, 240, 241, 242, 243, 254, 255, 256, 257, 258, 259, 260, 261, 262, 263, 264, 265, 266, 267] (by decide +kernel) (by decide +kernel)
set_option maxRecDepth 20000 in
theorem gX7_table_X2_readDue : GoodIn wsX7_table (wsV RX7 185 RX2 yX2_readDue wsX2_readDue) := goodIn_app (goodIn_of _ (by decide +kernel)) ggX7_table_X2_readDue
set_option maxRecDepth 20000 in
theorem ggX7_table_X2_cutParts : GoodIn wsX7_table wsX2_cutParts := goodIn_r _ [191, 192, 193, 36, 194, 195, 196, 34, 197, 198, 199, 200, 201, 39, 40, 41, 13, 42, 43, 202, 203, 204, 205, 37, 206, 207, 103, 208, 209, 210, 211, 212, 26, 23, 27, 213, 214, 215, 216, 217, 130, 218, 219, 220, 221, 222, 223, 224, 225, 226, 187, 29, 30, 244, 245, 246, 247, 248, 249, 250, 251, 252, 253, 238, 239, 240, 241, 242, 243] (by decide +kernel) (by decide +kernel)
set_option maxRecDepth 20000 in
theorem gX7_table_X2_cutParts : GoodIn wsX7_table (wsV RX7 189 RX2 yX2_cutParts wsX2_cutParts) := goodIn_app (goodIn_of _ (by decide +kernel)) ggX7_table_X2_cutParts
set_option maxRecDepth 20000 in
theorem ggX7_table_X2_parts : GoodIn wsX7_table wsX2_parts := goodIn_r _ [230, 193, 244, 245, 246, 247, 248, 249, 250, 251, 252, 253] (by decide +kernel) (by decide +kernel)
set_option maxRecDepth 20000 in
theorem gX7_table_X2_parts : GoodIn wsX7_table (wsV RX7 192 RX2 yX2_parts wsX2_parts) := goodIn_app (goodIn_of _ (by decide +kernel)) ggX7_table_X2_parts
theorem dX7_table_0 : decode cX7_table 0 = .ok (.iload_n 1, 1) := by decide +kernel
theorem dX7_table_1 : decode cX7_table 1 = .ok (.invokestatic 138, 3) := by decide +kernel
theorem dX7_table_4 : decode cX7_table 4 = .ok (.ifCond .eq 21, 3) := by decide +kernel
theorem dX7_table_7 : decode cX7_table 7 = .ok (.iload_n 2, 1) := by decide +kernel
theorem dX7_table_8 : decode cX7_table 8 = .ok (.invokestatic 125, 3) := by decide +kernel
theorem dX7_table_11 : decode cX7_table 11 = .ok (.ifCond .eq 14, 3) := by decide +kernel
theorem dX7_table_14 : decode cX7_table 14 = .ok (.aload_n 0, 1) := by decide +kernel
theorem dX7_table_15 : decode cX7_table 15 = .ok (.getfield 12, 3) := by decide +kernel
theorem dX7_table_18 : decode cX7_table 18 = .ok (.iload_n 3, 1) := by decide +kernel
theorem dX7_table_19 : decode cX7_table 19 = .ok (.invokevirtual 182, 3) := by decide +kernel
theorem dX7_table_22 : decode cX7_table 22 = .ok (.ifCond .ne 9, 3) := by decide +kernel
theorem dX7_table_25 : decode cX7_table 25 = .ok (.aload_n 0, 1) := by decide +kernel
theorem dX7_table_26 : decode cX7_table 26 = .ok (.iconst (-1), 1) := by decide +kernel
theorem dX7_table_27 : decode cX7_table 27 = .ok (.invokevirtual 59, 3) := by decide +kernel
theorem dX7_table_30 : decode cX7_table 30 = .ok (.ireturn, 1) := by decide +kernel
theorem dX7_table_31 : decode cX7_table 31 = .ok (.iload 4, 2) := by decide +kernel
theorem dX7_table_33 : decode cX7_table 33 = .ok (.ifCond .lt 9, 3) := by decide +kernel
theorem dX7_table_36 : decode cX7_table 36 = .ok (.iload 4, 2) := by decide +kernel
theorem dX7_table_38 : decode cX7_table 38 = .ok (.iconst 1, 1) := by decide +kernel
theorem dX7_table_39 : decode cX7_table 39 = .ok (.if_icmp .le 10, 3) := by decide +kernel
theorem dX7_table_42 : decode cX7_table 42 = .ok (.aload_n 0, 1) := by decide +kernel
theorem dX7_table_43 : decode cX7_table 43 = .ok (.bipush (-2), 2) := by decide +kernel
theorem dX7_table_45 : decode cX7_table 45 = .ok (.invokevirtual 59, 3) := by decide +kernel
theorem dX7_table_48 : decode cX7_table 48 = .ok (.ireturn, 1) := by decide +kernel
theorem dX7_table_49 : decode cX7_table 49 = .ok (.iload 5, 2) := by decide +kernel
theorem dX7_table_51 : decode cX7_table 51 = .ok (.ifCond .ge 10, 3) := by decide +kernel
theorem dX7_table_54 : decode cX7_table 54 = .ok (.aload_n 0, 1) := by decide +kernel
theorem dX7_table_55 : decode cX7_table 55 = .ok (.bipush (-4), 2) := by decide +kernel
theorem dX7_table_57 : decode cX7_table 57 = .ok (.invokevirtual 59, 3) := by decide +kernel
theorem dX7_table_60 : decode cX7_table 60 = .ok (.ireturn, 1) := by decide +kernel
theorem dX7_table_61 : decode cX7_table 61 = .ok (.iload 5, 2) := by decide +kernel
theorem dX7_table_63 : decode cX7_table 63 = .ok (.bipush 10, 2) := by decide +kernel
theorem dX7_table_65 : decode cX7_table 65 = .ok (.if_icmp .le 10, 3) := by decide +kernel
theorem dX7_table_68 : decode cX7_table 68 = .ok (.aload_n 0, 1) := by decide +kernel
theorem dX7_table_69 : decode cX7_table 69 = .ok (.bipush (-6), 2) := by decide +kernel
theorem dX7_table_71 : decode cX7_table 71 = .ok (.invokevirtual 59, 3) := by decide +kernel
theorem dX7_table_74 : decode cX7_table 74 = .ok (.ireturn, 1) := by decide +kernel
theorem dX7_table_75 : decode cX7_table 75 = .ok (.aload_n 0, 1) := by decide +kernel
theorem dX7_table_76 : decode cX7_table 76 = .ok (.getfield 51, 3) := by decide +kernel
theorem dX7_table_79 : decode cX7_table 79 = .ok (.iload_n 1, 1) := by decide +kernel
theorem dX7_table_80 : decode cX7_table 80 = .ok (.iload_n 2, 1) := by decide +kernel
theorem dX7_table_81 : decode cX7_table 81 = .ok (.iload_n 3, 1) := by decide +kernel
theorem dX7_table_82 : decode cX7_table 82 = .ok (.invokevirtual 185, 3) := by decide +kernel
theorem dX7_table_85 : decode cX7_table 85 = .ok (.aload_n 0, 1) := by decide +kernel
theorem dX7_table_86 : decode cX7_table 86 = .ok (.getfield 51, 3) := by decide +kernel
theorem dX7_table_89 : decode cX7_table 89 = .ok (.iload 4, 2) := by decide +kernel
theorem dX7_table_91 : decode cX7_table 91 = .ok (.iload 5, 2) := by decide +kernel
theorem dX7_table_93 : decode cX7_table 93 = .ok (.invokevirtual 189, 3) := by decide +kernel
theorem dX7_table_96 : decode cX7_table 96 = .ok (.aload_n 0, 1) := by decide +kernel
theorem dX7_table_97 : decode cX7_table 97 = .ok (.getfield 51, 3) := by decide +kernel
theorem dX7_table_100 : decode cX7_table 100 = .ok (.invokevirtual 192, 3) := by decide +kernel
theorem dX7_table_103 : decode cX7_table 103 = .ok (.ireturn, 1) := by decide +kernel
set_option maxRecDepth 20000 in
theorem ggX7_part_X2_parts : GoodIn wsX7_part wsX2_parts := goodIn_r _ [6, 7, 64, 65, 66, 67, 68, 69, 70, 71, 72, 73] (by decide +kernel) (by decide +kernel)
set_option maxRecDepth 20000 in
theorem gX7_part_X2_parts : GoodIn wsX7_part (wsV RX7 192 RX2 yX2_parts wsX2_parts) := goodIn_app (goodIn_of _ (by decide +kernel)) ggX7_part_X2_parts
set_option maxRecDepth 20000 in
theorem ggX7_part_X7_refuseAsTold : GoodIn wsX7_part wsX7_refuseAsTold := goodIn_r _ [12, 13, 14, 15, 16, 11, 17, 18, 19, 20, 21, 22, 23, 24, 25, 26, 27, 28, 57, 58, 59, 60, 61, 62, 63] (by decide +kernel) (by decide +kernel)
set_option maxRecDepth 20000 in
theorem gX7_part_X7_refuseAsTold : GoodIn wsX7_part (wsV RX7 86 RX7 yX7_refuseAsTold wsX7_refuseAsTold) := goodIn_app (goodIn_of _ (by decide +kernel)) ggX7_part_X7_refuseAsTold
set_option maxRecDepth 20000 in
theorem ggX7_part_X2_firstZ : GoodIn wsX7_part wsX2_firstZ := goodIn_r _ [32, 33, 34, 24, 21, 25, 64, 65, 66, 67, 68, 69, 70, 71, 72, 73] (by decide +kernel) (by decide +kernel)
set_option maxRecDepth 20000 in
theorem gX7_part_X2_firstZ : GoodIn wsX7_part (wsV RX7 195 RX2 yX2_firstZ wsX2_firstZ) := goodIn_app (goodIn_of _ (by decide +kernel)) ggX7_part_X2_firstZ
set_option maxRecDepth 20000 in
theorem ggX7_part_X2_lastZ : GoodIn wsX7_part wsX2_lastZ := goodIn_r _ [38, 7, 39, 40, 30, 31, 5, 32, 33, 34, 24, 21, 25, 41, 42, 43, 44, 45, 46, 64, 65, 66, 67, 68, 69, 70, 71, 72, 73, 74, 75, 76, 77, 78, 79] (by decide +kernel) (by decide +kernel)
set_option maxRecDepth 20000 in
theorem gX7_part_X2_lastZ : GoodIn wsX7_part (wsV RX7 198 RX2 yX2_lastZ wsX2_lastZ) := goodIn_app (goodIn_of _ (by decide +kernel)) ggX7_part_X2_lastZ
set_option maxRecDepth 20000 in
theorem ggX7_part_X2_lineStart : GoodIn wsX7_part wsX2_lineStart := goodIn_r _ [50, 51, 34, 24, 21, 25, 64, 65, 66, 67, 68, 69, 70, 71, 72, 73] (by decide +kernel) (by decide +kernel)
set_option maxRecDepth 20000 in
theorem gX7_part_X2_lineStart : GoodIn wsX7_part (wsV RX7 201 RX2 yX2_lineStart wsX2_lineStart) := goodIn_app (goodIn_of _ (by decide +kernel)) ggX7_part_X2_lineStart
set_option maxRecDepth 20000 in
theorem ggX7_part_X2_lineSlope : GoodIn wsX7_part wsX2_lineSlope := goodIn_r _ [55, 56, 34, 24, 21, 25, 64, 65, 66, 67, 68, 69, 70, 71, 72, 73] (by decide +kernel) (by decide +kernel)
set_option maxRecDepth 20000 in
theorem gX7_part_X2_lineSlope : GoodIn wsX7_part (wsV RX7 204 RX2 yX2_lineSlope wsX2_lineSlope) := goodIn_app (goodIn_of _ (by decide +kernel)) ggX7_part_X2_lineSlope
theorem dX7_part_0 : decode cX7_part 0 = .ok (.aload_n 0, 1) := by decide +kernel
theorem dX7_part_1 : decode cX7_part 1 = .ok (.getfield 51, 3) := by decide +kernel
theorem dX7_part_4 : decode cX7_part 4 = .ok (.invokevirtual 192, 3) := by decide +kernel
theorem dX7_part_7 : decode cX7_part 7 = .ok (.ifCond .ne 10, 3) := by decide +kernel
theorem dX7_part_10 : decode cX7_part 10 = .ok (.aload_n 0, 1) := by decide +kernel
theorem dX7_part_11 : decode cX7_part 11 = .ok (.bipush (-3), 2) := by decide +kernel
theorem dX7_part_13 : decode cX7_part 13 = .ok (.invokevirtual 86, 3) := by decide +kernel
theorem dX7_part_16 : decode cX7_part 16 = .ok (.ireturn, 1) := by decide +kernel
theorem dX7_part_17 : decode cX7_part 17 = .ok (.iload_n 1, 1) := by decide +kernel
theorem dX7_part_18 : decode cX7_part 18 = .ok (.ifCond .lt 14, 3) := by decide +kernel
theorem dX7_part_21 : decode cX7_part 21 = .ok (.iload_n 1, 1) := by decide +kernel
theorem dX7_part_22 : decode cX7_part 22 = .ok (.aload_n 0, 1) := by decide +kernel
theorem dX7_part_23 : decode cX7_part 23 = .ok (.getfield 51, 3) := by decide +kernel
theorem dX7_part_26 : decode cX7_part 26 = .ok (.invokevirtual 192, 3) := by decide +kernel
theorem dX7_part_29 : decode cX7_part 29 = .ok (.if_icmp .lt 9, 3) := by decide +kernel
theorem dX7_part_32 : decode cX7_part 32 = .ok (.aload_n 0, 1) := by decide +kernel
theorem dX7_part_33 : decode cX7_part 33 = .ok (.iconst (-1), 1) := by decide +kernel
theorem dX7_part_34 : decode cX7_part 34 = .ok (.invokevirtual 86, 3) := by decide +kernel
theorem dX7_part_37 : decode cX7_part 37 = .ok (.ireturn, 1) := by decide +kernel
theorem dX7_part_38 : decode cX7_part 38 = .ok (.iload_n 2, 1) := by decide +kernel
theorem dX7_part_39 : decode cX7_part 39 = .ok (.tableswitch 65 0 3 #[29, 38, 47, 56], 29) := by decide +kernel
theorem dX7_part_68 : decode cX7_part 68 = .ok (.aload_n 0, 1) := by decide +kernel
theorem dX7_part_69 : decode cX7_part 69 = .ok (.getfield 51, 3) := by decide +kernel
theorem dX7_part_72 : decode cX7_part 72 = .ok (.iload_n 1, 1) := by decide +kernel
theorem dX7_part_73 : decode cX7_part 73 = .ok (.invokevirtual 195, 3) := by decide +kernel
theorem dX7_part_76 : decode cX7_part 76 = .ok (.ireturn, 1) := by decide +kernel
theorem dX7_part_77 : decode cX7_part 77 = .ok (.aload_n 0, 1) := by decide +kernel
theorem dX7_part_78 : decode cX7_part 78 = .ok (.getfield 51, 3) := by decide +kernel
theorem dX7_part_81 : decode cX7_part 81 = .ok (.iload_n 1, 1) := by decide +kernel
theorem dX7_part_82 : decode cX7_part 82 = .ok (.invokevirtual 198, 3) := by decide +kernel
theorem dX7_part_85 : decode cX7_part 85 = .ok (.ireturn, 1) := by decide +kernel
theorem dX7_part_86 : decode cX7_part 86 = .ok (.aload_n 0, 1) := by decide +kernel
theorem dX7_part_87 : decode cX7_part 87 = .ok (.getfield 51, 3) := by decide +kernel
theorem dX7_part_90 : decode cX7_part 90 = .ok (.iload_n 1, 1) := by decide +kernel
theorem dX7_part_91 : decode cX7_part 91 = .ok (.invokevirtual 201, 3) := by decide +kernel
theorem dX7_part_94 : decode cX7_part 94 = .ok (.ireturn, 1) := by decide +kernel
theorem dX7_part_95 : decode cX7_part 95 = .ok (.aload_n 0, 1) := by decide +kernel
theorem dX7_part_96 : decode cX7_part 96 = .ok (.getfield 51, 3) := by decide +kernel
theorem dX7_part_99 : decode cX7_part 99 = .ok (.iload_n 1, 1) := by decide +kernel
theorem dX7_part_100 : decode cX7_part 100 = .ok (.invokevirtual 204, 3) := by decide +kernel
theorem dX7_part_103 : decode cX7_part 103 = .ok (.ireturn, 1) := by decide +kernel
theorem dX7_part_104 : decode cX7_part 104 = .ok (.aload_n 0, 1) := by decide +kernel
theorem dX7_part_105 : decode cX7_part 105 = .ok (.bipush (-2), 2) := by decide +kernel
theorem dX7_part_107 : decode cX7_part 107 = .ok (.invokevirtual 86, 3) := by decide +kernel
theorem dX7_part_110 : decode cX7_part 110 = .ok (.ireturn, 1) := by decide +kernel
set_option maxRecDepth 20000 in
theorem ggX7_look_X2_parts : GoodIn wsX7_look wsX2_parts := goodIn_r _ [7, 8, 72, 73, 74, 75, 76, 77, 78, 79, 80, 81] (by decide +kernel) (by decide +kernel)
set_option maxRecDepth 20000 in
theorem gX7_look_X2_parts : GoodIn wsX7_look (wsV RX7 192 RX2 yX2_parts wsX2_parts) := goodIn_app (goodIn_of _ (by decide +kernel)) ggX7_look_X2_parts
set_option maxRecDepth 20000 in
theorem ggX7_look_X7_refuse : GoodIn wsX7_look wsX7_refuse := goodIn_r _ [13, 14, 15, 16, 17, 18, 19, 20, 21, 22, 23, 24, 65, 66, 67, 68, 69, 70, 71] (by decide +kernel) (by decide +kernel)
set_option maxRecDepth 20000 in
theorem gX7_look_X7_refuse : GoodIn wsX7_look (wsV RX7 59 RX7 yX7_refuse wsX7_refuse) := goodIn_app (goodIn_of _ (by decide +kernel)) ggX7_look_X7_refuse
set_option maxRecDepth 20000 in
theorem ggX7_look_X1_isZ : GoodIn wsX7_look wsX1_isZ := goodIn_r _ [29, 30, 31, 32, 28, 33, 34, 82, 83, 84, 85, 86, 87] (by decide +kernel) (by decide +kernel)
set_option maxRecDepth 20000 in
theorem gX7_look_X1_isZ : GoodIn wsX7_look (wsV RX7 207 RX1 yX1_isZ wsX1_isZ) := goodIn_app (goodIn_of _ (by decide +kernel)) ggX7_look_X1_isZ
set_option maxRecDepth 20000 in
theorem ggX7_look_X2_toldFor : GoodIn wsX7_look wsX2_toldFor := goodIn_r _ [38, 8, 39, 40, 41, 42, 6, 43, 44, 45, 46, 47, 48, 49, 50, 20, 17, 21, 51, 31, 32, 28, 33, 34, 52, 53, 54, 55, 56, 57, 58, 59, 60, 61, 62, 63, 64, 72, 73, 74, 75, 76, 77, 78, 79, 80, 81, 82, 83, 84, 85, 86, 87] (by decide +kernel) (by decide +kernel)
set_option maxRecDepth 20000 in
theorem gX7_look_X2_toldFor : GoodIn wsX7_look (wsV RX7 210 RX2 yX2_toldFor wsX2_toldFor) := goodIn_app (goodIn_of _ (by decide +kernel)) ggX7_look_X2_toldFor
theorem dX7_look_0 : decode cX7_look 0 = .ok (.aload_n 0, 1) := by decide +kernel
theorem dX7_look_1 : decode cX7_look 1 = .ok (.getfield 51, 3) := by decide +kernel
theorem dX7_look_4 : decode cX7_look 4 = .ok (.invokevirtual 192, 3) := by decide +kernel
theorem dX7_look_7 : decode cX7_look 7 = .ok (.ifCond .ne 10, 3) := by decide +kernel
theorem dX7_look_10 : decode cX7_look 10 = .ok (.aload_n 0, 1) := by decide +kernel
theorem dX7_look_11 : decode cX7_look 11 = .ok (.bipush (-3), 2) := by decide +kernel
theorem dX7_look_13 : decode cX7_look 13 = .ok (.invokevirtual 59, 3) := by decide +kernel
theorem dX7_look_16 : decode cX7_look 16 = .ok (.ireturn, 1) := by decide +kernel
theorem dX7_look_17 : decode cX7_look 17 = .ok (.aload_n 0, 1) := by decide +kernel
theorem dX7_look_18 : decode cX7_look 18 = .ok (.getfield 12, 3) := by decide +kernel
theorem dX7_look_21 : decode cX7_look 21 = .ok (.iload_n 1, 1) := by decide +kernel
theorem dX7_look_22 : decode cX7_look 22 = .ok (.invokevirtual 207, 3) := by decide +kernel
theorem dX7_look_25 : decode cX7_look 25 = .ok (.ifCond .ne 9, 3) := by decide +kernel
theorem dX7_look_28 : decode cX7_look 28 = .ok (.aload_n 0, 1) := by decide +kernel
theorem dX7_look_29 : decode cX7_look 29 = .ok (.iconst (-1), 1) := by decide +kernel
theorem dX7_look_30 : decode cX7_look 30 = .ok (.invokevirtual 59, 3) := by decide +kernel
theorem dX7_look_33 : decode cX7_look 33 = .ok (.ireturn, 1) := by decide +kernel
theorem dX7_look_34 : decode cX7_look 34 = .ok (.aload_n 0, 1) := by decide +kernel
theorem dX7_look_35 : decode cX7_look 35 = .ok (.getfield 51, 3) := by decide +kernel
theorem dX7_look_38 : decode cX7_look 38 = .ok (.iload_n 1, 1) := by decide +kernel
theorem dX7_look_39 : decode cX7_look 39 = .ok (.invokevirtual 210, 3) := by decide +kernel
theorem dX7_look_42 : decode cX7_look 42 = .ok (.ireturn, 1) := by decide +kernel
set_option maxRecDepth 20000 in
theorem ggX7_fits_X7_isFunction : GoodIn wsX7_fits wsX7_isFunction := goodIn_r _ [8] (by decide +kernel) (by decide +kernel)
set_option maxRecDepth 20000 in
theorem gX7_fits_X7_isFunction : GoodIn wsX7_fits (va_wsS RX7 138 yX7_isFunction wsX7_isFunction) := goodIn_app (goodIn_of _ (by decide +kernel)) ggX7_fits_X7_isFunction
set_option maxRecDepth 20000 in
theorem ggX7_fits_X7_isRounding : GoodIn wsX7_fits wsX7_isRounding := goodIn_r _ [11] (by decide +kernel) (by decide +kernel)
set_option maxRecDepth 20000 in
theorem gX7_fits_X7_isRounding : GoodIn wsX7_fits (va_wsS RX7 125 yX7_isRounding wsX7_isRounding) := goodIn_app (goodIn_of _ (by decide +kernel)) ggX7_fits_X7_isRounding
set_option maxRecDepth 20000 in
theorem ggX7_fits_X1_isPower : GoodIn wsX7_fits wsX1_isPower := goodIn_r _ [16, 17, 195, 196, 197, 198, 199, 200] (by decide +kernel) (by decide +kernel)
set_option maxRecDepth 20000 in
theorem gX7_fits_X1_isPower : GoodIn wsX7_fits (wsV RX7 182 RX1 yX1_isPower wsX1_isPower) := goodIn_app (goodIn_of _ (by decide +kernel)) ggX7_fits_X1_isPower
set_option maxRecDepth 20000 in
theorem ggX7_fits_X7_refuse : GoodIn wsX7_fits wsX7_refuse := goodIn_r _ [21, 22, 23, 24, 25, 26, 27, 28, 29, 30, 31, 32, 188, 189, 190, 191, 192, 193, 194] (by decide +kernel) (by decide +kernel)
set_option maxRecDepth 20000 in
theorem gX7_fits_X7_refuse : GoodIn wsX7_fits (wsV RX7 59 RX7 yX7_refuse wsX7_refuse) := goodIn_app (goodIn_of _ (by decide +kernel)) ggX7_fits_X7_refuse
set_option maxRecDepth 20000 in
theorem ggX7_fits_X1_isZ : GoodIn wsX7_fits wsX1_isZ := goodIn_r _ [36, 37, 38, 39, 15, 40, 41, 195, 196, 197, 198, 199, 200] (by decide +kernel) (by decide +kernel)
set_option maxRecDepth 20000 in
theorem gX7_fits_X1_isZ : GoodIn wsX7_fits (wsV RX7 207 RX1 yX1_isZ wsX1_isZ) := goodIn_app (goodIn_of _ (by decide +kernel)) ggX7_fits_X1_isZ
set_option maxRecDepth 20000 in
theorem ggX7_fits_X1_codeOf : GoodIn wsX7_fits wsX1_codeOf := goodIn_r _ [45, 41, 195, 196, 197, 198, 199, 200] (by decide +kernel) (by decide +kernel)
set_option maxRecDepth 20000 in
theorem gX7_fits_X1_codeOf : GoodIn wsX7_fits (wsV RX7 215 RX1 yX1_codeOf wsX1_codeOf) := goodIn_app (goodIn_of _ (by decide +kernel)) ggX7_fits_X1_codeOf
set_option maxRecDepth 20000 in
theorem ggX7_fits_X6_resultAt : GoodIn wsX7_fits wsX6_resultAt := goodIn_r _ [50, 51, 52, 53, 54, 55, 56, 57, 49, 58, 59, 60, 61, 62, 63, 64, 65, 66, 15, 67, 68, 69, 70, 71, 72, 73, 74, 75, 76, 77, 78, 79, 80, 81, 82, 83, 84, 85, 86, 87, 88, 89, 41, 90, 91, 92, 93, 37, 38, 39, 40, 94, 95, 96, 97, 98, 99, 100, 101, 102, 103, 104, 105, 106, 107, 108, 109, 110, 111, 112, 113, 114, 115, 116, 117, 118, 119, 120, 121, 122, 123, 124, 125, 126, 127, 128, 129, 130, 131, 132, 133, 134, 135, 136, 137, 138, 139, 140, 141, 142, 143, 144, 145, 146, 147, 148, 149, 150, 151, 152, 153, 154, 155, 156, 157, 158, 159, 160, 161, 162, 163, 164, 165, 166, 167, 168, 169, 170, 171, 172, 173, 174, 175, 176, 177, 178, 179, 180, 181, 182, 183, 201, 202, 203, 204, 205, 206, 207, 208, 209, 195, 196, 197, 198, 199, 200, 210, 211, 212, 213, 214] (by decide +kernel) (by decide +kernel)
set_option maxRecDepth 20000 in
theorem gX7_fits_X6_resultAt : GoodIn wsX7_fits (wsV RX7 141 RX6 yX6_resultAt wsX6_resultAt) := goodIn_app (goodIn_of _ (by decide +kernel)) ggX7_fits_X6_resultAt
set_option maxRecDepth 20000 in
theorem ggX7_fits_X2_onLine : GoodIn wsX7_fits wsX2_onLine := goodIn_r _ [187] (by decide +kernel) (by decide +kernel)
set_option maxRecDepth 20000 in
theorem gX7_fits_X2_onLine : GoodIn wsX7_fits (va_wsS RX7 218 yX2_onLine wsX2_onLine) := goodIn_app (goodIn_of _ (by decide +kernel)) ggX7_fits_X2_onLine
theorem dX7_fits_0 : decode cX7_fits 0 = .ok (.iload_n 1, 1) := by decide +kernel
theorem dX7_fits_1 : decode cX7_fits 1 = .ok (.invokestatic 138, 3) := by decide +kernel
theorem dX7_fits_4 : decode cX7_fits 4 = .ok (.ifCond .eq 21, 3) := by decide +kernel
theorem dX7_fits_7 : decode cX7_fits 7 = .ok (.iload_n 2, 1) := by decide +kernel
theorem dX7_fits_8 : decode cX7_fits 8 = .ok (.invokestatic 125, 3) := by decide +kernel
theorem dX7_fits_11 : decode cX7_fits 11 = .ok (.ifCond .eq 14, 3) := by decide +kernel
theorem dX7_fits_14 : decode cX7_fits 14 = .ok (.aload_n 0, 1) := by decide +kernel
theorem dX7_fits_15 : decode cX7_fits 15 = .ok (.getfield 12, 3) := by decide +kernel
theorem dX7_fits_18 : decode cX7_fits 18 = .ok (.iload_n 3, 1) := by decide +kernel
theorem dX7_fits_19 : decode cX7_fits 19 = .ok (.invokevirtual 182, 3) := by decide +kernel
theorem dX7_fits_22 : decode cX7_fits 22 = .ok (.ifCond .ne 9, 3) := by decide +kernel
theorem dX7_fits_25 : decode cX7_fits 25 = .ok (.aload_n 0, 1) := by decide +kernel
theorem dX7_fits_26 : decode cX7_fits 26 = .ok (.iconst (-1), 1) := by decide +kernel
theorem dX7_fits_27 : decode cX7_fits 27 = .ok (.invokevirtual 59, 3) := by decide +kernel
theorem dX7_fits_30 : decode cX7_fits 30 = .ok (.ireturn, 1) := by decide +kernel
theorem dX7_fits_31 : decode cX7_fits 31 = .ok (.aload_n 0, 1) := by decide +kernel
theorem dX7_fits_32 : decode cX7_fits 32 = .ok (.getfield 12, 3) := by decide +kernel
theorem dX7_fits_35 : decode cX7_fits 35 = .ok (.iload 4, 2) := by decide +kernel
theorem dX7_fits_37 : decode cX7_fits 37 = .ok (.invokevirtual 207, 3) := by decide +kernel
theorem dX7_fits_40 : decode cX7_fits 40 = .ok (.ifCond .eq 22, 3) := by decide +kernel
theorem dX7_fits_43 : decode cX7_fits 43 = .ok (.aload_n 0, 1) := by decide +kernel
theorem dX7_fits_44 : decode cX7_fits 44 = .ok (.getfield 12, 3) := by decide +kernel
theorem dX7_fits_47 : decode cX7_fits 47 = .ok (.iload 5, 2) := by decide +kernel
theorem dX7_fits_49 : decode cX7_fits 49 = .ok (.invokevirtual 207, 3) := by decide +kernel
theorem dX7_fits_52 : decode cX7_fits 52 = .ok (.ifCond .eq 10, 3) := by decide +kernel
theorem dX7_fits_55 : decode cX7_fits 55 = .ok (.iload 4, 2) := by decide +kernel
theorem dX7_fits_57 : decode cX7_fits 57 = .ok (.iload 5, 2) := by decide +kernel
theorem dX7_fits_59 : decode cX7_fits 59 = .ok (.if_icmp .le 9, 3) := by decide +kernel
theorem dX7_fits_62 : decode cX7_fits 62 = .ok (.aload_n 0, 1) := by decide +kernel
theorem dX7_fits_63 : decode cX7_fits 63 = .ok (.iconst (-1), 1) := by decide +kernel
theorem dX7_fits_64 : decode cX7_fits 64 = .ok (.invokevirtual 59, 3) := by decide +kernel
theorem dX7_fits_67 : decode cX7_fits 67 = .ok (.ireturn, 1) := by decide +kernel
theorem dX7_fits_68 : decode cX7_fits 68 = .ok (.iload 6, 2) := by decide +kernel
theorem dX7_fits_70 : decode cX7_fits 70 = .ok (.ldc 213, 2) := by decide +kernel
theorem dX7_fits_72 : decode cX7_fits 72 = .ok (.if_icmp .lt 15, 3) := by decide +kernel
theorem dX7_fits_75 : decode cX7_fits 75 = .ok (.iload 7, 2) := by decide +kernel
theorem dX7_fits_77 : decode cX7_fits 77 = .ok (.ldc 213, 2) := by decide +kernel
theorem dX7_fits_79 : decode cX7_fits 79 = .ok (.if_icmp .lt 8, 3) := by decide +kernel
theorem dX7_fits_82 : decode cX7_fits 82 = .ok (.iload 8, 2) := by decide +kernel
theorem dX7_fits_84 : decode cX7_fits 84 = .ok (.ifCond .ge 10, 3) := by decide +kernel
theorem dX7_fits_87 : decode cX7_fits 87 = .ok (.aload_n 0, 1) := by decide +kernel
theorem dX7_fits_88 : decode cX7_fits 88 = .ok (.bipush (-4), 2) := by decide +kernel
theorem dX7_fits_90 : decode cX7_fits 90 = .ok (.invokevirtual 59, 3) := by decide +kernel
theorem dX7_fits_93 : decode cX7_fits 93 = .ok (.ireturn, 1) := by decide +kernel
theorem dX7_fits_94 : decode cX7_fits 94 = .ok (.iload 6, 2) := by decide +kernel
theorem dX7_fits_96 : decode cX7_fits 96 = .ok (.ldc 214, 2) := by decide +kernel
theorem dX7_fits_98 : decode cX7_fits 98 = .ok (.if_icmp .gt 17, 3) := by decide +kernel
theorem dX7_fits_101 : decode cX7_fits 101 = .ok (.iload 7, 2) := by decide +kernel
theorem dX7_fits_103 : decode cX7_fits 103 = .ok (.ldc 214, 2) := by decide +kernel
theorem dX7_fits_105 : decode cX7_fits 105 = .ok (.if_icmp .gt 10, 3) := by decide +kernel
theorem dX7_fits_108 : decode cX7_fits 108 = .ok (.iload 8, 2) := by decide +kernel
theorem dX7_fits_110 : decode cX7_fits 110 = .ok (.bipush 10, 2) := by decide +kernel
theorem dX7_fits_112 : decode cX7_fits 112 = .ok (.if_icmp .le 10, 3) := by decide +kernel
theorem dX7_fits_115 : decode cX7_fits 115 = .ok (.aload_n 0, 1) := by decide +kernel
theorem dX7_fits_116 : decode cX7_fits 116 = .ok (.bipush (-6), 2) := by decide +kernel
theorem dX7_fits_118 : decode cX7_fits 118 = .ok (.invokevirtual 59, 3) := by decide +kernel
theorem dX7_fits_121 : decode cX7_fits 121 = .ok (.ireturn, 1) := by decide +kernel
theorem dX7_fits_122 : decode cX7_fits 122 = .ok (.iload 4, 2) := by decide +kernel
theorem dX7_fits_124 : decode cX7_fits 124 = .ok (.istore 9, 2) := by decide +kernel
theorem dX7_fits_126 : decode cX7_fits 126 = .ok (.iload 9, 2) := by decide +kernel
theorem dX7_fits_128 : decode cX7_fits 128 = .ok (.iload 5, 2) := by decide +kernel
theorem dX7_fits_130 : decode cX7_fits 130 = .ok (.if_icmp .gt 54, 3) := by decide +kernel
theorem dX7_fits_133 : decode cX7_fits 133 = .ok (.aload_n 0, 1) := by decide +kernel
theorem dX7_fits_134 : decode cX7_fits 134 = .ok (.getfield 28, 3) := by decide +kernel
theorem dX7_fits_137 : decode cX7_fits 137 = .ok (.iload_n 1, 1) := by decide +kernel
theorem dX7_fits_138 : decode cX7_fits 138 = .ok (.aload_n 0, 1) := by decide +kernel
theorem dX7_fits_139 : decode cX7_fits 139 = .ok (.getfield 12, 3) := by decide +kernel
theorem dX7_fits_142 : decode cX7_fits 142 = .ok (.iload_n 3, 1) := by decide +kernel
theorem dX7_fits_143 : decode cX7_fits 143 = .ok (.iload 9, 2) := by decide +kernel
theorem dX7_fits_145 : decode cX7_fits 145 = .ok (.invokevirtual 215, 3) := by decide +kernel
theorem dX7_fits_148 : decode cX7_fits 148 = .ok (.iload_n 2, 1) := by decide +kernel
theorem dX7_fits_149 : decode cX7_fits 149 = .ok (.invokevirtual 141, 3) := by decide +kernel
theorem dX7_fits_152 : decode cX7_fits 152 = .ok (.i2l, 1) := by decide +kernel
theorem dX7_fits_153 : decode cX7_fits 153 = .ok (.lstore 10, 2) := by decide +kernel
theorem dX7_fits_155 : decode cX7_fits 155 = .ok (.iload 6, 2) := by decide +kernel
theorem dX7_fits_157 : decode cX7_fits 157 = .ok (.i2l, 1) := by decide +kernel
theorem dX7_fits_158 : decode cX7_fits 158 = .ok (.iload 7, 2) := by decide +kernel
theorem dX7_fits_160 : decode cX7_fits 160 = .ok (.i2l, 1) := by decide +kernel
theorem dX7_fits_161 : decode cX7_fits 161 = .ok (.iload 9, 2) := by decide +kernel
theorem dX7_fits_163 : decode cX7_fits 163 = .ok (.i2l, 1) := by decide +kernel
theorem dX7_fits_164 : decode cX7_fits 164 = .ok (.iload 8, 2) := by decide +kernel
theorem dX7_fits_166 : decode cX7_fits 166 = .ok (.invokestatic 218, 3) := by decide +kernel
theorem dX7_fits_169 : decode cX7_fits 169 = .ok (.lload 10, 2) := by decide +kernel
theorem dX7_fits_171 : decode cX7_fits 171 = .ok (.lcmp, 1) := by decide +kernel
theorem dX7_fits_172 : decode cX7_fits 172 = .ok (.ifCond .eq 6, 3) := by decide +kernel
theorem dX7_fits_175 : decode cX7_fits 175 = .ok (.iload 9, 2) := by decide +kernel
theorem dX7_fits_177 : decode cX7_fits 177 = .ok (.ireturn, 1) := by decide +kernel
theorem dX7_fits_178 : decode cX7_fits 178 = .ok (.iinc 9 1, 3) := by decide +kernel
theorem dX7_fits_181 : decode cX7_fits 181 = .ok (.goto (-55), 3) := by decide +kernel
theorem dX7_fits_184 : decode cX7_fits 184 = .ok (.bipush (-9), 2) := by decide +kernel
theorem dX7_fits_186 : decode cX7_fits 186 = .ok (.ireturn, 1) := by decide +kernel
set_option maxRecDepth 20000 in
theorem ggX7_status_X2_parts : GoodIn wsX7_status wsX2_parts := goodIn_r _ [8, 9, 27, 28, 29, 30, 31, 32, 33, 34, 35, 36] (by decide +kernel) (by decide +kernel)
set_option maxRecDepth 20000 in
theorem gX7_status_X2_parts : GoodIn wsX7_status (wsV RX7 192 RX2 yX2_parts wsX2_parts) := goodIn_app (goodIn_of _ (by decide +kernel)) ggX7_status_X2_parts
set_option maxRecDepth 20000 in
theorem ggX7_status_X4_at : GoodIn wsX7_status wsX4_at := goodIn_r _ [13] (by decide +kernel) (by decide +kernel)
set_option maxRecDepth 20000 in
theorem gX7_status_X4_at : GoodIn wsX7_status (va_wsS RX7 222 yX4_at wsX4_at) := goodIn_app (goodIn_of _ (by decide +kernel)) ggX7_status_X4_at
theorem dX7_status_0 : decode cX7_status 0 = .ok (.iload_n 1, 1) := by decide +kernel
theorem dX7_status_1 : decode cX7_status 1 = .ok (.tableswitch 83 0 4 #[35, 43, 51, 59, 75], 35) := by decide +kernel
theorem dX7_status_36 : decode cX7_status 36 = .ok (.aload_n 0, 1) := by decide +kernel
theorem dX7_status_37 : decode cX7_status 37 = .ok (.getfield 12, 3) := by decide +kernel
theorem dX7_status_40 : decode cX7_status 40 = .ok (.getfield 63, 3) := by decide +kernel
theorem dX7_status_43 : decode cX7_status 43 = .ok (.ireturn, 1) := by decide +kernel
theorem dX7_status_44 : decode cX7_status 44 = .ok (.aload_n 0, 1) := by decide +kernel
theorem dX7_status_45 : decode cX7_status 45 = .ok (.getfield 12, 3) := by decide +kernel
theorem dX7_status_48 : decode cX7_status 48 = .ok (.getfield 67, 3) := by decide +kernel
theorem dX7_status_51 : decode cX7_status 51 = .ok (.ireturn, 1) := by decide +kernel
theorem dX7_status_52 : decode cX7_status 52 = .ok (.aload_n 0, 1) := by decide +kernel
theorem dX7_status_53 : decode cX7_status 53 = .ok (.getfield 12, 3) := by decide +kernel
theorem dX7_status_56 : decode cX7_status 56 = .ok (.getfield 79, 3) := by decide +kernel
theorem dX7_status_59 : decode cX7_status 59 = .ok (.ireturn, 1) := by decide +kernel
theorem dX7_status_60 : decode cX7_status 60 = .ok (.aload_n 0, 1) := by decide +kernel
theorem dX7_status_61 : decode cX7_status 61 = .ok (.getfield 51, 3) := by decide +kernel
theorem dX7_status_64 : decode cX7_status 64 = .ok (.invokevirtual 192, 3) := by decide +kernel
theorem dX7_status_67 : decode cX7_status 67 = .ok (.ifCond .le 7, 3) := by decide +kernel
theorem dX7_status_70 : decode cX7_status 70 = .ok (.iconst 1, 1) := by decide +kernel
theorem dX7_status_71 : decode cX7_status 71 = .ok (.goto 4, 3) := by decide +kernel
theorem dX7_status_74 : decode cX7_status 74 = .ok (.iconst 0, 1) := by decide +kernel
theorem dX7_status_75 : decode cX7_status 75 = .ok (.ireturn, 1) := by decide +kernel
theorem dX7_status_76 : decode cX7_status 76 = .ok (.aload_n 0, 1) := by decide +kernel
theorem dX7_status_77 : decode cX7_status 77 = .ok (.getfield 51, 3) := by decide +kernel
theorem dX7_status_80 : decode cX7_status 80 = .ok (.invokevirtual 192, 3) := by decide +kernel
theorem dX7_status_83 : decode cX7_status 83 = .ok (.ireturn, 1) := by decide +kernel
theorem dX7_status_84 : decode cX7_status 84 = .ok (.iload_n 1, 1) := by decide +kernel
theorem dX7_status_85 : decode cX7_status 85 = .ok (.bipush 11, 2) := by decide +kernel
theorem dX7_status_87 : decode cX7_status 87 = .ok (.if_icmp .lt 23, 3) := by decide +kernel
theorem dX7_status_90 : decode cX7_status 90 = .ok (.iload_n 1, 1) := by decide +kernel
theorem dX7_status_91 : decode cX7_status 91 = .ok (.bipush 16, 2) := by decide +kernel
theorem dX7_status_93 : decode cX7_status 93 = .ok (.if_icmp .gt 17, 3) := by decide +kernel
theorem dX7_status_96 : decode cX7_status 96 = .ok (.aload_n 0, 1) := by decide +kernel
theorem dX7_status_97 : decode cX7_status 97 = .ok (.getfield 55, 3) := by decide +kernel
theorem dX7_status_100 : decode cX7_status 100 = .ok (.iload_n 1, 1) := by decide +kernel
theorem dX7_status_101 : decode cX7_status 101 = .ok (.bipush 10, 2) := by decide +kernel
theorem dX7_status_103 : decode cX7_status 103 = .ok (.isub, 1) := by decide +kernel
theorem dX7_status_104 : decode cX7_status 104 = .ok (.invokestatic 222, 3) := by decide +kernel
theorem dX7_status_107 : decode cX7_status 107 = .ok (.goto 5, 3) := by decide +kernel
theorem dX7_status_110 : decode cX7_status 110 = .ok (.bipush (-9), 2) := by decide +kernel
theorem dX7_status_112 : decode cX7_status 112 = .ok (.ireturn, 1) := by decide +kernel
set_option maxRecDepth 20000 in
theorem ggX7_refuse_X4_addOne : GoodIn wsX7_refuse wsX4_addOne := goodIn_r _ [5, 6, 7, 4, 8, 9, 10, 11] (by decide +kernel) (by decide +kernel)
set_option maxRecDepth 20000 in
theorem gX7_refuse_X4_addOne : GoodIn wsX7_refuse (va_wsS RX7 228 yX4_addOne wsX4_addOne) := goodIn_app (goodIn_of _ (by decide +kernel)) ggX7_refuse_X4_addOne
theorem dX7_refuse_0 : decode cX7_refuse 0 = .ok (.aload_n 0, 1) := by decide +kernel
theorem dX7_refuse_1 : decode cX7_refuse 1 = .ok (.getfield 55, 3) := by decide +kernel
theorem dX7_refuse_4 : decode cX7_refuse 4 = .ok (.iload_n 1, 1) := by decide +kernel
theorem dX7_refuse_5 : decode cX7_refuse 5 = .ok (.ineg, 1) := by decide +kernel
theorem dX7_refuse_6 : decode cX7_refuse 6 = .ok (.invokestatic 228, 3) := by decide +kernel
theorem dX7_refuse_9 : decode cX7_refuse 9 = .ok (.iload_n 1, 1) := by decide +kernel
theorem dX7_refuse_10 : decode cX7_refuse 10 = .ok (.ireturn, 1) := by decide +kernel
set_option maxRecDepth 20000 in
theorem ggX7_refuseAsTold_X7_refuse : GoodIn wsX7_refuseAsTold wsX7_refuse := goodIn_r _ [6, 7, 8, 9, 10, 11, 12, 13, 14, 15, 16, 17, 18, 19, 20, 21, 22, 23, 24] (by decide +kernel) (by decide +kernel)
set_option maxRecDepth 20000 in
theorem gX7_refuseAsTold_X7_refuse : GoodIn wsX7_refuseAsTold (wsV RX7 59 RX7 yX7_refuse wsX7_refuse) := goodIn_app (goodIn_of _ (by decide +kernel)) ggX7_refuseAsTold_X7_refuse
theorem dX7_refuseAsTold_0 : decode cX7_refuseAsTold 0 = .ok (.ldc 214, 2) := by decide +kernel
theorem dX7_refuseAsTold_2 : decode cX7_refuseAsTold 2 = .ok (.aload_n 0, 1) := by decide +kernel
theorem dX7_refuseAsTold_3 : decode cX7_refuseAsTold 3 = .ok (.iload_n 1, 1) := by decide +kernel
theorem dX7_refuseAsTold_4 : decode cX7_refuseAsTold 4 = .ok (.invokevirtual 59, 3) := by decide +kernel
theorem dX7_refuseAsTold_7 : decode cX7_refuseAsTold 7 = .ok (.isub, 1) := by decide +kernel
theorem dX7_refuseAsTold_8 : decode cX7_refuseAsTold 8 = .ok (.ireturn, 1) := by decide +kernel
theorem dX7_isFunction_0 : decode cX7_isFunction 0 = .ok (.iload_n 0, 1) := by decide +kernel
theorem dX7_isFunction_1 : decode cX7_isFunction 1 = .ok (.ifCond .lt 12, 3) := by decide +kernel
theorem dX7_isFunction_4 : decode cX7_isFunction 4 = .ok (.iload_n 0, 1) := by decide +kernel
theorem dX7_isFunction_5 : decode cX7_isFunction 5 = .ok (.iconst 5, 1) := by decide +kernel
theorem dX7_isFunction_6 : decode cX7_isFunction 6 = .ok (.if_icmp .ge 7, 3) := by decide +kernel
theorem dX7_isFunction_9 : decode cX7_isFunction 9 = .ok (.iconst 1, 1) := by decide +kernel
theorem dX7_isFunction_10 : decode cX7_isFunction 10 = .ok (.goto 4, 3) := by decide +kernel
theorem dX7_isFunction_13 : decode cX7_isFunction 13 = .ok (.iconst 0, 1) := by decide +kernel
theorem dX7_isFunction_14 : decode cX7_isFunction 14 = .ok (.ireturn, 1) := by decide +kernel
theorem dX7_isRounding_0 : decode cX7_isRounding 0 = .ok (.iload_n 0, 1) := by decide +kernel
theorem dX7_isRounding_1 : decode cX7_isRounding 1 = .ok (.ifCond .lt 12, 3) := by decide +kernel
theorem dX7_isRounding_4 : decode cX7_isRounding 4 = .ok (.iload_n 0, 1) := by decide +kernel
theorem dX7_isRounding_5 : decode cX7_isRounding 5 = .ok (.iconst 5, 1) := by decide +kernel
theorem dX7_isRounding_6 : decode cX7_isRounding 6 = .ok (.if_icmp .ge 7, 3) := by decide +kernel
theorem dX7_isRounding_9 : decode cX7_isRounding 9 = .ok (.iconst 1, 1) := by decide +kernel
theorem dX7_isRounding_10 : decode cX7_isRounding 10 = .ok (.goto 4, 3) := by decide +kernel
theorem dX7_isRounding_13 : decode cX7_isRounding 13 = .ok (.iconst 0, 1) := by decide +kernel
theorem dX7_isRounding_14 : decode cX7_isRounding 14 = .ok (.ireturn, 1) := by decide +kernel
