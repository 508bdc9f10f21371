theorem dX7_farOf_1 : decode cX7_farOf 1 = .ok (.iload_n 1, 1) := by decide +kernel
theorem dX7_farOf_2 : decode cX7_farOf 2 = .ok (.aload_n 0, 1) := by decide +kernel
theorem dX7_farOf_3 : decode cX7_farOf 3 = .ok (.invokevirtual 150, 3) := by decide +kernel
theorem dX7_farOf_6 : decode cX7_farOf 6 = .ok (.aload_n 0, 1) := by decide +kernel
theorem dX7_farOf_7 : decode cX7_farOf 7 = .ok (.invokevirtual 154, 3) := by decide +kernel
theorem dX7_farOf_10 : decode cX7_farOf 10 = .ok (.invokevirtual 157, 3) := by decide +kernel
theorem dX7_farOf_13 : decode cX7_farOf 13 = .ok (.ireturn, 1) := by decide +kernel
set_option maxRecDepth 20000 in
theorem ggX7_isAlike_X7_farOf : GoodIn wsX7_isAlike wsX7_farOf := goodIn_r _ [6, 7, 8, 9, 5, 10, 11, 12, 13, 14, 15, 16, 17, 18, 19, 20, 21, 22, 23, 24, 25, 26, 27, 28, 29, 30, 31, 32, 33, 34, 35, 36, 37, 38, 39, 40, 41, 42, 43, 44, 45, 46, 47, 48, 49, 50, 51, 52, 53, 54, 55, 56, 57, 58, 59, 60, 61, 62, 63, 64, 65, 66, 67, 68, 69, 70, 71] (by decide +kernel) (by decide +kernel)
set_option maxRecDepth 20000 in
theorem gX7_isAlike_X7_farOf : GoodIn wsX7_isAlike (wsV RX7 160 RX7 yX7_farOf wsX7_farOf) := goodIn_app (goodIn_of _ (by decide +kernel)) ggX7_isAlike_X7_farOf
theorem dX7_isAlike_0 : decode cX7_isAlike 0 = .ok (.aload_n 0, 1) := by decide +kernel
theorem dX7_isAlike_1 : decode cX7_isAlike 1 = .ok (.iload_n 1, 1) := by decide +kernel
theorem dX7_isAlike_2 : decode cX7_isAlike 2 = .ok (.invokevirtual 160, 3) := by decide +kernel
theorem dX7_isAlike_5 : decode cX7_isAlike 5 = .ok (.aload_n 0, 1) := by decide +kernel
theorem dX7_isAlike_6 : decode cX7_isAlike 6 = .ok (.getfield 120, 3) := by decide +kernel
theorem dX7_isAlike_9 : decode cX7_isAlike 9 = .ok (.if_icmp .gt 7, 3) := by decide +kernel
theorem dX7_isAlike_12 : decode cX7_isAlike 12 = .ok (.iconst 1, 1) := by decide +kernel
theorem dX7_isAlike_13 : decode cX7_isAlike 13 = .ok (.goto 4, 3) := by decide +kernel
theorem dX7_isAlike_16 : decode cX7_isAlike 16 = .ok (.iconst 0, 1) := by decide +kernel
theorem dX7_isAlike_17 : decode cX7_isAlike 17 = .ok (.ireturn, 1) := by decide +kernel
set_option maxRecDepth 20000 in
theorem ggX7_ofTube_X7_isTube : GoodIn wsX7_ofTube wsX7_isTube := goodIn_r _ [11, 12, 21, 22, 23, 24, 25, 26, 27, 28, 29, 30, 31, 32, 33, 34, 35, 36, 37, 38, 39, 40, 41, 42, 43, 44, 45, 46, 47, 48, 49, 50, 51, 52, 53] (by decide +kernel) (by decide +kernel)
set_option maxRecDepth 20000 in
theorem gX7_ofTube_X7_isTube : GoodIn wsX7_ofTube (wsV RX7 163 RX7 yX7_isTube wsX7_isTube) := goodIn_app (goodIn_of _ (by decide +kernel)) ggX7_ofTube_X7_isTube
set_option maxRecDepth 20000 in
theorem ggX7_ofTube_X7_looksColour : GoodIn wsX7_ofTube wsX7_looksColour := goodIn_r _ [16, 1, 2, 21, 22, 23, 24, 25, 26, 27, 28, 29, 30, 31, 32, 33, 34, 35, 36, 37, 38, 39, 40, 41, 42, 43, 44, 45, 46, 47, 48, 49, 50, 51, 52, 53] (by decide +kernel) (by decide +kernel)
set_option maxRecDepth 20000 in
theorem gX7_ofTube_X7_looksColour : GoodIn wsX7_ofTube (wsV RX7 140 RX7 yX7_looksColour wsX7_looksColour) := goodIn_app (goodIn_of _ (by decide +kernel)) ggX7_ofTube_X7_looksColour
set_option maxRecDepth 20000 in
theorem ggX7_ofTube_X7_looksSize : GoodIn wsX7_ofTube wsX7_looksSize := goodIn_r _ [20, 1, 3, 21, 22, 23, 24, 25, 26, 27, 28, 29, 30, 31, 32, 33, 34, 35, 36, 37, 38, 39, 40, 41, 42, 43, 44, 45, 46, 47, 48, 49, 50, 51, 52, 53] (by decide +kernel) (by decide +kernel)
set_option maxRecDepth 20000 in
theorem gX7_ofTube_X7_looksSize : GoodIn wsX7_ofTube (wsV RX7 147 RX7 yX7_looksSize wsX7_looksSize) := goodIn_app (goodIn_of _ (by decide +kernel)) ggX7_ofTube_X7_looksSize
theorem dX7_ofTube_0 : decode cX7_ofTube 0 = .ok (.aload_n 0, 1) := by decide +kernel
theorem dX7_ofTube_1 : decode cX7_ofTube 1 = .ok (.iload_n 1, 1) := by decide +kernel
theorem dX7_ofTube_2 : decode cX7_ofTube 2 = .ok (.invokevirtual 163, 3) := by decide +kernel
theorem dX7_ofTube_5 : decode cX7_ofTube 5 = .ok (.ifCond .ne 5, 3) := by decide +kernel
theorem dX7_ofTube_8 : decode cX7_ofTube 8 = .ok (.iconst (-1), 1) := by decide +kernel
theorem dX7_ofTube_9 : decode cX7_ofTube 9 = .ok (.ireturn, 1) := by decide +kernel
theorem dX7_ofTube_10 : decode cX7_ofTube 10 = .ok (.iload_n 2, 1) := by decide +kernel
theorem dX7_ofTube_11 : decode cX7_ofTube 11 = .ok (.tableswitch 99 0 7 #[45, 52, 59, 66, 73, 80, 87, 93], 45) := by decide +kernel
theorem dX7_ofTube_56 : decode cX7_ofTube 56 = .ok (.aload_n 0, 1) := by decide +kernel
theorem dX7_ofTube_57 : decode cX7_ofTube 57 = .ok (.getfield 22, 3) := by decide +kernel
theorem dX7_ofTube_60 : decode cX7_ofTube 60 = .ok (.iload_n 1, 1) := by decide +kernel
theorem dX7_ofTube_61 : decode cX7_ofTube 61 = .ok (.iaload, 1) := by decide +kernel
theorem dX7_ofTube_62 : decode cX7_ofTube 62 = .ok (.ireturn, 1) := by decide +kernel
theorem dX7_ofTube_63 : decode cX7_ofTube 63 = .ok (.aload_n 0, 1) := by decide +kernel
theorem dX7_ofTube_64 : decode cX7_ofTube 64 = .ok (.getfield 25, 3) := by decide +kernel
theorem dX7_ofTube_67 : decode cX7_ofTube 67 = .ok (.iload_n 1, 1) := by decide +kernel
theorem dX7_ofTube_68 : decode cX7_ofTube 68 = .ok (.iaload, 1) := by decide +kernel
theorem dX7_ofTube_69 : decode cX7_ofTube 69 = .ok (.ireturn, 1) := by decide +kernel
theorem dX7_ofTube_70 : decode cX7_ofTube 70 = .ok (.aload_n 0, 1) := by decide +kernel
theorem dX7_ofTube_71 : decode cX7_ofTube 71 = .ok (.getfield 28, 3) := by decide +kernel
theorem dX7_ofTube_74 : decode cX7_ofTube 74 = .ok (.iload_n 1, 1) := by decide +kernel
theorem dX7_ofTube_75 : decode cX7_ofTube 75 = .ok (.iaload, 1) := by decide +kernel
theorem dX7_ofTube_76 : decode cX7_ofTube 76 = .ok (.ireturn, 1) := by decide +kernel
theorem dX7_ofTube_77 : decode cX7_ofTube 77 = .ok (.aload_n 0, 1) := by decide +kernel
theorem dX7_ofTube_78 : decode cX7_ofTube 78 = .ok (.getfield 31, 3) := by decide +kernel
theorem dX7_ofTube_81 : decode cX7_ofTube 81 = .ok (.iload_n 1, 1) := by decide +kernel
theorem dX7_ofTube_82 : decode cX7_ofTube 82 = .ok (.iaload, 1) := by decide +kernel
theorem dX7_ofTube_83 : decode cX7_ofTube 83 = .ok (.ireturn, 1) := by decide +kernel
theorem dX7_ofTube_84 : decode cX7_ofTube 84 = .ok (.aload_n 0, 1) := by decide +kernel
theorem dX7_ofTube_85 : decode cX7_ofTube 85 = .ok (.getfield 34, 3) := by decide +kernel
theorem dX7_ofTube_88 : decode cX7_ofTube 88 = .ok (.iload_n 1, 1) := by decide +kernel
theorem dX7_ofTube_89 : decode cX7_ofTube 89 = .ok (.iaload, 1) := by decide +kernel
theorem dX7_ofTube_90 : decode cX7_ofTube 90 = .ok (.ireturn, 1) := by decide +kernel
theorem dX7_ofTube_91 : decode cX7_ofTube 91 = .ok (.aload_n 0, 1) := by decide +kernel
theorem dX7_ofTube_92 : decode cX7_ofTube 92 = .ok (.getfield 37, 3) := by decide +kernel
theorem dX7_ofTube_95 : decode cX7_ofTube 95 = .ok (.iload_n 1, 1) := by decide +kernel
theorem dX7_ofTube_96 : decode cX7_ofTube 96 = .ok (.iaload, 1) := by decide +kernel
theorem dX7_ofTube_97 : decode cX7_ofTube 97 = .ok (.ireturn, 1) := by decide +kernel
theorem dX7_ofTube_98 : decode cX7_ofTube 98 = .ok (.aload_n 0, 1) := by decide +kernel
theorem dX7_ofTube_99 : decode cX7_ofTube 99 = .ok (.iload_n 1, 1) := by decide +kernel
theorem dX7_ofTube_100 : decode cX7_ofTube 100 = .ok (.invokevirtual 140, 3) := by decide +kernel
theorem dX7_ofTube_103 : decode cX7_ofTube 103 = .ok (.ireturn, 1) := by decide +kernel
theorem dX7_ofTube_104 : decode cX7_ofTube 104 = .ok (.aload_n 0, 1) := by decide +kernel
theorem dX7_ofTube_105 : decode cX7_ofTube 105 = .ok (.iload_n 1, 1) := by decide +kernel
theorem dX7_ofTube_106 : decode cX7_ofTube 106 = .ok (.invokevirtual 147, 3) := by decide +kernel
theorem dX7_ofTube_109 : decode cX7_ofTube 109 = .ok (.ireturn, 1) := by decide +kernel
theorem dX7_ofTube_110 : decode cX7_ofTube 110 = .ok (.bipush (-2), 2) := by decide +kernel
theorem dX7_ofTube_112 : decode cX7_ofTube 112 = .ok (.ireturn, 1) := by decide +kernel
set_option maxRecDepth 20000 in
theorem ggX7_remember_X7_within : GoodIn wsX7_remember wsX7_within := goodIn_r _ [7] (by decide +kernel) (by decide +kernel)
set_option maxRecDepth 20000 in
theorem gX7_remember_X7_within : GoodIn wsX7_remember (va_wsS RX7 68 yX7_within wsX7_within) := goodIn_app (goodIn_of _ (by decide +kernel)) ggX7_remember_X7_within
theorem dX7_remember_0 : decode cX7_remember 0 = .ok (.iload_n 1, 1) := by decide +kernel
theorem dX7_remember_1 : decode cX7_remember 1 = .ok (.iconst 0, 1) := by decide +kernel
theorem dX7_remember_2 : decode cX7_remember 2 = .ok (.iconst 3, 1) := by decide +kernel
theorem dX7_remember_3 : decode cX7_remember 3 = .ok (.invokestatic 68, 3) := by decide +kernel
theorem dX7_remember_6 : decode cX7_remember 6 = .ok (.ifCond .eq 12, 3) := by decide +kernel
theorem dX7_remember_9 : decode cX7_remember 9 = .ok (.iload_n 2, 1) := by decide +kernel
theorem dX7_remember_10 : decode cX7_remember 10 = .ok (.iconst 0, 1) := by decide +kernel
theorem dX7_remember_11 : decode cX7_remember 11 = .ok (.iconst 3, 1) := by decide +kernel
theorem dX7_remember_12 : decode cX7_remember 12 = .ok (.invokestatic 68, 3) := by decide +kernel
theorem dX7_remember_15 : decode cX7_remember 15 = .ok (.ifCond .ne 6, 3) := by decide +kernel
theorem dX7_remember_18 : decode cX7_remember 18 = .ok (.bipush (-2), 2) := by decide +kernel
theorem dX7_remember_20 : decode cX7_remember 20 = .ok (.ireturn, 1) := by decide +kernel
theorem dX7_remember_21 : decode cX7_remember 21 = .ok (.aload_n 0, 1) := by decide +kernel
theorem dX7_remember_22 : decode cX7_remember 22 = .ok (.getfield 72, 3) := by decide +kernel
theorem dX7_remember_25 : decode cX7_remember 25 = .ok (.ifCond .ne 6, 3) := by decide +kernel
theorem dX7_remember_28 : decode cX7_remember 28 = .ok (.bipush (-3), 2) := by decide +kernel
theorem dX7_remember_30 : decode cX7_remember 30 = .ok (.ireturn, 1) := by decide +kernel
theorem dX7_remember_31 : decode cX7_remember 31 = .ok (.bipush 10, 2) := by decide +kernel
theorem dX7_remember_33 : decode cX7_remember 33 = .ok (.aload_n 0, 1) := by decide +kernel
theorem dX7_remember_34 : decode cX7_remember 34 = .ok (.getfield 114, 3) := by decide +kernel
theorem dX7_remember_37 : decode cX7_remember 37 = .ok (.imul, 1) := by decide +kernel
theorem dX7_remember_38 : decode cX7_remember 38 = .ok (.aload_n 0, 1) := by decide +kernel
theorem dX7_remember_39 : decode cX7_remember 39 = .ok (.getfield 117, 3) := by decide +kernel
theorem dX7_remember_42 : decode cX7_remember 42 = .ok (.iadd, 1) := by decide +kernel
theorem dX7_remember_43 : decode cX7_remember 43 = .ok (.istore_n 3, 1) := by decide +kernel
theorem dX7_remember_44 : decode cX7_remember 44 = .ok (.aload_n 0, 1) := by decide +kernel
theorem dX7_remember_45 : decode cX7_remember 45 = .ok (.iload_n 1, 1) := by decide +kernel
theorem dX7_remember_46 : decode cX7_remember 46 = .ok (.putfield 114, 3) := by decide +kernel
theorem dX7_remember_49 : decode cX7_remember 49 = .ok (.aload_n 0, 1) := by decide +kernel
theorem dX7_remember_50 : decode cX7_remember 50 = .ok (.iload_n 2, 1) := by decide +kernel
theorem dX7_remember_51 : decode cX7_remember 51 = .ok (.putfield 117, 3) := by decide +kernel
theorem dX7_remember_54 : decode cX7_remember 54 = .ok (.iload_n 3, 1) := by decide +kernel
theorem dX7_remember_55 : decode cX7_remember 55 = .ok (.ireturn, 1) := by decide +kernel
set_option maxRecDepth 20000 in
theorem ggX7_near_X7_within : GoodIn wsX7_near wsX7_within := goodIn_r _ [6] (by decide +kernel) (by decide +kernel)
set_option maxRecDepth 20000 in
theorem gX7_near_X7_within : GoodIn wsX7_near (va_wsS RX7 68 yX7_within wsX7_within) := goodIn_app (goodIn_of _ (by decide +kernel)) ggX7_near_X7_within
theorem dX7_near_0 : decode cX7_near 0 = .ok (.iload_n 1, 1) := by decide +kernel
theorem dX7_near_1 : decode cX7_near 1 = .ok (.iconst 0, 1) := by decide +kernel
theorem dX7_near_2 : decode cX7_near 2 = .ok (.bipush 20, 2) := by decide +kernel
theorem dX7_near_4 : decode cX7_near 4 = .ok (.invokestatic 68, 3) := by decide +kernel
theorem dX7_near_7 : decode cX7_near 7 = .ok (.ifCond .ne 6, 3) := by decide +kernel
theorem dX7_near_10 : decode cX7_near 10 = .ok (.bipush (-2), 2) := by decide +kernel
theorem dX7_near_12 : decode cX7_near 12 = .ok (.ireturn, 1) := by decide +kernel
theorem dX7_near_13 : decode cX7_near 13 = .ok (.aload_n 0, 1) := by decide +kernel
theorem dX7_near_14 : decode cX7_near 14 = .ok (.getfield 72, 3) := by decide +kernel
theorem dX7_near_17 : decode cX7_near 17 = .ok (.ifCond .ne 6, 3) := by decide +kernel
theorem dX7_near_20 : decode cX7_near 20 = .ok (.bipush (-3), 2) := by decide +kernel
theorem dX7_near_22 : decode cX7_near 22 = .ok (.ireturn, 1) := by decide +kernel
theorem dX7_near_23 : decode cX7_near 23 = .ok (.aload_n 0, 1) := by decide +kernel
theorem dX7_near_24 : decode cX7_near 24 = .ok (.getfield 120, 3) := by decide +kernel
theorem dX7_near_27 : decode cX7_near 27 = .ok (.istore_n 2, 1) := by decide +kernel
theorem dX7_near_28 : decode cX7_near 28 = .ok (.aload_n 0, 1) := by decide +kernel
theorem dX7_near_29 : decode cX7_near 29 = .ok (.iload_n 1, 1) := by decide +kernel
theorem dX7_near_30 : decode cX7_near 30 = .ok (.putfield 120, 3) := by decide +kernel
theorem dX7_near_33 : decode cX7_near 33 = .ok (.iload_n 2, 1) := by decide +kernel
theorem dX7_near_34 : decode cX7_near 34 = .ok (.ireturn, 1) := by decide +kernel
set_option maxRecDepth 20000 in
theorem ggX7_stock_X7_isTube : GoodIn wsX7_stock wsX7_isTube := goodIn_r _ [6, 7, 11, 12, 13, 14, 15, 16, 17, 18, 19, 20, 21, 22, 23, 24, 25, 26, 27, 28, 29, 30, 31, 32, 33, 34, 35, 36, 37, 38, 39, 40, 41, 42, 43] (by decide +kernel) (by decide +kernel)
set_option maxRecDepth 20000 in
theorem gX7_stock_X7_isTube : GoodIn wsX7_stock (wsV RX7 163 RX7 yX7_isTube wsX7_isTube) := goodIn_app (goodIn_of _ (by decide +kernel)) ggX7_stock_X7_isTube
set_option maxRecDepth 20000 in
theorem ggX7_stock_X7_within : GoodIn wsX7_stock wsX7_within := goodIn_r _ [10] (by decide +kernel) (by decide +kernel)
set_option maxRecDepth 20000 in
theorem gX7_stock_X7_within : GoodIn wsX7_stock (va_wsS RX7 68 yX7_within wsX7_within) := goodIn_app (goodIn_of _ (by decide +kernel)) ggX7_stock_X7_within
theorem dX7_stock_0 : decode cX7_stock 0 = .ok (.aload_n 0, 1) := by decide +kernel
theorem dX7_stock_1 : decode cX7_stock 1 = .ok (.iload_n 1, 1) := by decide +kernel
theorem dX7_stock_2 : decode cX7_stock 2 = .ok (.invokevirtual 163, 3) := by decide +kernel
theorem dX7_stock_5 : decode cX7_stock 5 = .ok (.ifCond .ne 5, 3) := by decide +kernel
theorem dX7_stock_8 : decode cX7_stock 8 = .ok (.iconst (-1), 1) := by decide +kernel
theorem dX7_stock_9 : decode cX7_stock 9 = .ok (.ireturn, 1) := by decide +kernel
theorem dX7_stock_10 : decode cX7_stock 10 = .ok (.iload_n 2, 1) := by decide +kernel
theorem dX7_stock_11 : decode cX7_stock 11 = .ok (.iconst 0, 1) := by decide +kernel
theorem dX7_stock_12 : decode cX7_stock 12 = .ok (.bipush 9, 2) := by decide +kernel
theorem dX7_stock_14 : decode cX7_stock 14 = .ok (.invokestatic 68, 3) := by decide +kernel
theorem dX7_stock_17 : decode cX7_stock 17 = .ok (.ifCond .ne 6, 3) := by decide +kernel
theorem dX7_stock_20 : decode cX7_stock 20 = .ok (.bipush (-2), 2) := by decide +kernel
theorem dX7_stock_22 : decode cX7_stock 22 = .ok (.ireturn, 1) := by decide +kernel
theorem dX7_stock_23 : decode cX7_stock 23 = .ok (.aload_n 0, 1) := by decide +kernel
theorem dX7_stock_24 : decode cX7_stock 24 = .ok (.getfield 34, 3) := by decide +kernel
theorem dX7_stock_27 : decode cX7_stock 27 = .ok (.iload_n 1, 1) := by decide +kernel
theorem dX7_stock_28 : decode cX7_stock 28 = .ok (.iaload, 1) := by decide +kernel
theorem dX7_stock_29 : decode cX7_stock 29 = .ok (.istore_n 3, 1) := by decide +kernel
theorem dX7_stock_30 : decode cX7_stock 30 = .ok (.aload_n 0, 1) := by decide +kernel
theorem dX7_stock_31 : decode cX7_stock 31 = .ok (.getfield 34, 3) := by decide +kernel
theorem dX7_stock_34 : decode cX7_stock 34 = .ok (.iload_n 1, 1) := by decide +kernel
theorem dX7_stock_35 : decode cX7_stock 35 = .ok (.iload_n 2, 1) := by decide +kernel
theorem dX7_stock_36 : decode cX7_stock 36 = .ok (.iastore, 1) := by decide +kernel
theorem dX7_stock_37 : decode cX7_stock 37 = .ok (.iload_n 3, 1) := by decide +kernel
theorem dX7_stock_38 : decode cX7_stock 38 = .ok (.ireturn, 1) := by decide +kernel
set_option maxRecDepth 20000 in
theorem ggX7_far_X7_isTube : GoodIn wsX7_far wsX7_isTube := goodIn_r _ [5, 6, 43, 44, 45, 46, 47, 48, 49, 50, 51, 52, 53, 54, 55, 56, 57, 58, 59, 60, 61, 62, 63, 64, 65, 66, 67, 68, 69, 70, 71, 72, 73, 74, 75] (by decide +kernel) (by decide +kernel)
set_option maxRecDepth 20000 in
theorem gX7_far_X7_isTube : GoodIn wsX7_far (wsV RX7 163 RX7 yX7_isTube wsX7_isTube) := goodIn_app (goodIn_of _ (by decide +kernel)) ggX7_far_X7_isTube
set_option maxRecDepth 20000 in
theorem ggX7_far_X7_farOf : GoodIn wsX7_far wsX7_farOf := goodIn_r _ [10, 11, 12, 13, 4, 14, 15, 16, 17, 18, 19, 20, 21, 22, 23, 24, 25, 26, 27, 28, 29, 30, 31, 32, 33, 34, 35, 36, 37, 38, 39, 40, 41, 42, 43, 44, 45, 46, 47, 48, 49, 50, 51, 52, 53, 54, 55, 56, 57, 58, 59, 60, 61, 62, 63, 64, 65, 66, 67, 68, 69, 70, 71, 72, 73, 74, 75] (by decide +kernel) (by decide +kernel)
set_option maxRecDepth 20000 in
theorem gX7_far_X7_farOf : GoodIn wsX7_far (wsV RX7 160 RX7 yX7_farOf wsX7_farOf) := goodIn_app (goodIn_of _ (by decide +kernel)) ggX7_far_X7_farOf
theorem dX7_far_0 : decode cX7_far 0 = .ok (.aload_n 0, 1) := by decide +kernel
theorem dX7_far_1 : decode cX7_far 1 = .ok (.iload_n 1, 1) := by decide +kernel
theorem dX7_far_2 : decode cX7_far 2 = .ok (.invokevirtual 163, 3) := by decide +kernel
theorem dX7_far_5 : decode cX7_far 5 = .ok (.ifCond .eq 11, 3) := by decide +kernel
theorem dX7_far_8 : decode cX7_far 8 = .ok (.aload_n 0, 1) := by decide +kernel
theorem dX7_far_9 : decode cX7_far 9 = .ok (.iload_n 1, 1) := by decide +kernel
theorem dX7_far_10 : decode cX7_far 10 = .ok (.invokevirtual 160, 3) := by decide +kernel
theorem dX7_far_13 : decode cX7_far 13 = .ok (.goto 4, 3) := by decide +kernel
theorem dX7_far_16 : decode cX7_far 16 = .ok (.iconst (-1), 1) := by decide +kernel
theorem dX7_far_17 : decode cX7_far 17 = .ok (.ireturn, 1) := by decide +kernel
set_option maxRecDepth 20000 in
theorem ggX7_search_X7_isSheet : GoodIn wsX7_search wsX7_isSheet := goodIn_r _ [7, 8, 9, 6, 10] (by decide +kernel) (by decide +kernel)
set_option maxRecDepth 20000 in
theorem gX7_search_X7_isSheet : GoodIn wsX7_search (va_wsS RX7 78 yX7_isSheet wsX7_isSheet) := goodIn_app (goodIn_of _ (by decide +kernel)) ggX7_search_X7_isSheet
set_option maxRecDepth 20000 in
theorem ggX7_search_X7_isSort : GoodIn wsX7_search wsX7_isSort := goodIn_r _ [13, 8, 9, 6, 10] (by decide +kernel) (by decide +kernel)
set_option maxRecDepth 20000 in
theorem gX7_search_X7_isSort : GoodIn wsX7_search (va_wsS RX7 82 yX7_isSort wsX7_isSort) := goodIn_app (goodIn_of _ (by decide +kernel)) ggX7_search_X7_isSort
set_option maxRecDepth 20000 in
theorem ggX7_search_X7_within : GoodIn wsX7_search wsX7_within := goodIn_r _ [10] (by decide +kernel) (by decide +kernel)
set_option maxRecDepth 20000 in
theorem gX7_search_X7_within : GoodIn wsX7_search (va_wsS RX7 68 yX7_within wsX7_within) := goodIn_app (goodIn_of _ (by decide +kernel)) ggX7_search_X7_within
set_option maxRecDepth 20000 in
theorem ggX7_search_X7_against : GoodIn wsX7_search wsX7_against := goodIn_r _ [17, 18, 19, 73, 74, 75, 76, 77, 78, 79, 80, 81, 82, 83, 84, 85, 86, 87, 88, 89, 90, 91, 92, 93, 94, 95, 96, 97, 98, 99, 100, 101, 102, 103, 104, 105] (by decide +kernel) (by decide +kernel)
set_option maxRecDepth 20000 in
theorem gX7_search_X7_against : GoodIn wsX7_search (wsV RX7 85 RX7 yX7_against wsX7_against) := goodIn_app (goodIn_of _ (by decide +kernel)) ggX7_search_X7_against
set_option maxRecDepth 20000 in
theorem ggX7_search_X7_fails : GoodIn wsX7_search wsX7_fails := goodIn_r _ [23, 1, 73, 74, 75, 76, 77, 78, 79, 80, 81, 82, 83, 84, 85, 86, 87, 88, 89, 90, 91, 92, 93, 94, 95, 96, 97, 98, 99, 100, 101, 102, 103, 104, 105] (by decide +kernel) (by decide +kernel)
set_option maxRecDepth 20000 in
theorem gX7_search_X7_fails : GoodIn wsX7_search (wsV RX7 89 RX7 yX7_fails wsX7_fails) := goodIn_app (goodIn_of _ (by decide +kernel)) ggX7_search_X7_fails
set_option maxRecDepth 20000 in
theorem ggX7_search_X7_isTube : GoodIn wsX7_search wsX7_isTube := goodIn_r _ [27, 2, 73, 74, 75, 76, 77, 78, 79, 80, 81, 82, 83, 84, 85, 86, 87, 88, 89, 90, 91, 92, 93, 94, 95, 96, 97, 98, 99, 100, 101, 102, 103, 104, 105] (by decide +kernel) (by decide +kernel)
set_option maxRecDepth 20000 in
theorem gX7_search_X7_isTube : GoodIn wsX7_search (wsV RX7 163 RX7 yX7_isTube wsX7_isTube) := goodIn_app (goodIn_of _ (by decide +kernel)) ggX7_search_X7_isTube
set_option maxRecDepth 20000 in
theorem ggX7_search_X7_searchAll : GoodIn wsX7_search wsX7_searchAll := goodIn_r _ [31, 3, 32, 33, 6, 34, 35, 36, 37, 38, 39, 40, 41, 42, 43, 44, 45, 46, 47, 48, 49, 50, 51, 52, 53, 54, 55, 56, 57, 58, 59, 60, 61, 62, 63, 64, 65, 66, 67, 68, 69, 70, 71, 72, 73, 74, 75, 76, 77, 78, 79, 80, 81, 82, 83, 84, 85, 86, 87, 88, 89, 90, 91, 92, 93, 94, 95, 96, 97, 98, 99, 100, 101, 102, 103, 104, 105] (by decide +kernel) (by decide +kernel)
set_option maxRecDepth 20000 in
theorem gX7_search_X7_searchAll : GoodIn wsX7_search (wsV RX7 166 RX7 yX7_searchAll wsX7_searchAll) := goodIn_app (goodIn_of _ (by decide +kernel)) ggX7_search_X7_searchAll
theorem dX7_search_0 : decode cX7_search 0 = .ok (.aload_n 0, 1) := by decide +kernel
theorem dX7_search_1 : decode cX7_search 1 = .ok (.iconst 0, 1) := by decide +kernel
theorem dX7_search_2 : decode cX7_search 2 = .ok (.putfield 62, 3) := by decide +kernel
theorem dX7_search_5 : decode cX7_search 5 = .ok (.iload_n 1, 1) := by decide +kernel
theorem dX7_search_6 : decode cX7_search 6 = .ok (.invokestatic 78, 3) := by decide +kernel
theorem dX7_search_9 : decode cX7_search 9 = .ok (.ifCond .ne 5, 3) := by decide +kernel
theorem dX7_search_12 : decode cX7_search 12 = .ok (.iconst (-1), 1) := by decide +kernel
theorem dX7_search_13 : decode cX7_search 13 = .ok (.ireturn, 1) := by decide +kernel
theorem dX7_search_14 : decode cX7_search 14 = .ok (.iload_n 2, 1) := by decide +kernel
theorem dX7_search_15 : decode cX7_search 15 = .ok (.invokestatic 82, 3) := by decide +kernel
theorem dX7_search_18 : decode cX7_search 18 = .ok (.ifCond .eq 24, 3) := by decide +kernel
theorem dX7_search_21 : decode cX7_search 21 = .ok (.iload 4, 2) := by decide +kernel
theorem dX7_search_23 : decode cX7_search 23 = .ok (.iconst 0, 1) := by decide +kernel
theorem dX7_search_24 : decode cX7_search 24 = .ok (.bipush 20, 2) := by decide +kernel
theorem dX7_search_26 : decode cX7_search 26 = .ok (.invokestatic 68, 3) := by decide +kernel
theorem dX7_search_29 : decode cX7_search 29 = .ok (.ifCond .eq 13, 3) := by decide +kernel
theorem dX7_search_32 : decode cX7_search 32 = .ok (.iload 5, 2) := by decide +kernel
theorem dX7_search_34 : decode cX7_search 34 = .ok (.iconst 0, 1) := by decide +kernel
theorem dX7_search_35 : decode cX7_search 35 = .ok (.iconst 2, 1) := by decide +kernel
theorem dX7_search_36 : decode cX7_search 36 = .ok (.invokestatic 68, 3) := by decide +kernel
theorem dX7_search_39 : decode cX7_search 39 = .ok (.ifCond .ne 6, 3) := by decide +kernel
theorem dX7_search_42 : decode cX7_search 42 = .ok (.bipush (-2), 2) := by decide +kernel
theorem dX7_search_44 : decode cX7_search 44 = .ok (.ireturn, 1) := by decide +kernel
theorem dX7_search_45 : decode cX7_search 45 = .ok (.aload_n 0, 1) := by decide +kernel
theorem dX7_search_46 : decode cX7_search 46 = .ok (.iload_n 1, 1) := by decide +kernel
theorem dX7_search_47 : decode cX7_search 47 = .ok (.iload_n 2, 1) := by decide +kernel
theorem dX7_search_48 : decode cX7_search 48 = .ok (.iload_n 3, 1) := by decide +kernel
theorem dX7_search_49 : decode cX7_search 49 = .ok (.iload 4, 2) := by decide +kernel
theorem dX7_search_51 : decode cX7_search 51 = .ok (.invokevirtual 85, 3) := by decide +kernel
theorem dX7_search_54 : decode cX7_search 54 = .ok (.istore 6, 2) := by decide +kernel
theorem dX7_search_56 : decode cX7_search 56 = .ok (.iload 6, 2) := by decide +kernel
theorem dX7_search_58 : decode cX7_search 58 = .ok (.ifCond .eq 10, 3) := by decide +kernel
theorem dX7_search_61 : decode cX7_search 61 = .ok (.aload_n 0, 1) := by decide +kernel
theorem dX7_search_62 : decode cX7_search 62 = .ok (.iload 6, 2) := by decide +kernel
theorem dX7_search_64 : decode cX7_search 64 = .ok (.invokevirtual 89, 3) := by decide +kernel
theorem dX7_search_67 : decode cX7_search 67 = .ok (.ireturn, 1) := by decide +kernel
theorem dX7_search_68 : decode cX7_search 68 = .ok (.aload_n 0, 1) := by decide +kernel
theorem dX7_search_69 : decode cX7_search 69 = .ok (.getfield 72, 3) := by decide +kernel
theorem dX7_search_72 : decode cX7_search 72 = .ok (.ifCond .ne 6, 3) := by decide +kernel
theorem dX7_search_75 : decode cX7_search 75 = .ok (.bipush (-3), 2) := by decide +kernel
theorem dX7_search_77 : decode cX7_search 77 = .ok (.ireturn, 1) := by decide +kernel
theorem dX7_search_78 : decode cX7_search 78 = .ok (.bipush 60, 2) := by decide +kernel
theorem dX7_search_80 : decode cX7_search 80 = .ok (.iload_n 1, 1) := by decide +kernel
theorem dX7_search_81 : decode cX7_search 81 = .ok (.imul, 1) := by decide +kernel
theorem dX7_search_82 : decode cX7_search 82 = .ok (.iload_n 3, 1) := by decide +kernel
theorem dX7_search_83 : decode cX7_search 83 = .ok (.iadd, 1) := by decide +kernel
theorem dX7_search_84 : decode cX7_search 84 = .ok (.istore 7, 2) := by decide +kernel
theorem dX7_search_86 : decode cX7_search 86 = .ok (.iconst 0, 1) := by decide +kernel
theorem dX7_search_87 : decode cX7_search 87 = .ok (.istore 8, 2) := by decide +kernel
theorem dX7_search_89 : decode cX7_search 89 = .ok (.iload 8, 2) := by decide +kernel
theorem dX7_search_91 : decode cX7_search 91 = .ok (.iload 4, 2) := by decide +kernel
theorem dX7_search_93 : decode cX7_search 93 = .ok (.if_icmp .ge 28, 3) := by decide +kernel
theorem dX7_search_96 : decode cX7_search 96 = .ok (.aload_n 0, 1) := by decide +kernel
theorem dX7_search_97 : decode cX7_search 97 = .ok (.aload_n 0, 1) := by decide +kernel
theorem dX7_search_98 : decode cX7_search 98 = .ok (.getfield 16, 3) := by decide +kernel
theorem dX7_search_101 : decode cX7_search 101 = .ok (.iload 7, 2) := by decide +kernel
theorem dX7_search_103 : decode cX7_search 103 = .ok (.iload 8, 2) := by decide +kernel
theorem dX7_search_105 : decode cX7_search 105 = .ok (.iadd, 1) := by decide +kernel
theorem dX7_search_106 : decode cX7_search 106 = .ok (.iaload, 1) := by decide +kernel
theorem dX7_search_107 : decode cX7_search 107 = .ok (.invokevirtual 163, 3) := by decide +kernel
theorem dX7_search_110 : decode cX7_search 110 = .ok (.ifCond .ne 5, 3) := by decide +kernel
theorem dX7_search_113 : decode cX7_search 113 = .ok (.iconst (-1), 1) := by decide +kernel
theorem dX7_search_114 : decode cX7_search 114 = .ok (.ireturn, 1) := by decide +kernel
theorem dX7_search_115 : decode cX7_search 115 = .ok (.iinc 8 1, 3) := by decide +kernel
theorem dX7_search_118 : decode cX7_search 118 = .ok (.goto (-29), 3) := by decide +kernel
theorem dX7_search_121 : decode cX7_search 121 = .ok (.aload_n 0, 1) := by decide +kernel
theorem dX7_search_122 : decode cX7_search 122 = .ok (.iload 7, 2) := by decide +kernel
theorem dX7_search_124 : decode cX7_search 124 = .ok (.iload 4, 2) := by decide +kernel
theorem dX7_search_126 : decode cX7_search 126 = .ok (.iload 5, 2) := by decide +kernel
theorem dX7_search_128 : decode cX7_search 128 = .ok (.invokevirtual 166, 3) := by decide +kernel
theorem dX7_search_131 : decode cX7_search 131 = .ok (.ireturn, 1) := by decide +kernel
set_option maxRecDepth 20000 in
theorem ggX7_searchAll_X7_apart : GoodIn wsX7_searchAll wsX7_apart := goodIn_r _ [5] (by decide +kernel) (by decide +kernel)
set_option maxRecDepth 20000 in
theorem gX7_searchAll_X7_apart : GoodIn wsX7_searchAll (va_wsS RX7 143 yX7_apart wsX7_apart) := goodIn_app (goodIn_of _ (by decide +kernel)) ggX7_searchAll_X7_apart
set_option maxRecDepth 20000 in
theorem ggX7_searchAll_X7_isAlike : GoodIn wsX7_searchAll wsX7_isAlike := goodIn_r _ [9, 10, 11, 12, 13, 4, 14, 15, 16, 17, 18, 19, 20, 21, 22, 23, 24, 25, 26, 27, 28, 29, 30, 31, 32, 33, 34, 35, 36, 37, 38, 2, 3, 5, 39, 40, 41, 42, 43, 44, 45, 46, 47, 48, 49, 50, 51, 52, 53, 54, 55, 56, 57, 58, 59, 60, 61, 62, 63, 64, 65, 66, 67, 68, 69, 70, 71, 72, 73, 74, 75, 76] (by decide +kernel) (by decide +kernel)
set_option maxRecDepth 20000 in
theorem gX7_searchAll_X7_isAlike : GoodIn wsX7_searchAll (wsV RX7 169 RX7 yX7_isAlike wsX7_isAlike) := goodIn_app (goodIn_of _ (by decide +kernel)) ggX7_searchAll_X7_isAlike
theorem dX7_searchAll_0 : decode cX7_searchAll 0 = .ok (.iconst 0, 1) := by decide +kernel
theorem dX7_searchAll_1 : decode cX7_searchAll 1 = .ok (.istore 4, 2) := by decide +kernel
theorem dX7_searchAll_3 : decode cX7_searchAll 3 = .ok (.iconst 0, 1) := by decide +kernel
theorem dX7_searchAll_4 : decode cX7_searchAll 4 = .ok (.istore 5, 2) := by decide +kernel
theorem dX7_searchAll_6 : decode cX7_searchAll 6 = .ok (.bipush (-9), 2) := by decide +kernel
theorem dX7_searchAll_8 : decode cX7_searchAll 8 = .ok (.istore 6, 2) := by decide +kernel
theorem dX7_searchAll_10 : decode cX7_searchAll 10 = .ok (.iconst 0, 1) := by decide +kernel
theorem dX7_searchAll_11 : decode cX7_searchAll 11 = .ok (.istore 7, 2) := by decide +kernel
theorem dX7_searchAll_13 : decode cX7_searchAll 13 = .ok (.iload 7, 2) := by decide +kernel
theorem dX7_searchAll_15 : decode cX7_searchAll 15 = .ok (.iload_n 2, 1) := by decide +kernel
theorem dX7_searchAll_16 : decode cX7_searchAll 16 = .ok (.if_icmp .ge 63, 3) := by decide +kernel
theorem dX7_searchAll_19 : decode cX7_searchAll 19 = .ok (.iload 6, 2) := by decide +kernel
theorem dX7_searchAll_21 : decode cX7_searchAll 21 = .ok (.bipush (-9), 2) := by decide +kernel
theorem dX7_searchAll_23 : decode cX7_searchAll 23 = .ok (.if_icmp .ne 56, 3) := by decide +kernel
theorem dX7_searchAll_26 : decode cX7_searchAll 26 = .ok (.aload_n 0, 1) := by decide +kernel
theorem dX7_searchAll_27 : decode cX7_searchAll 27 = .ok (.getfield 16, 3) := by decide +kernel
theorem dX7_searchAll_30 : decode cX7_searchAll 30 = .ok (.iload_n 1, 1) := by decide +kernel
theorem dX7_searchAll_31 : decode cX7_searchAll 31 = .ok (.iload 7, 2) := by decide +kernel
theorem dX7_searchAll_33 : decode cX7_searchAll 33 = .ok (.iadd, 1) := by decide +kernel
theorem dX7_searchAll_34 : decode cX7_searchAll 34 = .ok (.iaload, 1) := by decide +kernel
theorem dX7_searchAll_35 : decode cX7_searchAll 35 = .ok (.istore 8, 2) := by decide +kernel
theorem dX7_searchAll_37 : decode cX7_searchAll 37 = .ok (.iload 4, 2) := by decide +kernel
theorem dX7_searchAll_39 : decode cX7_searchAll 39 = .ok (.iload 5, 2) := by decide +kernel
theorem dX7_searchAll_41 : decode cX7_searchAll 41 = .ok (.iload 8, 2) := by decide +kernel
theorem dX7_searchAll_43 : decode cX7_searchAll 43 = .ok (.invokestatic 143, 3) := by decide +kernel
theorem dX7_searchAll_46 : decode cX7_searchAll 46 = .ok (.iconst 1, 1) := by decide +kernel
theorem dX7_searchAll_47 : decode cX7_searchAll 47 = .ok (.iadd, 1) := by decide +kernel
theorem dX7_searchAll_48 : decode cX7_searchAll 48 = .ok (.iadd, 1) := by decide +kernel
theorem dX7_searchAll_49 : decode cX7_searchAll 49 = .ok (.istore 4, 2) := by decide +kernel
theorem dX7_searchAll_51 : decode cX7_searchAll 51 = .ok (.iload 8, 2) := by decide +kernel
theorem dX7_searchAll_53 : decode cX7_searchAll 53 = .ok (.istore 5, 2) := by decide +kernel
theorem dX7_searchAll_55 : decode cX7_searchAll 55 = .ok (.iinc 7 1, 3) := by decide +kernel
theorem dX7_searchAll_58 : decode cX7_searchAll 58 = .ok (.aload_n 0, 1) := by decide +kernel
theorem dX7_searchAll_59 : decode cX7_searchAll 59 = .ok (.iload 8, 2) := by decide +kernel
theorem dX7_searchAll_61 : decode cX7_searchAll 61 = .ok (.invokevirtual 169, 3) := by decide +kernel
theorem dX7_searchAll_64 : decode cX7_searchAll 64 = .ok (.ifCond .eq 8, 3) := by decide +kernel
theorem dX7_searchAll_67 : decode cX7_searchAll 67 = .ok (.iload 8, 2) := by decide +kernel
theorem dX7_searchAll_69 : decode cX7_searchAll 69 = .ok (.goto 5, 3) := by decide +kernel
theorem dX7_searchAll_72 : decode cX7_searchAll 72 = .ok (.bipush (-9), 2) := by decide +kernel
theorem dX7_searchAll_74 : decode cX7_searchAll 74 = .ok (.istore 6, 2) := by decide +kernel
theorem dX7_searchAll_76 : decode cX7_searchAll 76 = .ok (.goto (-63), 3) := by decide +kernel
theorem dX7_searchAll_79 : decode cX7_searchAll 79 = .ok (.iload_n 3, 1) := by decide +kernel
theorem dX7_searchAll_80 : decode cX7_searchAll 80 = .ok (.ifCond .ne 8, 3) := by decide +kernel
theorem dX7_searchAll_83 : decode cX7_searchAll 83 = .ok (.iload 4, 2) := by decide +kernel
theorem dX7_searchAll_85 : decode cX7_searchAll 85 = .ok (.goto 15, 3) := by decide +kernel
theorem dX7_searchAll_88 : decode cX7_searchAll 88 = .ok (.iload_n 3, 1) := by decide +kernel
theorem dX7_searchAll_89 : decode cX7_searchAll 89 = .ok (.iconst 1, 1) := by decide +kernel
theorem dX7_searchAll_90 : decode cX7_searchAll 90 = .ok (.if_icmp .ne 8, 3) := by decide +kernel
theorem dX7_searchAll_93 : decode cX7_searchAll 93 = .ok (.iload 6, 2) := by decide +kernel
theorem dX7_searchAll_95 : decode cX7_searchAll 95 = .ok (.goto 5, 3) := by decide +kernel
theorem dX7_searchAll_98 : decode cX7_searchAll 98 = .ok (.iload 7, 2) := by decide +kernel
theorem dX7_searchAll_100 : decode cX7_searchAll 100 = .ok (.ireturn, 1) := by decide +kernel
set_option maxRecDepth 20000 in
theorem ggX7_looksSo_X7_looksColour : GoodIn wsX7_looksSo wsX7_looksColour := goodIn_r _ [7, 8, 9, 27, 28, 29, 30, 31, 32, 33, 34, 35, 36, 37, 38, 39, 40, 41, 42, 43, 44, 45, 46, 47, 48, 49, 50, 51, 52, 53, 54, 55, 56, 57, 58, 59] (by decide +kernel) (by decide +kernel)
set_option maxRecDepth 20000 in
theorem gX7_looksSo_X7_looksColour : GoodIn wsX7_looksSo (wsV RX7 140 RX7 yX7_looksColour wsX7_looksColour) := goodIn_app (goodIn_of _ (by decide +kernel)) ggX7_looksSo_X7_looksColour
set_option maxRecDepth 20000 in
theorem ggX7_looksSo_X7_rememberedColour : GoodIn wsX7_looksSo wsX7_rememberedColour := goodIn_r _ [13, 14, 15, 27, 28, 29, 30, 31, 32, 33, 34, 35, 36, 37, 38, 39, 40, 41, 42, 43, 44, 45, 46, 47, 48, 49, 50, 51, 52, 53, 54, 55, 56, 57, 58, 59] (by decide +kernel) (by decide +kernel)
set_option maxRecDepth 20000 in
theorem gX7_looksSo_X7_rememberedColour : GoodIn wsX7_looksSo (wsV RX7 150 RX7 yX7_rememberedColour wsX7_rememberedColour) := goodIn_app (goodIn_of _ (by decide +kernel)) ggX7_looksSo_X7_rememberedColour
set_option maxRecDepth 20000 in
theorem ggX7_looksSo_X7_looksSize : GoodIn wsX7_looksSo wsX7_looksSize := goodIn_r _ [19, 8, 20, 27, 28, 29, 30, 31, 32, 33, 34, 35, 36, 37, 38, 39, 40, 41, 42, 43, 44, 45, 46, 47, 48, 49, 50, 51, 52, 53, 54, 55, 56, 57, 58, 59] (by decide +kernel) (by decide +kernel)
set_option maxRecDepth 20000 in
theorem gX7_looksSo_X7_looksSize : GoodIn wsX7_looksSo (wsV RX7 147 RX7 yX7_looksSize wsX7_looksSize) := goodIn_app (goodIn_of _ (by decide +kernel)) ggX7_looksSo_X7_looksSize
set_option maxRecDepth 20000 in
theorem ggX7_looksSo_X7_rememberedSize : GoodIn wsX7_looksSo wsX7_rememberedSize := goodIn_r _ [24, 25, 26, 27, 28, 29, 30, 31, 32, 33, 34, 35, 36, 37, 38, 39, 40, 41, 42, 43, 44, 45, 46, 47, 48, 49, 50, 51, 52, 53, 54, 55, 56, 57, 58, 59] (by decide +kernel) (by decide +kernel)
set_option maxRecDepth 20000 in
theorem gX7_looksSo_X7_rememberedSize : GoodIn wsX7_looksSo (wsV RX7 154 RX7 yX7_rememberedSize wsX7_rememberedSize) := goodIn_app (goodIn_of _ (by decide +kernel)) ggX7_looksSo_X7_rememberedSize
theorem dX7_looksSo_0 : decode cX7_looksSo 0 = .ok (.iload_n 2, 1) := by decide +kernel
theorem dX7_looksSo_1 : decode cX7_looksSo 1 = .ok (.ifCond .ne 21, 3) := by decide +kernel
theorem dX7_looksSo_4 : decode cX7_looksSo 4 = .ok (.aload_n 0, 1) := by decide +kernel
theorem dX7_looksSo_5 : decode cX7_looksSo 5 = .ok (.iload_n 1, 1) := by decide +kernel
theorem dX7_looksSo_6 : decode cX7_looksSo 6 = .ok (.invokevirtual 140, 3) := by decide +kernel
theorem dX7_looksSo_9 : decode cX7_looksSo 9 = .ok (.aload_n 0, 1) := by decide +kernel
theorem dX7_looksSo_10 : decode cX7_looksSo 10 = .ok (.invokevirtual 150, 3) := by decide +kernel
theorem dX7_looksSo_13 : decode cX7_looksSo 13 = .ok (.if_icmp .ne 7, 3) := by decide +kernel
theorem dX7_looksSo_16 : decode cX7_looksSo 16 = .ok (.iconst 1, 1) := by decide +kernel
theorem dX7_looksSo_17 : decode cX7_looksSo 17 = .ok (.goto 4, 3) := by decide +kernel
theorem dX7_looksSo_20 : decode cX7_looksSo 20 = .ok (.iconst 0, 1) := by decide +kernel
theorem dX7_looksSo_21 : decode cX7_looksSo 21 = .ok (.ireturn, 1) := by decide +kernel
theorem dX7_looksSo_22 : decode cX7_looksSo 22 = .ok (.iload_n 2, 1) := by decide +kernel
theorem dX7_looksSo_23 : decode cX7_looksSo 23 = .ok (.iconst 1, 1) := by decide +kernel
theorem dX7_looksSo_24 : decode cX7_looksSo 24 = .ok (.if_icmp .ne 23, 3) := by decide +kernel
theorem dX7_looksSo_27 : decode cX7_looksSo 27 = .ok (.aload_n 0, 1) := by decide +kernel
theorem dX7_looksSo_28 : decode cX7_looksSo 28 = .ok (.iload_n 1, 1) := by decide +kernel
theorem dX7_looksSo_29 : decode cX7_looksSo 29 = .ok (.invokevirtual 147, 3) := by decide +kernel
theorem dX7_looksSo_32 : decode cX7_looksSo 32 = .ok (.aload_n 0, 1) := by decide +kernel
theorem dX7_looksSo_33 : decode cX7_looksSo 33 = .ok (.invokevirtual 154, 3) := by decide +kernel
theorem dX7_looksSo_36 : decode cX7_looksSo 36 = .ok (.if_icmp .ne 7, 3) := by decide +kernel
theorem dX7_looksSo_39 : decode cX7_looksSo 39 = .ok (.iconst 1, 1) := by decide +kernel
theorem dX7_looksSo_40 : decode cX7_looksSo 40 = .ok (.goto 25, 3) := by decide +kernel
theorem dX7_looksSo_43 : decode cX7_looksSo 43 = .ok (.iconst 0, 1) := by decide +kernel
theorem dX7_looksSo_44 : decode cX7_looksSo 44 = .ok (.goto 21, 3) := by decide +kernel
theorem dX7_looksSo_47 : decode cX7_looksSo 47 = .ok (.aload_n 0, 1) := by decide +kernel
theorem dX7_looksSo_48 : decode cX7_looksSo 48 = .ok (.getfield 31, 3) := by decide +kernel
theorem dX7_looksSo_51 : decode cX7_looksSo 51 = .ok (.iload_n 1, 1) := by decide +kernel
theorem dX7_looksSo_52 : decode cX7_looksSo 52 = .ok (.iaload, 1) := by decide +kernel
theorem dX7_looksSo_53 : decode cX7_looksSo 53 = .ok (.aload_n 0, 1) := by decide +kernel
theorem dX7_looksSo_54 : decode cX7_looksSo 54 = .ok (.getfield 105, 3) := by decide +kernel
theorem dX7_looksSo_57 : decode cX7_looksSo 57 = .ok (.if_icmp .ne 7, 3) := by decide +kernel
theorem dX7_looksSo_60 : decode cX7_looksSo 60 = .ok (.iconst 1, 1) := by decide +kernel
theorem dX7_looksSo_61 : decode cX7_looksSo 61 = .ok (.goto 4, 3) := by decide +kernel
theorem dX7_looksSo_64 : decode cX7_looksSo 64 = .ok (.iconst 0, 1) := by decide +kernel
theorem dX7_looksSo_65 : decode cX7_looksSo 65 = .ok (.ireturn, 1) := by decide +kernel
theorem dX7_bits_0 : decode cX7_bits 0 = .ok (.iconst 0, 1) := by decide +kernel
theorem dX7_bits_1 : decode cX7_bits 1 = .ok (.istore_n 1, 1) := by decide +kernel
theorem dX7_bits_2 : decode cX7_bits 2 = .ok (.iload_n 0, 1) := by decide +kernel
theorem dX7_bits_3 : decode cX7_bits 3 = .ok (.istore_n 2, 1) := by decide +kernel
theorem dX7_bits_4 : decode cX7_bits 4 = .ok (.iload_n 2, 1) := by decide +kernel
theorem dX7_bits_5 : decode cX7_bits 5 = .ok (.ifCond .le 16, 3) := by decide +kernel
theorem dX7_bits_8 : decode cX7_bits 8 = .ok (.iload_n 1, 1) := by decide +kernel
theorem dX7_bits_9 : decode cX7_bits 9 = .ok (.iload_n 2, 1) := by decide +kernel
theorem dX7_bits_10 : decode cX7_bits 10 = .ok (.iconst 1, 1) := by decide +kernel
theorem dX7_bits_11 : decode cX7_bits 11 = .ok (.iand, 1) := by decide +kernel
theorem dX7_bits_12 : decode cX7_bits 12 = .ok (.iadd, 1) := by decide +kernel
theorem dX7_bits_13 : decode cX7_bits 13 = .ok (.istore_n 1, 1) := by decide +kernel
theorem dX7_bits_14 : decode cX7_bits 14 = .ok (.iload_n 2, 1) := by decide +kernel
theorem dX7_bits_15 : decode cX7_bits 15 = .ok (.iconst 1, 1) := by decide +kernel
theorem dX7_bits_16 : decode cX7_bits 16 = .ok (.ishr, 1) := by decide +kernel
theorem dX7_bits_17 : decode cX7_bits 17 = .ok (.istore_n 2, 1) := by decide +kernel
theorem dX7_bits_18 : decode cX7_bits 18 = .ok (.goto (-14), 3) := by decide +kernel
theorem dX7_bits_21 : decode cX7_bits 21 = .ok (.iload_n 1, 1) := by decide +kernel
theorem dX7_bits_22 : decode cX7_bits 22 = .ok (.ireturn, 1) := by decide +kernel
set_option maxRecDepth 20000 in
theorem ggX7_sieveAll_X7_bits : GoodIn wsX7_sieveAll wsX7_bits := goodIn_r _ [8] (by decide +kernel) (by decide +kernel)
set_option maxRecDepth 20000 in
theorem gX7_sieveAll_X7_bits : GoodIn wsX7_sieveAll (va_wsS RX7 178 yX7_bits wsX7_bits) := goodIn_app (goodIn_of _ (by decide +kernel)) ggX7_sieveAll_X7_bits
set_option maxRecDepth 20000 in
theorem ggX7_sieveAll_X7_looksSo : GoodIn wsX7_sieveAll wsX7_looksSo := goodIn_r _ [12, 13, 14, 15, 16, 17, 7, 18, 19, 20, 21, 22, 23, 24, 25, 26, 27, 28, 29, 30, 31, 32, 33, 34, 35, 36, 37, 38, 39, 40, 41, 42, 43, 44, 45, 46, 47, 48, 49, 50, 51, 52, 53, 54, 55, 56, 57, 58, 59, 60, 61, 62, 63, 64, 65, 66, 67, 68, 69, 70] (by decide +kernel) (by decide +kernel)
set_option maxRecDepth 20000 in
theorem gX7_sieveAll_X7_looksSo : GoodIn wsX7_sieveAll (wsV RX7 181 RX7 yX7_looksSo wsX7_looksSo) := goodIn_app (goodIn_of _ (by decide +kernel)) ggX7_sieveAll_X7_looksSo
theorem dX7_sieveAll_0 : decode cX7_sieveAll 0 = .ok (.iconst 1, 1) := by decide +kernel
theorem dX7_sieveAll_1 : decode cX7_sieveAll 1 = .ok (.aload_n 0, 1) := by decide +kernel
theorem dX7_sieveAll_2 : decode cX7_sieveAll 2 = .ok (.getfield 72, 3) := by decide +kernel
theorem dX7_sieveAll_5 : decode cX7_sieveAll 5 = .ok (.ishl, 1) := by decide +kernel
theorem dX7_sieveAll_6 : decode cX7_sieveAll 6 = .ok (.iconst 1, 1) := by decide +kernel
theorem dX7_sieveAll_7 : decode cX7_sieveAll 7 = .ok (.isub, 1) := by decide +kernel
theorem dX7_sieveAll_8 : decode cX7_sieveAll 8 = .ok (.istore_n 1, 1) := by decide +kernel
theorem dX7_sieveAll_9 : decode cX7_sieveAll 9 = .ok (.aload_n 0, 1) := by decide +kernel
theorem dX7_sieveAll_10 : decode cX7_sieveAll 10 = .ok (.iconst 0, 1) := by decide +kernel
theorem dX7_sieveAll_11 : decode cX7_sieveAll 11 = .ok (.putfield 172, 3) := by decide +kernel
theorem dX7_sieveAll_14 : decode cX7_sieveAll 14 = .ok (.iconst 0, 1) := by decide +kernel
theorem dX7_sieveAll_15 : decode cX7_sieveAll 15 = .ok (.istore_n 2, 1) := by decide +kernel
theorem dX7_sieveAll_16 : decode cX7_sieveAll 16 = .ok (.iload_n 2, 1) := by decide +kernel
theorem dX7_sieveAll_17 : decode cX7_sieveAll 17 = .ok (.aload_n 0, 1) := by decide +kernel
theorem dX7_sieveAll_18 : decode cX7_sieveAll 18 = .ok (.getfield 175, 3) := by decide +kernel
theorem dX7_sieveAll_21 : decode cX7_sieveAll 21 = .ok (.if_icmp .ge 64, 3) := by decide +kernel
theorem dX7_sieveAll_24 : decode cX7_sieveAll 24 = .ok (.aload_n 0, 1) := by decide +kernel
theorem dX7_sieveAll_25 : decode cX7_sieveAll 25 = .ok (.dup, 1) := by decide +kernel
theorem dX7_sieveAll_26 : decode cX7_sieveAll 26 = .ok (.getfield 172, 3) := by decide +kernel
theorem dX7_sieveAll_29 : decode cX7_sieveAll 29 = .ok (.iload_n 1, 1) := by decide +kernel
theorem dX7_sieveAll_30 : decode cX7_sieveAll 30 = .ok (.invokestatic 178, 3) := by decide +kernel
theorem dX7_sieveAll_33 : decode cX7_sieveAll 33 = .ok (.iadd, 1) := by decide +kernel
theorem dX7_sieveAll_34 : decode cX7_sieveAll 34 = .ok (.putfield 172, 3) := by decide +kernel
theorem dX7_sieveAll_37 : decode cX7_sieveAll 37 = .ok (.iconst 0, 1) := by decide +kernel
theorem dX7_sieveAll_38 : decode cX7_sieveAll 38 = .ok (.istore_n 3, 1) := by decide +kernel
theorem dX7_sieveAll_39 : decode cX7_sieveAll 39 = .ok (.iload_n 3, 1) := by decide +kernel
theorem dX7_sieveAll_40 : decode cX7_sieveAll 40 = .ok (.aload_n 0, 1) := by decide +kernel
theorem dX7_sieveAll_41 : decode cX7_sieveAll 41 = .ok (.getfield 72, 3) := by decide +kernel
theorem dX7_sieveAll_44 : decode cX7_sieveAll 44 = .ok (.if_icmp .ge 35, 3) := by decide +kernel
theorem dX7_sieveAll_47 : decode cX7_sieveAll 47 = .ok (.iload_n 1, 1) := by decide +kernel
theorem dX7_sieveAll_48 : decode cX7_sieveAll 48 = .ok (.aload_n 0, 1) := by decide +kernel
theorem dX7_sieveAll_49 : decode cX7_sieveAll 49 = .ok (.iload_n 3, 1) := by decide +kernel
theorem dX7_sieveAll_50 : decode cX7_sieveAll 50 = .ok (.aload_n 0, 1) := by decide +kernel
theorem dX7_sieveAll_51 : decode cX7_sieveAll 51 = .ok (.getfield 46, 3) := by decide +kernel
theorem dX7_sieveAll_54 : decode cX7_sieveAll 54 = .ok (.iload_n 2, 1) := by decide +kernel
theorem dX7_sieveAll_55 : decode cX7_sieveAll 55 = .ok (.iaload, 1) := by decide +kernel
theorem dX7_sieveAll_56 : decode cX7_sieveAll 56 = .ok (.invokevirtual 181, 3) := by decide +kernel
theorem dX7_sieveAll_59 : decode cX7_sieveAll 59 = .ok (.ifCond .eq 7, 3) := by decide +kernel
theorem dX7_sieveAll_62 : decode cX7_sieveAll 62 = .ok (.iload_n 1, 1) := by decide +kernel
theorem dX7_sieveAll_63 : decode cX7_sieveAll 63 = .ok (.goto 8, 3) := by decide +kernel
theorem dX7_sieveAll_66 : decode cX7_sieveAll 66 = .ok (.iconst 1, 1) := by decide +kernel
theorem dX7_sieveAll_67 : decode cX7_sieveAll 67 = .ok (.iload_n 3, 1) := by decide +kernel
theorem dX7_sieveAll_68 : decode cX7_sieveAll 68 = .ok (.ishl, 1) := by decide +kernel
theorem dX7_sieveAll_69 : decode cX7_sieveAll 69 = .ok (.iconst (-1), 1) := by decide +kernel
theorem dX7_sieveAll_70 : decode cX7_sieveAll 70 = .ok (.ixor, 1) := by decide +kernel
theorem dX7_sieveAll_71 : decode cX7_sieveAll 71 = .ok (.iand, 1) := by decide +kernel
theorem dX7_sieveAll_72 : decode cX7_sieveAll 72 = .ok (.istore_n 1, 1) := by decide +kernel
theorem dX7_sieveAll_73 : decode cX7_sieveAll 73 = .ok (.iinc 3 1, 3) := by decide +kernel
theorem dX7_sieveAll_76 : decode cX7_sieveAll 76 = .ok (.goto (-37), 3) := by decide +kernel
theorem dX7_sieveAll_79 : decode cX7_sieveAll 79 = .ok (.iinc 2 1, 3) := by decide +kernel
theorem dX7_sieveAll_82 : decode cX7_sieveAll 82 = .ok (.goto (-66), 3) := by decide +kernel
theorem dX7_sieveAll_85 : decode cX7_sieveAll 85 = .ok (.iload_n 1, 1) := by decide +kernel
theorem dX7_sieveAll_86 : decode cX7_sieveAll 86 = .ok (.ireturn, 1) := by decide +kernel
set_option maxRecDepth 20000 in
theorem ggX7_sieve_X7_isSheet : GoodIn wsX7_sieve wsX7_isSheet := goodIn_r _ [10, 11, 12, 9, 13] (by decide +kernel) (by decide +kernel)
set_option maxRecDepth 20000 in
theorem gX7_sieve_X7_isSheet : GoodIn wsX7_sieve (va_wsS RX7 78 yX7_isSheet wsX7_isSheet) := goodIn_app (goodIn_of _ (by decide +kernel)) ggX7_sieve_X7_isSheet
set_option maxRecDepth 20000 in
theorem ggX7_sieve_X7_isSort : GoodIn wsX7_sieve wsX7_isSort := goodIn_r _ [16, 11, 12, 9, 13] (by decide +kernel) (by decide +kernel)
set_option maxRecDepth 20000 in
theorem gX7_sieve_X7_isSort : GoodIn wsX7_sieve (va_wsS RX7 82 yX7_isSort wsX7_isSort) := goodIn_app (goodIn_of _ (by decide +kernel)) ggX7_sieve_X7_isSort
set_option maxRecDepth 20000 in
theorem ggX7_sieve_X7_within : GoodIn wsX7_sieve wsX7_within := goodIn_r _ [13] (by decide +kernel) (by decide +kernel)
set_option maxRecDepth 20000 in
theorem gX7_sieve_X7_within : GoodIn wsX7_sieve (va_wsS RX7 68 yX7_within wsX7_within) := goodIn_app (goodIn_of _ (by decide +kernel)) ggX7_sieve_X7_within
set_option maxRecDepth 20000 in
theorem ggX7_sieve_X7_against : GoodIn wsX7_sieve wsX7_against := goodIn_r _ [20, 21, 22, 63, 64, 65, 66, 67, 68, 69, 70, 71, 72, 73, 74, 75, 76, 77, 78, 79, 80, 81, 82, 83, 84, 85, 86, 87, 88, 89, 90, 91, 92, 93, 94, 95] (by decide +kernel) (by decide +kernel)
set_option maxRecDepth 20000 in
theorem gX7_sieve_X7_against : GoodIn wsX7_sieve (wsV RX7 85 RX7 yX7_against wsX7_against) := goodIn_app (goodIn_of _ (by decide +kernel)) ggX7_sieve_X7_against
set_option maxRecDepth 20000 in
theorem ggX7_sieve_X7_fails : GoodIn wsX7_sieve wsX7_fails := goodIn_r _ [26, 1, 63, 64, 65, 66, 67, 68, 69, 70, 71, 72, 73, 74, 75, 76, 77, 78, 79, 80, 81, 82, 83, 84, 85, 86, 87, 88, 89, 90, 91, 92, 93, 94, 95] (by decide +kernel) (by decide +kernel)
set_option maxRecDepth 20000 in
theorem gX7_sieve_X7_fails : GoodIn wsX7_sieve (wsV RX7 89 RX7 yX7_fails wsX7_fails) := goodIn_app (goodIn_of _ (by decide +kernel)) ggX7_sieve_X7_fails
set_option maxRecDepth 20000 in
theorem ggX7_sieve_X7_sieveAll : GoodIn wsX7_sieve wsX7_sieveAll := goodIn_r _ [30, 2, 6, 5, 4, 31, 32, 9, 33, 34, 35, 36, 37, 38, 39, 40, 41, 42, 43, 44, 45, 46, 47, 48, 49, 50, 51, 52, 53, 54, 55, 56, 57, 58, 59, 60, 61, 62, 63, 64, 65, 66, 67, 68, 69, 70, 71, 72, 73, 74, 75, 76, 77, 78, 79, 80, 81, 82, 83, 84, 85, 86, 87, 88, 89, 90, 91, 92, 93, 94, 95] (by decide +kernel) (by decide +kernel)
set_option maxRecDepth 20000 in
theorem gX7_sieve_X7_sieveAll : GoodIn wsX7_sieve (wsV RX7 184 RX7 yX7_sieveAll wsX7_sieveAll) := goodIn_app (goodIn_of _ (by decide +kernel)) ggX7_sieve_X7_sieveAll
theorem dX7_sieve_0 : decode cX7_sieve 0 = .ok (.aload_n 0, 1) := by decide +kernel
theorem dX7_sieve_1 : decode cX7_sieve 1 = .ok (.iconst 0, 1) := by decide +kernel
theorem dX7_sieve_2 : decode cX7_sieve 2 = .ok (.putfield 62, 3) := by decide +kernel
theorem dX7_sieve_5 : decode cX7_sieve 5 = .ok (.iload_n 1, 1) := by decide +kernel
theorem dX7_sieve_6 : decode cX7_sieve 6 = .ok (.invokestatic 78, 3) := by decide +kernel
theorem dX7_sieve_9 : decode cX7_sieve 9 = .ok (.ifCond .ne 5, 3) := by decide +kernel
theorem dX7_sieve_12 : decode cX7_sieve 12 = .ok (.iconst (-1), 1) := by decide +kernel
theorem dX7_sieve_13 : decode cX7_sieve 13 = .ok (.ireturn, 1) := by decide +kernel
theorem dX7_sieve_14 : decode cX7_sieve 14 = .ok (.iload_n 2, 1) := by decide +kernel
theorem dX7_sieve_15 : decode cX7_sieve 15 = .ok (.invokestatic 82, 3) := by decide +kernel
theorem dX7_sieve_18 : decode cX7_sieve 18 = .ok (.ifCond .eq 23, 3) := by decide +kernel
theorem dX7_sieve_21 : decode cX7_sieve 21 = .ok (.iload 4, 2) := by decide +kernel
theorem dX7_sieve_23 : decode cX7_sieve 23 = .ok (.iconst 0, 1) := by decide +kernel
theorem dX7_sieve_24 : decode cX7_sieve 24 = .ok (.iconst 3, 1) := by decide +kernel
theorem dX7_sieve_25 : decode cX7_sieve 25 = .ok (.invokestatic 68, 3) := by decide +kernel
theorem dX7_sieve_28 : decode cX7_sieve 28 = .ok (.ifCond .eq 13, 3) := by decide +kernel
theorem dX7_sieve_31 : decode cX7_sieve 31 = .ok (.iload 5, 2) := by decide +kernel
theorem dX7_sieve_33 : decode cX7_sieve 33 = .ok (.iconst 0, 1) := by decide +kernel
theorem dX7_sieve_34 : decode cX7_sieve 34 = .ok (.iconst 1, 1) := by decide +kernel
theorem dX7_sieve_35 : decode cX7_sieve 35 = .ok (.invokestatic 68, 3) := by decide +kernel
theorem dX7_sieve_38 : decode cX7_sieve 38 = .ok (.ifCond .ne 6, 3) := by decide +kernel
theorem dX7_sieve_41 : decode cX7_sieve 41 = .ok (.bipush (-2), 2) := by decide +kernel
theorem dX7_sieve_43 : decode cX7_sieve 43 = .ok (.ireturn, 1) := by decide +kernel
theorem dX7_sieve_44 : decode cX7_sieve 44 = .ok (.aload_n 0, 1) := by decide +kernel
theorem dX7_sieve_45 : decode cX7_sieve 45 = .ok (.iload_n 1, 1) := by decide +kernel
theorem dX7_sieve_46 : decode cX7_sieve 46 = .ok (.iload_n 2, 1) := by decide +kernel
theorem dX7_sieve_47 : decode cX7_sieve 47 = .ok (.iload_n 3, 1) := by decide +kernel
theorem dX7_sieve_48 : decode cX7_sieve 48 = .ok (.iload 4, 2) := by decide +kernel
theorem dX7_sieve_50 : decode cX7_sieve 50 = .ok (.invokevirtual 85, 3) := by decide +kernel
theorem dX7_sieve_53 : decode cX7_sieve 53 = .ok (.istore 6, 2) := by decide +kernel
theorem dX7_sieve_55 : decode cX7_sieve 55 = .ok (.iload 6, 2) := by decide +kernel
theorem dX7_sieve_57 : decode cX7_sieve 57 = .ok (.ifCond .eq 10, 3) := by decide +kernel
theorem dX7_sieve_60 : decode cX7_sieve 60 = .ok (.aload_n 0, 1) := by decide +kernel
theorem dX7_sieve_61 : decode cX7_sieve 61 = .ok (.iload 6, 2) := by decide +kernel
theorem dX7_sieve_63 : decode cX7_sieve 63 = .ok (.invokevirtual 89, 3) := by decide +kernel
theorem dX7_sieve_66 : decode cX7_sieve 66 = .ok (.ireturn, 1) := by decide +kernel
theorem dX7_sieve_67 : decode cX7_sieve 67 = .ok (.aload_n 0, 1) := by decide +kernel
theorem dX7_sieve_68 : decode cX7_sieve 68 = .ok (.getfield 72, 3) := by decide +kernel
theorem dX7_sieve_71 : decode cX7_sieve 71 = .ok (.ifCond .ne 6, 3) := by decide +kernel
theorem dX7_sieve_74 : decode cX7_sieve 74 = .ok (.bipush (-3), 2) := by decide +kernel
theorem dX7_sieve_76 : decode cX7_sieve 76 = .ok (.ireturn, 1) := by decide +kernel
theorem dX7_sieve_77 : decode cX7_sieve 77 = .ok (.iconst 0, 1) := by decide +kernel
theorem dX7_sieve_78 : decode cX7_sieve 78 = .ok (.istore 7, 2) := by decide +kernel
theorem dX7_sieve_80 : decode cX7_sieve 80 = .ok (.iconst 0, 1) := by decide +kernel
theorem dX7_sieve_81 : decode cX7_sieve 81 = .ok (.istore 8, 2) := by decide +kernel
theorem dX7_sieve_83 : decode cX7_sieve 83 = .ok (.iload 8, 2) := by decide +kernel
theorem dX7_sieve_85 : decode cX7_sieve 85 = .ok (.iload 4, 2) := by decide +kernel
theorem dX7_sieve_87 : decode cX7_sieve 87 = .ok (.if_icmp .ge 67, 3) := by decide +kernel
theorem dX7_sieve_90 : decode cX7_sieve 90 = .ok (.aload_n 0, 1) := by decide +kernel
theorem dX7_sieve_91 : decode cX7_sieve 91 = .ok (.getfield 16, 3) := by decide +kernel
theorem dX7_sieve_94 : decode cX7_sieve 94 = .ok (.bipush 60, 2) := by decide +kernel
theorem dX7_sieve_96 : decode cX7_sieve 96 = .ok (.iload_n 1, 1) := by decide +kernel
theorem dX7_sieve_97 : decode cX7_sieve 97 = .ok (.imul, 1) := by decide +kernel
theorem dX7_sieve_98 : decode cX7_sieve 98 = .ok (.iload_n 3, 1) := by decide +kernel
theorem dX7_sieve_99 : decode cX7_sieve 99 = .ok (.iadd, 1) := by decide +kernel
theorem dX7_sieve_100 : decode cX7_sieve 100 = .ok (.iload 8, 2) := by decide +kernel
theorem dX7_sieve_102 : decode cX7_sieve 102 = .ok (.iadd, 1) := by decide +kernel
theorem dX7_sieve_103 : decode cX7_sieve 103 = .ok (.iaload, 1) := by decide +kernel
theorem dX7_sieve_104 : decode cX7_sieve 104 = .ok (.istore 9, 2) := by decide +kernel
theorem dX7_sieve_106 : decode cX7_sieve 106 = .ok (.iload 9, 2) := by decide +kernel
theorem dX7_sieve_108 : decode cX7_sieve 108 = .ok (.iconst 0, 1) := by decide +kernel
theorem dX7_sieve_109 : decode cX7_sieve 109 = .ok (.iconst 2, 1) := by decide +kernel
theorem dX7_sieve_110 : decode cX7_sieve 110 = .ok (.invokestatic 68, 3) := by decide +kernel
theorem dX7_sieve_113 : decode cX7_sieve 113 = .ok (.ifCond .eq 14, 3) := by decide +kernel
theorem dX7_sieve_116 : decode cX7_sieve 116 = .ok (.iload 7, 2) := by decide +kernel
theorem dX7_sieve_118 : decode cX7_sieve 118 = .ok (.iload 9, 2) := by decide +kernel
theorem dX7_sieve_120 : decode cX7_sieve 120 = .ok (.ishr, 1) := by decide +kernel
theorem dX7_sieve_121 : decode cX7_sieve 121 = .ok (.iconst 1, 1) := by decide +kernel
theorem dX7_sieve_122 : decode cX7_sieve 122 = .ok (.iand, 1) := by decide +kernel
theorem dX7_sieve_123 : decode cX7_sieve 123 = .ok (.iconst 1, 1) := by decide +kernel
theorem dX7_sieve_124 : decode cX7_sieve 124 = .ok (.if_icmp .ne 6, 3) := by decide +kernel
theorem dX7_sieve_127 : decode cX7_sieve 127 = .ok (.bipush (-2), 2) := by decide +kernel
theorem dX7_sieve_129 : decode cX7_sieve 129 = .ok (.ireturn, 1) := by decide +kernel
theorem dX7_sieve_130 : decode cX7_sieve 130 = .ok (.iload 7, 2) := by decide +kernel
theorem dX7_sieve_132 : decode cX7_sieve 132 = .ok (.iconst 1, 1) := by decide +kernel
theorem dX7_sieve_133 : decode cX7_sieve 133 = .ok (.iload 9, 2) := by decide +kernel
theorem dX7_sieve_135 : decode cX7_sieve 135 = .ok (.ishl, 1) := by decide +kernel
theorem dX7_sieve_136 : decode cX7_sieve 136 = .ok (.ior, 1) := by decide +kernel
theorem dX7_sieve_137 : decode cX7_sieve 137 = .ok (.istore 7, 2) := by decide +kernel
theorem dX7_sieve_139 : decode cX7_sieve 139 = .ok (.aload_n 0, 1) := by decide +kernel
theorem dX7_sieve_140 : decode cX7_sieve 140 = .ok (.getfield 46, 3) := by decide +kernel
theorem dX7_sieve_143 : decode cX7_sieve 143 = .ok (.iload 8, 2) := by decide +kernel
theorem dX7_sieve_145 : decode cX7_sieve 145 = .ok (.iload 9, 2) := by decide +kernel
theorem dX7_sieve_147 : decode cX7_sieve 147 = .ok (.iastore, 1) := by decide +kernel
theorem dX7_sieve_148 : decode cX7_sieve 148 = .ok (.iinc 8 1, 3) := by decide +kernel
theorem dX7_sieve_151 : decode cX7_sieve 151 = .ok (.goto (-68), 3) := by decide +kernel
theorem dX7_sieve_154 : decode cX7_sieve 154 = .ok (.aload_n 0, 1) := by decide +kernel
theorem dX7_sieve_155 : decode cX7_sieve 155 = .ok (.iload 4, 2) := by decide +kernel
theorem dX7_sieve_157 : decode cX7_sieve 157 = .ok (.putfield 175, 3) := by decide +kernel
theorem dX7_sieve_160 : decode cX7_sieve 160 = .ok (.aload_n 0, 1) := by decide +kernel
theorem dX7_sieve_161 : decode cX7_sieve 161 = .ok (.invokevirtual 184, 3) := by decide +kernel
theorem dX7_sieve_164 : decode cX7_sieve 164 = .ok (.istore 8, 2) := by decide +kernel
theorem dX7_sieve_166 : decode cX7_sieve 166 = .ok (.iload 5, 2) := by decide +kernel
theorem dX7_sieve_168 : decode cX7_sieve 168 = .ok (.ifCond .ne 10, 3) := by decide +kernel
theorem dX7_sieve_171 : decode cX7_sieve 171 = .ok (.aload_n 0, 1) := by decide +kernel
theorem dX7_sieve_172 : decode cX7_sieve 172 = .ok (.getfield 172, 3) := by decide +kernel
theorem dX7_sieve_175 : decode cX7_sieve 175 = .ok (.goto 5, 3) := by decide +kernel
theorem dX7_sieve_178 : decode cX7_sieve 178 = .ok (.iload 8, 2) := by decide +kernel
theorem dX7_sieve_180 : decode cX7_sieve 180 = .ok (.ireturn, 1) := by decide +kernel
theorem dX7_beginRows_0 : decode cX7_beginRows 0 = .ok (.aload_n 0, 1) := by decide +kernel
theorem dX7_beginRows_1 : decode cX7_beginRows 1 = .ok (.iload_n 1, 1) := by decide +kernel
theorem dX7_beginRows_2 : decode cX7_beginRows 2 = .ok (.putfield 187, 3) := by decide +kernel
theorem dX7_beginRows_5 : decode cX7_beginRows 5 = .ok (.iconst 0, 1) := by decide +kernel
theorem dX7_beginRows_6 : decode cX7_beginRows 6 = .ok (.istore_n 2, 1) := by decide +kernel
theorem dX7_beginRows_7 : decode cX7_beginRows 7 = .ok (.iload_n 2, 1) := by decide +kernel
theorem dX7_beginRows_8 : decode cX7_beginRows 8 = .ok (.iload_n 1, 1) := by decide +kernel
theorem dX7_beginRows_9 : decode cX7_beginRows 9 = .ok (.if_icmp .ge 16, 3) := by decide +kernel
theorem dX7_beginRows_12 : decode cX7_beginRows 12 = .ok (.aload_n 0, 1) := by decide +kernel
theorem dX7_beginRows_13 : decode cX7_beginRows 13 = .ok (.getfield 49, 3) := by decide +kernel
theorem dX7_beginRows_16 : decode cX7_beginRows 16 = .ok (.iload_n 2, 1) := by decide +kernel
theorem dX7_beginRows_17 : decode cX7_beginRows 17 = .ok (.iload_n 2, 1) := by decide +kernel
theorem dX7_beginRows_18 : decode cX7_beginRows 18 = .ok (.iastore, 1) := by decide +kernel
theorem dX7_beginRows_19 : decode cX7_beginRows 19 = .ok (.iinc 2 1, 3) := by decide +kernel
theorem dX7_beginRows_22 : decode cX7_beginRows 22 = .ok (.goto (-15), 3) := by decide +kernel
theorem dX7_beginRows_25 : decode cX7_beginRows 25 = .ok (.return_, 1) := by decide +kernel
theorem dX7_swap_0 : decode cX7_swap 0 = .ok (.aload_n 0, 1) := by decide +kernel
theorem dX7_swap_1 : decode cX7_swap 1 = .ok (.getfield 49, 3) := by decide +kernel
theorem dX7_swap_4 : decode cX7_swap 4 = .ok (.iload_n 1, 1) := by decide +kernel
theorem dX7_swap_5 : decode cX7_swap 5 = .ok (.iaload, 1) := by decide +kernel
theorem dX7_swap_6 : decode cX7_swap 6 = .ok (.istore_n 3, 1) := by decide +kernel
theorem dX7_swap_7 : decode cX7_swap 7 = .ok (.aload_n 0, 1) := by decide +kernel
theorem dX7_swap_8 : decode cX7_swap 8 = .ok (.getfield 49, 3) := by decide +kernel
theorem dX7_swap_11 : decode cX7_swap 11 = .ok (.iload_n 1, 1) := by decide +kernel
theorem dX7_swap_12 : decode cX7_swap 12 = .ok (.aload_n 0, 1) := by decide +kernel
theorem dX7_swap_13 : decode cX7_swap 13 = .ok (.getfield 49, 3) := by decide +kernel
theorem dX7_swap_16 : decode cX7_swap 16 = .ok (.iload_n 2, 1) := by decide +kernel
theorem dX7_swap_17 : decode cX7_swap 17 = .ok (.iaload, 1) := by decide +kernel
theorem dX7_swap_18 : decode cX7_swap 18 = .ok (.iastore, 1) := by decide +kernel
theorem dX7_swap_19 : decode cX7_swap 19 = .ok (.aload_n 0, 1) := by decide +kernel
theorem dX7_swap_20 : decode cX7_swap 20 = .ok (.getfield 49, 3) := by decide +kernel
theorem dX7_swap_23 : decode cX7_swap 23 = .ok (.iload_n 2, 1) := by decide +kernel
theorem dX7_swap_24 : decode cX7_swap 24 = .ok (.iload_n 3, 1) := by decide +kernel
theorem dX7_swap_25 : decode cX7_swap 25 = .ok (.iastore, 1) := by decide +kernel
theorem dX7_swap_26 : decode cX7_swap 26 = .ok (.return_, 1) := by decide +kernel
set_option maxRecDepth 20000 in
theorem ggX7_nextRow_X7_swap : GoodIn wsX7_nextRow wsX7_swap := goodIn_r _ [7, 2, 8, 9, 10, 11, 12, 13, 14, 15, 16, 17, 18, 19, 20, 21, 22, 23, 24, 25, 26, 27, 28, 29, 30, 31, 32, 33, 34, 35, 36, 37, 38, 39, 40] (by decide +kernel) (by decide +kernel)
set_option maxRecDepth 20000 in
theorem gX7_nextRow_X7_swap : GoodIn wsX7_nextRow (wsV RX7 190 RX7 yX7_swap wsX7_swap) := goodIn_app (goodIn_of _ (by decide +kernel)) ggX7_nextRow_X7_swap
theorem dX7_nextRow_0 : decode cX7_nextRow 0 = .ok (.aload_n 0, 1) := by decide +kernel
theorem dX7_nextRow_1 : decode cX7_nextRow 1 = .ok (.getfield 187, 3) := by decide +kernel
theorem dX7_nextRow_4 : decode cX7_nextRow 4 = .ok (.iconst 2, 1) := by decide +kernel
theorem dX7_nextRow_5 : decode cX7_nextRow 5 = .ok (.isub, 1) := by decide +kernel
theorem dX7_nextRow_6 : decode cX7_nextRow 6 = .ok (.istore_n 1, 1) := by decide +kernel
theorem dX7_nextRow_7 : decode cX7_nextRow 7 = .ok (.iload_n 1, 1) := by decide +kernel
theorem dX7_nextRow_8 : decode cX7_nextRow 8 = .ok (.ifCond .lt 26, 3) := by decide +kernel
theorem dX7_nextRow_11 : decode cX7_nextRow 11 = .ok (.aload_n 0, 1) := by decide +kernel
theorem dX7_nextRow_12 : decode cX7_nextRow 12 = .ok (.getfield 49, 3) := by decide +kernel
theorem dX7_nextRow_15 : decode cX7_nextRow 15 = .ok (.iload_n 1, 1) := by decide +kernel
theorem dX7_nextRow_16 : decode cX7_nextRow 16 = .ok (.iaload, 1) := by decide +kernel
theorem dX7_nextRow_17 : decode cX7_nextRow 17 = .ok (.aload_n 0, 1) := by decide +kernel
theorem dX7_nextRow_18 : decode cX7_nextRow 18 = .ok (.getfield 49, 3) := by decide +kernel
theorem dX7_nextRow_21 : decode cX7_nextRow 21 = .ok (.iload_n 1, 1) := by decide +kernel
theorem dX7_nextRow_22 : decode cX7_nextRow 22 = .ok (.iconst 1, 1) := by decide +kernel
theorem dX7_nextRow_23 : decode cX7_nextRow 23 = .ok (.iadd, 1) := by decide +kernel
theorem dX7_nextRow_24 : decode cX7_nextRow 24 = .ok (.iaload, 1) := by decide +kernel
theorem dX7_nextRow_25 : decode cX7_nextRow 25 = .ok (.if_icmp .le 9, 3) := by decide +kernel
theorem dX7_nextRow_28 : decode cX7_nextRow 28 = .ok (.iinc 1 (-1), 3) := by decide +kernel
theorem dX7_nextRow_31 : decode cX7_nextRow 31 = .ok (.goto (-24), 3) := by decide +kernel
theorem dX7_nextRow_34 : decode cX7_nextRow 34 = .ok (.iload_n 1, 1) := by decide +kernel
theorem dX7_nextRow_35 : decode cX7_nextRow 35 = .ok (.ifCond .ge 5, 3) := by decide +kernel
theorem dX7_nextRow_38 : decode cX7_nextRow 38 = .ok (.iconst 0, 1) := by decide +kernel
theorem dX7_nextRow_39 : decode cX7_nextRow 39 = .ok (.ireturn, 1) := by decide +kernel
theorem dX7_nextRow_40 : decode cX7_nextRow 40 = .ok (.aload_n 0, 1) := by decide +kernel
theorem dX7_nextRow_41 : decode cX7_nextRow 41 = .ok (.getfield 187, 3) := by decide +kernel
theorem dX7_nextRow_44 : decode cX7_nextRow 44 = .ok (.iconst 1, 1) := by decide +kernel
theorem dX7_nextRow_45 : decode cX7_nextRow 45 = .ok (.isub, 1) := by decide +kernel
theorem dX7_nextRow_46 : decode cX7_nextRow 46 = .ok (.istore_n 2, 1) := by decide +kernel
theorem dX7_nextRow_47 : decode cX7_nextRow 47 = .ok (.aload_n 0, 1) := by decide +kernel
theorem dX7_nextRow_48 : decode cX7_nextRow 48 = .ok (.getfield 49, 3) := by decide +kernel
theorem dX7_nextRow_51 : decode cX7_nextRow 51 = .ok (.iload_n 2, 1) := by decide +kernel
theorem dX7_nextRow_52 : decode cX7_nextRow 52 = .ok (.iaload, 1) := by decide +kernel
theorem dX7_nextRow_53 : decode cX7_nextRow 53 = .ok (.aload_n 0, 1) := by decide +kernel
theorem dX7_nextRow_54 : decode cX7_nextRow 54 = .ok (.getfield 49, 3) := by decide +kernel
theorem dX7_nextRow_57 : decode cX7_nextRow 57 = .ok (.iload_n 1, 1) := by decide +kernel
theorem dX7_nextRow_58 : decode cX7_nextRow 58 = .ok (.iaload, 1) := by decide +kernel
theorem dX7_nextRow_59 : decode cX7_nextRow 59 = .ok (.if_icmp .ge 9, 3) := by decide +kernel
theorem dX7_nextRow_62 : decode cX7_nextRow 62 = .ok (.iinc 2 (-1), 3) := by decide +kernel
theorem dX7_nextRow_65 : decode cX7_nextRow 65 = .ok (.goto (-18), 3) := by decide +kernel
theorem dX7_nextRow_68 : decode cX7_nextRow 68 = .ok (.aload_n 0, 1) := by decide +kernel
theorem dX7_nextRow_69 : decode cX7_nextRow 69 = .ok (.iload_n 1, 1) := by decide +kernel
theorem dX7_nextRow_70 : decode cX7_nextRow 70 = .ok (.iload_n 2, 1) := by decide +kernel
theorem dX7_nextRow_71 : decode cX7_nextRow 71 = .ok (.invokevirtual 190, 3) := by decide +kernel
theorem dX7_nextRow_74 : decode cX7_nextRow 74 = .ok (.iload_n 1, 1) := by decide +kernel
theorem dX7_nextRow_75 : decode cX7_nextRow 75 = .ok (.iconst 1, 1) := by decide +kernel
theorem dX7_nextRow_76 : decode cX7_nextRow 76 = .ok (.iadd, 1) := by decide +kernel
theorem dX7_nextRow_77 : decode cX7_nextRow 77 = .ok (.istore_n 3, 1) := by decide +kernel
theorem dX7_nextRow_78 : decode cX7_nextRow 78 = .ok (.aload_n 0, 1) := by decide +kernel
theorem dX7_nextRow_79 : decode cX7_nextRow 79 = .ok (.getfield 187, 3) := by decide +kernel
theorem dX7_nextRow_82 : decode cX7_nextRow 82 = .ok (.iconst 1, 1) := by decide +kernel
theorem dX7_nextRow_83 : decode cX7_nextRow 83 = .ok (.isub, 1) := by decide +kernel
theorem dX7_nextRow_84 : decode cX7_nextRow 84 = .ok (.istore 4, 2) := by decide +kernel
theorem dX7_nextRow_86 : decode cX7_nextRow 86 = .ok (.iload_n 3, 1) := by decide +kernel
theorem dX7_nextRow_87 : decode cX7_nextRow 87 = .ok (.iload 4, 2) := by decide +kernel
theorem dX7_nextRow_89 : decode cX7_nextRow 89 = .ok (.if_icmp .ge 19, 3) := by decide +kernel
theorem dX7_nextRow_92 : decode cX7_nextRow 92 = .ok (.aload_n 0, 1) := by decide +kernel
theorem dX7_nextRow_93 : decode cX7_nextRow 93 = .ok (.iload_n 3, 1) := by decide +kernel
theorem dX7_nextRow_94 : decode cX7_nextRow 94 = .ok (.iload 4, 2) := by decide +kernel
theorem dX7_nextRow_96 : decode cX7_nextRow 96 = .ok (.invokevirtual 190, 3) := by decide +kernel
theorem dX7_nextRow_99 : decode cX7_nextRow 99 = .ok (.iinc 3 1, 3) := by decide +kernel
theorem dX7_nextRow_102 : decode cX7_nextRow 102 = .ok (.iinc 4 (-1), 3) := by decide +kernel
theorem dX7_nextRow_105 : decode cX7_nextRow 105 = .ok (.goto (-19), 3) := by decide +kernel
theorem dX7_nextRow_108 : decode cX7_nextRow 108 = .ok (.iconst 1, 1) := by decide +kernel
theorem dX7_nextRow_109 : decode cX7_nextRow 109 = .ok (.ireturn, 1) := by decide +kernel
set_option maxRecDepth 20000 in
theorem ggX7_quickOf_X7_apart : GoodIn wsX7_quickOf wsX7_apart := goodIn_r _ [6] (by decide +kernel) (by decide +kernel)
set_option maxRecDepth 20000 in
theorem gX7_quickOf_X7_apart : GoodIn wsX7_quickOf (va_wsS RX7 143 yX7_apart wsX7_apart) := goodIn_app (goodIn_of _ (by decide +kernel)) ggX7_quickOf_X7_apart
theorem dX7_quickOf_0 : decode cX7_quickOf 0 = .ok (.iconst 0, 1) := by decide +kernel
theorem dX7_quickOf_1 : decode cX7_quickOf 1 = .ok (.istore_n 1, 1) := by decide +kernel
theorem dX7_quickOf_2 : decode cX7_quickOf 2 = .ok (.iconst 0, 1) := by decide +kernel
theorem dX7_quickOf_3 : decode cX7_quickOf 3 = .ok (.istore_n 2, 1) := by decide +kernel
theorem dX7_quickOf_4 : decode cX7_quickOf 4 = .ok (.iconst 0, 1) := by decide +kernel
theorem dX7_quickOf_5 : decode cX7_quickOf 5 = .ok (.istore_n 3, 1) := by decide +kernel
theorem dX7_quickOf_6 : decode cX7_quickOf 6 = .ok (.iconst 0, 1) := by decide +kernel
theorem dX7_quickOf_7 : decode cX7_quickOf 7 = .ok (.istore 4, 2) := by decide +kernel
theorem dX7_quickOf_9 : decode cX7_quickOf 9 = .ok (.iload 4, 2) := by decide +kernel
theorem dX7_quickOf_11 : decode cX7_quickOf 11 = .ok (.aload_n 0, 1) := by decide +kernel
theorem dX7_quickOf_12 : decode cX7_quickOf 12 = .ok (.getfield 72, 3) := by decide +kernel
theorem dX7_quickOf_15 : decode cX7_quickOf 15 = .ok (.if_icmp .ge 37, 3) := by decide +kernel
theorem dX7_quickOf_18 : decode cX7_quickOf 18 = .ok (.iload_n 2, 1) := by decide +kernel
theorem dX7_quickOf_19 : decode cX7_quickOf 19 = .ok (.iload_n 1, 1) := by decide +kernel
theorem dX7_quickOf_20 : decode cX7_quickOf 20 = .ok (.aload_n 0, 1) := by decide +kernel
theorem dX7_quickOf_21 : decode cX7_quickOf 21 = .ok (.getfield 49, 3) := by decide +kernel
theorem dX7_quickOf_24 : decode cX7_quickOf 24 = .ok (.iload 4, 2) := by decide +kernel
theorem dX7_quickOf_26 : decode cX7_quickOf 26 = .ok (.iaload, 1) := by decide +kernel
theorem dX7_quickOf_27 : decode cX7_quickOf 27 = .ok (.invokestatic 143, 3) := by decide +kernel
theorem dX7_quickOf_30 : decode cX7_quickOf 30 = .ok (.iconst 1, 1) := by decide +kernel
theorem dX7_quickOf_31 : decode cX7_quickOf 31 = .ok (.iadd, 1) := by decide +kernel
theorem dX7_quickOf_32 : decode cX7_quickOf 32 = .ok (.iadd, 1) := by decide +kernel
theorem dX7_quickOf_33 : decode cX7_quickOf 33 = .ok (.istore_n 2, 1) := by decide +kernel
theorem dX7_quickOf_34 : decode cX7_quickOf 34 = .ok (.aload_n 0, 1) := by decide +kernel
theorem dX7_quickOf_35 : decode cX7_quickOf 35 = .ok (.getfield 49, 3) := by decide +kernel
theorem dX7_quickOf_38 : decode cX7_quickOf 38 = .ok (.iload 4, 2) := by decide +kernel
theorem dX7_quickOf_40 : decode cX7_quickOf 40 = .ok (.iaload, 1) := by decide +kernel
theorem dX7_quickOf_41 : decode cX7_quickOf 41 = .ok (.istore_n 1, 1) := by decide +kernel
theorem dX7_quickOf_42 : decode cX7_quickOf 42 = .ok (.iload_n 3, 1) := by decide +kernel
theorem dX7_quickOf_43 : decode cX7_quickOf 43 = .ok (.iload_n 2, 1) := by decide +kernel
theorem dX7_quickOf_44 : decode cX7_quickOf 44 = .ok (.iadd, 1) := by decide +kernel
theorem dX7_quickOf_45 : decode cX7_quickOf 45 = .ok (.istore_n 3, 1) := by decide +kernel
theorem dX7_quickOf_46 : decode cX7_quickOf 46 = .ok (.iinc 4 1, 3) := by decide +kernel
theorem dX7_quickOf_49 : decode cX7_quickOf 49 = .ok (.goto (-40), 3) := by decide +kernel
theorem dX7_quickOf_52 : decode cX7_quickOf 52 = .ok (.iload_n 3, 1) := by decide +kernel
theorem dX7_quickOf_53 : decode cX7_quickOf 53 = .ok (.ireturn, 1) := by decide +kernel
set_option maxRecDepth 20000 in
theorem ggX7_signsOf_X7_sieveAll : GoodIn wsX7_signsOf wsX7_sieveAll := goodIn_r _ [9, 10, 4, 1, 2, 11, 12, 8, 13, 14, 15, 16, 17, 18, 19, 20, 21, 22, 23, 24, 25, 26, 27, 28, 29, 30, 31, 32, 33, 34, 35, 36, 37, 38, 39, 40, 41, 42, 43, 44, 45, 46, 47, 48, 49, 50, 51, 52, 53, 54, 55, 56, 57, 58, 59, 60, 61, 62, 63, 64, 65, 66, 67, 68, 69, 70, 71, 72, 73, 74, 75] (by decide +kernel) (by decide +kernel)
set_option maxRecDepth 20000 in
theorem gX7_signsOf_X7_sieveAll : GoodIn wsX7_signsOf (wsV RX7 184 RX7 yX7_sieveAll wsX7_sieveAll) := goodIn_app (goodIn_of _ (by decide +kernel)) ggX7_signsOf_X7_sieveAll
theorem dX7_signsOf_0 : decode cX7_signsOf 0 = .ok (.aload_n 0, 1) := by decide +kernel
theorem dX7_signsOf_1 : decode cX7_signsOf 1 = .ok (.iconst 3, 1) := by decide +kernel
theorem dX7_signsOf_2 : decode cX7_signsOf 2 = .ok (.putfield 175, 3) := by decide +kernel
theorem dX7_signsOf_5 : decode cX7_signsOf 5 = .ok (.iconst 0, 1) := by decide +kernel
theorem dX7_signsOf_6 : decode cX7_signsOf 6 = .ok (.istore_n 1, 1) := by decide +kernel
theorem dX7_signsOf_7 : decode cX7_signsOf 7 = .ok (.iload_n 1, 1) := by decide +kernel
theorem dX7_signsOf_8 : decode cX7_signsOf 8 = .ok (.iconst 3, 1) := by decide +kernel
theorem dX7_signsOf_9 : decode cX7_signsOf 9 = .ok (.if_icmp .ge 21, 3) := by decide +kernel
theorem dX7_signsOf_12 : decode cX7_signsOf 12 = .ok (.aload_n 0, 1) := by decide +kernel
theorem dX7_signsOf_13 : decode cX7_signsOf 13 = .ok (.getfield 46, 3) := by decide +kernel
theorem dX7_signsOf_16 : decode cX7_signsOf 16 = .ok (.iload_n 1, 1) := by decide +kernel
theorem dX7_signsOf_17 : decode cX7_signsOf 17 = .ok (.aload_n 0, 1) := by decide +kernel
theorem dX7_signsOf_18 : decode cX7_signsOf 18 = .ok (.getfield 49, 3) := by decide +kernel
theorem dX7_signsOf_21 : decode cX7_signsOf 21 = .ok (.iload_n 1, 1) := by decide +kernel
theorem dX7_signsOf_22 : decode cX7_signsOf 22 = .ok (.iaload, 1) := by decide +kernel
theorem dX7_signsOf_23 : decode cX7_signsOf 23 = .ok (.iastore, 1) := by decide +kernel
theorem dX7_signsOf_24 : decode cX7_signsOf 24 = .ok (.iinc 1 1, 3) := by decide +kernel
theorem dX7_signsOf_27 : decode cX7_signsOf 27 = .ok (.goto (-20), 3) := by decide +kernel
theorem dX7_signsOf_30 : decode cX7_signsOf 30 = .ok (.aload_n 0, 1) := by decide +kernel
theorem dX7_signsOf_31 : decode cX7_signsOf 31 = .ok (.invokevirtual 184, 3) := by decide +kernel
theorem dX7_signsOf_34 : decode cX7_signsOf 34 = .ok (.pop, 1) := by decide +kernel
theorem dX7_signsOf_35 : decode cX7_signsOf 35 = .ok (.aload_n 0, 1) := by decide +kernel
theorem dX7_signsOf_36 : decode cX7_signsOf 36 = .ok (.getfield 172, 3) := by decide +kernel
theorem dX7_signsOf_39 : decode cX7_signsOf 39 = .ok (.ireturn, 1) := by decide +kernel
set_option maxRecDepth 20000 in
theorem ggX7_findRow_X7_beginRows : GoodIn wsX7_findRow wsX7_beginRows := goodIn_r _ [9, 2, 4, 68, 69, 70, 71, 72, 73, 74, 75, 76, 77, 78, 79, 80, 81, 82, 83, 84, 85, 86, 87, 88, 89, 90, 91, 92, 93, 94, 95, 96, 97, 98, 99, 100] (by decide +kernel) (by decide +kernel)
set_option maxRecDepth 20000 in
theorem gX7_findRow_X7_beginRows : GoodIn wsX7_findRow (wsV RX7 194 RX7 yX7_beginRows wsX7_beginRows) := goodIn_app (goodIn_of _ (by decide +kernel)) ggX7_findRow_X7_beginRows
set_option maxRecDepth 20000 in
theorem ggX7_findRow_X7_quickOf : GoodIn wsX7_findRow wsX7_quickOf := goodIn_r _ [13, 1, 4, 14, 15, 8, 16, 68, 69, 70, 71, 72, 73, 74, 75, 76, 77, 78, 79, 80, 81, 82, 83, 84, 85, 86, 87, 88, 89, 90, 91, 92, 93, 94, 95, 96, 97, 98, 99, 100] (by decide +kernel) (by decide +kernel)
set_option maxRecDepth 20000 in
theorem gX7_findRow_X7_quickOf : GoodIn wsX7_findRow (wsV RX7 198 RX7 yX7_quickOf wsX7_quickOf) := goodIn_app (goodIn_of _ (by decide +kernel)) ggX7_findRow_X7_quickOf
set_option maxRecDepth 20000 in
theorem ggX7_findRow_X7_signsOf : GoodIn wsX7_findRow wsX7_signsOf := goodIn_r _ [20, 21, 22, 4, 23, 24, 25, 26, 8, 27, 1, 28, 29, 30, 31, 32, 33, 34, 35, 36, 37, 38, 39, 40, 41, 42, 43, 44, 45, 46, 47, 48, 49, 50, 51, 52, 53, 54, 55, 56, 57, 58, 59, 68, 69, 70, 71, 72, 73, 74, 75, 76, 77, 78, 79, 80, 81, 82, 83, 84, 85, 86, 87, 88, 89, 90, 91, 92, 93, 94, 95, 96, 97, 98, 99, 100] (by decide +kernel) (by decide +kernel)
set_option maxRecDepth 20000 in
theorem gX7_findRow_X7_signsOf : GoodIn wsX7_findRow (wsV RX7 201 RX7 yX7_signsOf wsX7_signsOf) := goodIn_app (goodIn_of _ (by decide +kernel)) ggX7_findRow_X7_signsOf
set_option maxRecDepth 20000 in
theorem ggX7_findRow_X7_nextRow : GoodIn wsX7_findRow wsX7_nextRow := goodIn_r _ [63, 2, 4, 64, 65, 66, 8, 67, 68, 69, 70, 71, 72, 73, 74, 75, 76, 77, 78, 79, 80, 81, 82, 83, 84, 85, 86, 87, 88, 89, 90, 91, 92, 93, 94, 95, 96, 97, 98, 99, 100] (by decide +kernel) (by decide +kernel)
set_option maxRecDepth 20000 in
theorem gX7_findRow_X7_nextRow : GoodIn wsX7_findRow (wsV RX7 204 RX7 yX7_nextRow wsX7_nextRow) := goodIn_app (goodIn_of _ (by decide +kernel)) ggX7_findRow_X7_nextRow
theorem dX7_findRow_0 : decode cX7_findRow 0 = .ok (.aload_n 0, 1) := by decide +kernel
theorem dX7_findRow_1 : decode cX7_findRow 1 = .ok (.iload_n 1, 1) := by decide +kernel
theorem dX7_findRow_2 : decode cX7_findRow 2 = .ok (.ifCond .eq 10, 3) := by decide +kernel
theorem dX7_findRow_5 : decode cX7_findRow 5 = .ok (.aload_n 0, 1) := by decide +kernel
theorem dX7_findRow_6 : decode cX7_findRow 6 = .ok (.getfield 72, 3) := by decide +kernel
theorem dX7_findRow_9 : decode cX7_findRow 9 = .ok (.goto 4, 3) := by decide +kernel
theorem dX7_findRow_12 : decode cX7_findRow 12 = .ok (.iconst 3, 1) := by decide +kernel
theorem dX7_findRow_13 : decode cX7_findRow 13 = .ok (.invokevirtual 194, 3) := by decide +kernel
theorem dX7_findRow_16 : decode cX7_findRow 16 = .ok (.bipush (-9), 2) := by decide +kernel
theorem dX7_findRow_18 : decode cX7_findRow 18 = .ok (.istore_n 2, 1) := by decide +kernel
theorem dX7_findRow_19 : decode cX7_findRow 19 = .ok (.iconst 1, 1) := by decide +kernel
theorem dX7_findRow_20 : decode cX7_findRow 20 = .ok (.istore_n 3, 1) := by decide +kernel
theorem dX7_findRow_21 : decode cX7_findRow 21 = .ok (.iload_n 3, 1) := by decide +kernel
theorem dX7_findRow_22 : decode cX7_findRow 22 = .ok (.ifCond .eq 75, 3) := by decide +kernel
theorem dX7_findRow_25 : decode cX7_findRow 25 = .ok (.iload_n 1, 1) := by decide +kernel
theorem dX7_findRow_26 : decode cX7_findRow 26 = .ok (.ifCond .eq 10, 3) := by decide +kernel
theorem dX7_findRow_29 : decode cX7_findRow 29 = .ok (.aload_n 0, 1) := by decide +kernel
theorem dX7_findRow_30 : decode cX7_findRow 30 = .ok (.invokevirtual 198, 3) := by decide +kernel
theorem dX7_findRow_33 : decode cX7_findRow 33 = .ok (.goto 7, 3) := by decide +kernel
theorem dX7_findRow_36 : decode cX7_findRow 36 = .ok (.aload_n 0, 1) := by decide +kernel
theorem dX7_findRow_37 : decode cX7_findRow 37 = .ok (.invokevirtual 201, 3) := by decide +kernel
theorem dX7_findRow_40 : decode cX7_findRow 40 = .ok (.istore 4, 2) := by decide +kernel
theorem dX7_findRow_42 : decode cX7_findRow 42 = .ok (.iload_n 2, 1) := by decide +kernel
theorem dX7_findRow_43 : decode cX7_findRow 43 = .ok (.bipush (-9), 2) := by decide +kernel
theorem dX7_findRow_45 : decode cX7_findRow 45 = .ok (.if_icmp .eq 9, 3) := by decide +kernel
theorem dX7_findRow_48 : decode cX7_findRow 48 = .ok (.iload 4, 2) := by decide +kernel
theorem dX7_findRow_50 : decode cX7_findRow 50 = .ok (.iload_n 2, 1) := by decide +kernel
theorem dX7_findRow_51 : decode cX7_findRow 51 = .ok (.if_icmp .ge 38, 3) := by decide +kernel
theorem dX7_findRow_54 : decode cX7_findRow 54 = .ok (.iload 4, 2) := by decide +kernel
theorem dX7_findRow_56 : decode cX7_findRow 56 = .ok (.istore_n 2, 1) := by decide +kernel
theorem dX7_findRow_57 : decode cX7_findRow 57 = .ok (.iconst 0, 1) := by decide +kernel
theorem dX7_findRow_58 : decode cX7_findRow 58 = .ok (.istore 5, 2) := by decide +kernel
theorem dX7_findRow_60 : decode cX7_findRow 60 = .ok (.iload 5, 2) := by decide +kernel
theorem dX7_findRow_62 : decode cX7_findRow 62 = .ok (.aload_n 0, 1) := by decide +kernel
theorem dX7_findRow_63 : decode cX7_findRow 63 = .ok (.getfield 187, 3) := by decide +kernel
theorem dX7_findRow_66 : decode cX7_findRow 66 = .ok (.if_icmp .ge 23, 3) := by decide +kernel
theorem dX7_findRow_69 : decode cX7_findRow 69 = .ok (.aload_n 0, 1) := by decide +kernel
theorem dX7_findRow_70 : decode cX7_findRow 70 = .ok (.getfield 52, 3) := by decide +kernel
theorem dX7_findRow_73 : decode cX7_findRow 73 = .ok (.iload 5, 2) := by decide +kernel
theorem dX7_findRow_75 : decode cX7_findRow 75 = .ok (.aload_n 0, 1) := by decide +kernel
theorem dX7_findRow_76 : decode cX7_findRow 76 = .ok (.getfield 49, 3) := by decide +kernel
theorem dX7_findRow_79 : decode cX7_findRow 79 = .ok (.iload 5, 2) := by decide +kernel
theorem dX7_findRow_81 : decode cX7_findRow 81 = .ok (.iaload, 1) := by decide +kernel
theorem dX7_findRow_82 : decode cX7_findRow 82 = .ok (.iastore, 1) := by decide +kernel
theorem dX7_findRow_83 : decode cX7_findRow 83 = .ok (.iinc 5 1, 3) := by decide +kernel
theorem dX7_findRow_86 : decode cX7_findRow 86 = .ok (.goto (-26), 3) := by decide +kernel
theorem dX7_findRow_89 : decode cX7_findRow 89 = .ok (.aload_n 0, 1) := by decide +kernel
theorem dX7_findRow_90 : decode cX7_findRow 90 = .ok (.invokevirtual 204, 3) := by decide +kernel
theorem dX7_findRow_93 : decode cX7_findRow 93 = .ok (.istore_n 3, 1) := by decide +kernel
theorem dX7_findRow_94 : decode cX7_findRow 94 = .ok (.goto (-73), 3) := by decide +kernel
theorem dX7_findRow_97 : decode cX7_findRow 97 = .ok (.iload_n 2, 1) := by decide +kernel
theorem dX7_findRow_98 : decode cX7_findRow 98 = .ok (.ireturn, 1) := by decide +kernel
set_option maxRecDepth 20000 in
theorem ggX7_quick_X7_findRow : GoodIn wsX7_quick wsX7_findRow := goodIn_r _ [7, 1, 8, 2, 9, 10, 11, 12, 6, 13, 14, 15, 16, 17, 18, 19, 20, 21, 22, 23, 24, 25, 26, 27, 28, 29, 30, 31, 32, 33, 34, 35, 36, 37, 38, 39, 40, 41, 42, 43, 44, 45, 46, 47, 48, 49, 50, 51, 52, 53, 54, 55, 56, 57, 58, 59, 60, 61, 62, 63, 64, 65, 66, 67, 68, 69, 70, 71, 76, 77, 78, 79, 80, 81, 82, 83, 84, 85, 86, 87, 88, 89, 90, 91, 92, 93, 94, 95, 96, 97, 98, 99, 100, 101, 102, 103, 104, 105, 106, 107, 108] (by decide +kernel) (by decide +kernel)
set_option maxRecDepth 20000 in
theorem gX7_quick_X7_findRow : GoodIn wsX7_quick (wsV RX7 208 RX7 yX7_findRow wsX7_findRow) := goodIn_app (goodIn_of _ (by decide +kernel)) ggX7_quick_X7_findRow
set_option maxRecDepth 20000 in
theorem ggX7_quick_X7_isTube : GoodIn wsX7_quick wsX7_isTube := goodIn_r _ [75, 1, 76, 77, 78, 79, 80, 81, 82, 83, 84, 85, 86, 87, 88, 89, 90, 91, 92, 93, 94, 95, 96, 97, 98, 99, 100, 101, 102, 103, 104, 105, 106, 107, 108] (by decide +kernel) (by decide +kernel)
set_option maxRecDepth 20000 in
theorem gX7_quick_X7_isTube : GoodIn wsX7_quick (wsV RX7 163 RX7 yX7_isTube wsX7_isTube) := goodIn_app (goodIn_of _ (by decide +kernel)) ggX7_quick_X7_isTube
theorem dX7_quick_0 : decode cX7_quick 0 = .ok (.iload_n 1, 1) := by decide +kernel
theorem dX7_quick_1 : decode cX7_quick 1 = .ok (.iconst (-1), 1) := by decide +kernel
theorem dX7_quick_2 : decode cX7_quick 2 = .ok (.if_icmp .ge 5, 3) := by decide +kernel
theorem dX7_quick_5 : decode cX7_quick 5 = .ok (.iconst (-1), 1) := by decide +kernel
theorem dX7_quick_6 : decode cX7_quick 6 = .ok (.ireturn, 1) := by decide +kernel
theorem dX7_quick_7 : decode cX7_quick 7 = .ok (.aload_n 0, 1) := by decide +kernel
theorem dX7_quick_8 : decode cX7_quick 8 = .ok (.getfield 72, 3) := by decide +kernel
theorem dX7_quick_11 : decode cX7_quick 11 = .ok (.ifCond .ne 6, 3) := by decide +kernel
theorem dX7_quick_14 : decode cX7_quick 14 = .ok (.bipush (-3), 2) := by decide +kernel
theorem dX7_quick_16 : decode cX7_quick 16 = .ok (.ireturn, 1) := by decide +kernel
theorem dX7_quick_17 : decode cX7_quick 17 = .ok (.aload_n 0, 1) := by decide +kernel
theorem dX7_quick_18 : decode cX7_quick 18 = .ok (.iconst 1, 1) := by decide +kernel
theorem dX7_quick_19 : decode cX7_quick 19 = .ok (.invokevirtual 208, 3) := by decide +kernel
theorem dX7_quick_22 : decode cX7_quick 22 = .ok (.istore_n 2, 1) := by decide +kernel
theorem dX7_quick_23 : decode cX7_quick 23 = .ok (.iload_n 1, 1) := by decide +kernel
theorem dX7_quick_24 : decode cX7_quick 24 = .ok (.iconst (-1), 1) := by decide +kernel
theorem dX7_quick_25 : decode cX7_quick 25 = .ok (.if_icmp .ne 7, 3) := by decide +kernel
theorem dX7_quick_28 : decode cX7_quick 28 = .ok (.iload_n 2, 1) := by decide +kernel
theorem dX7_quick_29 : decode cX7_quick 29 = .ok (.goto 22, 3) := by decide +kernel
theorem dX7_quick_32 : decode cX7_quick 32 = .ok (.aload_n 0, 1) := by decide +kernel
theorem dX7_quick_33 : decode cX7_quick 33 = .ok (.iload_n 1, 1) := by decide +kernel
theorem dX7_quick_34 : decode cX7_quick 34 = .ok (.invokevirtual 163, 3) := by decide +kernel
theorem dX7_quick_37 : decode cX7_quick 37 = .ok (.ifCond .eq 12, 3) := by decide +kernel
theorem dX7_quick_40 : decode cX7_quick 40 = .ok (.aload_n 0, 1) := by decide +kernel
theorem dX7_quick_41 : decode cX7_quick 41 = .ok (.getfield 52, 3) := by decide +kernel
theorem dX7_quick_44 : decode cX7_quick 44 = .ok (.iload_n 1, 1) := by decide +kernel
theorem dX7_quick_45 : decode cX7_quick 45 = .ok (.iaload, 1) := by decide +kernel
theorem dX7_quick_46 : decode cX7_quick 46 = .ok (.goto 5, 3) := by decide +kernel
theorem dX7_quick_49 : decode cX7_quick 49 = .ok (.bipush (-9), 2) := by decide +kernel
theorem dX7_quick_51 : decode cX7_quick 51 = .ok (.ireturn, 1) := by decide +kernel
set_option maxRecDepth 20000 in
theorem ggX7_signs_X7_within : GoodIn wsX7_signs wsX7_within := goodIn_r _ [6] (by decide +kernel) (by decide +kernel)
set_option maxRecDepth 20000 in
theorem gX7_signs_X7_within : GoodIn wsX7_signs (va_wsS RX7 68 yX7_within wsX7_within) := goodIn_app (goodIn_of _ (by decide +kernel)) ggX7_signs_X7_within
set_option maxRecDepth 20000 in
theorem ggX7_signs_X7_findRow : GoodIn wsX7_signs wsX7_findRow := goodIn_r _ [10, 1, 11, 2, 12, 13, 14, 15, 5, 16, 17, 18, 19, 20, 21, 22, 23, 24, 25, 26, 27, 28, 29, 30, 31, 32, 33, 34, 35, 36, 37, 38, 39, 40, 41, 42, 43, 44, 45, 46, 47, 48, 49, 50, 51, 52, 53, 54, 55, 56, 57, 58, 59, 60, 61, 62, 63, 64, 65, 66, 67, 68, 69, 70, 71, 72, 73, 74, 75, 76, 77, 78, 79, 80, 81, 82, 83, 84, 85, 86, 87, 88, 89, 90, 91, 92, 93, 94, 95, 96, 97, 98, 99, 100, 101, 102, 103, 104, 105, 106, 107] (by decide +kernel) (by decide +kernel)
set_option maxRecDepth 20000 in
theorem gX7_signs_X7_findRow : GoodIn wsX7_signs (wsV RX7 208 RX7 yX7_findRow wsX7_findRow) := goodIn_app (goodIn_of _ (by decide +kernel)) ggX7_signs_X7_findRow
theorem dX7_signs_0 : decode cX7_signs 0 = .ok (.iload_n 1, 1) := by decide +kernel
theorem dX7_signs_1 : decode cX7_signs 1 = .ok (.iconst (-1), 1) := by decide +kernel
theorem dX7_signs_2 : decode cX7_signs 2 = .ok (.iconst 2, 1) := by decide +kernel
theorem dX7_signs_3 : decode cX7_signs 3 = .ok (.invokestatic 68, 3) := by decide +kernel
theorem dX7_signs_6 : decode cX7_signs 6 = .ok (.ifCond .ne 6, 3) := by decide +kernel
theorem dX7_signs_9 : decode cX7_signs 9 = .ok (.bipush (-2), 2) := by decide +kernel
theorem dX7_signs_11 : decode cX7_signs 11 = .ok (.ireturn, 1) := by decide +kernel
theorem dX7_signs_12 : decode cX7_signs 12 = .ok (.aload_n 0, 1) := by decide +kernel
theorem dX7_signs_13 : decode cX7_signs 13 = .ok (.getfield 72, 3) := by decide +kernel
theorem dX7_signs_16 : decode cX7_signs 16 = .ok (.ifCond .ne 6, 3) := by decide +kernel
theorem dX7_signs_19 : decode cX7_signs 19 = .ok (.bipush (-3), 2) := by decide +kernel
theorem dX7_signs_21 : decode cX7_signs 21 = .ok (.ireturn, 1) := by decide +kernel
theorem dX7_signs_22 : decode cX7_signs 22 = .ok (.aload_n 0, 1) := by decide +kernel
theorem dX7_signs_23 : decode cX7_signs 23 = .ok (.iconst 0, 1) := by decide +kernel
theorem dX7_signs_24 : decode cX7_signs 24 = .ok (.invokevirtual 208, 3) := by decide +kernel
theorem dX7_signs_27 : decode cX7_signs 27 = .ok (.istore_n 2, 1) := by decide +kernel
theorem dX7_signs_28 : decode cX7_signs 28 = .ok (.iload_n 1, 1) := by decide +kernel
theorem dX7_signs_29 : decode cX7_signs 29 = .ok (.iconst (-1), 1) := by decide +kernel
theorem dX7_signs_30 : decode cX7_signs 30 = .ok (.if_icmp .ne 7, 3) := by decide +kernel
theorem dX7_signs_33 : decode cX7_signs 33 = .ok (.iload_n 2, 1) := by decide +kernel
theorem dX7_signs_34 : decode cX7_signs 34 = .ok (.goto 9, 3) := by decide +kernel
theorem dX7_signs_37 : decode cX7_signs 37 = .ok (.aload_n 0, 1) := by decide +kernel
theorem dX7_signs_38 : decode cX7_signs 38 = .ok (.getfield 52, 3) := by decide +kernel
theorem dX7_signs_41 : decode cX7_signs 41 = .ok (.iload_n 1, 1) := by decide +kernel
theorem dX7_signs_42 : decode cX7_signs 42 = .ok (.iaload, 1) := by decide +kernel
theorem dX7_signs_43 : decode cX7_signs 43 = .ok (.ireturn, 1) := by decide +kernel
set_option maxRecDepth 20000 in
theorem ggX7_sew_X7_within : GoodIn wsX7_sew wsX7_within := goodIn_r _ [11] (by decide +kernel) (by decide +kernel)
set_option maxRecDepth 20000 in
theorem gX7_sew_X7_within : GoodIn wsX7_sew (va_wsS RX7 68 yX7_within wsX7_within) := goodIn_app (goodIn_of _ (by decide +kernel)) ggX7_sew_X7_within
set_option maxRecDepth 20000 in
theorem ggX7_sew_X7_farFrom : GoodIn wsX7_sew wsX7_farFrom := goodIn_r _ [15, 16, 17, 18, 19, 20, 10, 21, 22, 23, 24, 25, 26, 27, 28, 29, 30, 31, 32, 33, 34, 35, 36, 37, 38, 39, 40, 41, 42, 43, 44, 45, 46, 47, 48, 49, 50, 51, 52, 53, 54, 55, 56, 57, 58, 59, 60, 61, 62, 63, 64] (by decide +kernel) (by decide +kernel)
set_option maxRecDepth 20000 in
theorem gX7_sew_X7_farFrom : GoodIn wsX7_sew (wsV RX7 157 RX7 yX7_farFrom wsX7_farFrom) := goodIn_app (goodIn_of _ (by decide +kernel)) ggX7_sew_X7_farFrom
theorem dX7_sew_0 : decode cX7_sew 0 = .ok (.iload_n 1, 1) := by decide +kernel
theorem dX7_sew_1 : decode cX7_sew 1 = .ok (.iconst 0, 1) := by decide +kernel
theorem dX7_sew_2 : decode cX7_sew 2 = .ok (.iconst 5, 1) := by decide +kernel
theorem dX7_sew_3 : decode cX7_sew 3 = .ok (.invokestatic 68, 3) := by decide +kernel
theorem dX7_sew_6 : decode cX7_sew 6 = .ok (.ifCond .ne 5, 3) := by decide +kernel
theorem dX7_sew_9 : decode cX7_sew 9 = .ok (.iconst (-1), 1) := by decide +kernel
theorem dX7_sew_10 : decode cX7_sew 10 = .ok (.ireturn, 1) := by decide +kernel
theorem dX7_sew_11 : decode cX7_sew 11 = .ok (.iload_n 2, 1) := by decide +kernel
theorem dX7_sew_12 : decode cX7_sew 12 = .ok (.iconst 0, 1) := by decide +kernel
theorem dX7_sew_13 : decode cX7_sew 13 = .ok (.iconst 2, 1) := by decide +kernel
theorem dX7_sew_14 : decode cX7_sew 14 = .ok (.invokestatic 68, 3) := by decide +kernel
theorem dX7_sew_17 : decode cX7_sew 17 = .ok (.ifCond .ne 6, 3) := by decide +kernel
theorem dX7_sew_20 : decode cX7_sew 20 = .ok (.bipush (-2), 2) := by decide +kernel
theorem dX7_sew_22 : decode cX7_sew 22 = .ok (.ireturn, 1) := by decide +kernel
theorem dX7_sew_23 : decode cX7_sew 23 = .ok (.aload_n 0, 1) := by decide +kernel
theorem dX7_sew_24 : decode cX7_sew 24 = .ok (.getfield 72, 3) := by decide +kernel
theorem dX7_sew_27 : decode cX7_sew 27 = .ok (.ifCond .ne 6, 3) := by decide +kernel
theorem dX7_sew_30 : decode cX7_sew 30 = .ok (.bipush (-3), 2) := by decide +kernel
theorem dX7_sew_32 : decode cX7_sew 32 = .ok (.ireturn, 1) := by decide +kernel
theorem dX7_sew_33 : decode cX7_sew 33 = .ok (.bipush (-9), 2) := by decide +kernel
theorem dX7_sew_35 : decode cX7_sew 35 = .ok (.istore_n 3, 1) := by decide +kernel
theorem dX7_sew_36 : decode cX7_sew 36 = .ok (.bipush (-9), 2) := by decide +kernel
theorem dX7_sew_38 : decode cX7_sew 38 = .ok (.istore 4, 2) := by decide +kernel
theorem dX7_sew_40 : decode cX7_sew 40 = .ok (.bipush (-9), 2) := by decide +kernel
theorem dX7_sew_42 : decode cX7_sew 42 = .ok (.istore 5, 2) := by decide +kernel
theorem dX7_sew_44 : decode cX7_sew 44 = .ok (.iconst 0, 1) := by decide +kernel
theorem dX7_sew_45 : decode cX7_sew 45 = .ok (.istore 6, 2) := by decide +kernel
theorem dX7_sew_47 : decode cX7_sew 47 = .ok (.iload 6, 2) := by decide +kernel
theorem dX7_sew_49 : decode cX7_sew 49 = .ok (.aload_n 0, 1) := by decide +kernel
theorem dX7_sew_50 : decode cX7_sew 50 = .ok (.getfield 72, 3) := by decide +kernel
theorem dX7_sew_53 : decode cX7_sew 53 = .ok (.if_icmp .ge 105, 3) := by decide +kernel
theorem dX7_sew_56 : decode cX7_sew 56 = .ok (.iconst 0, 1) := by decide +kernel
theorem dX7_sew_57 : decode cX7_sew 57 = .ok (.istore 7, 2) := by decide +kernel
theorem dX7_sew_59 : decode cX7_sew 59 = .ok (.iload 7, 2) := by decide +kernel
theorem dX7_sew_61 : decode cX7_sew 61 = .ok (.bipush 6, 2) := by decide +kernel
theorem dX7_sew_63 : decode cX7_sew 63 = .ok (.if_icmp .ge 89, 3) := by decide +kernel
theorem dX7_sew_66 : decode cX7_sew 66 = .ok (.aload_n 0, 1) := by decide +kernel
theorem dX7_sew_67 : decode cX7_sew 67 = .ok (.getfield 34, 3) := by decide +kernel
theorem dX7_sew_70 : decode cX7_sew 70 = .ok (.iload 6, 2) := by decide +kernel
theorem dX7_sew_72 : decode cX7_sew 72 = .ok (.iaload, 1) := by decide +kernel
theorem dX7_sew_73 : decode cX7_sew 73 = .ok (.ifCond .le 79, 3) := by decide +kernel
theorem dX7_sew_76 : decode cX7_sew 76 = .ok (.aload_n 0, 1) := by decide +kernel
theorem dX7_sew_77 : decode cX7_sew 77 = .ok (.iload 6, 2) := by decide +kernel
theorem dX7_sew_79 : decode cX7_sew 79 = .ok (.aload_n 0, 1) := by decide +kernel
theorem dX7_sew_80 : decode cX7_sew 80 = .ok (.getfield 99, 3) := by decide +kernel
theorem dX7_sew_83 : decode cX7_sew 83 = .ok (.aload_n 0, 1) := by decide +kernel
theorem dX7_sew_84 : decode cX7_sew 84 = .ok (.getfield 102, 3) := by decide +kernel
theorem dX7_sew_87 : decode cX7_sew 87 = .ok (.invokevirtual 157, 3) := by decide +kernel
theorem dX7_sew_90 : decode cX7_sew 90 = .ok (.aload_n 0, 1) := by decide +kernel
theorem dX7_sew_91 : decode cX7_sew 91 = .ok (.getfield 19, 3) := by decide +kernel
theorem dX7_sew_94 : decode cX7_sew 94 = .ok (.iload 7, 2) := by decide +kernel
theorem dX7_sew_96 : decode cX7_sew 96 = .ok (.iaload, 1) := by decide +kernel
theorem dX7_sew_97 : decode cX7_sew 97 = .ok (.imul, 1) := by decide +kernel
theorem dX7_sew_98 : decode cX7_sew 98 = .ok (.aload_n 0, 1) := by decide +kernel
theorem dX7_sew_99 : decode cX7_sew 99 = .ok (.getfield 37, 3) := by decide +kernel
theorem dX7_sew_102 : decode cX7_sew 102 = .ok (.iload 6, 2) := by decide +kernel
theorem dX7_sew_104 : decode cX7_sew 104 = .ok (.iaload, 1) := by decide +kernel
theorem dX7_sew_105 : decode cX7_sew 105 = .ok (.iadd, 1) := by decide +kernel
theorem dX7_sew_106 : decode cX7_sew 106 = .ok (.iload 7, 2) := by decide +kernel
theorem dX7_sew_108 : decode cX7_sew 108 = .ok (.iload_n 1, 1) := by decide +kernel
theorem dX7_sew_109 : decode cX7_sew 109 = .ok (.if_icmp .ne 7, 3) := by decide +kernel
theorem dX7_sew_112 : decode cX7_sew 112 = .ok (.iconst 0, 1) := by decide +kernel
theorem dX7_sew_113 : decode cX7_sew 113 = .ok (.goto 7, 3) := by decide +kernel
theorem dX7_sew_116 : decode cX7_sew 116 = .ok (.aload_n 0, 1) := by decide +kernel
theorem dX7_sew_117 : decode cX7_sew 117 = .ok (.getfield 108, 3) := by decide +kernel
theorem dX7_sew_120 : decode cX7_sew 120 = .ok (.iadd, 1) := by decide +kernel
theorem dX7_sew_121 : decode cX7_sew 121 = .ok (.istore 8, 2) := by decide +kernel
theorem dX7_sew_123 : decode cX7_sew 123 = .ok (.iload_n 3, 1) := by decide +kernel
theorem dX7_sew_124 : decode cX7_sew 124 = .ok (.bipush (-9), 2) := by decide +kernel
theorem dX7_sew_126 : decode cX7_sew 126 = .ok (.if_icmp .eq 9, 3) := by decide +kernel
theorem dX7_sew_129 : decode cX7_sew 129 = .ok (.iload 8, 2) := by decide +kernel
theorem dX7_sew_131 : decode cX7_sew 131 = .ok (.iload_n 3, 1) := by decide +kernel
theorem dX7_sew_132 : decode cX7_sew 132 = .ok (.if_icmp .ge 14, 3) := by decide +kernel
theorem dX7_sew_135 : decode cX7_sew 135 = .ok (.iload 8, 2) := by decide +kernel
theorem dX7_sew_137 : decode cX7_sew 137 = .ok (.istore_n 3, 1) := by decide +kernel
theorem dX7_sew_138 : decode cX7_sew 138 = .ok (.iload 6, 2) := by decide +kernel
theorem dX7_sew_140 : decode cX7_sew 140 = .ok (.istore 4, 2) := by decide +kernel
theorem dX7_sew_142 : decode cX7_sew 142 = .ok (.iload 7, 2) := by decide +kernel
theorem dX7_sew_144 : decode cX7_sew 144 = .ok (.istore 5, 2) := by decide +kernel
theorem dX7_sew_146 : decode cX7_sew 146 = .ok (.iinc 7 1, 3) := by decide +kernel
theorem dX7_sew_149 : decode cX7_sew 149 = .ok (.goto (-90), 3) := by decide +kernel
theorem dX7_sew_152 : decode cX7_sew 152 = .ok (.iinc 6 1, 3) := by decide +kernel
theorem dX7_sew_155 : decode cX7_sew 155 = .ok (.goto (-108), 3) := by decide +kernel
theorem dX7_sew_158 : decode cX7_sew 158 = .ok (.iload_n 2, 1) := by decide +kernel
theorem dX7_sew_159 : decode cX7_sew 159 = .ok (.ifCond .ne 7, 3) := by decide +kernel
theorem dX7_sew_162 : decode cX7_sew 162 = .ok (.iload_n 3, 1) := by decide +kernel
theorem dX7_sew_163 : decode cX7_sew 163 = .ok (.goto 15, 3) := by decide +kernel
theorem dX7_sew_166 : decode cX7_sew 166 = .ok (.iload_n 2, 1) := by decide +kernel
theorem dX7_sew_167 : decode cX7_sew 167 = .ok (.iconst 1, 1) := by decide +kernel
theorem dX7_sew_168 : decode cX7_sew 168 = .ok (.if_icmp .ne 8, 3) := by decide +kernel
theorem dX7_sew_171 : decode cX7_sew 171 = .ok (.iload 4, 2) := by decide +kernel
theorem dX7_sew_173 : decode cX7_sew 173 = .ok (.goto 5, 3) := by decide +kernel
theorem dX7_sew_176 : decode cX7_sew 176 = .ok (.iload 5, 2) := by decide +kernel
theorem dX7_sew_178 : decode cX7_sew 178 = .ok (.ireturn, 1) := by decide +kernel
set_option maxRecDepth 20000 in
theorem ggX7_set_X7_within : GoodIn wsX7_set wsX7_within := goodIn_r _ [7] (by decide +kernel) (by decide +kernel)
set_option maxRecDepth 20000 in
theorem gX7_set_X7_within : GoodIn wsX7_set (va_wsS RX7 68 yX7_within wsX7_within) := goodIn_app (goodIn_of _ (by decide +kernel)) ggX7_set_X7_within
theorem dX7_set_0 : decode cX7_set 0 = .ok (.iload_n 1, 1) := by decide +kernel
theorem dX7_set_1 : decode cX7_set 1 = .ok (.iconst 1, 1) := by decide +kernel
theorem dX7_set_2 : decode cX7_set 2 = .ok (.bipush 9, 2) := by decide +kernel
theorem dX7_set_4 : decode cX7_set 4 = .ok (.invokestatic 68, 3) := by decide +kernel
theorem dX7_set_7 : decode cX7_set 7 = .ok (.ifCond .ne 6, 3) := by decide +kernel
theorem dX7_set_10 : decode cX7_set 10 = .ok (.bipush (-2), 2) := by decide +kernel
theorem dX7_set_12 : decode cX7_set 12 = .ok (.ireturn, 1) := by decide +kernel
theorem dX7_set_13 : decode cX7_set 13 = .ok (.aload_n 0, 1) := by decide +kernel
theorem dX7_set_14 : decode cX7_set 14 = .ok (.getfield 72, 3) := by decide +kernel
theorem dX7_set_17 : decode cX7_set 17 = .ok (.ifCond .ne 6, 3) := by decide +kernel
theorem dX7_set_20 : decode cX7_set 20 = .ok (.bipush (-3), 2) := by decide +kernel
theorem dX7_set_22 : decode cX7_set 22 = .ok (.ireturn, 1) := by decide +kernel
theorem dX7_set_23 : decode cX7_set 23 = .ok (.bipush (-9), 2) := by decide +kernel
theorem dX7_set_25 : decode cX7_set 25 = .ok (.istore_n 2, 1) := by decide +kernel
theorem dX7_set_26 : decode cX7_set 26 = .ok (.iconst 0, 1) := by decide +kernel
theorem dX7_set_27 : decode cX7_set 27 = .ok (.istore_n 3, 1) := by decide +kernel
theorem dX7_set_28 : decode cX7_set 28 = .ok (.iload_n 3, 1) := by decide +kernel
theorem dX7_set_29 : decode cX7_set 29 = .ok (.aload_n 0, 1) := by decide +kernel
theorem dX7_set_30 : decode cX7_set 30 = .ok (.getfield 72, 3) := by decide +kernel
theorem dX7_set_33 : decode cX7_set 33 = .ok (.if_icmp .ge 46, 3) := by decide +kernel
theorem dX7_set_36 : decode cX7_set 36 = .ok (.aload_n 0, 1) := by decide +kernel
theorem dX7_set_37 : decode cX7_set 37 = .ok (.getfield 34, 3) := by decide +kernel
theorem dX7_set_40 : decode cX7_set 40 = .ok (.iload_n 3, 1) := by decide +kernel
theorem dX7_set_41 : decode cX7_set 41 = .ok (.iaload, 1) := by decide +kernel
theorem dX7_set_42 : decode cX7_set 42 = .ok (.iload_n 1, 1) := by decide +kernel
theorem dX7_set_43 : decode cX7_set 43 = .ok (.if_icmp .lt 30, 3) := by decide +kernel
theorem dX7_set_46 : decode cX7_set 46 = .ok (.iload_n 2, 1) := by decide +kernel
theorem dX7_set_47 : decode cX7_set 47 = .ok (.bipush (-9), 2) := by decide +kernel
theorem dX7_set_49 : decode cX7_set 49 = .ok (.if_icmp .eq 15, 3) := by decide +kernel
theorem dX7_set_52 : decode cX7_set 52 = .ok (.iload_n 1, 1) := by decide +kernel
theorem dX7_set_53 : decode cX7_set 53 = .ok (.aload_n 0, 1) := by decide +kernel
theorem dX7_set_54 : decode cX7_set 54 = .ok (.getfield 37, 3) := by decide +kernel
theorem dX7_set_57 : decode cX7_set 57 = .ok (.iload_n 3, 1) := by decide +kernel
theorem dX7_set_58 : decode cX7_set 58 = .ok (.iaload, 1) := by decide +kernel
theorem dX7_set_59 : decode cX7_set 59 = .ok (.imul, 1) := by decide +kernel
theorem dX7_set_60 : decode cX7_set 60 = .ok (.iload_n 2, 1) := by decide +kernel
theorem dX7_set_61 : decode cX7_set 61 = .ok (.if_icmp .ge 12, 3) := by decide +kernel
theorem dX7_set_64 : decode cX7_set 64 = .ok (.iload_n 1, 1) := by decide +kernel
theorem dX7_set_65 : decode cX7_set 65 = .ok (.aload_n 0, 1) := by decide +kernel
theorem dX7_set_66 : decode cX7_set 66 = .ok (.getfield 37, 3) := by decide +kernel
theorem dX7_set_69 : decode cX7_set 69 = .ok (.iload_n 3, 1) := by decide +kernel
theorem dX7_set_70 : decode cX7_set 70 = .ok (.iaload, 1) := by decide +kernel
theorem dX7_set_71 : decode cX7_set 71 = .ok (.imul, 1) := by decide +kernel
theorem dX7_set_72 : decode cX7_set 72 = .ok (.istore_n 2, 1) := by decide +kernel
theorem dX7_set_73 : decode cX7_set 73 = .ok (.iinc 3 1, 3) := by decide +kernel
theorem dX7_set_76 : decode cX7_set 76 = .ok (.goto (-48), 3) := by decide +kernel
theorem dX7_set_79 : decode cX7_set 79 = .ok (.iload_n 2, 1) := by decide +kernel
theorem dX7_set_80 : decode cX7_set 80 = .ok (.ireturn, 1) := by decide +kernel
theorem dX7_allButtons_0 : decode cX7_allButtons 0 = .ok (.iconst 0, 1) := by decide +kernel
theorem dX7_allButtons_1 : decode cX7_allButtons 1 = .ok (.istore_n 1, 1) := by decide +kernel
theorem dX7_allButtons_2 : decode cX7_allButtons 2 = .ok (.iconst 0, 1) := by decide +kernel
theorem dX7_allButtons_3 : decode cX7_allButtons 3 = .ok (.istore_n 2, 1) := by decide +kernel
theorem dX7_allButtons_4 : decode cX7_allButtons 4 = .ok (.iload_n 2, 1) := by decide +kernel
theorem dX7_allButtons_5 : decode cX7_allButtons 5 = .ok (.aload_n 0, 1) := by decide +kernel
theorem dX7_allButtons_6 : decode cX7_allButtons 6 = .ok (.getfield 72, 3) := by decide +kernel
theorem dX7_allButtons_9 : decode cX7_allButtons 9 = .ok (.if_icmp .ge 18, 3) := by decide +kernel
theorem dX7_allButtons_12 : decode cX7_allButtons 12 = .ok (.iload_n 1, 1) := by decide +kernel
theorem dX7_allButtons_13 : decode cX7_allButtons 13 = .ok (.aload_n 0, 1) := by decide +kernel
theorem dX7_allButtons_14 : decode cX7_allButtons 14 = .ok (.getfield 34, 3) := by decide +kernel
theorem dX7_allButtons_17 : decode cX7_allButtons 17 = .ok (.iload_n 2, 1) := by decide +kernel
theorem dX7_allButtons_18 : decode cX7_allButtons 18 = .ok (.iaload, 1) := by decide +kernel
theorem dX7_allButtons_19 : decode cX7_allButtons 19 = .ok (.iadd, 1) := by decide +kernel
theorem dX7_allButtons_20 : decode cX7_allButtons 20 = .ok (.istore_n 1, 1) := by decide +kernel
theorem dX7_allButtons_21 : decode cX7_allButtons 21 = .ok (.iinc 2 1, 3) := by decide +kernel
theorem dX7_allButtons_24 : decode cX7_allButtons 24 = .ok (.goto (-20), 3) := by decide +kernel
theorem dX7_allButtons_27 : decode cX7_allButtons 27 = .ok (.iload_n 1, 1) := by decide +kernel
theorem dX7_allButtons_28 : decode cX7_allButtons 28 = .ok (.ireturn, 1) := by decide +kernel
set_option maxRecDepth 20000 in
theorem ggX7_alikeButtons_X7_isAlike : GoodIn wsX7_alikeButtons wsX7_isAlike := goodIn_r _ [7, 8, 9, 10, 11, 6, 12, 13, 14, 15, 16, 17, 18, 19, 20, 21, 22, 23, 24, 25, 26, 27, 28, 29, 30, 31, 32, 33, 34, 35, 36, 37, 38, 39, 40, 41, 42, 43, 44, 45, 46, 47, 48, 49, 50, 51, 52, 53, 54, 55, 56, 57, 58, 59, 60, 61, 62, 63, 64, 65, 66, 67, 68, 69, 70, 71, 72, 73, 74, 75, 76, 77] (by decide +kernel) (by decide +kernel)
set_option maxRecDepth 20000 in
theorem gX7_alikeButtons_X7_isAlike : GoodIn wsX7_alikeButtons (wsV RX7 169 RX7 yX7_isAlike wsX7_isAlike) := goodIn_app (goodIn_of _ (by decide +kernel)) ggX7_alikeButtons_X7_isAlike
theorem dX7_alikeButtons_0 : decode cX7_alikeButtons 0 = .ok (.iconst 0, 1) := by decide +kernel
theorem dX7_alikeButtons_1 : decode cX7_alikeButtons 1 = .ok (.istore_n 1, 1) := by decide +kernel
theorem dX7_alikeButtons_2 : decode cX7_alikeButtons 2 = .ok (.iconst 0, 1) := by decide +kernel
theorem dX7_alikeButtons_3 : decode cX7_alikeButtons 3 = .ok (.istore_n 2, 1) := by decide +kernel
theorem dX7_alikeButtons_4 : decode cX7_alikeButtons 4 = .ok (.iload_n 2, 1) := by decide +kernel
theorem dX7_alikeButtons_5 : decode cX7_alikeButtons 5 = .ok (.aload_n 0, 1) := by decide +kernel
theorem dX7_alikeButtons_6 : decode cX7_alikeButtons 6 = .ok (.getfield 72, 3) := by decide +kernel
theorem dX7_alikeButtons_9 : decode cX7_alikeButtons 9 = .ok (.if_icmp .ge 30, 3) := by decide +kernel
theorem dX7_alikeButtons_12 : decode cX7_alikeButtons 12 = .ok (.iload_n 1, 1) := by decide +kernel
theorem dX7_alikeButtons_13 : decode cX7_alikeButtons 13 = .ok (.aload_n 0, 1) := by decide +kernel
theorem dX7_alikeButtons_14 : decode cX7_alikeButtons 14 = .ok (.iload_n 2, 1) := by decide +kernel
theorem dX7_alikeButtons_15 : decode cX7_alikeButtons 15 = .ok (.invokevirtual 169, 3) := by decide +kernel
theorem dX7_alikeButtons_18 : decode cX7_alikeButtons 18 = .ok (.ifCond .eq 12, 3) := by decide +kernel
theorem dX7_alikeButtons_21 : decode cX7_alikeButtons 21 = .ok (.aload_n 0, 1) := by decide +kernel
theorem dX7_alikeButtons_22 : decode cX7_alikeButtons 22 = .ok (.getfield 34, 3) := by decide +kernel
theorem dX7_alikeButtons_25 : decode cX7_alikeButtons 25 = .ok (.iload_n 2, 1) := by decide +kernel
theorem dX7_alikeButtons_26 : decode cX7_alikeButtons 26 = .ok (.iaload, 1) := by decide +kernel
theorem dX7_alikeButtons_27 : decode cX7_alikeButtons 27 = .ok (.goto 4, 3) := by decide +kernel
theorem dX7_alikeButtons_30 : decode cX7_alikeButtons 30 = .ok (.iconst 0, 1) := by decide +kernel
theorem dX7_alikeButtons_31 : decode cX7_alikeButtons 31 = .ok (.iadd, 1) := by decide +kernel
theorem dX7_alikeButtons_32 : decode cX7_alikeButtons 32 = .ok (.istore_n 1, 1) := by decide +kernel
theorem dX7_alikeButtons_33 : decode cX7_alikeButtons 33 = .ok (.iinc 2 1, 3) := by decide +kernel
theorem dX7_alikeButtons_36 : decode cX7_alikeButtons 36 = .ok (.goto (-32), 3) := by decide +kernel
theorem dX7_alikeButtons_39 : decode cX7_alikeButtons 39 = .ok (.iload_n 1, 1) := by decide +kernel
theorem dX7_alikeButtons_40 : decode cX7_alikeButtons 40 = .ok (.ireturn, 1) := by decide +kernel
theorem dX7_falling_0 : decode cX7_falling 0 = .ok (.lconst 1, 1) := by decide +kernel
theorem dX7_falling_1 : decode cX7_falling 1 = .ok (.lstore_n 2, 1) := by decide +kernel
theorem dX7_falling_2 : decode cX7_falling 2 = .ok (.iconst 0, 1) := by decide +kernel
theorem dX7_falling_3 : decode cX7_falling 3 = .ok (.istore 4, 2) := by decide +kernel
theorem dX7_falling_5 : decode cX7_falling 5 = .ok (.iload 4, 2) := by decide +kernel
theorem dX7_falling_7 : decode cX7_falling 7 = .ok (.iload_n 1, 1) := by decide +kernel
theorem dX7_falling_8 : decode cX7_falling 8 = .ok (.if_icmp .ge 28, 3) := by decide +kernel
theorem dX7_falling_11 : decode cX7_falling 11 = .ok (.lload_n 2, 1) := by decide +kernel
theorem dX7_falling_12 : decode cX7_falling 12 = .ok (.iload_n 0, 1) := by decide +kernel
theorem dX7_falling_13 : decode cX7_falling 13 = .ok (.iload 4, 2) := by decide +kernel
theorem dX7_falling_15 : decode cX7_falling 15 = .ok (.isub, 1) := by decide +kernel
theorem dX7_falling_16 : decode cX7_falling 16 = .ok (.ifCond .le 11, 3) := by decide +kernel
theorem dX7_falling_19 : decode cX7_falling 19 = .ok (.iload_n 0, 1) := by decide +kernel
theorem dX7_falling_20 : decode cX7_falling 20 = .ok (.iload 4, 2) := by decide +kernel
theorem dX7_falling_22 : decode cX7_falling 22 = .ok (.isub, 1) := by decide +kernel
theorem dX7_falling_23 : decode cX7_falling 23 = .ok (.i2l, 1) := by decide +kernel
theorem dX7_falling_24 : decode cX7_falling 24 = .ok (.goto 4, 3) := by decide +kernel
theorem dX7_falling_27 : decode cX7_falling 27 = .ok (.lconst 0, 1) := by decide +kernel
theorem dX7_falling_28 : decode cX7_falling 28 = .ok (.lmul, 1) := by decide +kernel
theorem dX7_falling_29 : decode cX7_falling 29 = .ok (.lstore_n 2, 1) := by decide +kernel
theorem dX7_falling_30 : decode cX7_falling 30 = .ok (.iinc 4 1, 3) := by decide +kernel
theorem dX7_falling_33 : decode cX7_falling 33 = .ok (.goto (-28), 3) := by decide +kernel
theorem dX7_falling_36 : decode cX7_falling 36 = .ok (.lload_n 2, 1) := by decide +kernel
theorem dX7_falling_37 : decode cX7_falling 37 = .ok (.lreturn, 1) := by decide +kernel
theorem dX7_inLeastTerms_0 : decode cX7_inLeastTerms 0 = .ok (.lload_n 0, 1) := by decide +kernel
theorem dX7_inLeastTerms_1 : decode cX7_inLeastTerms 1 = .ok (.lstore 5, 2) := by decide +kernel
theorem dX7_inLeastTerms_3 : decode cX7_inLeastTerms 3 = .ok (.lload_n 2, 1) := by decide +kernel
theorem dX7_inLeastTerms_4 : decode cX7_inLeastTerms 4 = .ok (.lstore 7, 2) := by decide +kernel
theorem dX7_inLeastTerms_6 : decode cX7_inLeastTerms 6 = .ok (.lload 7, 2) := by decide +kernel
theorem dX7_inLeastTerms_8 : decode cX7_inLeastTerms 8 = .ok (.lconst 0, 1) := by decide +kernel
theorem dX7_inLeastTerms_9 : decode cX7_inLeastTerms 9 = .ok (.lcmp, 1) := by decide +kernel
theorem dX7_inLeastTerms_10 : decode cX7_inLeastTerms 10 = .ok (.ifCond .eq 21, 3) := by decide +kernel
theorem dX7_inLeastTerms_13 : decode cX7_inLeastTerms 13 = .ok (.lload 5, 2) := by decide +kernel
theorem dX7_inLeastTerms_15 : decode cX7_inLeastTerms 15 = .ok (.lload 7, 2) := by decide +kernel
theorem dX7_inLeastTerms_17 : decode cX7_inLeastTerms 17 = .ok (.lrem, 1) := by decide +kernel
theorem dX7_inLeastTerms_18 : decode cX7_inLeastTerms 18 = .ok (.lstore 9, 2) := by decide +kernel
theorem dX7_inLeastTerms_20 : decode cX7_inLeastTerms 20 = .ok (.lload 7, 2) := by decide +kernel
theorem dX7_inLeastTerms_22 : decode cX7_inLeastTerms 22 = .ok (.lstore 5, 2) := by decide +kernel
theorem dX7_inLeastTerms_24 : decode cX7_inLeastTerms 24 = .ok (.lload 9, 2) := by decide +kernel
theorem dX7_inLeastTerms_26 : decode cX7_inLeastTerms 26 = .ok (.lstore 7, 2) := by decide +kernel
theorem dX7_inLeastTerms_28 : decode cX7_inLeastTerms 28 = .ok (.goto (-22), 3) := by decide +kernel
theorem dX7_inLeastTerms_31 : decode cX7_inLeastTerms 31 = .ok (.iload 4, 2) := by decide +kernel
theorem dX7_inLeastTerms_33 : decode cX7_inLeastTerms 33 = .ok (.ifCond .ne 10, 3) := by decide +kernel
theorem dX7_inLeastTerms_36 : decode cX7_inLeastTerms 36 = .ok (.lload_n 0, 1) := by decide +kernel
theorem dX7_inLeastTerms_37 : decode cX7_inLeastTerms 37 = .ok (.lload 5, 2) := by decide +kernel
theorem dX7_inLeastTerms_39 : decode cX7_inLeastTerms 39 = .ok (.ldiv, 1) := by decide +kernel
theorem dX7_inLeastTerms_40 : decode cX7_inLeastTerms 40 = .ok (.goto 7, 3) := by decide +kernel
theorem dX7_inLeastTerms_43 : decode cX7_inLeastTerms 43 = .ok (.lload_n 2, 1) := by decide +kernel
theorem dX7_inLeastTerms_44 : decode cX7_inLeastTerms 44 = .ok (.lload 5, 2) := by decide +kernel
theorem dX7_inLeastTerms_46 : decode cX7_inLeastTerms 46 = .ok (.ldiv, 1) := by decide +kernel
theorem dX7_inLeastTerms_47 : decode cX7_inLeastTerms 47 = .ok (.lreturn, 1) := by decide +kernel
set_option maxRecDepth 20000 in
theorem ggX7_tin_X7_within : GoodIn wsX7_tin wsX7_within := goodIn_r _ [6] (by decide +kernel) (by decide +kernel)
set_option maxRecDepth 20000 in
theorem gX7_tin_X7_within : GoodIn wsX7_tin (va_wsS RX7 68 yX7_within wsX7_within) := goodIn_app (goodIn_of _ (by decide +kernel)) ggX7_tin_X7_within
set_option maxRecDepth 20000 in
theorem ggX7_tin_X7_allButtons : GoodIn wsX7_tin wsX7_allButtons := goodIn_r _ [10, 1, 11, 63, 64, 65, 66, 67, 68, 69, 70, 71, 72, 73, 74, 75, 76, 77, 78, 79, 80, 81, 82, 83, 84, 85, 86, 87, 88, 89, 90, 91, 92, 93, 94, 95] (by decide +kernel) (by decide +kernel)
set_option maxRecDepth 20000 in
theorem gX7_tin_X7_allButtons : GoodIn wsX7_tin (wsV RX7 212 RX7 yX7_allButtons wsX7_allButtons) := goodIn_app (goodIn_of _ (by decide +kernel)) ggX7_tin_X7_allButtons
set_option maxRecDepth 20000 in
theorem ggX7_tin_X7_falling : GoodIn wsX7_tin wsX7_falling := goodIn_r _ [14] (by decide +kernel) (by decide +kernel)
set_option maxRecDepth 20000 in
theorem gX7_tin_X7_falling : GoodIn wsX7_tin (va_wsS RX7 215 yX7_falling wsX7_falling) := goodIn_app (goodIn_of _ (by decide +kernel)) ggX7_tin_X7_falling
set_option maxRecDepth 20000 in
theorem ggX7_tin_X7_alikeButtons : GoodIn wsX7_tin wsX7_alikeButtons := goodIn_r _ [18, 1, 11, 19, 20, 21, 5, 22, 23, 24, 25, 26, 27, 28, 29, 30, 31, 32, 33, 34, 35, 36, 37, 38, 39, 40, 41, 42, 43, 44, 45, 46, 47, 48, 49, 50, 51, 52, 53, 54, 55, 56, 57, 58, 59, 63, 64, 65, 66, 67, 68, 69, 70, 71, 72, 73, 74, 75, 76, 77, 78, 79, 80, 81, 82, 83, 84, 85, 86, 87, 88, 89, 90, 91, 92, 93, 94, 95] (by decide +kernel) (by decide +kernel)
set_option maxRecDepth 20000 in
theorem gX7_tin_X7_alikeButtons : GoodIn wsX7_tin (wsV RX7 219 RX7 yX7_alikeButtons wsX7_alikeButtons) := goodIn_app (goodIn_of _ (by decide +kernel)) ggX7_tin_X7_alikeButtons
set_option maxRecDepth 20000 in
theorem ggX7_tin_X7_inLeastTerms : GoodIn wsX7_tin wsX7_inLeastTerms := goodIn_r _ [62] (by decide +kernel) (by decide +kernel)
set_option maxRecDepth 20000 in
theorem gX7_tin_X7_inLeastTerms : GoodIn wsX7_tin (va_wsS RX7 222 yX7_inLeastTerms wsX7_inLeastTerms) := goodIn_app (goodIn_of _ (by decide +kernel)) ggX7_tin_X7_inLeastTerms
theorem dX7_tin_0 : decode cX7_tin 0 = .ok (.iload_n 1, 1) := by decide +kernel
theorem dX7_tin_1 : decode cX7_tin 1 = .ok (.iconst 0, 1) := by decide +kernel
theorem dX7_tin_2 : decode cX7_tin 2 = .ok (.bipush 9, 2) := by decide +kernel
theorem dX7_tin_4 : decode cX7_tin 4 = .ok (.invokestatic 68, 3) := by decide +kernel
theorem dX7_tin_7 : decode cX7_tin 7 = .ok (.ifCond .eq 19, 3) := by decide +kernel
theorem dX7_tin_10 : decode cX7_tin 10 = .ok (.iload_n 2, 1) := by decide +kernel
theorem dX7_tin_11 : decode cX7_tin 11 = .ok (.iconst 0, 1) := by decide +kernel
theorem dX7_tin_12 : decode cX7_tin 12 = .ok (.iconst 1, 1) := by decide +kernel
theorem dX7_tin_13 : decode cX7_tin 13 = .ok (.invokestatic 68, 3) := by decide +kernel
theorem dX7_tin_16 : decode cX7_tin 16 = .ok (.ifCond .eq 10, 3) := by decide +kernel
theorem dX7_tin_19 : decode cX7_tin 19 = .ok (.aload_n 0, 1) := by decide +kernel
theorem dX7_tin_20 : decode cX7_tin 20 = .ok (.getfield 72, 3) := by decide +kernel
theorem dX7_tin_23 : decode cX7_tin 23 = .ok (.ifCond .ne 7, 3) := by decide +kernel
theorem dX7_tin_26 : decode cX7_tin 26 = .ok (.ldc2_w 66, 3) := by decide +kernel
theorem dX7_tin_29 : decode cX7_tin 29 = .ok (.lreturn, 1) := by decide +kernel
theorem dX7_tin_30 : decode cX7_tin 30 = .ok (.aload_n 0, 1) := by decide +kernel
theorem dX7_tin_31 : decode cX7_tin 31 = .ok (.invokevirtual 212, 3) := by decide +kernel
theorem dX7_tin_34 : decode cX7_tin 34 = .ok (.istore_n 3, 1) := by decide +kernel
theorem dX7_tin_35 : decode cX7_tin 35 = .ok (.iload_n 1, 1) := by decide +kernel
theorem dX7_tin_36 : decode cX7_tin 36 = .ok (.iload_n 3, 1) := by decide +kernel
theorem dX7_tin_37 : decode cX7_tin 37 = .ok (.if_icmp .ge 7, 3) := by decide +kernel
theorem dX7_tin_40 : decode cX7_tin 40 = .ok (.iload_n 1, 1) := by decide +kernel
theorem dX7_tin_41 : decode cX7_tin 41 = .ok (.goto 4, 3) := by decide +kernel
theorem dX7_tin_44 : decode cX7_tin 44 = .ok (.iload_n 3, 1) := by decide +kernel
theorem dX7_tin_45 : decode cX7_tin 45 = .ok (.istore 4, 2) := by decide +kernel
theorem dX7_tin_47 : decode cX7_tin 47 = .ok (.iload_n 3, 1) := by decide +kernel
theorem dX7_tin_48 : decode cX7_tin 48 = .ok (.iload 4, 2) := by decide +kernel
theorem dX7_tin_50 : decode cX7_tin 50 = .ok (.invokestatic 215, 3) := by decide +kernel
theorem dX7_tin_53 : decode cX7_tin 53 = .ok (.lstore 5, 2) := by decide +kernel
theorem dX7_tin_55 : decode cX7_tin 55 = .ok (.lload 5, 2) := by decide +kernel
theorem dX7_tin_57 : decode cX7_tin 57 = .ok (.iload_n 3, 1) := by decide +kernel
theorem dX7_tin_58 : decode cX7_tin 58 = .ok (.aload_n 0, 1) := by decide +kernel
theorem dX7_tin_59 : decode cX7_tin 59 = .ok (.invokevirtual 219, 3) := by decide +kernel
theorem dX7_tin_62 : decode cX7_tin 62 = .ok (.isub, 1) := by decide +kernel
theorem dX7_tin_63 : decode cX7_tin 63 = .ok (.iload 4, 2) := by decide +kernel
theorem dX7_tin_65 : decode cX7_tin 65 = .ok (.invokestatic 215, 3) := by decide +kernel
theorem dX7_tin_68 : decode cX7_tin 68 = .ok (.lsub, 1) := by decide +kernel
theorem dX7_tin_69 : decode cX7_tin 69 = .ok (.lload 5, 2) := by decide +kernel
theorem dX7_tin_71 : decode cX7_tin 71 = .ok (.iload_n 2, 1) := by decide +kernel
theorem dX7_tin_72 : decode cX7_tin 72 = .ok (.invokestatic 222, 3) := by decide +kernel
theorem dX7_tin_75 : decode cX7_tin 75 = .ok (.lreturn, 1) := by decide +kernel
set_option maxRecDepth 20000 in
theorem ggX7_isHalf_X7_falling : GoodIn wsX7_isHalf wsX7_falling := goodIn_r _ [5] (by decide +kernel) (by decide +kernel)
set_option maxRecDepth 20000 in
theorem gX7_isHalf_X7_falling : GoodIn wsX7_isHalf (va_wsS RX7 215 yX7_falling wsX7_falling) := goodIn_app (goodIn_of _ (by decide +kernel)) ggX7_isHalf_X7_falling
theorem dX7_isHalf_0 : decode cX7_isHalf 0 = .ok (.iload_n 3, 1) := by decide +kernel
theorem dX7_isHalf_1 : decode cX7_isHalf 1 = .ok (.iload_n 2, 1) := by decide +kernel
theorem dX7_isHalf_2 : decode cX7_isHalf 2 = .ok (.if_icmp .ge 7, 3) := by decide +kernel
theorem dX7_isHalf_5 : decode cX7_isHalf 5 = .ok (.iload_n 3, 1) := by decide +kernel
theorem dX7_isHalf_6 : decode cX7_isHalf 6 = .ok (.goto 4, 3) := by decide +kernel
theorem dX7_isHalf_9 : decode cX7_isHalf 9 = .ok (.iload_n 2, 1) := by decide +kernel
theorem dX7_isHalf_10 : decode cX7_isHalf 10 = .ok (.istore 4, 2) := by decide +kernel
theorem dX7_isHalf_12 : decode cX7_isHalf 12 = .ok (.iload_n 3, 1) := by decide +kernel
theorem dX7_isHalf_13 : decode cX7_isHalf 13 = .ok (.iload_n 2, 1) := by decide +kernel
theorem dX7_isHalf_14 : decode cX7_isHalf 14 = .ok (.if_icmp .ge 9, 3) := by decide +kernel
theorem dX7_isHalf_17 : decode cX7_isHalf 17 = .ok (.iload_n 1, 1) := by decide +kernel
theorem dX7_isHalf_18 : decode cX7_isHalf 18 = .ok (.iload_n 2, 1) := by decide +kernel
theorem dX7_isHalf_19 : decode cX7_isHalf 19 = .ok (.isub, 1) := by decide +kernel
