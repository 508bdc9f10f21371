theorem dX5_part_1 : decode cX5_part 1 = .ok (.tableswitch 78 0 6 #[43, 48, 53, 58, 63, 68, 73], 43) := by decide +kernel
theorem dX5_part_44 : decode cX5_part 44 = .ok (.aload_n 0, 1) := by decide +kernel
theorem dX5_part_45 : decode cX5_part 45 = .ok (.getfield 15, 3) := by decide +kernel
theorem dX5_part_48 : decode cX5_part 48 = .ok (.ireturn, 1) := by decide +kernel
theorem dX5_part_49 : decode cX5_part 49 = .ok (.aload_n 0, 1) := by decide +kernel
theorem dX5_part_50 : decode cX5_part 50 = .ok (.getfield 21, 3) := by decide +kernel
theorem dX5_part_53 : decode cX5_part 53 = .ok (.ireturn, 1) := by decide +kernel
theorem dX5_part_54 : decode cX5_part 54 = .ok (.aload_n 0, 1) := by decide +kernel
theorem dX5_part_55 : decode cX5_part 55 = .ok (.getfield 24, 3) := by decide +kernel
theorem dX5_part_58 : decode cX5_part 58 = .ok (.ireturn, 1) := by decide +kernel
theorem dX5_part_59 : decode cX5_part 59 = .ok (.aload_n 0, 1) := by decide +kernel
theorem dX5_part_60 : decode cX5_part 60 = .ok (.getfield 27, 3) := by decide +kernel
theorem dX5_part_63 : decode cX5_part 63 = .ok (.ireturn, 1) := by decide +kernel
theorem dX5_part_64 : decode cX5_part 64 = .ok (.aload_n 0, 1) := by decide +kernel
theorem dX5_part_65 : decode cX5_part 65 = .ok (.getfield 30, 3) := by decide +kernel
theorem dX5_part_68 : decode cX5_part 68 = .ok (.ireturn, 1) := by decide +kernel
theorem dX5_part_69 : decode cX5_part 69 = .ok (.aload_n 0, 1) := by decide +kernel
theorem dX5_part_70 : decode cX5_part 70 = .ok (.getfield 33, 3) := by decide +kernel
theorem dX5_part_73 : decode cX5_part 73 = .ok (.ireturn, 1) := by decide +kernel
theorem dX5_part_74 : decode cX5_part 74 = .ok (.aload_n 0, 1) := by decide +kernel
theorem dX5_part_75 : decode cX5_part 75 = .ok (.invokevirtual 45, 3) := by decide +kernel
theorem dX5_part_78 : decode cX5_part 78 = .ok (.ireturn, 1) := by decide +kernel
theorem dX5_part_79 : decode cX5_part 79 = .ok (.aload_n 0, 1) := by decide +kernel
theorem dX5_part_80 : decode cX5_part 80 = .ok (.invokevirtual 52, 3) := by decide +kernel
theorem dX5_part_83 : decode cX5_part 83 = .ok (.ireturn, 1) := by decide +kernel
set_option maxRecDepth 20000 in
theorem ggX6_init_X2_init : GoodIn wsX6_init wsX2_init := goodIn_r _ [19, 20, 2, 3, 21, 22, 23, 24, 25, 26, 27, 28, 29, 30, 49, 50, 51, 52, 53, 54, 55, 56, 57, 58, 65, 66, 67, 68, 69, 70] (by decide +kernel) (by decide +kernel)
set_option maxRecDepth 20000 in
theorem gX6_init_X2_init_n19 : GoodIn wsX6_init (wsX2_init) := ggX6_init_X2_init
set_option maxRecDepth 20000 in
theorem ggX6_init_X0_init : GoodIn wsX6_init wsX0_init := goodIn_r _ [32, 33, 2, 3, 23, 34, 35, 36, 37, 59, 60, 61] (by decide +kernel) (by decide +kernel)
set_option maxRecDepth 20000 in
theorem gX6_init_X0_init_n26 : GoodIn wsX6_init (wsX0_init) := ggX6_init_X0_init
set_option maxRecDepth 20000 in
theorem ggX6_init_X1_init : GoodIn wsX6_init wsX1_init := goodIn_r _ [39, 40, 2, 3, 23, 41, 42, 43, 62, 63, 64] (by decide +kernel) (by decide +kernel)
set_option maxRecDepth 20000 in
theorem gX6_init_X1_init_n38 : GoodIn wsX6_init (wsX1_init) := ggX6_init_X1_init
theorem dX6_init_0 : decode cX6_init 0 = .ok (.aload_n 0, 1) := by decide +kernel
theorem dX6_init_1 : decode cX6_init 1 = .ok (.invokespecial 3, 3) := by decide +kernel
theorem dX6_init_4 : decode cX6_init 4 = .ok (.aload_n 0, 1) := by decide +kernel
theorem dX6_init_5 : decode cX6_init 5 = .ok (.iconst 4, 1) := by decide +kernel
theorem dX6_init_6 : decode cX6_init 6 = .ok (.anewarray 11, 3) := by decide +kernel
theorem dX6_init_9 : decode cX6_init 9 = .ok (.putfield 13, 3) := by decide +kernel
theorem dX6_init_12 : decode cX6_init 12 = .ok (.aload_n 0, 1) := by decide +kernel
theorem dX6_init_13 : decode cX6_init 13 = .ok (.new 17, 3) := by decide +kernel
theorem dX6_init_16 : decode cX6_init 16 = .ok (.dup, 1) := by decide +kernel
theorem dX6_init_17 : decode cX6_init 17 = .ok (.invokespecial 19, 3) := by decide +kernel
theorem dX6_init_20 : decode cX6_init 20 = .ok (.putfield 20, 3) := by decide +kernel
theorem dX6_init_23 : decode cX6_init 23 = .ok (.aload_n 0, 1) := by decide +kernel
theorem dX6_init_24 : decode cX6_init 24 = .ok (.new 24, 3) := by decide +kernel
theorem dX6_init_27 : decode cX6_init 27 = .ok (.dup, 1) := by decide +kernel
theorem dX6_init_28 : decode cX6_init 28 = .ok (.invokespecial 26, 3) := by decide +kernel
theorem dX6_init_31 : decode cX6_init 31 = .ok (.putfield 27, 3) := by decide +kernel
theorem dX6_init_34 : decode cX6_init 34 = .ok (.aload_n 0, 1) := by decide +kernel
theorem dX6_init_35 : decode cX6_init 35 = .ok (.iconst 0, 1) := by decide +kernel
theorem dX6_init_36 : decode cX6_init 36 = .ok (.putfield 31, 3) := by decide +kernel
theorem dX6_init_39 : decode cX6_init 39 = .ok (.aload_n 0, 1) := by decide +kernel
theorem dX6_init_40 : decode cX6_init 40 = .ok (.iconst 0, 1) := by decide +kernel
theorem dX6_init_41 : decode cX6_init 41 = .ok (.putfield 35, 3) := by decide +kernel
theorem dX6_init_44 : decode cX6_init 44 = .ok (.iconst 0, 1) := by decide +kernel
theorem dX6_init_45 : decode cX6_init 45 = .ok (.istore_n 1, 1) := by decide +kernel
theorem dX6_init_46 : decode cX6_init 46 = .ok (.iload_n 1, 1) := by decide +kernel
theorem dX6_init_47 : decode cX6_init 47 = .ok (.iconst 4, 1) := by decide +kernel
theorem dX6_init_48 : decode cX6_init 48 = .ok (.if_icmp .ge 22, 3) := by decide +kernel
theorem dX6_init_51 : decode cX6_init 51 = .ok (.aload_n 0, 1) := by decide +kernel
theorem dX6_init_52 : decode cX6_init 52 = .ok (.getfield 13, 3) := by decide +kernel
theorem dX6_init_55 : decode cX6_init 55 = .ok (.iload_n 1, 1) := by decide +kernel
theorem dX6_init_56 : decode cX6_init 56 = .ok (.new 11, 3) := by decide +kernel
theorem dX6_init_59 : decode cX6_init 59 = .ok (.dup, 1) := by decide +kernel
theorem dX6_init_60 : decode cX6_init 60 = .ok (.invokespecial 38, 3) := by decide +kernel
theorem dX6_init_63 : decode cX6_init 63 = .ok (.aastore, 1) := by decide +kernel
theorem dX6_init_64 : decode cX6_init 64 = .ok (.iinc 1 1, 3) := by decide +kernel
theorem dX6_init_67 : decode cX6_init 67 = .ok (.goto (-21), 3) := by decide +kernel
theorem dX6_init_70 : decode cX6_init 70 = .ok (.return_, 1) := by decide +kernel
set_option maxRecDepth 20000 in
theorem ggX6_shop_X6_refusalOfRow : GoodIn wsX6_shop wsX6_refusalOfRow := goodIn_r _ [8, 9, 1, 10, 11, 7, 12, 13, 14, 15, 16, 17, 18, 19, 20, 21, 22, 23, 24, 25, 26, 27, 28, 29, 30, 31, 32, 33, 34, 126, 127, 128, 129, 130, 144, 145, 146] (by decide +kernel) (by decide +kernel)
set_option maxRecDepth 20000 in
theorem gX6_shop_X6_refusalOfRow : GoodIn wsX6_shop (wsV RX6 39 RX6 yX6_refusalOfRow wsX6_refusalOfRow) := goodIn_app (goodIn_of _ (by decide +kernel)) ggX6_shop_X6_refusalOfRow
set_option maxRecDepth 20000 in
theorem ggX6_shop_X3_firstFault : GoodIn wsX6_shop wsX3_firstFault := goodIn_r _ [38, 39, 40, 41, 19, 42, 43, 26, 27, 28, 29, 30, 44, 45, 37, 46, 47, 48, 49, 50, 51, 52, 53, 54, 55, 56, 57, 58, 59, 60, 61, 62, 63, 64, 65, 66, 67, 68, 69, 70, 71, 72, 73, 74, 75, 76, 77, 78, 79, 80, 81, 82, 83, 84, 85, 86, 87, 88, 89, 90, 91, 92, 93, 144, 145, 146] (by decide +kernel) (by decide +kernel)
set_option maxRecDepth 20000 in
theorem gX6_shop_X3_firstFault : GoodIn wsX6_shop (va_wsS RX6 43 yX3_firstFault wsX3_firstFault) := goodIn_app (goodIn_of _ (by decide +kernel)) ggX6_shop_X3_firstFault
set_option maxRecDepth 20000 in
theorem ggX6_shop_X2_stockFrom : GoodIn wsX6_shop wsX2_stockFrom := goodIn_r _ [98, 99, 100, 101, 102, 103, 104, 105, 106, 107, 108, 109, 110, 111, 112, 113, 40, 41, 19, 42, 43, 26, 27, 28, 29, 30, 114, 115, 116, 117, 118, 119, 120, 121, 122, 123, 124, 125, 134, 135, 136, 137, 138, 139, 140, 141, 142, 143, 144, 145, 146, 147, 148, 149, 150, 151, 152] (by decide +kernel) (by decide +kernel)
set_option maxRecDepth 20000 in
theorem gX6_shop_X2_stockFrom : GoodIn wsX6_shop (wsV RX6 49 RX2 yX2_stockFrom wsX2_stockFrom) := goodIn_app (goodIn_of _ (by decide +kernel)) ggX6_shop_X2_stockFrom
theorem dX6_shop_0 : decode cX6_shop 0 = .ok (.aload_n 0, 1) := by decide +kernel
theorem dX6_shop_1 : decode cX6_shop 1 = .ok (.iload_n 1, 1) := by decide +kernel
theorem dX6_shop_2 : decode cX6_shop 2 = .ok (.iload_n 2, 1) := by decide +kernel
theorem dX6_shop_3 : decode cX6_shop 3 = .ok (.iload_n 3, 1) := by decide +kernel
theorem dX6_shop_4 : decode cX6_shop 4 = .ok (.iload 4, 2) := by decide +kernel
theorem dX6_shop_6 : decode cX6_shop 6 = .ok (.iconst 1, 1) := by decide +kernel
theorem dX6_shop_7 : decode cX6_shop 7 = .ok (.invokevirtual 39, 3) := by decide +kernel
theorem dX6_shop_10 : decode cX6_shop 10 = .ok (.istore 5, 2) := by decide +kernel
theorem dX6_shop_12 : decode cX6_shop 12 = .ok (.iload 5, 2) := by decide +kernel
theorem dX6_shop_14 : decode cX6_shop 14 = .ok (.ifCond .eq 6, 3) := by decide +kernel
theorem dX6_shop_17 : decode cX6_shop 17 = .ok (.iload 5, 2) := by decide +kernel
theorem dX6_shop_19 : decode cX6_shop 19 = .ok (.ireturn, 1) := by decide +kernel
theorem dX6_shop_20 : decode cX6_shop 20 = .ok (.aload_n 0, 1) := by decide +kernel
theorem dX6_shop_21 : decode cX6_shop 21 = .ok (.getfield 13, 3) := by decide +kernel
theorem dX6_shop_24 : decode cX6_shop 24 = .ok (.iload_n 1, 1) := by decide +kernel
theorem dX6_shop_25 : decode cX6_shop 25 = .ok (.aaload, 1) := by decide +kernel
theorem dX6_shop_26 : decode cX6_shop 26 = .ok (.astore 6, 2) := by decide +kernel
theorem dX6_shop_28 : decode cX6_shop 28 = .ok (.aload 6, 2) := by decide +kernel
theorem dX6_shop_30 : decode cX6_shop 30 = .ok (.iload_n 3, 1) := by decide +kernel
theorem dX6_shop_31 : decode cX6_shop 31 = .ok (.iload 4, 2) := by decide +kernel
theorem dX6_shop_33 : decode cX6_shop 33 = .ok (.invokestatic 43, 3) := by decide +kernel
theorem dX6_shop_36 : decode cX6_shop 36 = .ok (.istore 7, 2) := by decide +kernel
theorem dX6_shop_38 : decode cX6_shop 38 = .ok (.iload 7, 2) := by decide +kernel
theorem dX6_shop_40 : decode cX6_shop 40 = .ok (.iconst (-1), 1) := by decide +kernel
theorem dX6_shop_41 : decode cX6_shop 41 = .ok (.if_icmp .eq 9, 3) := by decide +kernel
theorem dX6_shop_44 : decode cX6_shop 44 = .ok (.bipush (-100), 2) := by decide +kernel
theorem dX6_shop_46 : decode cX6_shop 46 = .ok (.iload 7, 2) := by decide +kernel
theorem dX6_shop_48 : decode cX6_shop 48 = .ok (.isub, 1) := by decide +kernel
theorem dX6_shop_49 : decode cX6_shop 49 = .ok (.ireturn, 1) := by decide +kernel
theorem dX6_shop_50 : decode cX6_shop 50 = .ok (.aload_n 0, 1) := by decide +kernel
theorem dX6_shop_51 : decode cX6_shop 51 = .ok (.getfield 20, 3) := by decide +kernel
theorem dX6_shop_54 : decode cX6_shop 54 = .ok (.aload 6, 2) := by decide +kernel
theorem dX6_shop_56 : decode cX6_shop 56 = .ok (.iload_n 3, 1) := by decide +kernel
theorem dX6_shop_57 : decode cX6_shop 57 = .ok (.iload 4, 2) := by decide +kernel
theorem dX6_shop_59 : decode cX6_shop 59 = .ok (.invokevirtual 49, 3) := by decide +kernel
theorem dX6_shop_62 : decode cX6_shop 62 = .ok (.aload_n 0, 1) := by decide +kernel
theorem dX6_shop_63 : decode cX6_shop 63 = .ok (.getfield 27, 3) := by decide +kernel
theorem dX6_shop_66 : decode cX6_shop 66 = .ok (.iconst 0, 1) := by decide +kernel
theorem dX6_shop_67 : decode cX6_shop 67 = .ok (.putfield 53, 3) := by decide +kernel
theorem dX6_shop_70 : decode cX6_shop 70 = .ok (.aload_n 0, 1) := by decide +kernel
theorem dX6_shop_71 : decode cX6_shop 71 = .ok (.getfield 20, 3) := by decide +kernel
theorem dX6_shop_74 : decode cX6_shop 74 = .ok (.getfield 56, 3) := by decide +kernel
theorem dX6_shop_77 : decode cX6_shop 77 = .ok (.ireturn, 1) := by decide +kernel
set_option maxRecDepth 20000 in
theorem ggX6_wanted_X2_isOpen : GoodIn wsX6_wanted wsX2_isOpen := goodIn_r _ [6, 7, 21, 22, 23, 24, 25, 26, 27, 28, 29, 30] (by decide +kernel) (by decide +kernel)
set_option maxRecDepth 20000 in
theorem gX6_wanted_X2_isOpen : GoodIn wsX6_wanted (wsV RX6 59 RX2 yX2_isOpen wsX2_isOpen) := goodIn_app (goodIn_of _ (by decide +kernel)) ggX6_wanted_X2_isOpen
set_option maxRecDepth 20000 in
theorem ggX6_wanted_X2_wantedPart : GoodIn wsX6_wanted wsX2_wantedPart := goodIn_r _ [11, 12, 13, 14, 15, 21, 22, 23, 24, 25, 26, 27, 28, 29, 30] (by decide +kernel) (by decide +kernel)
set_option maxRecDepth 20000 in
theorem gX6_wanted_X2_wantedPart : GoodIn wsX6_wanted (wsV RX6 63 RX2 yX2_wantedPart wsX2_wantedPart) := goodIn_app (goodIn_of _ (by decide +kernel)) ggX6_wanted_X2_wantedPart
theorem dX6_wanted_0 : decode cX6_wanted 0 = .ok (.iload_n 1, 1) := by decide +kernel
theorem dX6_wanted_1 : decode cX6_wanted 1 = .ok (.ifCond .lt 8, 3) := by decide +kernel
theorem dX6_wanted_4 : decode cX6_wanted 4 = .ok (.iload_n 1, 1) := by decide +kernel
theorem dX6_wanted_5 : decode cX6_wanted 5 = .ok (.iconst 3, 1) := by decide +kernel
theorem dX6_wanted_6 : decode cX6_wanted 6 = .ok (.if_icmp .le 6, 3) := by decide +kernel
theorem dX6_wanted_9 : decode cX6_wanted 9 = .ok (.bipush (-2), 2) := by decide +kernel
theorem dX6_wanted_11 : decode cX6_wanted 11 = .ok (.ireturn, 1) := by decide +kernel
theorem dX6_wanted_12 : decode cX6_wanted 12 = .ok (.aload_n 0, 1) := by decide +kernel
theorem dX6_wanted_13 : decode cX6_wanted 13 = .ok (.getfield 20, 3) := by decide +kernel
theorem dX6_wanted_16 : decode cX6_wanted 16 = .ok (.invokevirtual 59, 3) := by decide +kernel
theorem dX6_wanted_19 : decode cX6_wanted 19 = .ok (.ifCond .eq 14, 3) := by decide +kernel
theorem dX6_wanted_22 : decode cX6_wanted 22 = .ok (.aload_n 0, 1) := by decide +kernel
theorem dX6_wanted_23 : decode cX6_wanted 23 = .ok (.getfield 20, 3) := by decide +kernel
theorem dX6_wanted_26 : decode cX6_wanted 26 = .ok (.iload_n 1, 1) := by decide +kernel
theorem dX6_wanted_27 : decode cX6_wanted 27 = .ok (.invokevirtual 63, 3) := by decide +kernel
theorem dX6_wanted_30 : decode cX6_wanted 30 = .ok (.goto 5, 3) := by decide +kernel
theorem dX6_wanted_33 : decode cX6_wanted 33 = .ok (.bipush (-3), 2) := by decide +kernel
theorem dX6_wanted_35 : decode cX6_wanted 35 = .ok (.ireturn, 1) := by decide +kernel
set_option maxRecDepth 20000 in
theorem ggX6_seen_X6_isPlace : GoodIn wsX6_seen wsX6_isPlace := goodIn_r _ [5] (by decide +kernel) (by decide +kernel)
set_option maxRecDepth 20000 in
theorem gX6_seen_X6_isPlace : GoodIn wsX6_seen (va_wsS RX6 67 yX6_isPlace wsX6_isPlace) := goodIn_app (goodIn_of _ (by decide +kernel)) ggX6_seen_X6_isPlace
set_option maxRecDepth 20000 in
theorem ggX6_seen_X2_isOpen : GoodIn wsX6_seen wsX2_isOpen := goodIn_r _ [10, 11, 17, 18, 19, 20, 21, 22, 23, 24, 25, 26] (by decide +kernel) (by decide +kernel)
set_option maxRecDepth 20000 in
theorem gX6_seen_X2_isOpen : GoodIn wsX6_seen (wsV RX6 59 RX2 yX2_isOpen wsX2_isOpen) := goodIn_app (goodIn_of _ (by decide +kernel)) ggX6_seen_X2_isOpen
theorem dX6_seen_0 : decode cX6_seen 0 = .ok (.iload_n 1, 1) := by decide +kernel
theorem dX6_seen_1 : decode cX6_seen 1 = .ok (.invokestatic 67, 3) := by decide +kernel
theorem dX6_seen_4 : decode cX6_seen 4 = .ok (.ifCond .ne 5, 3) := by decide +kernel
theorem dX6_seen_7 : decode cX6_seen 7 = .ok (.iconst (-1), 1) := by decide +kernel
theorem dX6_seen_8 : decode cX6_seen 8 = .ok (.ireturn, 1) := by decide +kernel
theorem dX6_seen_9 : decode cX6_seen 9 = .ok (.aload_n 0, 1) := by decide +kernel
theorem dX6_seen_10 : decode cX6_seen 10 = .ok (.getfield 20, 3) := by decide +kernel
theorem dX6_seen_13 : decode cX6_seen 13 = .ok (.invokevirtual 59, 3) := by decide +kernel
theorem dX6_seen_16 : decode cX6_seen 16 = .ok (.ifCond .eq 15, 3) := by decide +kernel
theorem dX6_seen_19 : decode cX6_seen 19 = .ok (.aload_n 0, 1) := by decide +kernel
theorem dX6_seen_20 : decode cX6_seen 20 = .ok (.getfield 20, 3) := by decide +kernel
theorem dX6_seen_23 : decode cX6_seen 23 = .ok (.getfield 71, 3) := by decide +kernel
theorem dX6_seen_26 : decode cX6_seen 26 = .ok (.iload_n 1, 1) := by decide +kernel
theorem dX6_seen_27 : decode cX6_seen 27 = .ok (.iaload, 1) := by decide +kernel
theorem dX6_seen_28 : decode cX6_seen 28 = .ok (.goto 5, 3) := by decide +kernel
theorem dX6_seen_31 : decode cX6_seen 31 = .ok (.bipush (-3), 2) := by decide +kernel
theorem dX6_seen_33 : decode cX6_seen 33 = .ok (.ireturn, 1) := by decide +kernel
set_option maxRecDepth 20000 in
theorem ggX6_ofTube_X2_hasTube : GoodIn wsX6_ofTube wsX2_hasTube := goodIn_r _ [6, 7, 39, 40, 41, 42, 43, 44, 45, 46, 47, 48] (by decide +kernel) (by decide +kernel)
set_option maxRecDepth 20000 in
theorem gX6_ofTube_X2_hasTube : GoodIn wsX6_ofTube (wsV RX6 75 RX2 yX2_hasTube wsX2_hasTube) := goodIn_app (goodIn_of _ (by decide +kernel)) ggX6_ofTube_X2_hasTube
set_option maxRecDepth 20000 in
theorem ggX6_ofTube_X5_part : GoodIn wsX6_ofTube wsX5_part := goodIn_r _ [12, 13, 14, 15, 16, 17, 18, 19, 20, 21, 11, 22, 23, 24, 25, 26, 27, 28, 29, 30, 31, 32, 33, 49, 50, 51, 52, 53, 54] (by decide +kernel) (by decide +kernel)
set_option maxRecDepth 20000 in
theorem gX6_ofTube_X5_part : GoodIn wsX6_ofTube (wsV RX6 82 RX5 yX5_part wsX5_part) := goodIn_app (goodIn_of _ (by decide +kernel)) ggX6_ofTube_X5_part
theorem dX6_ofTube_0 : decode cX6_ofTube 0 = .ok (.aload_n 0, 1) := by decide +kernel
theorem dX6_ofTube_1 : decode cX6_ofTube 1 = .ok (.getfield 20, 3) := by decide +kernel
theorem dX6_ofTube_4 : decode cX6_ofTube 4 = .ok (.iload_n 1, 1) := by decide +kernel
theorem dX6_ofTube_5 : decode cX6_ofTube 5 = .ok (.invokevirtual 75, 3) := by decide +kernel
theorem dX6_ofTube_8 : decode cX6_ofTube 8 = .ok (.ifCond .ne 5, 3) := by decide +kernel
theorem dX6_ofTube_11 : decode cX6_ofTube 11 = .ok (.iconst (-1), 1) := by decide +kernel
theorem dX6_ofTube_12 : decode cX6_ofTube 12 = .ok (.ireturn, 1) := by decide +kernel
theorem dX6_ofTube_13 : decode cX6_ofTube 13 = .ok (.iload_n 2, 1) := by decide +kernel
theorem dX6_ofTube_14 : decode cX6_ofTube 14 = .ok (.ifCond .lt 9, 3) := by decide +kernel
theorem dX6_ofTube_17 : decode cX6_ofTube 17 = .ok (.iload_n 2, 1) := by decide +kernel
theorem dX6_ofTube_18 : decode cX6_ofTube 18 = .ok (.bipush 7, 2) := by decide +kernel
theorem dX6_ofTube_20 : decode cX6_ofTube 20 = .ok (.if_icmp .le 8, 3) := by decide +kernel
theorem dX6_ofTube_23 : decode cX6_ofTube 23 = .ok (.bipush (-2), 2) := by decide +kernel
theorem dX6_ofTube_25 : decode cX6_ofTube 25 = .ok (.goto 16, 3) := by decide +kernel
theorem dX6_ofTube_28 : decode cX6_ofTube 28 = .ok (.aload_n 0, 1) := by decide +kernel
theorem dX6_ofTube_29 : decode cX6_ofTube 29 = .ok (.getfield 20, 3) := by decide +kernel
theorem dX6_ofTube_32 : decode cX6_ofTube 32 = .ok (.getfield 78, 3) := by decide +kernel
theorem dX6_ofTube_35 : decode cX6_ofTube 35 = .ok (.iload_n 1, 1) := by decide +kernel
theorem dX6_ofTube_36 : decode cX6_ofTube 36 = .ok (.aaload, 1) := by decide +kernel
theorem dX6_ofTube_37 : decode cX6_ofTube 37 = .ok (.iload_n 2, 1) := by decide +kernel
theorem dX6_ofTube_38 : decode cX6_ofTube 38 = .ok (.invokevirtual 82, 3) := by decide +kernel
theorem dX6_ofTube_41 : decode cX6_ofTube 41 = .ok (.ireturn, 1) := by decide +kernel
set_option maxRecDepth 20000 in
theorem ggX6_remember_X2_isOpen : GoodIn wsX6_remember wsX2_isOpen := goodIn_r _ [6, 7, 17, 18, 19, 20, 21, 22, 23, 24, 25, 26] (by decide +kernel) (by decide +kernel)
set_option maxRecDepth 20000 in
theorem gX6_remember_X2_isOpen : GoodIn wsX6_remember (wsV RX6 59 RX2 yX2_isOpen wsX2_isOpen) := goodIn_app (goodIn_of _ (by decide +kernel)) ggX6_remember_X2_isOpen
set_option maxRecDepth 20000 in
theorem ggX6_remember_X6_memory : GoodIn wsX6_remember wsX6_memory := goodIn_r _ [11] (by decide +kernel) (by decide +kernel)
set_option maxRecDepth 20000 in
theorem gX6_remember_X6_memory : GoodIn wsX6_remember (va_wsS RX6 93 yX6_memory wsX6_memory) := goodIn_app (goodIn_of _ (by decide +kernel)) ggX6_remember_X6_memory
theorem dX6_remember_0 : decode cX6_remember 0 = .ok (.iload_n 1, 1) := by decide +kernel
theorem dX6_remember_1 : decode cX6_remember 1 = .ok (.ifCond .lt 17, 3) := by decide +kernel
theorem dX6_remember_4 : decode cX6_remember 4 = .ok (.iload_n 1, 1) := by decide +kernel
theorem dX6_remember_5 : decode cX6_remember 5 = .ok (.iconst 3, 1) := by decide +kernel
theorem dX6_remember_6 : decode cX6_remember 6 = .ok (.if_icmp .gt 12, 3) := by decide +kernel
theorem dX6_remember_9 : decode cX6_remember 9 = .ok (.iload_n 2, 1) := by decide +kernel
theorem dX6_remember_10 : decode cX6_remember 10 = .ok (.ifCond .lt 8, 3) := by decide +kernel
theorem dX6_remember_13 : decode cX6_remember 13 = .ok (.iload_n 2, 1) := by decide +kernel
theorem dX6_remember_14 : decode cX6_remember 14 = .ok (.iconst 3, 1) := by decide +kernel
theorem dX6_remember_15 : decode cX6_remember 15 = .ok (.if_icmp .le 6, 3) := by decide +kernel
theorem dX6_remember_18 : decode cX6_remember 18 = .ok (.bipush (-2), 2) := by decide +kernel
theorem dX6_remember_20 : decode cX6_remember 20 = .ok (.ireturn, 1) := by decide +kernel
theorem dX6_remember_21 : decode cX6_remember 21 = .ok (.aload_n 0, 1) := by decide +kernel
theorem dX6_remember_22 : decode cX6_remember 22 = .ok (.getfield 20, 3) := by decide +kernel
theorem dX6_remember_25 : decode cX6_remember 25 = .ok (.invokevirtual 59, 3) := by decide +kernel
theorem dX6_remember_28 : decode cX6_remember 28 = .ok (.ifCond .ne 6, 3) := by decide +kernel
theorem dX6_remember_31 : decode cX6_remember 31 = .ok (.bipush (-3), 2) := by decide +kernel
theorem dX6_remember_33 : decode cX6_remember 33 = .ok (.ireturn, 1) := by decide +kernel
theorem dX6_remember_34 : decode cX6_remember 34 = .ok (.aload_n 0, 1) := by decide +kernel
theorem dX6_remember_35 : decode cX6_remember 35 = .ok (.getfield 20, 3) := by decide +kernel
theorem dX6_remember_38 : decode cX6_remember 38 = .ok (.getfield 87, 3) := by decide +kernel
theorem dX6_remember_41 : decode cX6_remember 41 = .ok (.aload_n 0, 1) := by decide +kernel
theorem dX6_remember_42 : decode cX6_remember 42 = .ok (.getfield 20, 3) := by decide +kernel
theorem dX6_remember_45 : decode cX6_remember 45 = .ok (.getfield 90, 3) := by decide +kernel
theorem dX6_remember_48 : decode cX6_remember 48 = .ok (.invokestatic 93, 3) := by decide +kernel
theorem dX6_remember_51 : decode cX6_remember 51 = .ok (.istore_n 3, 1) := by decide +kernel
theorem dX6_remember_52 : decode cX6_remember 52 = .ok (.aload_n 0, 1) := by decide +kernel
theorem dX6_remember_53 : decode cX6_remember 53 = .ok (.getfield 20, 3) := by decide +kernel
theorem dX6_remember_56 : decode cX6_remember 56 = .ok (.iload_n 1, 1) := by decide +kernel
theorem dX6_remember_57 : decode cX6_remember 57 = .ok (.putfield 87, 3) := by decide +kernel
theorem dX6_remember_60 : decode cX6_remember 60 = .ok (.aload_n 0, 1) := by decide +kernel
theorem dX6_remember_61 : decode cX6_remember 61 = .ok (.getfield 20, 3) := by decide +kernel
theorem dX6_remember_64 : decode cX6_remember 64 = .ok (.iload_n 2, 1) := by decide +kernel
theorem dX6_remember_65 : decode cX6_remember 65 = .ok (.putfield 90, 3) := by decide +kernel
theorem dX6_remember_68 : decode cX6_remember 68 = .ok (.iload_n 3, 1) := by decide +kernel
theorem dX6_remember_69 : decode cX6_remember 69 = .ok (.ireturn, 1) := by decide +kernel
set_option maxRecDepth 20000 in
theorem ggX6_near_X2_isOpen : GoodIn wsX6_near wsX2_isOpen := goodIn_r _ [6, 7, 13, 14, 15, 16, 17, 18, 19, 20, 21, 22] (by decide +kernel) (by decide +kernel)
set_option maxRecDepth 20000 in
theorem gX6_near_X2_isOpen : GoodIn wsX6_near (wsV RX6 59 RX2 yX2_isOpen wsX2_isOpen) := goodIn_app (goodIn_of _ (by decide +kernel)) ggX6_near_X2_isOpen
theorem dX6_near_0 : decode cX6_near 0 = .ok (.iload_n 1, 1) := by decide +kernel
theorem dX6_near_1 : decode cX6_near 1 = .ok (.ifCond .lt 9, 3) := by decide +kernel
theorem dX6_near_4 : decode cX6_near 4 = .ok (.iload_n 1, 1) := by decide +kernel
theorem dX6_near_5 : decode cX6_near 5 = .ok (.bipush 20, 2) := by decide +kernel
theorem dX6_near_7 : decode cX6_near 7 = .ok (.if_icmp .le 6, 3) := by decide +kernel
theorem dX6_near_10 : decode cX6_near 10 = .ok (.bipush (-2), 2) := by decide +kernel
theorem dX6_near_12 : decode cX6_near 12 = .ok (.ireturn, 1) := by decide +kernel
theorem dX6_near_13 : decode cX6_near 13 = .ok (.aload_n 0, 1) := by decide +kernel
theorem dX6_near_14 : decode cX6_near 14 = .ok (.getfield 20, 3) := by decide +kernel
theorem dX6_near_17 : decode cX6_near 17 = .ok (.invokevirtual 59, 3) := by decide +kernel
theorem dX6_near_20 : decode cX6_near 20 = .ok (.ifCond .ne 6, 3) := by decide +kernel
theorem dX6_near_23 : decode cX6_near 23 = .ok (.bipush (-3), 2) := by decide +kernel
theorem dX6_near_25 : decode cX6_near 25 = .ok (.ireturn, 1) := by decide +kernel
theorem dX6_near_26 : decode cX6_near 26 = .ok (.aload_n 0, 1) := by decide +kernel
theorem dX6_near_27 : decode cX6_near 27 = .ok (.getfield 20, 3) := by decide +kernel
theorem dX6_near_30 : decode cX6_near 30 = .ok (.getfield 97, 3) := by decide +kernel
theorem dX6_near_33 : decode cX6_near 33 = .ok (.istore_n 2, 1) := by decide +kernel
theorem dX6_near_34 : decode cX6_near 34 = .ok (.aload_n 0, 1) := by decide +kernel
theorem dX6_near_35 : decode cX6_near 35 = .ok (.getfield 20, 3) := by decide +kernel
theorem dX6_near_38 : decode cX6_near 38 = .ok (.iload_n 1, 1) := by decide +kernel
theorem dX6_near_39 : decode cX6_near 39 = .ok (.putfield 97, 3) := by decide +kernel
theorem dX6_near_42 : decode cX6_near 42 = .ok (.iload_n 2, 1) := by decide +kernel
theorem dX6_near_43 : decode cX6_near 43 = .ok (.ireturn, 1) := by decide +kernel
set_option maxRecDepth 20000 in
theorem ggX6_stock_X2_hasTube : GoodIn wsX6_stock wsX2_hasTube := goodIn_r _ [6, 7, 13, 14, 15, 16, 17, 18, 19, 20, 21, 22] (by decide +kernel) (by decide +kernel)
set_option maxRecDepth 20000 in
theorem gX6_stock_X2_hasTube : GoodIn wsX6_stock (wsV RX6 75 RX2 yX2_hasTube wsX2_hasTube) := goodIn_app (goodIn_of _ (by decide +kernel)) ggX6_stock_X2_hasTube
theorem dX6_stock_0 : decode cX6_stock 0 = .ok (.aload_n 0, 1) := by decide +kernel
theorem dX6_stock_1 : decode cX6_stock 1 = .ok (.getfield 20, 3) := by decide +kernel
theorem dX6_stock_4 : decode cX6_stock 4 = .ok (.iload_n 1, 1) := by decide +kernel
theorem dX6_stock_5 : decode cX6_stock 5 = .ok (.invokevirtual 75, 3) := by decide +kernel
theorem dX6_stock_8 : decode cX6_stock 8 = .ok (.ifCond .ne 5, 3) := by decide +kernel
theorem dX6_stock_11 : decode cX6_stock 11 = .ok (.iconst (-1), 1) := by decide +kernel
theorem dX6_stock_12 : decode cX6_stock 12 = .ok (.ireturn, 1) := by decide +kernel
theorem dX6_stock_13 : decode cX6_stock 13 = .ok (.iload_n 2, 1) := by decide +kernel
theorem dX6_stock_14 : decode cX6_stock 14 = .ok (.ifCond .lt 9, 3) := by decide +kernel
theorem dX6_stock_17 : decode cX6_stock 17 = .ok (.iload_n 2, 1) := by decide +kernel
theorem dX6_stock_18 : decode cX6_stock 18 = .ok (.bipush 9, 2) := by decide +kernel
theorem dX6_stock_20 : decode cX6_stock 20 = .ok (.if_icmp .le 6, 3) := by decide +kernel
theorem dX6_stock_23 : decode cX6_stock 23 = .ok (.bipush (-2), 2) := by decide +kernel
theorem dX6_stock_25 : decode cX6_stock 25 = .ok (.ireturn, 1) := by decide +kernel
theorem dX6_stock_26 : decode cX6_stock 26 = .ok (.aload_n 0, 1) := by decide +kernel
theorem dX6_stock_27 : decode cX6_stock 27 = .ok (.getfield 20, 3) := by decide +kernel
theorem dX6_stock_30 : decode cX6_stock 30 = .ok (.getfield 78, 3) := by decide +kernel
theorem dX6_stock_33 : decode cX6_stock 33 = .ok (.iload_n 1, 1) := by decide +kernel
theorem dX6_stock_34 : decode cX6_stock 34 = .ok (.aaload, 1) := by decide +kernel
theorem dX6_stock_35 : decode cX6_stock 35 = .ok (.getfield 100, 3) := by decide +kernel
theorem dX6_stock_38 : decode cX6_stock 38 = .ok (.istore_n 3, 1) := by decide +kernel
theorem dX6_stock_39 : decode cX6_stock 39 = .ok (.aload_n 0, 1) := by decide +kernel
theorem dX6_stock_40 : decode cX6_stock 40 = .ok (.getfield 20, 3) := by decide +kernel
theorem dX6_stock_43 : decode cX6_stock 43 = .ok (.getfield 78, 3) := by decide +kernel
theorem dX6_stock_46 : decode cX6_stock 46 = .ok (.iload_n 1, 1) := by decide +kernel
theorem dX6_stock_47 : decode cX6_stock 47 = .ok (.aaload, 1) := by decide +kernel
theorem dX6_stock_48 : decode cX6_stock 48 = .ok (.iload_n 2, 1) := by decide +kernel
theorem dX6_stock_49 : decode cX6_stock 49 = .ok (.putfield 100, 3) := by decide +kernel
theorem dX6_stock_52 : decode cX6_stock 52 = .ok (.iload_n 3, 1) := by decide +kernel
theorem dX6_stock_53 : decode cX6_stock 53 = .ok (.ireturn, 1) := by decide +kernel
set_option maxRecDepth 20000 in
theorem ggX6_far_X2_hasTube : GoodIn wsX6_far wsX2_hasTube := goodIn_r _ [6, 7, 60, 61, 62, 63, 64, 65, 66, 67, 68, 69] (by decide +kernel) (by decide +kernel)
set_option maxRecDepth 20000 in
theorem gX6_far_X2_hasTube : GoodIn wsX6_far (wsV RX6 75 RX2 yX2_hasTube wsX2_hasTube) := goodIn_app (goodIn_of _ (by decide +kernel)) ggX6_far_X2_hasTube
set_option maxRecDepth 20000 in
theorem ggX6_far_X2_farFromRemembered : GoodIn wsX6_far wsX2_farFromRemembered := goodIn_r _ [11, 12, 13, 14, 3, 4, 5, 6, 7, 15, 16, 17, 18, 19, 20, 21, 22, 23, 24, 25, 26, 27, 28, 29, 30, 31, 32, 33, 34, 35, 36, 37, 38, 39, 40, 41, 42, 43, 44, 45, 46, 47, 48, 49, 50, 51, 52, 53, 54, 60, 61, 62, 63, 64, 65, 66, 67, 68, 69, 70, 71, 72, 73, 74, 75] (by decide +kernel) (by decide +kernel)
set_option maxRecDepth 20000 in
theorem gX6_far_X2_farFromRemembered : GoodIn wsX6_far (wsV RX6 101 RX2 yX2_farFromRemembered wsX2_farFromRemembered) := goodIn_app (goodIn_of _ (by decide +kernel)) ggX6_far_X2_farFromRemembered
theorem dX6_far_0 : decode cX6_far 0 = .ok (.aload_n 0, 1) := by decide +kernel
theorem dX6_far_1 : decode cX6_far 1 = .ok (.getfield 20, 3) := by decide +kernel
theorem dX6_far_4 : decode cX6_far 4 = .ok (.iload_n 1, 1) := by decide +kernel
theorem dX6_far_5 : decode cX6_far 5 = .ok (.invokevirtual 75, 3) := by decide +kernel
theorem dX6_far_8 : decode cX6_far 8 = .ok (.ifCond .eq 14, 3) := by decide +kernel
theorem dX6_far_11 : decode cX6_far 11 = .ok (.aload_n 0, 1) := by decide +kernel
theorem dX6_far_12 : decode cX6_far 12 = .ok (.getfield 20, 3) := by decide +kernel
theorem dX6_far_15 : decode cX6_far 15 = .ok (.iload_n 1, 1) := by decide +kernel
theorem dX6_far_16 : decode cX6_far 16 = .ok (.invokevirtual 101, 3) := by decide +kernel
theorem dX6_far_19 : decode cX6_far 19 = .ok (.goto 4, 3) := by decide +kernel
theorem dX6_far_22 : decode cX6_far 22 = .ok (.iconst (-1), 1) := by decide +kernel
theorem dX6_far_23 : decode cX6_far 23 = .ok (.ireturn, 1) := by decide +kernel
set_option maxRecDepth 20000 in
theorem ggX6_search_X6_refusalOfRow : GoodIn wsX6_search wsX6_refusalOfRow := goodIn_r _ [7, 8, 2, 9, 10, 6, 11, 12, 13, 14, 15, 16, 17, 18, 19, 20, 21, 22, 23, 24, 25, 26, 27, 28, 29, 30, 31, 32, 33, 109, 110, 111, 112, 113, 114, 115, 116] (by decide +kernel) (by decide +kernel)
set_option maxRecDepth 20000 in
theorem gX6_search_X6_refusalOfRow : GoodIn wsX6_search (wsV RX6 39 RX6 yX6_refusalOfRow wsX6_refusalOfRow) := goodIn_app (goodIn_of _ (by decide +kernel)) ggX6_search_X6_refusalOfRow
set_option maxRecDepth 20000 in
theorem ggX6_search_X2_isOpen : GoodIn wsX6_search wsX2_isOpen := goodIn_r _ [38, 39, 117, 118, 119, 120, 121, 122, 123, 124, 125, 126] (by decide +kernel) (by decide +kernel)
set_option maxRecDepth 20000 in
theorem gX6_search_X2_isOpen : GoodIn wsX6_search (wsV RX6 59 RX2 yX2_isOpen wsX2_isOpen) := goodIn_app (goodIn_of _ (by decide +kernel)) ggX6_search_X2_isOpen
set_option maxRecDepth 20000 in
theorem ggX6_search_X2_hasAllTubes : GoodIn wsX6_search wsX2_hasAllTubes := goodIn_r _ [43, 44, 45, 46, 18, 47, 48, 25, 26, 27, 28, 29, 49, 50, 51, 37, 52, 39, 114, 115, 116, 117, 118, 119, 120, 121, 122, 123, 124, 125, 126] (by decide +kernel) (by decide +kernel)
set_option maxRecDepth 20000 in
theorem gX6_search_X2_hasAllTubes : GoodIn wsX6_search (wsV RX6 104 RX2 yX2_hasAllTubes wsX2_hasAllTubes) := goodIn_app (goodIn_of _ (by decide +kernel)) ggX6_search_X2_hasAllTubes
set_option maxRecDepth 20000 in
theorem ggX6_search_X2_searched : GoodIn wsX6_search wsX2_searched := goodIn_r _ [56, 57, 58, 59, 60, 44, 45, 46, 18, 47, 48, 25, 26, 27, 28, 29, 61, 62, 63, 37, 64, 65, 66, 67, 68, 69, 70, 71, 49, 50, 51, 52, 39, 72, 73, 74, 75, 76, 77, 78, 79, 80, 81, 82, 83, 84, 85, 86, 87, 88, 89, 90, 91, 92, 93, 94, 95, 96, 97, 98, 99, 100, 101, 102, 103, 104, 105, 106, 107, 108, 114, 115, 116, 117, 118, 119, 120, 121, 122, 123, 124, 125, 126, 127, 128, 129, 130, 131, 132] (by decide +kernel) (by decide +kernel)
set_option maxRecDepth 20000 in
theorem gX6_search_X2_searched : GoodIn wsX6_search (wsV RX6 108 RX2 yX2_searched wsX2_searched) := goodIn_app (goodIn_of _ (by decide +kernel)) ggX6_search_X2_searched
theorem dX6_search_0 : decode cX6_search 0 = .ok (.iload 4, 2) := by decide +kernel
theorem dX6_search_2 : decode cX6_search 2 = .ok (.ifCond .lt 25, 3) := by decide +kernel
theorem dX6_search_5 : decode cX6_search 5 = .ok (.iload 4, 2) := by decide +kernel
theorem dX6_search_7 : decode cX6_search 7 = .ok (.bipush 20, 2) := by decide +kernel
theorem dX6_search_9 : decode cX6_search 9 = .ok (.if_icmp .gt 18, 3) := by decide +kernel
theorem dX6_search_12 : decode cX6_search 12 = .ok (.iload 5, 2) := by decide +kernel
theorem dX6_search_14 : decode cX6_search 14 = .ok (.ifCond .lt 13, 3) := by decide +kernel
theorem dX6_search_17 : decode cX6_search 17 = .ok (.iload 5, 2) := by decide +kernel
theorem dX6_search_19 : decode cX6_search 19 = .ok (.iconst 2, 1) := by decide +kernel
theorem dX6_search_20 : decode cX6_search 20 = .ok (.if_icmp .gt 7, 3) := by decide +kernel
theorem dX6_search_23 : decode cX6_search 23 = .ok (.iconst 1, 1) := by decide +kernel
theorem dX6_search_24 : decode cX6_search 24 = .ok (.goto 4, 3) := by decide +kernel
theorem dX6_search_27 : decode cX6_search 27 = .ok (.iconst 0, 1) := by decide +kernel
theorem dX6_search_28 : decode cX6_search 28 = .ok (.istore 6, 2) := by decide +kernel
theorem dX6_search_30 : decode cX6_search 30 = .ok (.aload_n 0, 1) := by decide +kernel
theorem dX6_search_31 : decode cX6_search 31 = .ok (.iload_n 1, 1) := by decide +kernel
theorem dX6_search_32 : decode cX6_search 32 = .ok (.iload_n 2, 1) := by decide +kernel
theorem dX6_search_33 : decode cX6_search 33 = .ok (.iload_n 3, 1) := by decide +kernel
theorem dX6_search_34 : decode cX6_search 34 = .ok (.iload 4, 2) := by decide +kernel
theorem dX6_search_36 : decode cX6_search 36 = .ok (.iload 6, 2) := by decide +kernel
theorem dX6_search_38 : decode cX6_search 38 = .ok (.invokevirtual 39, 3) := by decide +kernel
theorem dX6_search_41 : decode cX6_search 41 = .ok (.istore 7, 2) := by decide +kernel
theorem dX6_search_43 : decode cX6_search 43 = .ok (.iload 7, 2) := by decide +kernel
theorem dX6_search_45 : decode cX6_search 45 = .ok (.ifCond .eq 6, 3) := by decide +kernel
theorem dX6_search_48 : decode cX6_search 48 = .ok (.iload 7, 2) := by decide +kernel
theorem dX6_search_50 : decode cX6_search 50 = .ok (.ireturn, 1) := by decide +kernel
theorem dX6_search_51 : decode cX6_search 51 = .ok (.aload_n 0, 1) := by decide +kernel
theorem dX6_search_52 : decode cX6_search 52 = .ok (.getfield 20, 3) := by decide +kernel
theorem dX6_search_55 : decode cX6_search 55 = .ok (.invokevirtual 59, 3) := by decide +kernel
theorem dX6_search_58 : decode cX6_search 58 = .ok (.ifCond .ne 6, 3) := by decide +kernel
theorem dX6_search_61 : decode cX6_search 61 = .ok (.bipush (-3), 2) := by decide +kernel
theorem dX6_search_63 : decode cX6_search 63 = .ok (.ireturn, 1) := by decide +kernel
theorem dX6_search_64 : decode cX6_search 64 = .ok (.aload_n 0, 1) := by decide +kernel
theorem dX6_search_65 : decode cX6_search 65 = .ok (.getfield 13, 3) := by decide +kernel
theorem dX6_search_68 : decode cX6_search 68 = .ok (.iload_n 1, 1) := by decide +kernel
theorem dX6_search_69 : decode cX6_search 69 = .ok (.aaload, 1) := by decide +kernel
theorem dX6_search_70 : decode cX6_search 70 = .ok (.astore 8, 2) := by decide +kernel
theorem dX6_search_72 : decode cX6_search 72 = .ok (.aload_n 0, 1) := by decide +kernel
theorem dX6_search_73 : decode cX6_search 73 = .ok (.getfield 20, 3) := by decide +kernel
theorem dX6_search_76 : decode cX6_search 76 = .ok (.aload 8, 2) := by decide +kernel
theorem dX6_search_78 : decode cX6_search 78 = .ok (.iload_n 3, 1) := by decide +kernel
theorem dX6_search_79 : decode cX6_search 79 = .ok (.iload 4, 2) := by decide +kernel
theorem dX6_search_81 : decode cX6_search 81 = .ok (.invokevirtual 104, 3) := by decide +kernel
theorem dX6_search_84 : decode cX6_search 84 = .ok (.ifCond .eq 20, 3) := by decide +kernel
theorem dX6_search_87 : decode cX6_search 87 = .ok (.aload_n 0, 1) := by decide +kernel
theorem dX6_search_88 : decode cX6_search 88 = .ok (.getfield 20, 3) := by decide +kernel
theorem dX6_search_91 : decode cX6_search 91 = .ok (.aload 8, 2) := by decide +kernel
theorem dX6_search_93 : decode cX6_search 93 = .ok (.iload_n 3, 1) := by decide +kernel
theorem dX6_search_94 : decode cX6_search 94 = .ok (.iload 4, 2) := by decide +kernel
theorem dX6_search_96 : decode cX6_search 96 = .ok (.iload 5, 2) := by decide +kernel
theorem dX6_search_98 : decode cX6_search 98 = .ok (.invokevirtual 108, 3) := by decide +kernel
theorem dX6_search_101 : decode cX6_search 101 = .ok (.goto 4, 3) := by decide +kernel
theorem dX6_search_104 : decode cX6_search 104 = .ok (.iconst (-1), 1) := by decide +kernel
theorem dX6_search_105 : decode cX6_search 105 = .ok (.ireturn, 1) := by decide +kernel
set_option maxRecDepth 20000 in
theorem ggX6_sieve_X6_refusalOfRow : GoodIn wsX6_sieve wsX6_refusalOfRow := goodIn_r _ [7, 8, 2, 9, 10, 6, 11, 12, 13, 14, 15, 16, 17, 18, 19, 20, 21, 22, 23, 24, 25, 26, 27, 28, 29, 30, 31, 32, 33, 105, 106, 107, 108, 109, 110, 111, 112] (by decide +kernel) (by decide +kernel)
set_option maxRecDepth 20000 in
theorem gX6_sieve_X6_refusalOfRow : GoodIn wsX6_sieve (wsV RX6 39 RX6 yX6_refusalOfRow wsX6_refusalOfRow) := goodIn_app (goodIn_of _ (by decide +kernel)) ggX6_sieve_X6_refusalOfRow
set_option maxRecDepth 20000 in
theorem ggX6_sieve_X2_isOpen : GoodIn wsX6_sieve wsX2_isOpen := goodIn_r _ [38, 39, 113, 114, 115, 116, 117, 118, 119, 120, 121, 122] (by decide +kernel) (by decide +kernel)
set_option maxRecDepth 20000 in
theorem gX6_sieve_X2_isOpen : GoodIn wsX6_sieve (wsV RX6 59 RX2 yX2_isOpen wsX2_isOpen) := goodIn_app (goodIn_of _ (by decide +kernel)) ggX6_sieve_X2_isOpen
set_option maxRecDepth 20000 in
theorem ggX6_sieve_X6_areSigns : GoodIn wsX6_sieve wsX6_areSigns := goodIn_r _ [42, 43, 44, 45, 18, 46, 47, 25, 26, 27, 28, 29, 110, 111, 112] (by decide +kernel) (by decide +kernel)
set_option maxRecDepth 20000 in
theorem gX6_sieve_X6_areSigns : GoodIn wsX6_sieve (va_wsS RX6 112 yX6_areSigns wsX6_areSigns) := goodIn_app (goodIn_of _ (by decide +kernel)) ggX6_sieve_X6_areSigns
set_option maxRecDepth 20000 in
theorem ggX6_sieve_X2_sieved : GoodIn wsX6_sieve wsX2_sieved := goodIn_r _ [51, 52, 53, 54, 37, 55, 39, 56, 57, 58, 59, 60, 61, 62, 63, 64, 65, 66, 67, 68, 69, 70, 71, 72, 73, 74, 75, 76, 77, 78, 79, 80, 81, 82, 83, 84, 85, 86, 87, 88, 89, 90, 91, 92, 93, 94, 95, 96, 97, 98, 99, 100, 101, 102, 103, 104, 113, 114, 115, 116, 117, 118, 119, 120, 121, 122, 123, 124, 125, 126, 127, 128] (by decide +kernel) (by decide +kernel)
set_option maxRecDepth 20000 in
theorem gX6_sieve_X2_sieved : GoodIn wsX6_sieve (wsV RX6 118 RX2 yX2_sieved wsX2_sieved) := goodIn_app (goodIn_of _ (by decide +kernel)) ggX6_sieve_X2_sieved
theorem dX6_sieve_0 : decode cX6_sieve 0 = .ok (.iload 4, 2) := by decide +kernel
theorem dX6_sieve_2 : decode cX6_sieve 2 = .ok (.ifCond .lt 24, 3) := by decide +kernel
theorem dX6_sieve_5 : decode cX6_sieve 5 = .ok (.iload 4, 2) := by decide +kernel
theorem dX6_sieve_7 : decode cX6_sieve 7 = .ok (.iconst 3, 1) := by decide +kernel
theorem dX6_sieve_8 : decode cX6_sieve 8 = .ok (.if_icmp .gt 18, 3) := by decide +kernel
theorem dX6_sieve_11 : decode cX6_sieve 11 = .ok (.iload 5, 2) := by decide +kernel
theorem dX6_sieve_13 : decode cX6_sieve 13 = .ok (.ifCond .lt 13, 3) := by decide +kernel
theorem dX6_sieve_16 : decode cX6_sieve 16 = .ok (.iload 5, 2) := by decide +kernel
theorem dX6_sieve_18 : decode cX6_sieve 18 = .ok (.iconst 1, 1) := by decide +kernel
theorem dX6_sieve_19 : decode cX6_sieve 19 = .ok (.if_icmp .gt 7, 3) := by decide +kernel
theorem dX6_sieve_22 : decode cX6_sieve 22 = .ok (.iconst 1, 1) := by decide +kernel
theorem dX6_sieve_23 : decode cX6_sieve 23 = .ok (.goto 4, 3) := by decide +kernel
theorem dX6_sieve_26 : decode cX6_sieve 26 = .ok (.iconst 0, 1) := by decide +kernel
theorem dX6_sieve_27 : decode cX6_sieve 27 = .ok (.istore 6, 2) := by decide +kernel
theorem dX6_sieve_29 : decode cX6_sieve 29 = .ok (.aload_n 0, 1) := by decide +kernel
theorem dX6_sieve_30 : decode cX6_sieve 30 = .ok (.iload_n 1, 1) := by decide +kernel
theorem dX6_sieve_31 : decode cX6_sieve 31 = .ok (.iload_n 2, 1) := by decide +kernel
theorem dX6_sieve_32 : decode cX6_sieve 32 = .ok (.iload_n 3, 1) := by decide +kernel
theorem dX6_sieve_33 : decode cX6_sieve 33 = .ok (.iload 4, 2) := by decide +kernel
theorem dX6_sieve_35 : decode cX6_sieve 35 = .ok (.iload 6, 2) := by decide +kernel
theorem dX6_sieve_37 : decode cX6_sieve 37 = .ok (.invokevirtual 39, 3) := by decide +kernel
theorem dX6_sieve_40 : decode cX6_sieve 40 = .ok (.istore 7, 2) := by decide +kernel
theorem dX6_sieve_42 : decode cX6_sieve 42 = .ok (.iload 7, 2) := by decide +kernel
theorem dX6_sieve_44 : decode cX6_sieve 44 = .ok (.ifCond .eq 6, 3) := by decide +kernel
theorem dX6_sieve_47 : decode cX6_sieve 47 = .ok (.iload 7, 2) := by decide +kernel
theorem dX6_sieve_49 : decode cX6_sieve 49 = .ok (.ireturn, 1) := by decide +kernel
theorem dX6_sieve_50 : decode cX6_sieve 50 = .ok (.aload_n 0, 1) := by decide +kernel
theorem dX6_sieve_51 : decode cX6_sieve 51 = .ok (.getfield 20, 3) := by decide +kernel
theorem dX6_sieve_54 : decode cX6_sieve 54 = .ok (.invokevirtual 59, 3) := by decide +kernel
theorem dX6_sieve_57 : decode cX6_sieve 57 = .ok (.ifCond .ne 6, 3) := by decide +kernel
theorem dX6_sieve_60 : decode cX6_sieve 60 = .ok (.bipush (-3), 2) := by decide +kernel
theorem dX6_sieve_62 : decode cX6_sieve 62 = .ok (.ireturn, 1) := by decide +kernel
theorem dX6_sieve_63 : decode cX6_sieve 63 = .ok (.aload_n 0, 1) := by decide +kernel
theorem dX6_sieve_64 : decode cX6_sieve 64 = .ok (.getfield 13, 3) := by decide +kernel
theorem dX6_sieve_67 : decode cX6_sieve 67 = .ok (.iload_n 1, 1) := by decide +kernel
theorem dX6_sieve_68 : decode cX6_sieve 68 = .ok (.aaload, 1) := by decide +kernel
theorem dX6_sieve_69 : decode cX6_sieve 69 = .ok (.astore 8, 2) := by decide +kernel
theorem dX6_sieve_71 : decode cX6_sieve 71 = .ok (.aload 8, 2) := by decide +kernel
theorem dX6_sieve_73 : decode cX6_sieve 73 = .ok (.iload_n 3, 1) := by decide +kernel
theorem dX6_sieve_74 : decode cX6_sieve 74 = .ok (.iload 4, 2) := by decide +kernel
theorem dX6_sieve_76 : decode cX6_sieve 76 = .ok (.invokestatic 112, 3) := by decide +kernel
theorem dX6_sieve_79 : decode cX6_sieve 79 = .ok (.ifCond .eq 23, 3) := by decide +kernel
theorem dX6_sieve_82 : decode cX6_sieve 82 = .ok (.aload_n 0, 1) := by decide +kernel
theorem dX6_sieve_83 : decode cX6_sieve 83 = .ok (.getfield 20, 3) := by decide +kernel
theorem dX6_sieve_86 : decode cX6_sieve 86 = .ok (.aload 8, 2) := by decide +kernel
theorem dX6_sieve_88 : decode cX6_sieve 88 = .ok (.getfield 115, 3) := by decide +kernel
theorem dX6_sieve_91 : decode cX6_sieve 91 = .ok (.iload_n 3, 1) := by decide +kernel
theorem dX6_sieve_92 : decode cX6_sieve 92 = .ok (.iload 4, 2) := by decide +kernel
theorem dX6_sieve_94 : decode cX6_sieve 94 = .ok (.iload 5, 2) := by decide +kernel
theorem dX6_sieve_96 : decode cX6_sieve 96 = .ok (.invokevirtual 118, 3) := by decide +kernel
theorem dX6_sieve_99 : decode cX6_sieve 99 = .ok (.goto 5, 3) := by decide +kernel
theorem dX6_sieve_102 : decode cX6_sieve 102 = .ok (.bipush (-2), 2) := by decide +kernel
theorem dX6_sieve_104 : decode cX6_sieve 104 = .ok (.ireturn, 1) := by decide +kernel
set_option maxRecDepth 20000 in
theorem ggX6_quick_X2_isOpen : GoodIn wsX6_quick wsX2_isOpen := goodIn_r _ [6, 7, 13, 14, 15, 16, 17, 18, 19, 20, 21, 22] (by decide +kernel) (by decide +kernel)
set_option maxRecDepth 20000 in
theorem gX6_quick_X2_isOpen : GoodIn wsX6_quick (wsV RX6 59 RX2 yX2_isOpen wsX2_isOpen) := goodIn_app (goodIn_of _ (by decide +kernel)) ggX6_quick_X2_isOpen
theorem dX6_quick_0 : decode cX6_quick 0 = .ok (.iload_n 1, 1) := by decide +kernel
theorem dX6_quick_1 : decode cX6_quick 1 = .ok (.iconst (-1), 1) := by decide +kernel
theorem dX6_quick_2 : decode cX6_quick 2 = .ok (.if_icmp .ge 5, 3) := by decide +kernel
theorem dX6_quick_5 : decode cX6_quick 5 = .ok (.iconst (-1), 1) := by decide +kernel
theorem dX6_quick_6 : decode cX6_quick 6 = .ok (.ireturn, 1) := by decide +kernel
theorem dX6_quick_7 : decode cX6_quick 7 = .ok (.aload_n 0, 1) := by decide +kernel
theorem dX6_quick_8 : decode cX6_quick 8 = .ok (.getfield 20, 3) := by decide +kernel
theorem dX6_quick_11 : decode cX6_quick 11 = .ok (.invokevirtual 59, 3) := by decide +kernel
theorem dX6_quick_14 : decode cX6_quick 14 = .ok (.ifCond .ne 6, 3) := by decide +kernel
theorem dX6_quick_17 : decode cX6_quick 17 = .ok (.bipush (-3), 2) := by decide +kernel
theorem dX6_quick_19 : decode cX6_quick 19 = .ok (.ireturn, 1) := by decide +kernel
theorem dX6_quick_20 : decode cX6_quick 20 = .ok (.iload_n 1, 1) := by decide +kernel
theorem dX6_quick_21 : decode cX6_quick 21 = .ok (.iconst (-1), 1) := by decide +kernel
theorem dX6_quick_22 : decode cX6_quick 22 = .ok (.if_icmp .ne 19, 3) := by decide +kernel
theorem dX6_quick_25 : decode cX6_quick 25 = .ok (.aload_n 0, 1) := by decide +kernel
theorem dX6_quick_26 : decode cX6_quick 26 = .ok (.getfield 20, 3) := by decide +kernel
theorem dX6_quick_29 : decode cX6_quick 29 = .ok (.getfield 56, 3) := by decide +kernel
theorem dX6_quick_32 : decode cX6_quick 32 = .ok (.aload_n 0, 1) := by decide +kernel
theorem dX6_quick_33 : decode cX6_quick 33 = .ok (.getfield 20, 3) := by decide +kernel
theorem dX6_quick_36 : decode cX6_quick 36 = .ok (.getfield 56, 3) := by decide +kernel
theorem dX6_quick_39 : decode cX6_quick 39 = .ok (.imul, 1) := by decide +kernel
theorem dX6_quick_40 : decode cX6_quick 40 = .ok (.ireturn, 1) := by decide +kernel
theorem dX6_quick_41 : decode cX6_quick 41 = .ok (.iload_n 1, 1) := by decide +kernel
theorem dX6_quick_42 : decode cX6_quick 42 = .ok (.aload_n 0, 1) := by decide +kernel
theorem dX6_quick_43 : decode cX6_quick 43 = .ok (.getfield 20, 3) := by decide +kernel
theorem dX6_quick_46 : decode cX6_quick 46 = .ok (.getfield 56, 3) := by decide +kernel
theorem dX6_quick_49 : decode cX6_quick 49 = .ok (.if_icmp .ge 7, 3) := by decide +kernel
theorem dX6_quick_52 : decode cX6_quick 52 = .ok (.iload_n 1, 1) := by decide +kernel
theorem dX6_quick_53 : decode cX6_quick 53 = .ok (.goto 5, 3) := by decide +kernel
theorem dX6_quick_56 : decode cX6_quick 56 = .ok (.bipush (-9), 2) := by decide +kernel
theorem dX6_quick_58 : decode cX6_quick 58 = .ok (.ireturn, 1) := by decide +kernel
set_option maxRecDepth 20000 in
theorem ggX6_signs_X2_isOpen : GoodIn wsX6_signs wsX2_isOpen := goodIn_r _ [7, 8, 75, 76, 77, 78, 79, 80, 81, 82, 83, 84] (by decide +kernel) (by decide +kernel)
set_option maxRecDepth 20000 in
theorem gX6_signs_X2_isOpen : GoodIn wsX6_signs (wsV RX6 59 RX2 yX2_isOpen wsX2_isOpen) := goodIn_app (goodIn_of _ (by decide +kernel)) ggX6_signs_X2_isOpen
set_option maxRecDepth 20000 in
theorem ggX6_signs_X2_secondsBySigns : GoodIn wsX6_signs wsX2_secondsBySigns := goodIn_r _ [12, 13, 14, 15, 6, 16, 17, 18, 19, 20, 8, 21, 22, 23, 24, 25, 26, 27, 28, 29, 30, 31, 32, 33, 34, 35, 36, 37, 38, 39, 40, 41, 42, 43, 44, 45, 46, 47, 48, 49, 50, 51, 52, 53, 54, 55, 56, 57, 58, 59, 60, 61, 62, 63, 64, 65, 66, 67, 68, 69, 75, 76, 77, 78, 79, 80, 81, 82, 83, 84, 85, 86, 87, 88, 89, 90] (by decide +kernel) (by decide +kernel)
set_option maxRecDepth 20000 in
theorem gX6_signs_X2_secondsBySigns : GoodIn wsX6_signs (wsV RX6 122 RX2 yX2_secondsBySigns wsX2_secondsBySigns) := goodIn_app (goodIn_of _ (by decide +kernel)) ggX6_signs_X2_secondsBySigns
theorem dX6_signs_0 : decode cX6_signs 0 = .ok (.iload_n 1, 1) := by decide +kernel
theorem dX6_signs_1 : decode cX6_signs 1 = .ok (.iconst (-1), 1) := by decide +kernel
theorem dX6_signs_2 : decode cX6_signs 2 = .ok (.if_icmp .lt 8, 3) := by decide +kernel
theorem dX6_signs_5 : decode cX6_signs 5 = .ok (.iload_n 1, 1) := by decide +kernel
theorem dX6_signs_6 : decode cX6_signs 6 = .ok (.iconst 3, 1) := by decide +kernel
theorem dX6_signs_7 : decode cX6_signs 7 = .ok (.if_icmp .lt 6, 3) := by decide +kernel
theorem dX6_signs_10 : decode cX6_signs 10 = .ok (.bipush (-2), 2) := by decide +kernel
theorem dX6_signs_12 : decode cX6_signs 12 = .ok (.ireturn, 1) := by decide +kernel
theorem dX6_signs_13 : decode cX6_signs 13 = .ok (.aload_n 0, 1) := by decide +kernel
theorem dX6_signs_14 : decode cX6_signs 14 = .ok (.getfield 20, 3) := by decide +kernel
theorem dX6_signs_17 : decode cX6_signs 17 = .ok (.invokevirtual 59, 3) := by decide +kernel
theorem dX6_signs_20 : decode cX6_signs 20 = .ok (.ifCond .ne 6, 3) := by decide +kernel
theorem dX6_signs_23 : decode cX6_signs 23 = .ok (.bipush (-3), 2) := by decide +kernel
theorem dX6_signs_25 : decode cX6_signs 25 = .ok (.ireturn, 1) := by decide +kernel
theorem dX6_signs_26 : decode cX6_signs 26 = .ok (.iconst 0, 1) := by decide +kernel
theorem dX6_signs_27 : decode cX6_signs 27 = .ok (.istore_n 2, 1) := by decide +kernel
theorem dX6_signs_28 : decode cX6_signs 28 = .ok (.aload_n 0, 1) := by decide +kernel
theorem dX6_signs_29 : decode cX6_signs 29 = .ok (.getfield 20, 3) := by decide +kernel
theorem dX6_signs_32 : decode cX6_signs 32 = .ok (.iload_n 2, 1) := by decide +kernel
theorem dX6_signs_33 : decode cX6_signs 33 = .ok (.invokevirtual 122, 3) := by decide +kernel
theorem dX6_signs_36 : decode cX6_signs 36 = .ok (.istore_n 3, 1) := by decide +kernel
theorem dX6_signs_37 : decode cX6_signs 37 = .ok (.iconst 3, 1) := by decide +kernel
theorem dX6_signs_38 : decode cX6_signs 38 = .ok (.istore 4, 2) := by decide +kernel
theorem dX6_signs_40 : decode cX6_signs 40 = .ok (.iload 4, 2) := by decide +kernel
theorem dX6_signs_42 : decode cX6_signs 42 = .ok (.iconst 3, 1) := by decide +kernel
theorem dX6_signs_43 : decode cX6_signs 43 = .ok (.iadd, 1) := by decide +kernel
theorem dX6_signs_44 : decode cX6_signs 44 = .ok (.getstatic 125, 3) := by decide +kernel
theorem dX6_signs_47 : decode cX6_signs 47 = .ok (.arraylength, 1) := by decide +kernel
theorem dX6_signs_48 : decode cX6_signs 48 = .ok (.if_icmp .gt 32, 3) := by decide +kernel
theorem dX6_signs_51 : decode cX6_signs 51 = .ok (.aload_n 0, 1) := by decide +kernel
theorem dX6_signs_52 : decode cX6_signs 52 = .ok (.getfield 20, 3) := by decide +kernel
theorem dX6_signs_55 : decode cX6_signs 55 = .ok (.iload 4, 2) := by decide +kernel
theorem dX6_signs_57 : decode cX6_signs 57 = .ok (.invokevirtual 122, 3) := by decide +kernel
theorem dX6_signs_60 : decode cX6_signs 60 = .ok (.istore 5, 2) := by decide +kernel
theorem dX6_signs_62 : decode cX6_signs 62 = .ok (.iload 5, 2) := by decide +kernel
theorem dX6_signs_64 : decode cX6_signs 64 = .ok (.iload_n 3, 1) := by decide +kernel
theorem dX6_signs_65 : decode cX6_signs 65 = .ok (.if_icmp .ge 9, 3) := by decide +kernel
theorem dX6_signs_68 : decode cX6_signs 68 = .ok (.iload 4, 2) := by decide +kernel
theorem dX6_signs_70 : decode cX6_signs 70 = .ok (.istore_n 2, 1) := by decide +kernel
theorem dX6_signs_71 : decode cX6_signs 71 = .ok (.iload 5, 2) := by decide +kernel
theorem dX6_signs_73 : decode cX6_signs 73 = .ok (.istore_n 3, 1) := by decide +kernel
theorem dX6_signs_74 : decode cX6_signs 74 = .ok (.iinc 4 3, 3) := by decide +kernel
theorem dX6_signs_77 : decode cX6_signs 77 = .ok (.goto (-37), 3) := by decide +kernel
theorem dX6_signs_80 : decode cX6_signs 80 = .ok (.iload_n 1, 1) := by decide +kernel
theorem dX6_signs_81 : decode cX6_signs 81 = .ok (.iconst (-1), 1) := by decide +kernel
theorem dX6_signs_82 : decode cX6_signs 82 = .ok (.if_icmp .ne 7, 3) := by decide +kernel
theorem dX6_signs_85 : decode cX6_signs 85 = .ok (.iload_n 3, 1) := by decide +kernel
theorem dX6_signs_86 : decode cX6_signs 86 = .ok (.goto 10, 3) := by decide +kernel
theorem dX6_signs_89 : decode cX6_signs 89 = .ok (.getstatic 125, 3) := by decide +kernel
theorem dX6_signs_92 : decode cX6_signs 92 = .ok (.iload_n 2, 1) := by decide +kernel
theorem dX6_signs_93 : decode cX6_signs 93 = .ok (.iload_n 1, 1) := by decide +kernel
theorem dX6_signs_94 : decode cX6_signs 94 = .ok (.iadd, 1) := by decide +kernel
theorem dX6_signs_95 : decode cX6_signs 95 = .ok (.iaload, 1) := by decide +kernel
theorem dX6_signs_96 : decode cX6_signs 96 = .ok (.ireturn, 1) := by decide +kernel
set_option maxRecDepth 20000 in
theorem ggX6_sew_X6_isPlace : GoodIn wsX6_sew wsX6_isPlace := goodIn_r _ [5] (by decide +kernel) (by decide +kernel)
set_option maxRecDepth 20000 in
theorem gX6_sew_X6_isPlace : GoodIn wsX6_sew (va_wsS RX6 67 yX6_isPlace wsX6_isPlace) := goodIn_app (goodIn_of _ (by decide +kernel)) ggX6_sew_X6_isPlace
set_option maxRecDepth 20000 in
theorem ggX6_sew_X2_isOpen : GoodIn wsX6_sew wsX2_isOpen := goodIn_r _ [10, 11, 58, 59, 60, 61, 62, 63, 64, 65, 66, 67] (by decide +kernel) (by decide +kernel)
set_option maxRecDepth 20000 in
theorem gX6_sew_X2_isOpen : GoodIn wsX6_sew (wsV RX6 59 RX2 yX2_isOpen wsX2_isOpen) := goodIn_app (goodIn_of _ (by decide +kernel)) ggX6_sew_X2_isOpen
set_option maxRecDepth 20000 in
theorem ggX6_sew_X2_leastHarm : GoodIn wsX6_sew wsX2_leastHarm := goodIn_r _ [15, 11, 16, 17, 18, 19, 9, 20, 21, 22, 23, 24, 25, 26, 27, 28, 29, 30, 31, 32, 33, 34, 35, 36, 37, 38, 39, 40, 41, 42, 43, 44, 45, 46, 47, 48, 49, 50, 51, 52, 58, 59, 60, 61, 62, 63, 64, 65, 66, 67, 68, 69, 70, 71, 72, 73] (by decide +kernel) (by decide +kernel)
set_option maxRecDepth 20000 in
theorem gX6_sew_X2_leastHarm : GoodIn wsX6_sew (wsV RX6 128 RX2 yX2_leastHarm wsX2_leastHarm) := goodIn_app (goodIn_of _ (by decide +kernel)) ggX6_sew_X2_leastHarm
theorem dX6_sew_0 : decode cX6_sew 0 = .ok (.iload_n 1, 1) := by decide +kernel
theorem dX6_sew_1 : decode cX6_sew 1 = .ok (.invokestatic 67, 3) := by decide +kernel
theorem dX6_sew_4 : decode cX6_sew 4 = .ok (.ifCond .ne 5, 3) := by decide +kernel
theorem dX6_sew_7 : decode cX6_sew 7 = .ok (.iconst (-1), 1) := by decide +kernel
theorem dX6_sew_8 : decode cX6_sew 8 = .ok (.ireturn, 1) := by decide +kernel
theorem dX6_sew_9 : decode cX6_sew 9 = .ok (.iload_n 2, 1) := by decide +kernel
theorem dX6_sew_10 : decode cX6_sew 10 = .ok (.ifCond .lt 8, 3) := by decide +kernel
theorem dX6_sew_13 : decode cX6_sew 13 = .ok (.iload_n 2, 1) := by decide +kernel
theorem dX6_sew_14 : decode cX6_sew 14 = .ok (.iconst 2, 1) := by decide +kernel
theorem dX6_sew_15 : decode cX6_sew 15 = .ok (.if_icmp .le 6, 3) := by decide +kernel
theorem dX6_sew_18 : decode cX6_sew 18 = .ok (.bipush (-2), 2) := by decide +kernel
theorem dX6_sew_20 : decode cX6_sew 20 = .ok (.ireturn, 1) := by decide +kernel
theorem dX6_sew_21 : decode cX6_sew 21 = .ok (.aload_n 0, 1) := by decide +kernel
theorem dX6_sew_22 : decode cX6_sew 22 = .ok (.getfield 20, 3) := by decide +kernel
theorem dX6_sew_25 : decode cX6_sew 25 = .ok (.invokevirtual 59, 3) := by decide +kernel
theorem dX6_sew_28 : decode cX6_sew 28 = .ok (.ifCond .eq 15, 3) := by decide +kernel
theorem dX6_sew_31 : decode cX6_sew 31 = .ok (.aload_n 0, 1) := by decide +kernel
theorem dX6_sew_32 : decode cX6_sew 32 = .ok (.getfield 20, 3) := by decide +kernel
theorem dX6_sew_35 : decode cX6_sew 35 = .ok (.iload_n 1, 1) := by decide +kernel
theorem dX6_sew_36 : decode cX6_sew 36 = .ok (.iload_n 2, 1) := by decide +kernel
theorem dX6_sew_37 : decode cX6_sew 37 = .ok (.invokevirtual 128, 3) := by decide +kernel
theorem dX6_sew_40 : decode cX6_sew 40 = .ok (.goto 5, 3) := by decide +kernel
theorem dX6_sew_43 : decode cX6_sew 43 = .ok (.bipush (-3), 2) := by decide +kernel
theorem dX6_sew_45 : decode cX6_sew 45 = .ok (.ireturn, 1) := by decide +kernel
set_option maxRecDepth 20000 in
theorem ggX6_set_X2_isOpen : GoodIn wsX6_set wsX2_isOpen := goodIn_r _ [6, 7, 18, 19, 20, 21, 22, 23, 24, 25, 26, 27] (by decide +kernel) (by decide +kernel)
set_option maxRecDepth 20000 in
theorem gX6_set_X2_isOpen : GoodIn wsX6_set (wsV RX6 59 RX2 yX2_isOpen wsX2_isOpen) := goodIn_app (goodIn_of _ (by decide +kernel)) ggX6_set_X2_isOpen
set_option maxRecDepth 20000 in
theorem ggX6_set_X2_cheapest : GoodIn wsX6_set wsX2_cheapest := goodIn_r _ [11, 7, 12, 18, 19, 20, 21, 22, 23, 24, 25, 26, 27, 28, 29, 30, 31, 32, 33] (by decide +kernel) (by decide +kernel)
set_option maxRecDepth 20000 in
theorem gX6_set_X2_cheapest : GoodIn wsX6_set (wsV RX6 131 RX2 yX2_cheapest wsX2_cheapest) := goodIn_app (goodIn_of _ (by decide +kernel)) ggX6_set_X2_cheapest
theorem dX6_set_0 : decode cX6_set 0 = .ok (.iload_n 1, 1) := by decide +kernel
theorem dX6_set_1 : decode cX6_set 1 = .ok (.iconst 1, 1) := by decide +kernel
theorem dX6_set_2 : decode cX6_set 2 = .ok (.if_icmp .lt 9, 3) := by decide +kernel
theorem dX6_set_5 : decode cX6_set 5 = .ok (.iload_n 1, 1) := by decide +kernel
theorem dX6_set_6 : decode cX6_set 6 = .ok (.bipush 9, 2) := by decide +kernel
theorem dX6_set_8 : decode cX6_set 8 = .ok (.if_icmp .le 6, 3) := by decide +kernel
theorem dX6_set_11 : decode cX6_set 11 = .ok (.bipush (-2), 2) := by decide +kernel
theorem dX6_set_13 : decode cX6_set 13 = .ok (.ireturn, 1) := by decide +kernel
theorem dX6_set_14 : decode cX6_set 14 = .ok (.aload_n 0, 1) := by decide +kernel
theorem dX6_set_15 : decode cX6_set 15 = .ok (.getfield 20, 3) := by decide +kernel
theorem dX6_set_18 : decode cX6_set 18 = .ok (.invokevirtual 59, 3) := by decide +kernel
theorem dX6_set_21 : decode cX6_set 21 = .ok (.ifCond .eq 14, 3) := by decide +kernel
theorem dX6_set_24 : decode cX6_set 24 = .ok (.aload_n 0, 1) := by decide +kernel
theorem dX6_set_25 : decode cX6_set 25 = .ok (.getfield 20, 3) := by decide +kernel
theorem dX6_set_28 : decode cX6_set 28 = .ok (.iload_n 1, 1) := by decide +kernel
theorem dX6_set_29 : decode cX6_set 29 = .ok (.invokevirtual 131, 3) := by decide +kernel
theorem dX6_set_32 : decode cX6_set 32 = .ok (.goto 5, 3) := by decide +kernel
theorem dX6_set_35 : decode cX6_set 35 = .ok (.bipush (-3), 2) := by decide +kernel
theorem dX6_set_37 : decode cX6_set 37 = .ok (.ireturn, 1) := by decide +kernel
set_option maxRecDepth 20000 in
theorem ggX6_tin_X2_isOpen : GoodIn wsX6_tin wsX2_isOpen := goodIn_r _ [11, 12, 91, 92, 93, 94, 95, 96, 97, 98, 99, 100] (by decide +kernel) (by decide +kernel)
set_option maxRecDepth 20000 in
theorem gX6_tin_X2_isOpen : GoodIn wsX6_tin (wsV RX6 59 RX2 yX2_isOpen wsX2_isOpen) := goodIn_app (goodIn_of _ (by decide +kernel)) ggX6_tin_X2_isOpen
set_option maxRecDepth 20000 in
theorem ggX6_tin_X2_buttons : GoodIn wsX6_tin wsX2_buttons := goodIn_r _ [16, 12, 17, 91, 92, 93, 94, 95, 96, 97, 98, 99, 100, 101, 102, 103, 104, 105, 106] (by decide +kernel) (by decide +kernel)
set_option maxRecDepth 20000 in
theorem gX6_tin_X2_buttons : GoodIn wsX6_tin (wsV RX6 136 RX2 yX2_buttons wsX2_buttons) := goodIn_app (goodIn_of _ (by decide +kernel)) ggX6_tin_X2_buttons
set_option maxRecDepth 20000 in
theorem ggX6_tin_X2_alikeButtons : GoodIn wsX6_tin wsX2_alikeButtons := goodIn_r _ [21, 12, 17, 22, 23, 24, 10, 25, 26, 27, 28, 29, 30, 31, 32, 33, 34, 35, 36, 37, 38, 39, 40, 41, 42, 4, 5, 6, 43, 44, 45, 46, 47, 48, 49, 50, 51, 52, 53, 54, 55, 56, 57, 58, 59, 60, 61, 62, 63, 64, 65, 66, 67, 68, 69, 70, 71, 72, 91, 92, 93, 94, 95, 96, 97, 98, 99, 100, 101, 102, 103, 104, 105, 106] (by decide +kernel) (by decide +kernel)
set_option maxRecDepth 20000 in
theorem gX6_tin_X2_alikeButtons : GoodIn wsX6_tin (wsV RX6 140 RX2 yX2_alikeButtons wsX2_alikeButtons) := goodIn_app (goodIn_of _ (by decide +kernel)) ggX6_tin_X2_alikeButtons
set_option maxRecDepth 20000 in
theorem ggX6_tin_X4_share : GoodIn wsX6_tin wsX4_share := goodIn_r _ [76, 77, 78, 5, 79, 80, 81, 75, 82, 83, 84, 85] (by decide +kernel) (by decide +kernel)
set_option maxRecDepth 20000 in
theorem gX6_tin_X4_share : GoodIn wsX6_tin (va_wsS RX6 148 yX4_share wsX4_share) := goodIn_app (goodIn_of _ (by decide +kernel)) ggX6_tin_X4_share
theorem dX6_tin_0 : decode cX6_tin 0 = .ok (.iload_n 1, 1) := by decide +kernel
theorem dX6_tin_1 : decode cX6_tin 1 = .ok (.ifCond .lt 28, 3) := by decide +kernel
theorem dX6_tin_4 : decode cX6_tin 4 = .ok (.iload_n 1, 1) := by decide +kernel
theorem dX6_tin_5 : decode cX6_tin 5 = .ok (.bipush 9, 2) := by decide +kernel
theorem dX6_tin_7 : decode cX6_tin 7 = .ok (.if_icmp .gt 22, 3) := by decide +kernel
theorem dX6_tin_10 : decode cX6_tin 10 = .ok (.iload_n 2, 1) := by decide +kernel
theorem dX6_tin_11 : decode cX6_tin 11 = .ok (.ifCond .lt 18, 3) := by decide +kernel
theorem dX6_tin_14 : decode cX6_tin 14 = .ok (.iload_n 2, 1) := by decide +kernel
theorem dX6_tin_15 : decode cX6_tin 15 = .ok (.iconst 1, 1) := by decide +kernel
theorem dX6_tin_16 : decode cX6_tin 16 = .ok (.if_icmp .gt 13, 3) := by decide +kernel
theorem dX6_tin_19 : decode cX6_tin 19 = .ok (.aload_n 0, 1) := by decide +kernel
theorem dX6_tin_20 : decode cX6_tin 20 = .ok (.getfield 20, 3) := by decide +kernel
theorem dX6_tin_23 : decode cX6_tin 23 = .ok (.invokevirtual 59, 3) := by decide +kernel
theorem dX6_tin_26 : decode cX6_tin 26 = .ok (.ifCond .ne 7, 3) := by decide +kernel
theorem dX6_tin_29 : decode cX6_tin 29 = .ok (.ldc2_w 134, 3) := by decide +kernel
theorem dX6_tin_32 : decode cX6_tin 32 = .ok (.lreturn, 1) := by decide +kernel
theorem dX6_tin_33 : decode cX6_tin 33 = .ok (.aload_n 0, 1) := by decide +kernel
theorem dX6_tin_34 : decode cX6_tin 34 = .ok (.getfield 20, 3) := by decide +kernel
theorem dX6_tin_37 : decode cX6_tin 37 = .ok (.invokevirtual 136, 3) := by decide +kernel
theorem dX6_tin_40 : decode cX6_tin 40 = .ok (.istore_n 3, 1) := by decide +kernel
theorem dX6_tin_41 : decode cX6_tin 41 = .ok (.iload_n 3, 1) := by decide +kernel
theorem dX6_tin_42 : decode cX6_tin 42 = .ok (.aload_n 0, 1) := by decide +kernel
theorem dX6_tin_43 : decode cX6_tin 43 = .ok (.getfield 20, 3) := by decide +kernel
theorem dX6_tin_46 : decode cX6_tin 46 = .ok (.invokevirtual 140, 3) := by decide +kernel
theorem dX6_tin_49 : decode cX6_tin 49 = .ok (.iload_n 1, 1) := by decide +kernel
theorem dX6_tin_50 : decode cX6_tin 50 = .ok (.iload_n 3, 1) := by decide +kernel
theorem dX6_tin_51 : decode cX6_tin 51 = .ok (.invokestatic 143, 3) := by decide +kernel
theorem dX6_tin_54 : decode cX6_tin 54 = .ok (.iload_n 2, 1) := by decide +kernel
theorem dX6_tin_55 : decode cX6_tin 55 = .ok (.invokestatic 148, 3) := by decide +kernel
theorem dX6_tin_58 : decode cX6_tin 58 = .ok (.lreturn, 1) := by decide +kernel
set_option maxRecDepth 20000 in
theorem ggX6_half_X2_isOpen : GoodIn wsX6_half wsX2_isOpen := goodIn_r _ [6, 7, 84, 85, 86, 87, 88, 89, 90, 91, 92, 93] (by decide +kernel) (by decide +kernel)
set_option maxRecDepth 20000 in
theorem gX6_half_X2_isOpen : GoodIn wsX6_half (wsV RX6 59 RX2 yX2_isOpen wsX2_isOpen) := goodIn_app (goodIn_of _ (by decide +kernel)) ggX6_half_X2_isOpen
set_option maxRecDepth 20000 in
theorem ggX6_half_X2_buttons : GoodIn wsX6_half wsX2_buttons := goodIn_r _ [11, 7, 12, 84, 85, 86, 87, 88, 89, 90, 91, 92, 93, 94, 95, 96, 97, 98, 99] (by decide +kernel) (by decide +kernel)
set_option maxRecDepth 20000 in
theorem gX6_half_X2_buttons : GoodIn wsX6_half (wsV RX6 136 RX2 yX2_buttons wsX2_buttons) := goodIn_app (goodIn_of _ (by decide +kernel)) ggX6_half_X2_buttons
set_option maxRecDepth 20000 in
theorem ggX6_half_X2_alikeButtons : GoodIn wsX6_half wsX2_alikeButtons := goodIn_r _ [16, 7, 12, 17, 18, 19, 5, 20, 21, 22, 23, 24, 25, 26, 27, 28, 29, 30, 31, 32, 33, 34, 35, 36, 37, 38, 39, 40, 41, 42, 43, 44, 45, 46, 47, 48, 49, 50, 51, 52, 53, 54, 55, 56, 57, 58, 59, 60, 61, 62, 63, 64, 65, 66, 67, 68, 69, 70, 84, 85, 86, 87, 88, 89, 90, 91, 92, 93, 94, 95, 96, 97, 98, 99] (by decide +kernel) (by decide +kernel)
set_option maxRecDepth 20000 in
theorem gX6_half_X2_alikeButtons : GoodIn wsX6_half (wsV RX6 140 RX2 yX2_alikeButtons wsX2_alikeButtons) := goodIn_app (goodIn_of _ (by decide +kernel)) ggX6_half_X2_alikeButtons
set_option maxRecDepth 20000 in
theorem ggX6_half_X4_fewestForHalf : GoodIn wsX6_half wsX4_fewestForHalf := goodIn_r _ [74, 75, 76, 77, 73, 78] (by decide +kernel) (by decide +kernel)
set_option maxRecDepth 20000 in
theorem gX6_half_X4_fewestForHalf : GoodIn wsX6_half (va_wsS RX6 154 yX4_fewestForHalf wsX4_fewestForHalf) := goodIn_app (goodIn_of _ (by decide +kernel)) ggX6_half_X4_fewestForHalf
theorem dX6_half_0 : decode cX6_half 0 = .ok (.aload_n 0, 1) := by decide +kernel
theorem dX6_half_1 : decode cX6_half 1 = .ok (.getfield 20, 3) := by decide +kernel
theorem dX6_half_4 : decode cX6_half 4 = .ok (.invokevirtual 59, 3) := by decide +kernel
theorem dX6_half_7 : decode cX6_half 7 = .ok (.ifCond .eq 23, 3) := by decide +kernel
theorem dX6_half_10 : decode cX6_half 10 = .ok (.aload_n 0, 1) := by decide +kernel
theorem dX6_half_11 : decode cX6_half 11 = .ok (.getfield 20, 3) := by decide +kernel
theorem dX6_half_14 : decode cX6_half 14 = .ok (.invokevirtual 136, 3) := by decide +kernel
theorem dX6_half_17 : decode cX6_half 17 = .ok (.aload_n 0, 1) := by decide +kernel
theorem dX6_half_18 : decode cX6_half 18 = .ok (.getfield 20, 3) := by decide +kernel
theorem dX6_half_21 : decode cX6_half 21 = .ok (.invokevirtual 140, 3) := by decide +kernel
theorem dX6_half_24 : decode cX6_half 24 = .ok (.invokestatic 154, 3) := by decide +kernel
theorem dX6_half_27 : decode cX6_half 27 = .ok (.goto 5, 3) := by decide +kernel
theorem dX6_half_30 : decode cX6_half 30 = .ok (.bipush (-3), 2) := by decide +kernel
theorem dX6_half_32 : decode cX6_half 32 = .ok (.ireturn, 1) := by decide +kernel
set_option maxRecDepth 20000 in
theorem ggX6_reading_X2_hasTube : GoodIn wsX6_reading wsX2_hasTube := goodIn_r _ [7, 8, 22, 23, 24, 25, 26, 27, 28, 29, 30, 31] (by decide +kernel) (by decide +kernel)
set_option maxRecDepth 20000 in
theorem gX6_reading_X2_hasTube : GoodIn wsX6_reading (wsV RX6 75 RX2 yX2_hasTube wsX2_hasTube) := goodIn_app (goodIn_of _ (by decide +kernel)) ggX6_reading_X2_hasTube
set_option maxRecDepth 20000 in
theorem ggX6_reading_X0_add : GoodIn wsX6_reading wsX0_add := goodIn_r _ [13, 14, 15, 16, 32, 33, 34] (by decide +kernel) (by decide +kernel)
set_option maxRecDepth 20000 in
theorem gX6_reading_X0_add : GoodIn wsX6_reading (wsV RX6 157 RX0 yX0_add wsX0_add) := goodIn_app (goodIn_of _ (by decide +kernel)) ggX6_reading_X0_add
theorem dX6_reading_0 : decode cX6_reading 0 = .ok (.aload_n 0, 1) := by decide +kernel
theorem dX6_reading_1 : decode cX6_reading 1 = .ok (.getfield 20, 3) := by decide +kernel
theorem dX6_reading_4 : decode cX6_reading 4 = .ok (.iload_n 1, 1) := by decide +kernel
theorem dX6_reading_5 : decode cX6_reading 5 = .ok (.invokevirtual 75, 3) := by decide +kernel
theorem dX6_reading_8 : decode cX6_reading 8 = .ok (.ifCond .eq 15, 3) := by decide +kernel
theorem dX6_reading_11 : decode cX6_reading 11 = .ok (.aload_n 0, 1) := by decide +kernel
theorem dX6_reading_12 : decode cX6_reading 12 = .ok (.getfield 27, 3) := by decide +kernel
theorem dX6_reading_15 : decode cX6_reading 15 = .ok (.iload_n 1, 1) := by decide +kernel
theorem dX6_reading_16 : decode cX6_reading 16 = .ok (.iload_n 2, 1) := by decide +kernel
theorem dX6_reading_17 : decode cX6_reading 17 = .ok (.invokevirtual 157, 3) := by decide +kernel
theorem dX6_reading_20 : decode cX6_reading 20 = .ok (.goto 4, 3) := by decide +kernel
theorem dX6_reading_23 : decode cX6_reading 23 = .ok (.iconst (-1), 1) := by decide +kernel
theorem dX6_reading_24 : decode cX6_reading 24 = .ok (.ireturn, 1) := by decide +kernel
theorem dX6_back_0 : decode cX6_back 0 = .ok (.iload_n 1, 1) := by decide +kernel
theorem dX6_back_1 : decode cX6_back 1 = .ok (.ifCond .lt 14, 3) := by decide +kernel
theorem dX6_back_4 : decode cX6_back 4 = .ok (.iload_n 1, 1) := by decide +kernel
theorem dX6_back_5 : decode cX6_back 5 = .ok (.aload_n 0, 1) := by decide +kernel
theorem dX6_back_6 : decode cX6_back 6 = .ok (.getfield 27, 3) := by decide +kernel
theorem dX6_back_9 : decode cX6_back 9 = .ok (.getfield 53, 3) := by decide +kernel
theorem dX6_back_12 : decode cX6_back 12 = .ok (.if_icmp .le 6, 3) := by decide +kernel
theorem dX6_back_15 : decode cX6_back 15 = .ok (.bipush (-2), 2) := by decide +kernel
theorem dX6_back_17 : decode cX6_back 17 = .ok (.ireturn, 1) := by decide +kernel
theorem dX6_back_18 : decode cX6_back 18 = .ok (.aload_n 0, 1) := by decide +kernel
theorem dX6_back_19 : decode cX6_back 19 = .ok (.getfield 27, 3) := by decide +kernel
theorem dX6_back_22 : decode cX6_back 22 = .ok (.dup, 1) := by decide +kernel
theorem dX6_back_23 : decode cX6_back 23 = .ok (.getfield 53, 3) := by decide +kernel
theorem dX6_back_26 : decode cX6_back 26 = .ok (.iload_n 1, 1) := by decide +kernel
theorem dX6_back_27 : decode cX6_back 27 = .ok (.isub, 1) := by decide +kernel
theorem dX6_back_28 : decode cX6_back 28 = .ok (.putfield 53, 3) := by decide +kernel
theorem dX6_back_31 : decode cX6_back 31 = .ok (.aload_n 0, 1) := by decide +kernel
theorem dX6_back_32 : decode cX6_back 32 = .ok (.getfield 27, 3) := by decide +kernel
theorem dX6_back_35 : decode cX6_back 35 = .ok (.getfield 53, 3) := by decide +kernel
theorem dX6_back_38 : decode cX6_back 38 = .ok (.ireturn, 1) := by decide +kernel
set_option maxRecDepth 20000 in
theorem ggX6_memories_X2_isOpen : GoodIn wsX6_memories wsX2_isOpen := goodIn_r _ [7, 8, 81, 82, 83, 84, 85, 86, 87, 88, 89, 90] (by decide +kernel) (by decide +kernel)
set_option maxRecDepth 20000 in
theorem gX6_memories_X2_isOpen : GoodIn wsX6_memories (wsV RX6 59 RX2 yX2_isOpen wsX2_isOpen) := goodIn_app (goodIn_of _ (by decide +kernel)) ggX6_memories_X2_isOpen
set_option maxRecDepth 20000 in
theorem ggX6_memories_X0_fit : GoodIn wsX6_memories wsX0_fit := goodIn_r _ [13, 14, 15, 16, 17, 18, 19, 6, 20, 21, 22, 23, 24, 25, 26, 27, 28, 29, 30, 31, 8, 32, 33, 34, 35, 36, 37, 38, 39, 40, 41, 42, 43, 44, 45, 46, 47, 48, 49, 50, 51, 52, 53, 54, 55, 56, 57, 58, 59, 60, 61, 62, 63, 64, 65, 66, 67, 68, 69, 70, 71, 91, 92, 93, 81, 82, 83, 84, 85, 86, 87, 88, 89, 90, 94, 95, 96, 97, 98, 99] (by decide +kernel) (by decide +kernel)
set_option maxRecDepth 20000 in
theorem gX6_memories_X0_fit : GoodIn wsX6_memories (wsV RX6 161 RX0 yX0_fit wsX0_fit) := goodIn_app (goodIn_of _ (by decide +kernel)) ggX6_memories_X0_fit
set_option maxRecDepth 20000 in
theorem ggX6_memories_X6_memory : GoodIn wsX6_memories wsX6_memory := goodIn_r _ [75] (by decide +kernel) (by decide +kernel)
set_option maxRecDepth 20000 in
theorem gX6_memories_X6_memory : GoodIn wsX6_memories (va_wsS RX6 93 yX6_memory wsX6_memory) := goodIn_app (goodIn_of _ (by decide +kernel)) ggX6_memories_X6_memory
theorem dX6_memories_0 : decode cX6_memories 0 = .ok (.iload_n 1, 1) := by decide +kernel
theorem dX6_memories_1 : decode cX6_memories 1 = .ok (.ifCond .lt 8, 3) := by decide +kernel
theorem dX6_memories_4 : decode cX6_memories 4 = .ok (.iload_n 1, 1) := by decide +kernel
theorem dX6_memories_5 : decode cX6_memories 5 = .ok (.iconst 1, 1) := by decide +kernel
theorem dX6_memories_6 : decode cX6_memories 6 = .ok (.if_icmp .le 6, 3) := by decide +kernel
theorem dX6_memories_9 : decode cX6_memories 9 = .ok (.bipush (-2), 2) := by decide +kernel
theorem dX6_memories_11 : decode cX6_memories 11 = .ok (.ireturn, 1) := by decide +kernel
theorem dX6_memories_12 : decode cX6_memories 12 = .ok (.aload_n 0, 1) := by decide +kernel
theorem dX6_memories_13 : decode cX6_memories 13 = .ok (.getfield 20, 3) := by decide +kernel
theorem dX6_memories_16 : decode cX6_memories 16 = .ok (.invokevirtual 59, 3) := by decide +kernel
theorem dX6_memories_19 : decode cX6_memories 19 = .ok (.ifCond .ne 6, 3) := by decide +kernel
theorem dX6_memories_22 : decode cX6_memories 22 = .ok (.bipush (-3), 2) := by decide +kernel
theorem dX6_memories_24 : decode cX6_memories 24 = .ok (.ireturn, 1) := by decide +kernel
theorem dX6_memories_25 : decode cX6_memories 25 = .ok (.aload_n 0, 1) := by decide +kernel
theorem dX6_memories_26 : decode cX6_memories 26 = .ok (.getfield 20, 3) := by decide +kernel
theorem dX6_memories_29 : decode cX6_memories 29 = .ok (.getfield 87, 3) := by decide +kernel
theorem dX6_memories_32 : decode cX6_memories 32 = .ok (.istore_n 2, 1) := by decide +kernel
theorem dX6_memories_33 : decode cX6_memories 33 = .ok (.aload_n 0, 1) := by decide +kernel
theorem dX6_memories_34 : decode cX6_memories 34 = .ok (.getfield 20, 3) := by decide +kernel
theorem dX6_memories_37 : decode cX6_memories 37 = .ok (.getfield 90, 3) := by decide +kernel
theorem dX6_memories_40 : decode cX6_memories 40 = .ok (.istore_n 3, 1) := by decide +kernel
theorem dX6_memories_41 : decode cX6_memories 41 = .ok (.iconst 0, 1) := by decide +kernel
theorem dX6_memories_42 : decode cX6_memories 42 = .ok (.istore 4, 2) := by decide +kernel
theorem dX6_memories_44 : decode cX6_memories 44 = .ok (.bipush (-9), 2) := by decide +kernel
theorem dX6_memories_46 : decode cX6_memories 46 = .ok (.istore 5, 2) := by decide +kernel
theorem dX6_memories_48 : decode cX6_memories 48 = .ok (.iconst 0, 1) := by decide +kernel
theorem dX6_memories_49 : decode cX6_memories 49 = .ok (.istore 6, 2) := by decide +kernel
theorem dX6_memories_51 : decode cX6_memories 51 = .ok (.iload 6, 2) := by decide +kernel
theorem dX6_memories_53 : decode cX6_memories 53 = .ok (.iconst 3, 1) := by decide +kernel
theorem dX6_memories_54 : decode cX6_memories 54 = .ok (.if_icmp .gt 78, 3) := by decide +kernel
theorem dX6_memories_57 : decode cX6_memories 57 = .ok (.iconst 0, 1) := by decide +kernel
theorem dX6_memories_58 : decode cX6_memories 58 = .ok (.istore 7, 2) := by decide +kernel
theorem dX6_memories_60 : decode cX6_memories 60 = .ok (.iload 7, 2) := by decide +kernel
theorem dX6_memories_62 : decode cX6_memories 62 = .ok (.iconst 3, 1) := by decide +kernel
theorem dX6_memories_63 : decode cX6_memories 63 = .ok (.if_icmp .gt 63, 3) := by decide +kernel
theorem dX6_memories_66 : decode cX6_memories 66 = .ok (.aload_n 0, 1) := by decide +kernel
theorem dX6_memories_67 : decode cX6_memories 67 = .ok (.getfield 20, 3) := by decide +kernel
theorem dX6_memories_70 : decode cX6_memories 70 = .ok (.iload 6, 2) := by decide +kernel
theorem dX6_memories_72 : decode cX6_memories 72 = .ok (.putfield 87, 3) := by decide +kernel
theorem dX6_memories_75 : decode cX6_memories 75 = .ok (.aload_n 0, 1) := by decide +kernel
theorem dX6_memories_76 : decode cX6_memories 76 = .ok (.getfield 20, 3) := by decide +kernel
theorem dX6_memories_79 : decode cX6_memories 79 = .ok (.iload 7, 2) := by decide +kernel
theorem dX6_memories_81 : decode cX6_memories 81 = .ok (.putfield 90, 3) := by decide +kernel
theorem dX6_memories_84 : decode cX6_memories 84 = .ok (.aload_n 0, 1) := by decide +kernel
theorem dX6_memories_85 : decode cX6_memories 85 = .ok (.getfield 27, 3) := by decide +kernel
theorem dX6_memories_88 : decode cX6_memories 88 = .ok (.aload_n 0, 1) := by decide +kernel
theorem dX6_memories_89 : decode cX6_memories 89 = .ok (.getfield 20, 3) := by decide +kernel
theorem dX6_memories_92 : decode cX6_memories 92 = .ok (.invokevirtual 161, 3) := by decide +kernel
theorem dX6_memories_95 : decode cX6_memories 95 = .ok (.ifCond .eq 25, 3) := by decide +kernel
theorem dX6_memories_98 : decode cX6_memories 98 = .ok (.iload 4, 2) := by decide +kernel
theorem dX6_memories_100 : decode cX6_memories 100 = .ok (.ifCond .ne 13, 3) := by decide +kernel
theorem dX6_memories_103 : decode cX6_memories 103 = .ok (.iload 6, 2) := by decide +kernel
theorem dX6_memories_105 : decode cX6_memories 105 = .ok (.iload 7, 2) := by decide +kernel
theorem dX6_memories_107 : decode cX6_memories 107 = .ok (.invokestatic 93, 3) := by decide +kernel
theorem dX6_memories_110 : decode cX6_memories 110 = .ok (.goto 5, 3) := by decide +kernel
theorem dX6_memories_113 : decode cX6_memories 113 = .ok (.iload 5, 2) := by decide +kernel
theorem dX6_memories_115 : decode cX6_memories 115 = .ok (.istore 5, 2) := by decide +kernel
theorem dX6_memories_117 : decode cX6_memories 117 = .ok (.iinc 4 1, 3) := by decide +kernel
theorem dX6_memories_120 : decode cX6_memories 120 = .ok (.iinc 7 1, 3) := by decide +kernel
theorem dX6_memories_123 : decode cX6_memories 123 = .ok (.goto (-63), 3) := by decide +kernel
theorem dX6_memories_126 : decode cX6_memories 126 = .ok (.iinc 6 1, 3) := by decide +kernel
theorem dX6_memories_129 : decode cX6_memories 129 = .ok (.goto (-78), 3) := by decide +kernel
theorem dX6_memories_132 : decode cX6_memories 132 = .ok (.aload_n 0, 1) := by decide +kernel
theorem dX6_memories_133 : decode cX6_memories 133 = .ok (.getfield 20, 3) := by decide +kernel
theorem dX6_memories_136 : decode cX6_memories 136 = .ok (.iload_n 2, 1) := by decide +kernel
theorem dX6_memories_137 : decode cX6_memories 137 = .ok (.putfield 87, 3) := by decide +kernel
theorem dX6_memories_140 : decode cX6_memories 140 = .ok (.aload_n 0, 1) := by decide +kernel
theorem dX6_memories_141 : decode cX6_memories 141 = .ok (.getfield 20, 3) := by decide +kernel
theorem dX6_memories_144 : decode cX6_memories 144 = .ok (.iload_n 3, 1) := by decide +kernel
theorem dX6_memories_145 : decode cX6_memories 145 = .ok (.putfield 90, 3) := by decide +kernel
theorem dX6_memories_148 : decode cX6_memories 148 = .ok (.iload_n 1, 1) := by decide +kernel
theorem dX6_memories_149 : decode cX6_memories 149 = .ok (.ifCond .ne 8, 3) := by decide +kernel
theorem dX6_memories_152 : decode cX6_memories 152 = .ok (.iload 4, 2) := by decide +kernel
theorem dX6_memories_154 : decode cX6_memories 154 = .ok (.goto 5, 3) := by decide +kernel
theorem dX6_memories_157 : decode cX6_memories 157 = .ok (.iload 5, 2) := by decide +kernel
theorem dX6_memories_159 : decode cX6_memories 159 = .ok (.ireturn, 1) := by decide +kernel
set_option maxRecDepth 20000 in
theorem ggX6_kinds_X2_hasTube : GoodIn wsX6_kinds wsX2_hasTube := goodIn_r _ [7, 8, 74, 75, 76, 77, 78, 79, 80, 81, 82, 83] (by decide +kernel) (by decide +kernel)
set_option maxRecDepth 20000 in
theorem gX6_kinds_X2_hasTube : GoodIn wsX6_kinds (wsV RX6 75 RX2 yX2_hasTube wsX2_hasTube) := goodIn_app (goodIn_of _ (by decide +kernel)) ggX6_kinds_X2_hasTube
set_option maxRecDepth 20000 in
theorem ggX6_kinds_X0_fit : GoodIn wsX6_kinds wsX0_fit := goodIn_r _ [13, 14, 15, 16, 17, 18, 19, 6, 20, 21, 22, 23, 24, 25, 26, 27, 28, 4, 5, 7, 8, 29, 30, 31, 32, 33, 34, 35, 36, 37, 38, 39, 40, 41, 42, 43, 44, 45, 46, 47, 48, 49, 50, 51, 52, 53, 54, 55, 56, 57, 58, 59, 60, 61, 62, 63, 64, 65, 66, 67, 68, 90, 91, 92, 74, 75, 76, 77, 78, 79, 80, 81, 82, 83, 84, 85, 86, 87, 88, 89] (by decide +kernel) (by decide +kernel)
set_option maxRecDepth 20000 in
theorem gX6_kinds_X0_fit : GoodIn wsX6_kinds (wsV RX6 161 RX0 yX0_fit wsX0_fit) := goodIn_app (goodIn_of _ (by decide +kernel)) ggX6_kinds_X0_fit
theorem dX6_kinds_0 : decode cX6_kinds 0 = .ok (.aload_n 0, 1) := by decide +kernel
theorem dX6_kinds_1 : decode cX6_kinds 1 = .ok (.getfield 20, 3) := by decide +kernel
theorem dX6_kinds_4 : decode cX6_kinds 4 = .ok (.iload_n 1, 1) := by decide +kernel
theorem dX6_kinds_5 : decode cX6_kinds 5 = .ok (.invokevirtual 75, 3) := by decide +kernel
theorem dX6_kinds_8 : decode cX6_kinds 8 = .ok (.ifCond .ne 5, 3) := by decide +kernel
theorem dX6_kinds_11 : decode cX6_kinds 11 = .ok (.iconst (-1), 1) := by decide +kernel
theorem dX6_kinds_12 : decode cX6_kinds 12 = .ok (.ireturn, 1) := by decide +kernel
theorem dX6_kinds_13 : decode cX6_kinds 13 = .ok (.aload_n 0, 1) := by decide +kernel
theorem dX6_kinds_14 : decode cX6_kinds 14 = .ok (.getfield 20, 3) := by decide +kernel
theorem dX6_kinds_17 : decode cX6_kinds 17 = .ok (.getfield 78, 3) := by decide +kernel
theorem dX6_kinds_20 : decode cX6_kinds 20 = .ok (.iload_n 1, 1) := by decide +kernel
theorem dX6_kinds_21 : decode cX6_kinds 21 = .ok (.aaload, 1) := by decide +kernel
theorem dX6_kinds_22 : decode cX6_kinds 22 = .ok (.astore_n 2, 1) := by decide +kernel
theorem dX6_kinds_23 : decode cX6_kinds 23 = .ok (.aload_n 2, 1) := by decide +kernel
theorem dX6_kinds_24 : decode cX6_kinds 24 = .ok (.getfield 165, 3) := by decide +kernel
theorem dX6_kinds_27 : decode cX6_kinds 27 = .ok (.istore_n 3, 1) := by decide +kernel
theorem dX6_kinds_28 : decode cX6_kinds 28 = .ok (.iconst 0, 1) := by decide +kernel
theorem dX6_kinds_29 : decode cX6_kinds 29 = .ok (.istore 4, 2) := by decide +kernel
theorem dX6_kinds_31 : decode cX6_kinds 31 = .ok (.iconst 0, 1) := by decide +kernel
theorem dX6_kinds_32 : decode cX6_kinds 32 = .ok (.istore 5, 2) := by decide +kernel
theorem dX6_kinds_34 : decode cX6_kinds 34 = .ok (.iload 5, 2) := by decide +kernel
theorem dX6_kinds_36 : decode cX6_kinds 36 = .ok (.iconst 3, 1) := by decide +kernel
theorem dX6_kinds_37 : decode cX6_kinds 37 = .ok (.if_icmp .ge 42, 3) := by decide +kernel
theorem dX6_kinds_40 : decode cX6_kinds 40 = .ok (.aload_n 2, 1) := by decide +kernel
theorem dX6_kinds_41 : decode cX6_kinds 41 = .ok (.iload 5, 2) := by decide +kernel
theorem dX6_kinds_43 : decode cX6_kinds 43 = .ok (.putfield 165, 3) := by decide +kernel
theorem dX6_kinds_46 : decode cX6_kinds 46 = .ok (.iload 4, 2) := by decide +kernel
theorem dX6_kinds_48 : decode cX6_kinds 48 = .ok (.aload_n 0, 1) := by decide +kernel
theorem dX6_kinds_49 : decode cX6_kinds 49 = .ok (.getfield 27, 3) := by decide +kernel
theorem dX6_kinds_52 : decode cX6_kinds 52 = .ok (.aload_n 0, 1) := by decide +kernel
theorem dX6_kinds_53 : decode cX6_kinds 53 = .ok (.getfield 20, 3) := by decide +kernel
theorem dX6_kinds_56 : decode cX6_kinds 56 = .ok (.invokevirtual 161, 3) := by decide +kernel
theorem dX6_kinds_59 : decode cX6_kinds 59 = .ok (.ifCond .eq 10, 3) := by decide +kernel
theorem dX6_kinds_62 : decode cX6_kinds 62 = .ok (.iconst 1, 1) := by decide +kernel
theorem dX6_kinds_63 : decode cX6_kinds 63 = .ok (.iload 5, 2) := by decide +kernel
theorem dX6_kinds_65 : decode cX6_kinds 65 = .ok (.ishl, 1) := by decide +kernel
theorem dX6_kinds_66 : decode cX6_kinds 66 = .ok (.goto 4, 3) := by decide +kernel
theorem dX6_kinds_69 : decode cX6_kinds 69 = .ok (.iconst 0, 1) := by decide +kernel
theorem dX6_kinds_70 : decode cX6_kinds 70 = .ok (.ior, 1) := by decide +kernel
theorem dX6_kinds_71 : decode cX6_kinds 71 = .ok (.istore 4, 2) := by decide +kernel
theorem dX6_kinds_73 : decode cX6_kinds 73 = .ok (.iinc 5 1, 3) := by decide +kernel
theorem dX6_kinds_76 : decode cX6_kinds 76 = .ok (.goto (-42), 3) := by decide +kernel
theorem dX6_kinds_79 : decode cX6_kinds 79 = .ok (.aload_n 2, 1) := by decide +kernel
theorem dX6_kinds_80 : decode cX6_kinds 80 = .ok (.iload_n 3, 1) := by decide +kernel
theorem dX6_kinds_81 : decode cX6_kinds 81 = .ok (.putfield 165, 3) := by decide +kernel
theorem dX6_kinds_84 : decode cX6_kinds 84 = .ok (.iload 4, 2) := by decide +kernel
theorem dX6_kinds_86 : decode cX6_kinds 86 = .ok (.ireturn, 1) := by decide +kernel
set_option maxRecDepth 20000 in
theorem ggX6_colours_X2_hasTube : GoodIn wsX6_colours wsX2_hasTube := goodIn_r _ [7, 8, 74, 75, 76, 77, 78, 79, 80, 81, 82, 83] (by decide +kernel) (by decide +kernel)
set_option maxRecDepth 20000 in
theorem gX6_colours_X2_hasTube : GoodIn wsX6_colours (wsV RX6 75 RX2 yX2_hasTube wsX2_hasTube) := goodIn_app (goodIn_of _ (by decide +kernel)) ggX6_colours_X2_hasTube
set_option maxRecDepth 20000 in
theorem ggX6_colours_X0_fit : GoodIn wsX6_colours wsX0_fit := goodIn_r _ [13, 14, 15, 16, 17, 18, 19, 6, 20, 21, 22, 23, 24, 25, 26, 27, 28, 4, 5, 7, 8, 29, 30, 31, 32, 33, 34, 35, 36, 37, 38, 39, 40, 41, 42, 43, 44, 45, 46, 47, 48, 49, 50, 51, 52, 53, 54, 55, 56, 57, 58, 59, 60, 61, 62, 63, 64, 65, 66, 67, 68, 90, 91, 92, 74, 75, 76, 77, 78, 79, 80, 81, 82, 83, 84, 85, 86, 87, 88, 89] (by decide +kernel) (by decide +kernel)
set_option maxRecDepth 20000 in
theorem gX6_colours_X0_fit : GoodIn wsX6_colours (wsV RX6 161 RX0 yX0_fit wsX0_fit) := goodIn_app (goodIn_of _ (by decide +kernel)) ggX6_colours_X0_fit
theorem dX6_colours_0 : decode cX6_colours 0 = .ok (.aload_n 0, 1) := by decide +kernel
theorem dX6_colours_1 : decode cX6_colours 1 = .ok (.getfield 20, 3) := by decide +kernel
theorem dX6_colours_4 : decode cX6_colours 4 = .ok (.iload_n 1, 1) := by decide +kernel
theorem dX6_colours_5 : decode cX6_colours 5 = .ok (.invokevirtual 75, 3) := by decide +kernel
theorem dX6_colours_8 : decode cX6_colours 8 = .ok (.ifCond .ne 5, 3) := by decide +kernel
theorem dX6_colours_11 : decode cX6_colours 11 = .ok (.iconst (-1), 1) := by decide +kernel
theorem dX6_colours_12 : decode cX6_colours 12 = .ok (.ireturn, 1) := by decide +kernel
theorem dX6_colours_13 : decode cX6_colours 13 = .ok (.aload_n 0, 1) := by decide +kernel
theorem dX6_colours_14 : decode cX6_colours 14 = .ok (.getfield 20, 3) := by decide +kernel
theorem dX6_colours_17 : decode cX6_colours 17 = .ok (.getfield 78, 3) := by decide +kernel
theorem dX6_colours_20 : decode cX6_colours 20 = .ok (.iload_n 1, 1) := by decide +kernel
theorem dX6_colours_21 : decode cX6_colours 21 = .ok (.aaload, 1) := by decide +kernel
theorem dX6_colours_22 : decode cX6_colours 22 = .ok (.astore_n 2, 1) := by decide +kernel
theorem dX6_colours_23 : decode cX6_colours 23 = .ok (.aload_n 2, 1) := by decide +kernel
theorem dX6_colours_24 : decode cX6_colours 24 = .ok (.getfield 168, 3) := by decide +kernel
theorem dX6_colours_27 : decode cX6_colours 27 = .ok (.istore_n 3, 1) := by decide +kernel
theorem dX6_colours_28 : decode cX6_colours 28 = .ok (.iconst 0, 1) := by decide +kernel
theorem dX6_colours_29 : decode cX6_colours 29 = .ok (.istore 4, 2) := by decide +kernel
theorem dX6_colours_31 : decode cX6_colours 31 = .ok (.iconst 0, 1) := by decide +kernel
theorem dX6_colours_32 : decode cX6_colours 32 = .ok (.istore 5, 2) := by decide +kernel
theorem dX6_colours_34 : decode cX6_colours 34 = .ok (.iload 5, 2) := by decide +kernel
theorem dX6_colours_36 : decode cX6_colours 36 = .ok (.bipush 7, 2) := by decide +kernel
theorem dX6_colours_38 : decode cX6_colours 38 = .ok (.if_icmp .gt 42, 3) := by decide +kernel
theorem dX6_colours_41 : decode cX6_colours 41 = .ok (.aload_n 2, 1) := by decide +kernel
theorem dX6_colours_42 : decode cX6_colours 42 = .ok (.iload 5, 2) := by decide +kernel
theorem dX6_colours_44 : decode cX6_colours 44 = .ok (.putfield 168, 3) := by decide +kernel
theorem dX6_colours_47 : decode cX6_colours 47 = .ok (.iload 4, 2) := by decide +kernel
theorem dX6_colours_49 : decode cX6_colours 49 = .ok (.aload_n 0, 1) := by decide +kernel
theorem dX6_colours_50 : decode cX6_colours 50 = .ok (.getfield 27, 3) := by decide +kernel
theorem dX6_colours_53 : decode cX6_colours 53 = .ok (.aload_n 0, 1) := by decide +kernel
theorem dX6_colours_54 : decode cX6_colours 54 = .ok (.getfield 20, 3) := by decide +kernel
theorem dX6_colours_57 : decode cX6_colours 57 = .ok (.invokevirtual 161, 3) := by decide +kernel
theorem dX6_colours_60 : decode cX6_colours 60 = .ok (.ifCond .eq 10, 3) := by decide +kernel
theorem dX6_colours_63 : decode cX6_colours 63 = .ok (.iconst 1, 1) := by decide +kernel
theorem dX6_colours_64 : decode cX6_colours 64 = .ok (.iload 5, 2) := by decide +kernel
theorem dX6_colours_66 : decode cX6_colours 66 = .ok (.ishl, 1) := by decide +kernel
theorem dX6_colours_67 : decode cX6_colours 67 = .ok (.goto 4, 3) := by decide +kernel
theorem dX6_colours_70 : decode cX6_colours 70 = .ok (.iconst 0, 1) := by decide +kernel
theorem dX6_colours_71 : decode cX6_colours 71 = .ok (.ior, 1) := by decide +kernel
theorem dX6_colours_72 : decode cX6_colours 72 = .ok (.istore 4, 2) := by decide +kernel
theorem dX6_colours_74 : decode cX6_colours 74 = .ok (.iinc 5 1, 3) := by decide +kernel
theorem dX6_colours_77 : decode cX6_colours 77 = .ok (.goto (-43), 3) := by decide +kernel
theorem dX6_colours_80 : decode cX6_colours 80 = .ok (.aload_n 2, 1) := by decide +kernel
theorem dX6_colours_81 : decode cX6_colours 81 = .ok (.iload_n 3, 1) := by decide +kernel
theorem dX6_colours_82 : decode cX6_colours 82 = .ok (.putfield 168, 3) := by decide +kernel
theorem dX6_colours_85 : decode cX6_colours 85 = .ok (.iload 4, 2) := by decide +kernel
theorem dX6_colours_87 : decode cX6_colours 87 = .ok (.ireturn, 1) := by decide +kernel
set_option maxRecDepth 20000 in
theorem ggX6_nears_X2_isOpen : GoodIn wsX6_nears wsX2_isOpen := goodIn_r _ [7, 8, 77, 78, 79, 80, 81, 82, 83, 84, 85, 86] (by decide +kernel) (by decide +kernel)
set_option maxRecDepth 20000 in
theorem gX6_nears_X2_isOpen : GoodIn wsX6_nears (wsV RX6 59 RX2 yX2_isOpen wsX2_isOpen) := goodIn_app (goodIn_of _ (by decide +kernel)) ggX6_nears_X2_isOpen
set_option maxRecDepth 20000 in
theorem ggX6_nears_X0_fit : GoodIn wsX6_nears wsX0_fit := goodIn_r _ [13, 14, 15, 16, 17, 18, 19, 6, 20, 21, 22, 23, 24, 25, 26, 27, 28, 29, 30, 31, 8, 32, 33, 34, 35, 36, 37, 38, 39, 40, 41, 42, 43, 44, 45, 46, 47, 48, 49, 50, 51, 52, 53, 54, 55, 56, 57, 58, 59, 60, 61, 62, 63, 64, 65, 66, 67, 68, 69, 70, 71, 87, 88, 89, 77, 78, 79, 80, 81, 82, 83, 84, 85, 86, 90, 91, 92, 93, 94, 95] (by decide +kernel) (by decide +kernel)
set_option maxRecDepth 20000 in
theorem gX6_nears_X0_fit : GoodIn wsX6_nears (wsV RX6 161 RX0 yX0_fit wsX0_fit) := goodIn_app (goodIn_of _ (by decide +kernel)) ggX6_nears_X0_fit
theorem dX6_nears_0 : decode cX6_nears 0 = .ok (.aload_n 0, 1) := by decide +kernel
theorem dX6_nears_1 : decode cX6_nears 1 = .ok (.getfield 20, 3) := by decide +kernel
theorem dX6_nears_4 : decode cX6_nears 4 = .ok (.invokevirtual 59, 3) := by decide +kernel
theorem dX6_nears_7 : decode cX6_nears 7 = .ok (.ifCond .ne 6, 3) := by decide +kernel
theorem dX6_nears_10 : decode cX6_nears 10 = .ok (.bipush (-3), 2) := by decide +kernel
theorem dX6_nears_12 : decode cX6_nears 12 = .ok (.ireturn, 1) := by decide +kernel
theorem dX6_nears_13 : decode cX6_nears 13 = .ok (.aload_n 0, 1) := by decide +kernel
theorem dX6_nears_14 : decode cX6_nears 14 = .ok (.getfield 20, 3) := by decide +kernel
theorem dX6_nears_17 : decode cX6_nears 17 = .ok (.getfield 97, 3) := by decide +kernel
theorem dX6_nears_20 : decode cX6_nears 20 = .ok (.istore_n 1, 1) := by decide +kernel
theorem dX6_nears_21 : decode cX6_nears 21 = .ok (.iconst 0, 1) := by decide +kernel
theorem dX6_nears_22 : decode cX6_nears 22 = .ok (.istore_n 2, 1) := by decide +kernel
theorem dX6_nears_23 : decode cX6_nears 23 = .ok (.iconst 0, 1) := by decide +kernel
theorem dX6_nears_24 : decode cX6_nears 24 = .ok (.istore_n 3, 1) := by decide +kernel
theorem dX6_nears_25 : decode cX6_nears 25 = .ok (.iload_n 3, 1) := by decide +kernel
theorem dX6_nears_26 : decode cX6_nears 26 = .ok (.bipush 20, 2) := by decide +kernel
theorem dX6_nears_28 : decode cX6_nears 28 = .ok (.if_icmp .gt 41, 3) := by decide +kernel
theorem dX6_nears_31 : decode cX6_nears 31 = .ok (.aload_n 0, 1) := by decide +kernel
theorem dX6_nears_32 : decode cX6_nears 32 = .ok (.getfield 20, 3) := by decide +kernel
theorem dX6_nears_35 : decode cX6_nears 35 = .ok (.iload_n 3, 1) := by decide +kernel
theorem dX6_nears_36 : decode cX6_nears 36 = .ok (.putfield 97, 3) := by decide +kernel
theorem dX6_nears_39 : decode cX6_nears 39 = .ok (.iload_n 2, 1) := by decide +kernel
theorem dX6_nears_40 : decode cX6_nears 40 = .ok (.aload_n 0, 1) := by decide +kernel
theorem dX6_nears_41 : decode cX6_nears 41 = .ok (.getfield 27, 3) := by decide +kernel
theorem dX6_nears_44 : decode cX6_nears 44 = .ok (.aload_n 0, 1) := by decide +kernel
theorem dX6_nears_45 : decode cX6_nears 45 = .ok (.getfield 20, 3) := by decide +kernel
theorem dX6_nears_48 : decode cX6_nears 48 = .ok (.invokevirtual 161, 3) := by decide +kernel
theorem dX6_nears_51 : decode cX6_nears 51 = .ok (.ifCond .eq 9, 3) := by decide +kernel
theorem dX6_nears_54 : decode cX6_nears 54 = .ok (.iconst 1, 1) := by decide +kernel
theorem dX6_nears_55 : decode cX6_nears 55 = .ok (.iload_n 3, 1) := by decide +kernel
theorem dX6_nears_56 : decode cX6_nears 56 = .ok (.ishl, 1) := by decide +kernel
theorem dX6_nears_57 : decode cX6_nears 57 = .ok (.goto 4, 3) := by decide +kernel
theorem dX6_nears_60 : decode cX6_nears 60 = .ok (.iconst 0, 1) := by decide +kernel
theorem dX6_nears_61 : decode cX6_nears 61 = .ok (.ior, 1) := by decide +kernel
theorem dX6_nears_62 : decode cX6_nears 62 = .ok (.istore_n 2, 1) := by decide +kernel
theorem dX6_nears_63 : decode cX6_nears 63 = .ok (.iinc 3 1, 3) := by decide +kernel
theorem dX6_nears_66 : decode cX6_nears 66 = .ok (.goto (-41), 3) := by decide +kernel
theorem dX6_nears_69 : decode cX6_nears 69 = .ok (.aload_n 0, 1) := by decide +kernel
theorem dX6_nears_70 : decode cX6_nears 70 = .ok (.getfield 20, 3) := by decide +kernel
theorem dX6_nears_73 : decode cX6_nears 73 = .ok (.iload_n 1, 1) := by decide +kernel
theorem dX6_nears_74 : decode cX6_nears 74 = .ok (.putfield 97, 3) := by decide +kernel
theorem dX6_nears_77 : decode cX6_nears 77 = .ok (.iload_n 2, 1) := by decide +kernel
theorem dX6_nears_78 : decode cX6_nears 78 = .ok (.ireturn, 1) := by decide +kernel
set_option maxRecDepth 20000 in
theorem ggX6_sheet_X6_isSheet : GoodIn wsX6_sheet wsX6_isSheet := goodIn_r _ [6] (by decide +kernel) (by decide +kernel)
set_option maxRecDepth 20000 in
theorem gX6_sheet_X6_isSheet : GoodIn wsX6_sheet (va_wsS RX6 171 yX6_isSheet wsX6_isSheet) := goodIn_app (goodIn_of _ (by decide +kernel)) ggX6_sheet_X6_isSheet
set_option maxRecDepth 20000 in
theorem ggX6_sheet_X6_isLane : GoodIn wsX6_sheet wsX6_isLane := goodIn_r _ [9] (by decide +kernel) (by decide +kernel)
set_option maxRecDepth 20000 in
theorem gX6_sheet_X6_isLane : GoodIn wsX6_sheet (va_wsS RX6 174 yX6_isLane wsX6_isLane) := goodIn_app (goodIn_of _ (by decide +kernel)) ggX6_sheet_X6_isLane
set_option maxRecDepth 20000 in
theorem ggX6_sheet_X6_faulted : GoodIn wsX6_sheet wsX6_faulted := goodIn_r _ [13, 1, 26, 27, 28, 29, 30] (by decide +kernel) (by decide +kernel)
set_option maxRecDepth 20000 in
theorem gX6_sheet_X6_faulted : GoodIn wsX6_sheet (wsV RX6 177 RX6 yX6_faulted wsX6_faulted) := goodIn_app (goodIn_of _ (by decide +kernel)) ggX6_sheet_X6_faulted
set_option maxRecDepth 20000 in
theorem ggX6_sheet_X1_begin : GoodIn wsX6_sheet wsX1_begin := goodIn_r _ [18, 19, 20, 21, 22, 23, 24, 25, 31, 32, 33] (by decide +kernel) (by decide +kernel)
set_option maxRecDepth 20000 in
theorem gX6_sheet_X1_begin : GoodIn wsX6_sheet (wsV RX6 180 RX1 yX1_begin wsX1_begin) := goodIn_app (goodIn_of _ (by decide +kernel)) ggX6_sheet_X1_begin
theorem dX6_sheet_0 : decode cX6_sheet 0 = .ok (.aload_n 0, 1) := by decide +kernel
theorem dX6_sheet_1 : decode cX6_sheet 1 = .ok (.iconst 0, 1) := by decide +kernel
theorem dX6_sheet_2 : decode cX6_sheet 2 = .ok (.putfield 35, 3) := by decide +kernel
theorem dX6_sheet_5 : decode cX6_sheet 5 = .ok (.iload_n 1, 1) := by decide +kernel
theorem dX6_sheet_6 : decode cX6_sheet 6 = .ok (.invokestatic 171, 3) := by decide +kernel
theorem dX6_sheet_9 : decode cX6_sheet 9 = .ok (.ifCond .ne 5, 3) := by decide +kernel
theorem dX6_sheet_12 : decode cX6_sheet 12 = .ok (.iconst (-1), 1) := by decide +kernel
theorem dX6_sheet_13 : decode cX6_sheet 13 = .ok (.ireturn, 1) := by decide +kernel
theorem dX6_sheet_14 : decode cX6_sheet 14 = .ok (.iload_n 2, 1) := by decide +kernel
theorem dX6_sheet_15 : decode cX6_sheet 15 = .ok (.invokestatic 174, 3) := by decide +kernel
theorem dX6_sheet_18 : decode cX6_sheet 18 = .ok (.ifCond .eq 9, 3) := by decide +kernel
theorem dX6_sheet_21 : decode cX6_sheet 21 = .ok (.iload_n 3, 1) := by decide +kernel
theorem dX6_sheet_22 : decode cX6_sheet 22 = .ok (.bipush 60, 2) := by decide +kernel
theorem dX6_sheet_24 : decode cX6_sheet 24 = .ok (.if_icmp .le 6, 3) := by decide +kernel
theorem dX6_sheet_27 : decode cX6_sheet 27 = .ok (.bipush (-2), 2) := by decide +kernel
theorem dX6_sheet_29 : decode cX6_sheet 29 = .ok (.ireturn, 1) := by decide +kernel
theorem dX6_sheet_30 : decode cX6_sheet 30 = .ok (.iload_n 3, 1) := by decide +kernel
theorem dX6_sheet_31 : decode cX6_sheet 31 = .ok (.ifCond .ge 9, 3) := by decide +kernel
theorem dX6_sheet_34 : decode cX6_sheet 34 = .ok (.aload_n 0, 1) := by decide +kernel
theorem dX6_sheet_35 : decode cX6_sheet 35 = .ok (.iconst 4, 1) := by decide +kernel
theorem dX6_sheet_36 : decode cX6_sheet 36 = .ok (.invokevirtual 177, 3) := by decide +kernel
theorem dX6_sheet_39 : decode cX6_sheet 39 = .ok (.ireturn, 1) := by decide +kernel
theorem dX6_sheet_40 : decode cX6_sheet 40 = .ok (.aload_n 0, 1) := by decide +kernel
theorem dX6_sheet_41 : decode cX6_sheet 41 = .ok (.getfield 13, 3) := by decide +kernel
theorem dX6_sheet_44 : decode cX6_sheet 44 = .ok (.iload_n 1, 1) := by decide +kernel
theorem dX6_sheet_45 : decode cX6_sheet 45 = .ok (.aaload, 1) := by decide +kernel
theorem dX6_sheet_46 : decode cX6_sheet 46 = .ok (.iload_n 2, 1) := by decide +kernel
theorem dX6_sheet_47 : decode cX6_sheet 47 = .ok (.iload_n 3, 1) := by decide +kernel
theorem dX6_sheet_48 : decode cX6_sheet 48 = .ok (.invokevirtual 180, 3) := by decide +kernel
theorem dX6_sheet_51 : decode cX6_sheet 51 = .ok (.iconst 1, 1) := by decide +kernel
theorem dX6_sheet_52 : decode cX6_sheet 52 = .ok (.ireturn, 1) := by decide +kernel
set_option maxRecDepth 20000 in
theorem ggX6_lose_X6_isSheet : GoodIn wsX6_lose wsX6_isSheet := goodIn_r _ [5] (by decide +kernel) (by decide +kernel)
set_option maxRecDepth 20000 in
theorem gX6_lose_X6_isSheet : GoodIn wsX6_lose (va_wsS RX6 171 yX6_isSheet wsX6_isSheet) := goodIn_app (goodIn_of _ (by decide +kernel)) ggX6_lose_X6_isSheet
set_option maxRecDepth 20000 in
theorem ggX6_lose_X1_isNothing : GoodIn wsX6_lose wsX1_isNothing := goodIn_r _ [10, 11, 22, 23, 24] (by decide +kernel) (by decide +kernel)
set_option maxRecDepth 20000 in
theorem gX6_lose_X1_isNothing : GoodIn wsX6_lose (wsV RX6 184 RX1 yX1_isNothing wsX1_isNothing) := goodIn_app (goodIn_of _ (by decide +kernel)) ggX6_lose_X1_isNothing
set_option maxRecDepth 20000 in
theorem ggX6_lose_X1_becomeNothing : GoodIn wsX6_lose wsX1_becomeNothing := goodIn_r _ [15, 11, 16, 22, 23, 24] (by decide +kernel) (by decide +kernel)
set_option maxRecDepth 20000 in
theorem gX6_lose_X1_becomeNothing : GoodIn wsX6_lose (wsV RX6 187 RX1 yX1_becomeNothing wsX1_becomeNothing) := goodIn_app (goodIn_of _ (by decide +kernel)) ggX6_lose_X1_becomeNothing
theorem dX6_lose_0 : decode cX6_lose 0 = .ok (.iload_n 1, 1) := by decide +kernel
theorem dX6_lose_1 : decode cX6_lose 1 = .ok (.invokestatic 171, 3) := by decide +kernel
theorem dX6_lose_4 : decode cX6_lose 4 = .ok (.ifCond .ne 5, 3) := by decide +kernel
theorem dX6_lose_7 : decode cX6_lose 7 = .ok (.iconst (-1), 1) := by decide +kernel
theorem dX6_lose_8 : decode cX6_lose 8 = .ok (.ireturn, 1) := by decide +kernel
theorem dX6_lose_9 : decode cX6_lose 9 = .ok (.aload_n 0, 1) := by decide +kernel
theorem dX6_lose_10 : decode cX6_lose 10 = .ok (.getfield 13, 3) := by decide +kernel
theorem dX6_lose_13 : decode cX6_lose 13 = .ok (.iload_n 1, 1) := by decide +kernel
theorem dX6_lose_14 : decode cX6_lose 14 = .ok (.aaload, 1) := by decide +kernel
theorem dX6_lose_15 : decode cX6_lose 15 = .ok (.invokevirtual 184, 3) := by decide +kernel
theorem dX6_lose_18 : decode cX6_lose 18 = .ok (.ifCond .eq 5, 3) := by decide +kernel
theorem dX6_lose_21 : decode cX6_lose 21 = .ok (.iconst 0, 1) := by decide +kernel
theorem dX6_lose_22 : decode cX6_lose 22 = .ok (.ireturn, 1) := by decide +kernel
theorem dX6_lose_23 : decode cX6_lose 23 = .ok (.aload_n 0, 1) := by decide +kernel
theorem dX6_lose_24 : decode cX6_lose 24 = .ok (.getfield 13, 3) := by decide +kernel
theorem dX6_lose_27 : decode cX6_lose 27 = .ok (.iload_n 1, 1) := by decide +kernel
theorem dX6_lose_28 : decode cX6_lose 28 = .ok (.aaload, 1) := by decide +kernel
theorem dX6_lose_29 : decode cX6_lose 29 = .ok (.invokevirtual 187, 3) := by decide +kernel
theorem dX6_lose_32 : decode cX6_lose 32 = .ok (.iconst 1, 1) := by decide +kernel
theorem dX6_lose_33 : decode cX6_lose 33 = .ok (.ireturn, 1) := by decide +kernel
set_option maxRecDepth 20000 in
theorem ggX6_put_X6_isSheet : GoodIn wsX6_put wsX6_isSheet := goodIn_r _ [6] (by decide +kernel) (by decide +kernel)
set_option maxRecDepth 20000 in
theorem gX6_put_X6_isSheet : GoodIn wsX6_put (va_wsS RX6 171 yX6_isSheet wsX6_isSheet) := goodIn_app (goodIn_of _ (by decide +kernel)) ggX6_put_X6_isSheet
set_option maxRecDepth 20000 in
theorem ggX6_put_X1_isNothing : GoodIn wsX6_put wsX1_isNothing := goodIn_r _ [11, 12, 33, 34, 35] (by decide +kernel) (by decide +kernel)
set_option maxRecDepth 20000 in
theorem gX6_put_X1_isNothing : GoodIn wsX6_put (wsV RX6 184 RX1 yX1_isNothing wsX1_isNothing) := goodIn_app (goodIn_of _ (by decide +kernel)) ggX6_put_X1_isNothing
set_option maxRecDepth 20000 in
theorem ggX6_put_X6_faulted : GoodIn wsX6_put wsX6_faulted := goodIn_r _ [16, 1, 28, 29, 30, 31, 32] (by decide +kernel) (by decide +kernel)
set_option maxRecDepth 20000 in
theorem gX6_put_X6_faulted : GoodIn wsX6_put (wsV RX6 177 RX6 yX6_faulted wsX6_faulted) := goodIn_app (goodIn_of _ (by decide +kernel)) ggX6_put_X6_faulted
set_option maxRecDepth 20000 in
theorem ggX6_put_X1_covers : GoodIn wsX6_put wsX1_covers := goodIn_r _ [20, 21, 33, 34, 35] (by decide +kernel) (by decide +kernel)
set_option maxRecDepth 20000 in
theorem gX6_put_X1_covers : GoodIn wsX6_put (wsV RX6 190 RX1 yX1_covers wsX1_covers) := goodIn_app (goodIn_of _ (by decide +kernel)) ggX6_put_X1_covers
set_option maxRecDepth 20000 in
theorem ggX6_put_X1_write : GoodIn wsX6_put wsX1_write := goodIn_r _ [25, 26, 12, 27, 18, 19, 10, 20, 21, 33, 34, 35] (by decide +kernel) (by decide +kernel)
set_option maxRecDepth 20000 in
theorem gX6_put_X1_write : GoodIn wsX6_put (wsV RX6 194 RX1 yX1_write wsX1_write) := goodIn_app (goodIn_of _ (by decide +kernel)) ggX6_put_X1_write
theorem dX6_put_0 : decode cX6_put 0 = .ok (.aload_n 0, 1) := by decide +kernel
theorem dX6_put_1 : decode cX6_put 1 = .ok (.iconst 0, 1) := by decide +kernel
theorem dX6_put_2 : decode cX6_put 2 = .ok (.putfield 35, 3) := by decide +kernel
theorem dX6_put_5 : decode cX6_put 5 = .ok (.iload_n 1, 1) := by decide +kernel
theorem dX6_put_6 : decode cX6_put 6 = .ok (.invokestatic 171, 3) := by decide +kernel
theorem dX6_put_9 : decode cX6_put 9 = .ok (.ifCond .ne 5, 3) := by decide +kernel
theorem dX6_put_12 : decode cX6_put 12 = .ok (.iconst (-1), 1) := by decide +kernel
theorem dX6_put_13 : decode cX6_put 13 = .ok (.ireturn, 1) := by decide +kernel
theorem dX6_put_14 : decode cX6_put 14 = .ok (.aload_n 0, 1) := by decide +kernel
theorem dX6_put_15 : decode cX6_put 15 = .ok (.getfield 13, 3) := by decide +kernel
theorem dX6_put_18 : decode cX6_put 18 = .ok (.iload_n 1, 1) := by decide +kernel
theorem dX6_put_19 : decode cX6_put 19 = .ok (.aaload, 1) := by decide +kernel
theorem dX6_put_20 : decode cX6_put 20 = .ok (.astore 4, 2) := by decide +kernel
theorem dX6_put_22 : decode cX6_put 22 = .ok (.aload 4, 2) := by decide +kernel
theorem dX6_put_24 : decode cX6_put 24 = .ok (.invokevirtual 184, 3) := by decide +kernel
theorem dX6_put_27 : decode cX6_put 27 = .ok (.ifCond .eq 9, 3) := by decide +kernel
theorem dX6_put_30 : decode cX6_put 30 = .ok (.aload_n 0, 1) := by decide +kernel
theorem dX6_put_31 : decode cX6_put 31 = .ok (.iconst 1, 1) := by decide +kernel
theorem dX6_put_32 : decode cX6_put 32 = .ok (.invokevirtual 177, 3) := by decide +kernel
theorem dX6_put_35 : decode cX6_put 35 = .ok (.ireturn, 1) := by decide +kernel
theorem dX6_put_36 : decode cX6_put 36 = .ok (.aload 4, 2) := by decide +kernel
theorem dX6_put_38 : decode cX6_put 38 = .ok (.iload_n 2, 1) := by decide +kernel
theorem dX6_put_39 : decode cX6_put 39 = .ok (.iconst 1, 1) := by decide +kernel
theorem dX6_put_40 : decode cX6_put 40 = .ok (.invokevirtual 190, 3) := by decide +kernel
theorem dX6_put_43 : decode cX6_put 43 = .ok (.ifCond .ne 9, 3) := by decide +kernel
theorem dX6_put_46 : decode cX6_put 46 = .ok (.aload_n 0, 1) := by decide +kernel
theorem dX6_put_47 : decode cX6_put 47 = .ok (.iconst 3, 1) := by decide +kernel
theorem dX6_put_48 : decode cX6_put 48 = .ok (.invokevirtual 177, 3) := by decide +kernel
theorem dX6_put_51 : decode cX6_put 51 = .ok (.ireturn, 1) := by decide +kernel
theorem dX6_put_52 : decode cX6_put 52 = .ok (.aload 4, 2) := by decide +kernel
theorem dX6_put_54 : decode cX6_put 54 = .ok (.iload_n 2, 1) := by decide +kernel
theorem dX6_put_55 : decode cX6_put 55 = .ok (.iload_n 3, 1) := by decide +kernel
theorem dX6_put_56 : decode cX6_put 56 = .ok (.invokevirtual 194, 3) := by decide +kernel
theorem dX6_put_59 : decode cX6_put 59 = .ok (.iconst 1, 1) := by decide +kernel
theorem dX6_put_60 : decode cX6_put 60 = .ok (.ireturn, 1) := by decide +kernel
set_option maxRecDepth 20000 in
theorem ggX6_cell_X6_isSheet : GoodIn wsX6_cell wsX6_isSheet := goodIn_r _ [7] (by decide +kernel) (by decide +kernel)
set_option maxRecDepth 20000 in
theorem gX6_cell_X6_isSheet : GoodIn wsX6_cell (va_wsS RX6 171 yX6_isSheet wsX6_isSheet) := goodIn_app (goodIn_of _ (by decide +kernel)) ggX6_cell_X6_isSheet
set_option maxRecDepth 20000 in
theorem ggX6_cell_X6_isLane : GoodIn wsX6_cell wsX6_isLane := goodIn_r _ [10] (by decide +kernel) (by decide +kernel)
set_option maxRecDepth 20000 in
theorem gX6_cell_X6_isLane : GoodIn wsX6_cell (va_wsS RX6 174 yX6_isLane wsX6_isLane) := goodIn_app (goodIn_of _ (by decide +kernel)) ggX6_cell_X6_isLane
set_option maxRecDepth 20000 in
theorem ggX6_cell_X1_faultOfTaking : GoodIn wsX6_cell wsX1_faultOfTaking := goodIn_r _ [15, 16, 17, 18, 19, 14, 20, 21, 22, 23, 24, 25, 36, 37, 38] (by decide +kernel) (by decide +kernel)
set_option maxRecDepth 20000 in
theorem gX6_cell_X1_faultOfTaking : GoodIn wsX6_cell (wsV RX6 197 RX1 yX1_faultOfTaking wsX1_faultOfTaking) := goodIn_app (goodIn_of _ (by decide +kernel)) ggX6_cell_X1_faultOfTaking
set_option maxRecDepth 20000 in
theorem ggX6_cell_X1_read : GoodIn wsX6_cell wsX1_read := goodIn_r _ [29, 30, 21, 22, 23, 14, 24, 25, 36, 37, 38] (by decide +kernel) (by decide +kernel)
set_option maxRecDepth 20000 in
theorem gX6_cell_X1_read : GoodIn wsX6_cell (wsV RX6 201 RX1 yX1_read wsX1_read) := goodIn_app (goodIn_of _ (by decide +kernel)) ggX6_cell_X1_read
theorem dX6_cell_0 : decode cX6_cell 0 = .ok (.aload_n 0, 1) := by decide +kernel
theorem dX6_cell_1 : decode cX6_cell 1 = .ok (.iconst 0, 1) := by decide +kernel
theorem dX6_cell_2 : decode cX6_cell 2 = .ok (.putfield 35, 3) := by decide +kernel
theorem dX6_cell_5 : decode cX6_cell 5 = .ok (.iload_n 1, 1) := by decide +kernel
theorem dX6_cell_6 : decode cX6_cell 6 = .ok (.invokestatic 171, 3) := by decide +kernel
theorem dX6_cell_9 : decode cX6_cell 9 = .ok (.ifCond .eq 10, 3) := by decide +kernel
theorem dX6_cell_12 : decode cX6_cell 12 = .ok (.iload_n 3, 1) := by decide +kernel
theorem dX6_cell_13 : decode cX6_cell 13 = .ok (.invokestatic 174, 3) := by decide +kernel
theorem dX6_cell_16 : decode cX6_cell 16 = .ok (.ifCond .ne 7, 3) := by decide +kernel
theorem dX6_cell_19 : decode cX6_cell 19 = .ok (.ldc2_w 134, 3) := by decide +kernel
theorem dX6_cell_22 : decode cX6_cell 22 = .ok (.lreturn, 1) := by decide +kernel
theorem dX6_cell_23 : decode cX6_cell 23 = .ok (.aload_n 0, 1) := by decide +kernel
theorem dX6_cell_24 : decode cX6_cell 24 = .ok (.getfield 13, 3) := by decide +kernel
theorem dX6_cell_27 : decode cX6_cell 27 = .ok (.iload_n 1, 1) := by decide +kernel
theorem dX6_cell_28 : decode cX6_cell 28 = .ok (.aaload, 1) := by decide +kernel
theorem dX6_cell_29 : decode cX6_cell 29 = .ok (.astore 4, 2) := by decide +kernel
theorem dX6_cell_31 : decode cX6_cell 31 = .ok (.aload_n 0, 1) := by decide +kernel
theorem dX6_cell_32 : decode cX6_cell 32 = .ok (.aload 4, 2) := by decide +kernel
theorem dX6_cell_34 : decode cX6_cell 34 = .ok (.iload_n 3, 1) := by decide +kernel
theorem dX6_cell_35 : decode cX6_cell 35 = .ok (.iload_n 2, 1) := by decide +kernel
theorem dX6_cell_36 : decode cX6_cell 36 = .ok (.iconst 1, 1) := by decide +kernel
theorem dX6_cell_37 : decode cX6_cell 37 = .ok (.invokevirtual 197, 3) := by decide +kernel
theorem dX6_cell_40 : decode cX6_cell 40 = .ok (.putfield 35, 3) := by decide +kernel
theorem dX6_cell_43 : decode cX6_cell 43 = .ok (.aload_n 0, 1) := by decide +kernel
theorem dX6_cell_44 : decode cX6_cell 44 = .ok (.getfield 35, 3) := by decide +kernel
theorem dX6_cell_47 : decode cX6_cell 47 = .ok (.ifCond .ne 13, 3) := by decide +kernel
theorem dX6_cell_50 : decode cX6_cell 50 = .ok (.aload 4, 2) := by decide +kernel
theorem dX6_cell_52 : decode cX6_cell 52 = .ok (.iload_n 2, 1) := by decide +kernel
theorem dX6_cell_53 : decode cX6_cell 53 = .ok (.invokevirtual 201, 3) := by decide +kernel
theorem dX6_cell_56 : decode cX6_cell 56 = .ok (.i2l, 1) := by decide +kernel
theorem dX6_cell_57 : decode cX6_cell 57 = .ok (.goto 6, 3) := by decide +kernel
theorem dX6_cell_60 : decode cX6_cell 60 = .ok (.ldc2_w 134, 3) := by decide +kernel
theorem dX6_cell_63 : decode cX6_cell 63 = .ok (.lreturn, 1) := by decide +kernel
set_option maxRecDepth 20000 in
theorem ggX6_copy_X6_isSheet : GoodIn wsX6_copy wsX6_isSheet := goodIn_r _ [10] (by decide +kernel) (by decide +kernel)
set_option maxRecDepth 20000 in
theorem gX6_copy_X6_isSheet : GoodIn wsX6_copy (va_wsS RX6 171 yX6_isSheet wsX6_isSheet) := goodIn_app (goodIn_of _ (by decide +kernel)) ggX6_copy_X6_isSheet
set_option maxRecDepth 20000 in
theorem ggX6_copy_X1_isNothing : GoodIn wsX6_copy wsX1_isNothing := goodIn_r _ [15, 16, 31, 32, 33] (by decide +kernel) (by decide +kernel)
set_option maxRecDepth 20000 in
theorem gX6_copy_X1_isNothing : GoodIn wsX6_copy (wsV RX6 184 RX1 yX1_isNothing wsX1_isNothing) := goodIn_app (goodIn_of _ (by decide +kernel)) ggX6_copy_X1_isNothing
set_option maxRecDepth 20000 in
theorem ggX6_copy_X6_faulted : GoodIn wsX6_copy wsX6_faulted := goodIn_r _ [20, 1, 26, 27, 28, 29, 30] (by decide +kernel) (by decide +kernel)
set_option maxRecDepth 20000 in
theorem gX6_copy_X6_faulted : GoodIn wsX6_copy (wsV RX6 177 RX6 yX6_faulted wsX6_faulted) := goodIn_app (goodIn_of _ (by decide +kernel)) ggX6_copy_X6_faulted
set_option maxRecDepth 20000 in
theorem ggX6_copy_X1_covers : GoodIn wsX6_copy wsX1_covers := goodIn_r _ [24, 25, 31, 32, 33] (by decide +kernel) (by decide +kernel)
set_option maxRecDepth 20000 in
theorem gX6_copy_X1_covers : GoodIn wsX6_copy (wsV RX6 190 RX1 yX1_covers wsX1_covers) := goodIn_app (goodIn_of _ (by decide +kernel)) ggX6_copy_X1_covers
theorem dX6_copy_0 : decode cX6_copy 0 = .ok (.aload_n 0, 1) := by decide +kernel
theorem dX6_copy_1 : decode cX6_copy 1 = .ok (.iconst 0, 1) := by decide +kernel
theorem dX6_copy_2 : decode cX6_copy 2 = .ok (.putfield 35, 3) := by decide +kernel
theorem dX6_copy_5 : decode cX6_copy 5 = .ok (.iload_n 1, 1) := by decide +kernel
theorem dX6_copy_6 : decode cX6_copy 6 = .ok (.invokestatic 171, 3) := by decide +kernel
theorem dX6_copy_9 : decode cX6_copy 9 = .ok (.ifCond .eq 10, 3) := by decide +kernel
theorem dX6_copy_12 : decode cX6_copy 12 = .ok (.iload_n 3, 1) := by decide +kernel
theorem dX6_copy_13 : decode cX6_copy 13 = .ok (.invokestatic 171, 3) := by decide +kernel
theorem dX6_copy_16 : decode cX6_copy 16 = .ok (.ifCond .ne 5, 3) := by decide +kernel
theorem dX6_copy_19 : decode cX6_copy 19 = .ok (.iconst (-1), 1) := by decide +kernel
theorem dX6_copy_20 : decode cX6_copy 20 = .ok (.ireturn, 1) := by decide +kernel
theorem dX6_copy_21 : decode cX6_copy 21 = .ok (.aload_n 0, 1) := by decide +kernel
theorem dX6_copy_22 : decode cX6_copy 22 = .ok (.getfield 13, 3) := by decide +kernel
theorem dX6_copy_25 : decode cX6_copy 25 = .ok (.iload_n 1, 1) := by decide +kernel
theorem dX6_copy_26 : decode cX6_copy 26 = .ok (.aaload, 1) := by decide +kernel
theorem dX6_copy_27 : decode cX6_copy 27 = .ok (.astore 6, 2) := by decide +kernel
theorem dX6_copy_29 : decode cX6_copy 29 = .ok (.aload_n 0, 1) := by decide +kernel
theorem dX6_copy_30 : decode cX6_copy 30 = .ok (.getfield 13, 3) := by decide +kernel
theorem dX6_copy_33 : decode cX6_copy 33 = .ok (.iload_n 3, 1) := by decide +kernel
theorem dX6_copy_34 : decode cX6_copy 34 = .ok (.aaload, 1) := by decide +kernel
theorem dX6_copy_35 : decode cX6_copy 35 = .ok (.astore 7, 2) := by decide +kernel
theorem dX6_copy_37 : decode cX6_copy 37 = .ok (.aload 6, 2) := by decide +kernel
theorem dX6_copy_39 : decode cX6_copy 39 = .ok (.invokevirtual 184, 3) := by decide +kernel
theorem dX6_copy_42 : decode cX6_copy 42 = .ok (.ifCond .ne 11, 3) := by decide +kernel
theorem dX6_copy_45 : decode cX6_copy 45 = .ok (.aload 7, 2) := by decide +kernel
theorem dX6_copy_47 : decode cX6_copy 47 = .ok (.invokevirtual 184, 3) := by decide +kernel
theorem dX6_copy_50 : decode cX6_copy 50 = .ok (.ifCond .eq 9, 3) := by decide +kernel
theorem dX6_copy_53 : decode cX6_copy 53 = .ok (.aload_n 0, 1) := by decide +kernel
theorem dX6_copy_54 : decode cX6_copy 54 = .ok (.iconst 1, 1) := by decide +kernel
theorem dX6_copy_55 : decode cX6_copy 55 = .ok (.invokevirtual 177, 3) := by decide +kernel
theorem dX6_copy_58 : decode cX6_copy 58 = .ok (.ireturn, 1) := by decide +kernel
theorem dX6_copy_59 : decode cX6_copy 59 = .ok (.aload 6, 2) := by decide +kernel
theorem dX6_copy_61 : decode cX6_copy 61 = .ok (.getfield 204, 3) := by decide +kernel
theorem dX6_copy_64 : decode cX6_copy 64 = .ok (.aload 7, 2) := by decide +kernel
theorem dX6_copy_66 : decode cX6_copy 66 = .ok (.getfield 204, 3) := by decide +kernel
theorem dX6_copy_69 : decode cX6_copy 69 = .ok (.if_icmp .eq 9, 3) := by decide +kernel
theorem dX6_copy_72 : decode cX6_copy 72 = .ok (.aload_n 0, 1) := by decide +kernel
theorem dX6_copy_73 : decode cX6_copy 73 = .ok (.iconst 2, 1) := by decide +kernel
theorem dX6_copy_74 : decode cX6_copy 74 = .ok (.invokevirtual 177, 3) := by decide +kernel
theorem dX6_copy_77 : decode cX6_copy 77 = .ok (.ireturn, 1) := by decide +kernel
theorem dX6_copy_78 : decode cX6_copy 78 = .ok (.aload 6, 2) := by decide +kernel
theorem dX6_copy_80 : decode cX6_copy 80 = .ok (.iload_n 2, 1) := by decide +kernel
theorem dX6_copy_81 : decode cX6_copy 81 = .ok (.iload 5, 2) := by decide +kernel
theorem dX6_copy_83 : decode cX6_copy 83 = .ok (.invokevirtual 190, 3) := by decide +kernel
theorem dX6_copy_86 : decode cX6_copy 86 = .ok (.ifCond .eq 15, 3) := by decide +kernel
theorem dX6_copy_89 : decode cX6_copy 89 = .ok (.aload 7, 2) := by decide +kernel
theorem dX6_copy_91 : decode cX6_copy 91 = .ok (.iload 4, 2) := by decide +kernel
theorem dX6_copy_93 : decode cX6_copy 93 = .ok (.iload 5, 2) := by decide +kernel
theorem dX6_copy_95 : decode cX6_copy 95 = .ok (.invokevirtual 190, 3) := by decide +kernel
theorem dX6_copy_98 : decode cX6_copy 98 = .ok (.ifCond .ne 9, 3) := by decide +kernel
theorem dX6_copy_101 : decode cX6_copy 101 = .ok (.aload_n 0, 1) := by decide +kernel
