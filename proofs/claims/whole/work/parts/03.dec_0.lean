theorem dX0_init_0 : decode cX0_init 0 = .ok (.aload_n 0, 1) := by decide +kernel
theorem dX0_init_1 : decode cX0_init 1 = .ok (.invokespecial 3, 3) := by decide +kernel
theorem dX0_init_4 : decode cX0_init 4 = .ok (.aload_n 0, 1) := by decide +kernel
theorem dX0_init_5 : decode cX0_init 5 = .ok (.bipush 8, 2) := by decide +kernel
theorem dX0_init_7 : decode cX0_init 7 = .ok (.newarray .int, 2) := by decide +kernel
theorem dX0_init_9 : decode cX0_init 9 = .ok (.putfield 9, 3) := by decide +kernel
theorem dX0_init_12 : decode cX0_init 12 = .ok (.aload_n 0, 1) := by decide +kernel
theorem dX0_init_13 : decode cX0_init 13 = .ok (.bipush 8, 2) := by decide +kernel
theorem dX0_init_15 : decode cX0_init 15 = .ok (.newarray .boolean, 2) := by decide +kernel
theorem dX0_init_17 : decode cX0_init 17 = .ok (.putfield 15, 3) := by decide +kernel
theorem dX0_init_20 : decode cX0_init 20 = .ok (.aload_n 0, 1) := by decide +kernel
theorem dX0_init_21 : decode cX0_init 21 = .ok (.iconst 0, 1) := by decide +kernel
theorem dX0_init_22 : decode cX0_init 22 = .ok (.putfield 19, 3) := by decide +kernel
theorem dX0_init_25 : decode cX0_init 25 = .ok (.return_, 1) := by decide +kernel
theorem dX0_add_0 : decode cX0_add 0 = .ok (.aload_n 0, 1) := by decide +kernel
theorem dX0_add_1 : decode cX0_add 1 = .ok (.getfield 19, 3) := by decide +kernel
theorem dX0_add_4 : decode cX0_add 4 = .ok (.bipush 8, 2) := by decide +kernel
theorem dX0_add_6 : decode cX0_add 6 = .ok (.if_icmp .lt 6, 3) := by decide +kernel
theorem dX0_add_9 : decode cX0_add 9 = .ok (.bipush (-4), 2) := by decide +kernel
theorem dX0_add_11 : decode cX0_add 11 = .ok (.ireturn, 1) := by decide +kernel
theorem dX0_add_12 : decode cX0_add 12 = .ok (.aload_n 0, 1) := by decide +kernel
theorem dX0_add_13 : decode cX0_add 13 = .ok (.getfield 19, 3) := by decide +kernel
theorem dX0_add_16 : decode cX0_add 16 = .ok (.istore_n 3, 1) := by decide +kernel
theorem dX0_add_17 : decode cX0_add 17 = .ok (.aload_n 0, 1) := by decide +kernel
theorem dX0_add_18 : decode cX0_add 18 = .ok (.getfield 9, 3) := by decide +kernel
theorem dX0_add_21 : decode cX0_add 21 = .ok (.iload_n 3, 1) := by decide +kernel
theorem dX0_add_22 : decode cX0_add 22 = .ok (.iload_n 1, 1) := by decide +kernel
theorem dX0_add_23 : decode cX0_add 23 = .ok (.iastore, 1) := by decide +kernel
theorem dX0_add_24 : decode cX0_add 24 = .ok (.aload_n 0, 1) := by decide +kernel
theorem dX0_add_25 : decode cX0_add 25 = .ok (.getfield 15, 3) := by decide +kernel
theorem dX0_add_28 : decode cX0_add 28 = .ok (.iload_n 3, 1) := by decide +kernel
theorem dX0_add_29 : decode cX0_add 29 = .ok (.iload_n 2, 1) := by decide +kernel
theorem dX0_add_30 : decode cX0_add 30 = .ok (.bastore, 1) := by decide +kernel
theorem dX0_add_31 : decode cX0_add 31 = .ok (.aload_n 0, 1) := by decide +kernel
theorem dX0_add_32 : decode cX0_add 32 = .ok (.iload_n 3, 1) := by decide +kernel
theorem dX0_add_33 : decode cX0_add 33 = .ok (.iconst 1, 1) := by decide +kernel
theorem dX0_add_34 : decode cX0_add 34 = .ok (.iadd, 1) := by decide +kernel
theorem dX0_add_35 : decode cX0_add 35 = .ok (.putfield 19, 3) := by decide +kernel
theorem dX0_add_38 : decode cX0_add 38 = .ok (.iload_n 3, 1) := by decide +kernel
theorem dX0_add_39 : decode cX0_add 39 = .ok (.ireturn, 1) := by decide +kernel
set_option maxRecDepth 20000 in
theorem ggX0_fit_X2_isAlike : GoodIn wsX0_fit wsX2_isAlike := goodIn_r _ [8, 9, 10, 11, 12, 7, 13, 14, 15, 16, 17, 18, 19, 20, 21, 22, 23, 24, 25, 26, 27, 28, 29, 30, 31, 32, 33, 34, 35, 36, 37, 38, 39, 40, 41, 42, 43, 44, 45, 46, 47, 48, 49, 50, 51, 52, 53, 54, 55, 56, 57, 58, 59, 60, 64, 65, 66, 67, 68, 69, 70, 71, 72, 73, 74, 75, 76, 77, 78, 79] (by decide +kernel) (by decide +kernel)
set_option maxRecDepth 20000 in
theorem gX0_fit_X2_isAlike : GoodIn wsX0_fit (wsV RX0 23 RX2 yX2_isAlike wsX2_isAlike) := goodIn_app (goodIn_of _ (by decide +kernel)) ggX0_fit_X2_isAlike
theorem dX0_fit_0 : decode cX0_fit 0 = .ok (.iconst 0, 1) := by decide +kernel
theorem dX0_fit_1 : decode cX0_fit 1 = .ok (.istore_n 2, 1) := by decide +kernel
theorem dX0_fit_2 : decode cX0_fit 2 = .ok (.iload_n 2, 1) := by decide +kernel
theorem dX0_fit_3 : decode cX0_fit 3 = .ok (.aload_n 0, 1) := by decide +kernel
theorem dX0_fit_4 : decode cX0_fit 4 = .ok (.getfield 19, 3) := by decide +kernel
theorem dX0_fit_7 : decode cX0_fit 7 = .ok (.if_icmp .ge 30, 3) := by decide +kernel
theorem dX0_fit_10 : decode cX0_fit 10 = .ok (.aload_n 1, 1) := by decide +kernel
theorem dX0_fit_11 : decode cX0_fit 11 = .ok (.aload_n 0, 1) := by decide +kernel
theorem dX0_fit_12 : decode cX0_fit 12 = .ok (.getfield 9, 3) := by decide +kernel
theorem dX0_fit_15 : decode cX0_fit 15 = .ok (.iload_n 2, 1) := by decide +kernel
theorem dX0_fit_16 : decode cX0_fit 16 = .ok (.iaload, 1) := by decide +kernel
theorem dX0_fit_17 : decode cX0_fit 17 = .ok (.invokevirtual 23, 3) := by decide +kernel
theorem dX0_fit_20 : decode cX0_fit 20 = .ok (.aload_n 0, 1) := by decide +kernel
theorem dX0_fit_21 : decode cX0_fit 21 = .ok (.getfield 15, 3) := by decide +kernel
theorem dX0_fit_24 : decode cX0_fit 24 = .ok (.iload_n 2, 1) := by decide +kernel
theorem dX0_fit_25 : decode cX0_fit 25 = .ok (.baload, 1) := by decide +kernel
theorem dX0_fit_26 : decode cX0_fit 26 = .ok (.if_icmp .eq 5, 3) := by decide +kernel
theorem dX0_fit_29 : decode cX0_fit 29 = .ok (.iconst 0, 1) := by decide +kernel
theorem dX0_fit_30 : decode cX0_fit 30 = .ok (.ireturn, 1) := by decide +kernel
theorem dX0_fit_31 : decode cX0_fit 31 = .ok (.iinc 2 1, 3) := by decide +kernel
theorem dX0_fit_34 : decode cX0_fit 34 = .ok (.goto (-32), 3) := by decide +kernel
theorem dX0_fit_37 : decode cX0_fit 37 = .ok (.iconst 1, 1) := by decide +kernel
theorem dX0_fit_38 : decode cX0_fit 38 = .ok (.ireturn, 1) := by decide +kernel
theorem dX1_init_0 : decode cX1_init 0 = .ok (.aload_n 0, 1) := by decide +kernel
theorem dX1_init_1 : decode cX1_init 1 = .ok (.invokespecial 3, 3) := by decide +kernel
theorem dX1_init_4 : decode cX1_init 4 = .ok (.aload_n 0, 1) := by decide +kernel
theorem dX1_init_5 : decode cX1_init 5 = .ok (.bipush 60, 2) := by decide +kernel
theorem dX1_init_7 : decode cX1_init 7 = .ok (.newarray .int, 2) := by decide +kernel
theorem dX1_init_9 : decode cX1_init 9 = .ok (.putfield 9, 3) := by decide +kernel
theorem dX1_init_12 : decode cX1_init 12 = .ok (.aload_n 0, 1) := by decide +kernel
theorem dX1_init_13 : decode cX1_init 13 = .ok (.iconst (-1), 1) := by decide +kernel
theorem dX1_init_14 : decode cX1_init 14 = .ok (.putfield 15, 3) := by decide +kernel
theorem dX1_init_17 : decode cX1_init 17 = .ok (.aload_n 0, 1) := by decide +kernel
theorem dX1_init_18 : decode cX1_init 18 = .ok (.iconst 0, 1) := by decide +kernel
theorem dX1_init_19 : decode cX1_init 19 = .ok (.putfield 19, 3) := by decide +kernel
theorem dX1_init_22 : decode cX1_init 22 = .ok (.return_, 1) := by decide +kernel
theorem dX1_isNothing_0 : decode cX1_isNothing 0 = .ok (.aload_n 0, 1) := by decide +kernel
theorem dX1_isNothing_1 : decode cX1_isNothing 1 = .ok (.getfield 15, 3) := by decide +kernel
theorem dX1_isNothing_4 : decode cX1_isNothing 4 = .ok (.iconst (-1), 1) := by decide +kernel
theorem dX1_isNothing_5 : decode cX1_isNothing 5 = .ok (.if_icmp .ne 7, 3) := by decide +kernel
theorem dX1_isNothing_8 : decode cX1_isNothing 8 = .ok (.iconst 1, 1) := by decide +kernel
theorem dX1_isNothing_9 : decode cX1_isNothing 9 = .ok (.goto 4, 3) := by decide +kernel
theorem dX1_isNothing_12 : decode cX1_isNothing 12 = .ok (.iconst 0, 1) := by decide +kernel
theorem dX1_isNothing_13 : decode cX1_isNothing 13 = .ok (.ireturn, 1) := by decide +kernel
theorem dX1_becomeNothing_0 : decode cX1_becomeNothing 0 = .ok (.aload_n 0, 1) := by decide +kernel
theorem dX1_becomeNothing_1 : decode cX1_becomeNothing 1 = .ok (.iconst (-1), 1) := by decide +kernel
theorem dX1_becomeNothing_2 : decode cX1_becomeNothing 2 = .ok (.putfield 15, 3) := by decide +kernel
theorem dX1_becomeNothing_5 : decode cX1_becomeNothing 5 = .ok (.aload_n 0, 1) := by decide +kernel
theorem dX1_becomeNothing_6 : decode cX1_becomeNothing 6 = .ok (.iconst 0, 1) := by decide +kernel
theorem dX1_becomeNothing_7 : decode cX1_becomeNothing 7 = .ok (.putfield 19, 3) := by decide +kernel
theorem dX1_becomeNothing_10 : decode cX1_becomeNothing 10 = .ok (.return_, 1) := by decide +kernel
set_option maxRecDepth 20000 in
theorem ggX1_begin_J7_fill_53178 : GoodIn wsX1_begin wsJ7_fill_53178 := goodIn_r _ [7] (by decide +kernel) (by decide +kernel)
set_option maxRecDepth 20000 in
theorem gX1_begin_J7_fill_53178 : GoodIn wsX1_begin (va_wsS RX1 22 yJ7_fill_53178 wsJ7_fill_53178) := goodIn_app (goodIn_of _ (by decide +kernel)) ggX1_begin_J7_fill_53178
theorem dX1_begin_0 : decode cX1_begin 0 = .ok (.aload_n 0, 1) := by decide +kernel
theorem dX1_begin_1 : decode cX1_begin 1 = .ok (.getfield 9, 3) := by decide +kernel
theorem dX1_begin_4 : decode cX1_begin 4 = .ok (.iconst 0, 1) := by decide +kernel
theorem dX1_begin_5 : decode cX1_begin 5 = .ok (.invokestatic 22, 3) := by decide +kernel
theorem dX1_begin_8 : decode cX1_begin 8 = .ok (.aload_n 0, 1) := by decide +kernel
theorem dX1_begin_9 : decode cX1_begin 9 = .ok (.iload_n 1, 1) := by decide +kernel
theorem dX1_begin_10 : decode cX1_begin 10 = .ok (.putfield 15, 3) := by decide +kernel
theorem dX1_begin_13 : decode cX1_begin 13 = .ok (.aload_n 0, 1) := by decide +kernel
theorem dX1_begin_14 : decode cX1_begin 14 = .ok (.iload_n 2, 1) := by decide +kernel
theorem dX1_begin_15 : decode cX1_begin 15 = .ok (.putfield 19, 3) := by decide +kernel
theorem dX1_begin_18 : decode cX1_begin 18 = .ok (.return_, 1) := by decide +kernel
theorem dX1_covers_0 : decode cX1_covers 0 = .ok (.iload_n 1, 1) := by decide +kernel
theorem dX1_covers_1 : decode cX1_covers 1 = .ok (.ifCond .lt 29, 3) := by decide +kernel
theorem dX1_covers_4 : decode cX1_covers 4 = .ok (.iload_n 1, 1) := by decide +kernel
theorem dX1_covers_5 : decode cX1_covers 5 = .ok (.aload_n 0, 1) := by decide +kernel
theorem dX1_covers_6 : decode cX1_covers 6 = .ok (.getfield 19, 3) := by decide +kernel
theorem dX1_covers_9 : decode cX1_covers 9 = .ok (.if_icmp .gt 21, 3) := by decide +kernel
theorem dX1_covers_12 : decode cX1_covers 12 = .ok (.iload_n 2, 1) := by decide +kernel
theorem dX1_covers_13 : decode cX1_covers 13 = .ok (.ifCond .lt 17, 3) := by decide +kernel
theorem dX1_covers_16 : decode cX1_covers 16 = .ok (.iload_n 2, 1) := by decide +kernel
theorem dX1_covers_17 : decode cX1_covers 17 = .ok (.aload_n 0, 1) := by decide +kernel
theorem dX1_covers_18 : decode cX1_covers 18 = .ok (.getfield 19, 3) := by decide +kernel
theorem dX1_covers_21 : decode cX1_covers 21 = .ok (.iload_n 1, 1) := by decide +kernel
theorem dX1_covers_22 : decode cX1_covers 22 = .ok (.isub, 1) := by decide +kernel
theorem dX1_covers_23 : decode cX1_covers 23 = .ok (.if_icmp .gt 7, 3) := by decide +kernel
theorem dX1_covers_26 : decode cX1_covers 26 = .ok (.iconst 1, 1) := by decide +kernel
theorem dX1_covers_27 : decode cX1_covers 27 = .ok (.goto 4, 3) := by decide +kernel
theorem dX1_covers_30 : decode cX1_covers 30 = .ok (.iconst 0, 1) := by decide +kernel
theorem dX1_covers_31 : decode cX1_covers 31 = .ok (.ireturn, 1) := by decide +kernel
set_option maxRecDepth 20000 in
theorem ggX1_faultOfTaking_X1_isNothing : GoodIn wsX1_faultOfTaking wsX1_isNothing := goodIn_r _ [6, 1, 12, 13, 14] (by decide +kernel) (by decide +kernel)
set_option maxRecDepth 20000 in
theorem gX1_faultOfTaking_X1_isNothing : GoodIn wsX1_faultOfTaking (wsV RX1 28 RX1 yX1_isNothing wsX1_isNothing) := goodIn_app (goodIn_of _ (by decide +kernel)) ggX1_faultOfTaking_X1_isNothing
set_option maxRecDepth 20000 in
theorem ggX1_faultOfTaking_X1_covers : GoodIn wsX1_faultOfTaking wsX1_covers := goodIn_r _ [10, 11, 12, 13, 14] (by decide +kernel) (by decide +kernel)
set_option maxRecDepth 20000 in
theorem gX1_faultOfTaking_X1_covers : GoodIn wsX1_faultOfTaking (wsV RX1 32 RX1 yX1_covers wsX1_covers) := goodIn_app (goodIn_of _ (by decide +kernel)) ggX1_faultOfTaking_X1_covers
theorem dX1_faultOfTaking_0 : decode cX1_faultOfTaking 0 = .ok (.aload_n 0, 1) := by decide +kernel
theorem dX1_faultOfTaking_1 : decode cX1_faultOfTaking 1 = .ok (.invokevirtual 28, 3) := by decide +kernel
theorem dX1_faultOfTaking_4 : decode cX1_faultOfTaking 4 = .ok (.ifCond .eq 5, 3) := by decide +kernel
theorem dX1_faultOfTaking_7 : decode cX1_faultOfTaking 7 = .ok (.iconst 1, 1) := by decide +kernel
theorem dX1_faultOfTaking_8 : decode cX1_faultOfTaking 8 = .ok (.ireturn, 1) := by decide +kernel
theorem dX1_faultOfTaking_9 : decode cX1_faultOfTaking 9 = .ok (.aload_n 0, 1) := by decide +kernel
theorem dX1_faultOfTaking_10 : decode cX1_faultOfTaking 10 = .ok (.getfield 15, 3) := by decide +kernel
theorem dX1_faultOfTaking_13 : decode cX1_faultOfTaking 13 = .ok (.iload_n 1, 1) := by decide +kernel
theorem dX1_faultOfTaking_14 : decode cX1_faultOfTaking 14 = .ok (.if_icmp .eq 5, 3) := by decide +kernel
theorem dX1_faultOfTaking_17 : decode cX1_faultOfTaking 17 = .ok (.iconst 2, 1) := by decide +kernel
theorem dX1_faultOfTaking_18 : decode cX1_faultOfTaking 18 = .ok (.ireturn, 1) := by decide +kernel
theorem dX1_faultOfTaking_19 : decode cX1_faultOfTaking 19 = .ok (.iload_n 3, 1) := by decide +kernel
theorem dX1_faultOfTaking_20 : decode cX1_faultOfTaking 20 = .ok (.ifCond .ge 5, 3) := by decide +kernel
theorem dX1_faultOfTaking_23 : decode cX1_faultOfTaking 23 = .ok (.iconst 4, 1) := by decide +kernel
theorem dX1_faultOfTaking_24 : decode cX1_faultOfTaking 24 = .ok (.ireturn, 1) := by decide +kernel
theorem dX1_faultOfTaking_25 : decode cX1_faultOfTaking 25 = .ok (.aload_n 0, 1) := by decide +kernel
theorem dX1_faultOfTaking_26 : decode cX1_faultOfTaking 26 = .ok (.iload_n 2, 1) := by decide +kernel
theorem dX1_faultOfTaking_27 : decode cX1_faultOfTaking 27 = .ok (.iload_n 3, 1) := by decide +kernel
theorem dX1_faultOfTaking_28 : decode cX1_faultOfTaking 28 = .ok (.invokevirtual 32, 3) := by decide +kernel
theorem dX1_faultOfTaking_31 : decode cX1_faultOfTaking 31 = .ok (.ifCond .eq 7, 3) := by decide +kernel
theorem dX1_faultOfTaking_34 : decode cX1_faultOfTaking 34 = .ok (.iconst 0, 1) := by decide +kernel
theorem dX1_faultOfTaking_35 : decode cX1_faultOfTaking 35 = .ok (.goto 4, 3) := by decide +kernel
theorem dX1_faultOfTaking_38 : decode cX1_faultOfTaking 38 = .ok (.iconst 3, 1) := by decide +kernel
theorem dX1_faultOfTaking_39 : decode cX1_faultOfTaking 39 = .ok (.ireturn, 1) := by decide +kernel
set_option maxRecDepth 20000 in
theorem ggX1_read_X1_covers : GoodIn wsX1_read wsX1_covers := goodIn_r _ [6, 7, 8, 9, 10] (by decide +kernel) (by decide +kernel)
set_option maxRecDepth 20000 in
theorem gX1_read_X1_covers : GoodIn wsX1_read (wsV RX1 32 RX1 yX1_covers wsX1_covers) := goodIn_app (goodIn_of _ (by decide +kernel)) ggX1_read_X1_covers
theorem dX1_read_0 : decode cX1_read 0 = .ok (.aload_n 0, 1) := by decide +kernel
theorem dX1_read_1 : decode cX1_read 1 = .ok (.iload_n 1, 1) := by decide +kernel
theorem dX1_read_2 : decode cX1_read 2 = .ok (.iconst 1, 1) := by decide +kernel
theorem dX1_read_3 : decode cX1_read 3 = .ok (.invokevirtual 32, 3) := by decide +kernel
theorem dX1_read_6 : decode cX1_read 6 = .ok (.ifCond .eq 12, 3) := by decide +kernel
theorem dX1_read_9 : decode cX1_read 9 = .ok (.aload_n 0, 1) := by decide +kernel
theorem dX1_read_10 : decode cX1_read 10 = .ok (.getfield 9, 3) := by decide +kernel
theorem dX1_read_13 : decode cX1_read 13 = .ok (.iload_n 1, 1) := by decide +kernel
theorem dX1_read_14 : decode cX1_read 14 = .ok (.iaload, 1) := by decide +kernel
theorem dX1_read_15 : decode cX1_read 15 = .ok (.goto 4, 3) := by decide +kernel
theorem dX1_read_18 : decode cX1_read 18 = .ok (.iconst 0, 1) := by decide +kernel
theorem dX1_read_19 : decode cX1_read 19 = .ok (.ireturn, 1) := by decide +kernel
set_option maxRecDepth 20000 in
theorem ggX1_write_X1_covers : GoodIn wsX1_write wsX1_covers := goodIn_r _ [7, 8, 9, 10, 11] (by decide +kernel) (by decide +kernel)
set_option maxRecDepth 20000 in
theorem gX1_write_X1_covers : GoodIn wsX1_write (wsV RX1 32 RX1 yX1_covers wsX1_covers) := goodIn_app (goodIn_of _ (by decide +kernel)) ggX1_write_X1_covers
theorem dX1_write_0 : decode cX1_write 0 = .ok (.aload_n 0, 1) := by decide +kernel
theorem dX1_write_1 : decode cX1_write 1 = .ok (.iload_n 1, 1) := by decide +kernel
theorem dX1_write_2 : decode cX1_write 2 = .ok (.iconst 1, 1) := by decide +kernel
theorem dX1_write_3 : decode cX1_write 3 = .ok (.invokevirtual 32, 3) := by decide +kernel
theorem dX1_write_6 : decode cX1_write 6 = .ok (.ifCond .eq 35, 3) := by decide +kernel
theorem dX1_write_9 : decode cX1_write 9 = .ok (.aload_n 0, 1) := by decide +kernel
theorem dX1_write_10 : decode cX1_write 10 = .ok (.getfield 9, 3) := by decide +kernel
theorem dX1_write_13 : decode cX1_write 13 = .ok (.iload_n 1, 1) := by decide +kernel
theorem dX1_write_14 : decode cX1_write 14 = .ok (.aload_n 0, 1) := by decide +kernel
theorem dX1_write_15 : decode cX1_write 15 = .ok (.getfield 15, 3) := by decide +kernel
theorem dX1_write_18 : decode cX1_write 18 = .ok (.ifCond .ne 8, 3) := by decide +kernel
theorem dX1_write_21 : decode cX1_write 21 = .ok (.iload_n 2, 1) := by decide +kernel
theorem dX1_write_22 : decode cX1_write 22 = .ok (.i2b, 1) := by decide +kernel
theorem dX1_write_23 : decode cX1_write 23 = .ok (.goto 17, 3) := by decide +kernel
theorem dX1_write_26 : decode cX1_write 26 = .ok (.aload_n 0, 1) := by decide +kernel
theorem dX1_write_27 : decode cX1_write 27 = .ok (.getfield 15, 3) := by decide +kernel
theorem dX1_write_30 : decode cX1_write 30 = .ok (.iconst 1, 1) := by decide +kernel
theorem dX1_write_31 : decode cX1_write 31 = .ok (.if_icmp .ne 8, 3) := by decide +kernel
theorem dX1_write_34 : decode cX1_write 34 = .ok (.iload_n 2, 1) := by decide +kernel
theorem dX1_write_35 : decode cX1_write 35 = .ok (.i2s, 1) := by decide +kernel
theorem dX1_write_36 : decode cX1_write 36 = .ok (.goto 4, 3) := by decide +kernel
theorem dX1_write_39 : decode cX1_write 39 = .ok (.iload_n 2, 1) := by decide +kernel
theorem dX1_write_40 : decode cX1_write 40 = .ok (.iastore, 1) := by decide +kernel
theorem dX1_write_41 : decode cX1_write 41 = .ok (.return_, 1) := by decide +kernel
set_option maxRecDepth 20000 in
theorem ggX2_init_X5_init : GoodIn wsX2_init wsX5_init := goodIn_r _ [12, 13, 2, 3] (by decide +kernel) (by decide +kernel)
set_option maxRecDepth 20000 in
theorem gX2_init_X5_init_n25 : GoodIn wsX2_init (wsX5_init) := ggX2_init_X5_init
theorem dX2_init_0 : decode cX2_init 0 = .ok (.aload_n 0, 1) := by decide +kernel
theorem dX2_init_1 : decode cX2_init 1 = .ok (.invokespecial 3, 3) := by decide +kernel
theorem dX2_init_4 : decode cX2_init 4 = .ok (.aload_n 0, 1) := by decide +kernel
theorem dX2_init_5 : decode cX2_init 5 = .ok (.bipush 6, 2) := by decide +kernel
theorem dX2_init_7 : decode cX2_init 7 = .ok (.anewarray 9, 3) := by decide +kernel
theorem dX2_init_10 : decode cX2_init 10 = .ok (.putfield 11, 3) := by decide +kernel
theorem dX2_init_13 : decode cX2_init 13 = .ok (.aload_n 0, 1) := by decide +kernel
theorem dX2_init_14 : decode cX2_init 14 = .ok (.bipush 6, 2) := by decide +kernel
theorem dX2_init_16 : decode cX2_init 16 = .ok (.newarray .int, 2) := by decide +kernel
theorem dX2_init_18 : decode cX2_init 18 = .ok (.putfield 17, 3) := by decide +kernel
theorem dX2_init_21 : decode cX2_init 21 = .ok (.aload_n 0, 1) := by decide +kernel
theorem dX2_init_22 : decode cX2_init 22 = .ok (.iconst 0, 1) := by decide +kernel
theorem dX2_init_23 : decode cX2_init 23 = .ok (.putfield 21, 3) := by decide +kernel
theorem dX2_init_26 : decode cX2_init 26 = .ok (.iconst 0, 1) := by decide +kernel
theorem dX2_init_27 : decode cX2_init 27 = .ok (.istore_n 1, 1) := by decide +kernel
theorem dX2_init_28 : decode cX2_init 28 = .ok (.iload_n 1, 1) := by decide +kernel
theorem dX2_init_29 : decode cX2_init 29 = .ok (.bipush 6, 2) := by decide +kernel
theorem dX2_init_31 : decode cX2_init 31 = .ok (.if_icmp .ge 22, 3) := by decide +kernel
theorem dX2_init_34 : decode cX2_init 34 = .ok (.aload_n 0, 1) := by decide +kernel
theorem dX2_init_35 : decode cX2_init 35 = .ok (.getfield 11, 3) := by decide +kernel
theorem dX2_init_38 : decode cX2_init 38 = .ok (.iload_n 1, 1) := by decide +kernel
theorem dX2_init_39 : decode cX2_init 39 = .ok (.new 9, 3) := by decide +kernel
theorem dX2_init_42 : decode cX2_init 42 = .ok (.dup, 1) := by decide +kernel
theorem dX2_init_43 : decode cX2_init 43 = .ok (.invokespecial 25, 3) := by decide +kernel
theorem dX2_init_46 : decode cX2_init 46 = .ok (.aastore, 1) := by decide +kernel
theorem dX2_init_47 : decode cX2_init 47 = .ok (.iinc 1 1, 3) := by decide +kernel
theorem dX2_init_50 : decode cX2_init 50 = .ok (.goto (-22), 3) := by decide +kernel
theorem dX2_init_53 : decode cX2_init 53 = .ok (.return_, 1) := by decide +kernel
theorem dX2_isOpen_0 : decode cX2_isOpen 0 = .ok (.aload_n 0, 1) := by decide +kernel
theorem dX2_isOpen_1 : decode cX2_isOpen 1 = .ok (.getfield 21, 3) := by decide +kernel
theorem dX2_isOpen_4 : decode cX2_isOpen 4 = .ok (.ifCond .le 7, 3) := by decide +kernel
theorem dX2_isOpen_7 : decode cX2_isOpen 7 = .ok (.iconst 1, 1) := by decide +kernel
theorem dX2_isOpen_8 : decode cX2_isOpen 8 = .ok (.goto 4, 3) := by decide +kernel
theorem dX2_isOpen_11 : decode cX2_isOpen 11 = .ok (.iconst 0, 1) := by decide +kernel
theorem dX2_isOpen_12 : decode cX2_isOpen 12 = .ok (.ireturn, 1) := by decide +kernel
theorem dX2_hasTube_0 : decode cX2_hasTube 0 = .ok (.iload_n 1, 1) := by decide +kernel
theorem dX2_hasTube_1 : decode cX2_hasTube 1 = .ok (.ifCond .lt 15, 3) := by decide +kernel
theorem dX2_hasTube_4 : decode cX2_hasTube 4 = .ok (.iload_n 1, 1) := by decide +kernel
theorem dX2_hasTube_5 : decode cX2_hasTube 5 = .ok (.aload_n 0, 1) := by decide +kernel
theorem dX2_hasTube_6 : decode cX2_hasTube 6 = .ok (.getfield 21, 3) := by decide +kernel
theorem dX2_hasTube_9 : decode cX2_hasTube 9 = .ok (.if_icmp .ge 7, 3) := by decide +kernel
theorem dX2_hasTube_12 : decode cX2_hasTube 12 = .ok (.iconst 1, 1) := by decide +kernel
theorem dX2_hasTube_13 : decode cX2_hasTube 13 = .ok (.goto 4, 3) := by decide +kernel
theorem dX2_hasTube_16 : decode cX2_hasTube 16 = .ok (.iconst 0, 1) := by decide +kernel
theorem dX2_hasTube_17 : decode cX2_hasTube 17 = .ok (.ireturn, 1) := by decide +kernel
set_option maxRecDepth 20000 in
theorem ggX2_hasAllTubes_X1_read : GoodIn wsX2_hasAllTubes wsX1_read := goodIn_r _ [5, 6, 7, 8, 9, 4, 10, 11, 18, 19, 20] (by decide +kernel) (by decide +kernel)
set_option maxRecDepth 20000 in
theorem gX2_hasAllTubes_X1_read : GoodIn wsX2_hasAllTubes (wsV RX2 26 RX1 yX1_read wsX1_read) := goodIn_app (goodIn_of _ (by decide +kernel)) ggX2_hasAllTubes_X1_read
set_option maxRecDepth 20000 in
theorem ggX2_hasAllTubes_X2_hasTube : GoodIn wsX2_hasAllTubes wsX2_hasTube := goodIn_r _ [16, 17, 21, 22, 23, 24, 25, 26, 27, 28, 29, 30] (by decide +kernel) (by decide +kernel)
set_option maxRecDepth 20000 in
theorem gX2_hasAllTubes_X2_hasTube : GoodIn wsX2_hasAllTubes (wsV RX2 32 RX2 yX2_hasTube wsX2_hasTube) := goodIn_app (goodIn_of _ (by decide +kernel)) ggX2_hasAllTubes_X2_hasTube
theorem dX2_hasAllTubes_0 : decode cX2_hasAllTubes 0 = .ok (.iconst 0, 1) := by decide +kernel
theorem dX2_hasAllTubes_1 : decode cX2_hasAllTubes 1 = .ok (.istore 4, 2) := by decide +kernel
theorem dX2_hasAllTubes_3 : decode cX2_hasAllTubes 3 = .ok (.iload 4, 2) := by decide +kernel
theorem dX2_hasAllTubes_5 : decode cX2_hasAllTubes 5 = .ok (.iload_n 3, 1) := by decide +kernel
theorem dX2_hasAllTubes_6 : decode cX2_hasAllTubes 6 = .ok (.if_icmp .ge 26, 3) := by decide +kernel
theorem dX2_hasAllTubes_9 : decode cX2_hasAllTubes 9 = .ok (.aload_n 0, 1) := by decide +kernel
theorem dX2_hasAllTubes_10 : decode cX2_hasAllTubes 10 = .ok (.aload_n 1, 1) := by decide +kernel
theorem dX2_hasAllTubes_11 : decode cX2_hasAllTubes 11 = .ok (.iload_n 2, 1) := by decide +kernel
theorem dX2_hasAllTubes_12 : decode cX2_hasAllTubes 12 = .ok (.iload 4, 2) := by decide +kernel
theorem dX2_hasAllTubes_14 : decode cX2_hasAllTubes 14 = .ok (.iadd, 1) := by decide +kernel
theorem dX2_hasAllTubes_15 : decode cX2_hasAllTubes 15 = .ok (.invokevirtual 26, 3) := by decide +kernel
theorem dX2_hasAllTubes_18 : decode cX2_hasAllTubes 18 = .ok (.invokevirtual 32, 3) := by decide +kernel
theorem dX2_hasAllTubes_21 : decode cX2_hasAllTubes 21 = .ok (.ifCond .ne 5, 3) := by decide +kernel
theorem dX2_hasAllTubes_24 : decode cX2_hasAllTubes 24 = .ok (.iconst 0, 1) := by decide +kernel
theorem dX2_hasAllTubes_25 : decode cX2_hasAllTubes 25 = .ok (.ireturn, 1) := by decide +kernel
theorem dX2_hasAllTubes_26 : decode cX2_hasAllTubes 26 = .ok (.iinc 4 1, 3) := by decide +kernel
theorem dX2_hasAllTubes_29 : decode cX2_hasAllTubes 29 = .ok (.goto (-26), 3) := by decide +kernel
theorem dX2_hasAllTubes_32 : decode cX2_hasAllTubes 32 = .ok (.iconst 1, 1) := by decide +kernel
theorem dX2_hasAllTubes_33 : decode cX2_hasAllTubes 33 = .ok (.ireturn, 1) := by decide +kernel
set_option maxRecDepth 20000 in
theorem ggX2_stockFrom_X1_read : GoodIn wsX2_stockFrom wsX1_read := goodIn_r _ [19, 20, 21, 22, 23, 18, 24, 25, 48, 49, 50] (by decide +kernel) (by decide +kernel)
set_option maxRecDepth 20000 in
theorem gX2_stockFrom_X1_read : GoodIn wsX2_stockFrom (wsV RX2 26 RX1 yX1_read wsX1_read) := goodIn_app (goodIn_of _ (by decide +kernel)) ggX2_stockFrom_X1_read
set_option maxRecDepth 20000 in
theorem ggX2_stockFrom_X5_fillFrom : GoodIn wsX2_stockFrom wsX5_fillFrom := goodIn_r _ [30, 31, 32, 33, 34, 35, 36, 37, 16, 17, 18, 19, 20, 21, 22, 23, 24, 25, 51, 52, 53, 54, 55, 56, 48, 49, 50] (by decide +kernel) (by decide +kernel)
set_option maxRecDepth 20000 in
theorem gX2_stockFrom_X5_fillFrom : GoodIn wsX2_stockFrom (wsV RX2 56 RX5 yX5_fillFrom wsX5_fillFrom) := goodIn_app (goodIn_of _ (by decide +kernel)) ggX2_stockFrom_X5_fillFrom
theorem dX2_stockFrom_0 : decode cX2_stockFrom 0 = .ok (.aload_n 0, 1) := by decide +kernel
theorem dX2_stockFrom_1 : decode cX2_stockFrom 1 = .ok (.aload_n 1, 1) := by decide +kernel
theorem dX2_stockFrom_2 : decode cX2_stockFrom 2 = .ok (.iload_n 2, 1) := by decide +kernel
theorem dX2_stockFrom_3 : decode cX2_stockFrom 3 = .ok (.iconst 1, 1) := by decide +kernel
theorem dX2_stockFrom_4 : decode cX2_stockFrom 4 = .ok (.iadd, 1) := by decide +kernel
theorem dX2_stockFrom_5 : decode cX2_stockFrom 5 = .ok (.invokevirtual 26, 3) := by decide +kernel
theorem dX2_stockFrom_8 : decode cX2_stockFrom 8 = .ok (.bipush 48, 2) := by decide +kernel
theorem dX2_stockFrom_10 : decode cX2_stockFrom 10 = .ok (.isub, 1) := by decide +kernel
theorem dX2_stockFrom_11 : decode cX2_stockFrom 11 = .ok (.putfield 36, 3) := by decide +kernel
theorem dX2_stockFrom_14 : decode cX2_stockFrom 14 = .ok (.aload_n 0, 1) := by decide +kernel
theorem dX2_stockFrom_15 : decode cX2_stockFrom 15 = .ok (.aload_n 1, 1) := by decide +kernel
theorem dX2_stockFrom_16 : decode cX2_stockFrom 16 = .ok (.iload_n 2, 1) := by decide +kernel
theorem dX2_stockFrom_17 : decode cX2_stockFrom 17 = .ok (.iconst 2, 1) := by decide +kernel
theorem dX2_stockFrom_18 : decode cX2_stockFrom 18 = .ok (.iadd, 1) := by decide +kernel
theorem dX2_stockFrom_19 : decode cX2_stockFrom 19 = .ok (.invokevirtual 26, 3) := by decide +kernel
theorem dX2_stockFrom_22 : decode cX2_stockFrom 22 = .ok (.bipush 48, 2) := by decide +kernel
theorem dX2_stockFrom_24 : decode cX2_stockFrom 24 = .ok (.isub, 1) := by decide +kernel
theorem dX2_stockFrom_25 : decode cX2_stockFrom 25 = .ok (.putfield 39, 3) := by decide +kernel
theorem dX2_stockFrom_28 : decode cX2_stockFrom 28 = .ok (.aload_n 0, 1) := by decide +kernel
theorem dX2_stockFrom_29 : decode cX2_stockFrom 29 = .ok (.aload_n 1, 1) := by decide +kernel
theorem dX2_stockFrom_30 : decode cX2_stockFrom 30 = .ok (.iload_n 2, 1) := by decide +kernel
theorem dX2_stockFrom_31 : decode cX2_stockFrom 31 = .ok (.iconst 3, 1) := by decide +kernel
theorem dX2_stockFrom_32 : decode cX2_stockFrom 32 = .ok (.iadd, 1) := by decide +kernel
theorem dX2_stockFrom_33 : decode cX2_stockFrom 33 = .ok (.invokevirtual 26, 3) := by decide +kernel
theorem dX2_stockFrom_36 : decode cX2_stockFrom 36 = .ok (.bipush 48, 2) := by decide +kernel
theorem dX2_stockFrom_38 : decode cX2_stockFrom 38 = .ok (.isub, 1) := by decide +kernel
theorem dX2_stockFrom_39 : decode cX2_stockFrom 39 = .ok (.putfield 42, 3) := by decide +kernel
theorem dX2_stockFrom_42 : decode cX2_stockFrom 42 = .ok (.iconst 0, 1) := by decide +kernel
theorem dX2_stockFrom_43 : decode cX2_stockFrom 43 = .ok (.istore 4, 2) := by decide +kernel
theorem dX2_stockFrom_45 : decode cX2_stockFrom 45 = .ok (.iload 4, 2) := by decide +kernel
theorem dX2_stockFrom_47 : decode cX2_stockFrom 47 = .ok (.bipush 6, 2) := by decide +kernel
theorem dX2_stockFrom_49 : decode cX2_stockFrom 49 = .ok (.if_icmp .ge 29, 3) := by decide +kernel
theorem dX2_stockFrom_52 : decode cX2_stockFrom 52 = .ok (.aload_n 0, 1) := by decide +kernel
theorem dX2_stockFrom_53 : decode cX2_stockFrom 53 = .ok (.getfield 17, 3) := by decide +kernel
theorem dX2_stockFrom_56 : decode cX2_stockFrom 56 = .ok (.iload 4, 2) := by decide +kernel
theorem dX2_stockFrom_58 : decode cX2_stockFrom 58 = .ok (.aload_n 1, 1) := by decide +kernel
theorem dX2_stockFrom_59 : decode cX2_stockFrom 59 = .ok (.iload_n 2, 1) := by decide +kernel
theorem dX2_stockFrom_60 : decode cX2_stockFrom 60 = .ok (.iconst 4, 1) := by decide +kernel
theorem dX2_stockFrom_61 : decode cX2_stockFrom 61 = .ok (.iadd, 1) := by decide +kernel
theorem dX2_stockFrom_62 : decode cX2_stockFrom 62 = .ok (.iload 4, 2) := by decide +kernel
theorem dX2_stockFrom_64 : decode cX2_stockFrom 64 = .ok (.iadd, 1) := by decide +kernel
theorem dX2_stockFrom_65 : decode cX2_stockFrom 65 = .ok (.invokevirtual 26, 3) := by decide +kernel
theorem dX2_stockFrom_68 : decode cX2_stockFrom 68 = .ok (.bipush 48, 2) := by decide +kernel
theorem dX2_stockFrom_70 : decode cX2_stockFrom 70 = .ok (.isub, 1) := by decide +kernel
theorem dX2_stockFrom_71 : decode cX2_stockFrom 71 = .ok (.iastore, 1) := by decide +kernel
theorem dX2_stockFrom_72 : decode cX2_stockFrom 72 = .ok (.iinc 4 1, 3) := by decide +kernel
theorem dX2_stockFrom_75 : decode cX2_stockFrom 75 = .ok (.goto (-30), 3) := by decide +kernel
theorem dX2_stockFrom_78 : decode cX2_stockFrom 78 = .ok (.aload_n 0, 1) := by decide +kernel
theorem dX2_stockFrom_79 : decode cX2_stockFrom 79 = .ok (.aload_n 1, 1) := by decide +kernel
theorem dX2_stockFrom_80 : decode cX2_stockFrom 80 = .ok (.iload_n 2, 1) := by decide +kernel
theorem dX2_stockFrom_81 : decode cX2_stockFrom 81 = .ok (.bipush 10, 2) := by decide +kernel
theorem dX2_stockFrom_83 : decode cX2_stockFrom 83 = .ok (.iadd, 1) := by decide +kernel
theorem dX2_stockFrom_84 : decode cX2_stockFrom 84 = .ok (.invokevirtual 26, 3) := by decide +kernel
theorem dX2_stockFrom_87 : decode cX2_stockFrom 87 = .ok (.bipush 48, 2) := by decide +kernel
theorem dX2_stockFrom_89 : decode cX2_stockFrom 89 = .ok (.isub, 1) := by decide +kernel
theorem dX2_stockFrom_90 : decode cX2_stockFrom 90 = .ok (.putfield 45, 3) := by decide +kernel
theorem dX2_stockFrom_93 : decode cX2_stockFrom 93 = .ok (.aload_n 0, 1) := by decide +kernel
theorem dX2_stockFrom_94 : decode cX2_stockFrom 94 = .ok (.bipush 6, 2) := by decide +kernel
theorem dX2_stockFrom_96 : decode cX2_stockFrom 96 = .ok (.iload_n 3, 1) := by decide +kernel
theorem dX2_stockFrom_97 : decode cX2_stockFrom 97 = .ok (.bipush 11, 2) := by decide +kernel
theorem dX2_stockFrom_99 : decode cX2_stockFrom 99 = .ok (.isub, 1) := by decide +kernel
theorem dX2_stockFrom_100 : decode cX2_stockFrom 100 = .ok (.bipush 7, 2) := by decide +kernel
theorem dX2_stockFrom_102 : decode cX2_stockFrom 102 = .ok (.idiv, 1) := by decide +kernel
theorem dX2_stockFrom_103 : decode cX2_stockFrom 103 = .ok (.invokestatic 50, 3) := by decide +kernel
theorem dX2_stockFrom_106 : decode cX2_stockFrom 106 = .ok (.putfield 21, 3) := by decide +kernel
theorem dX2_stockFrom_109 : decode cX2_stockFrom 109 = .ok (.iconst 0, 1) := by decide +kernel
theorem dX2_stockFrom_110 : decode cX2_stockFrom 110 = .ok (.istore 4, 2) := by decide +kernel
theorem dX2_stockFrom_112 : decode cX2_stockFrom 112 = .ok (.iload 4, 2) := by decide +kernel
theorem dX2_stockFrom_114 : decode cX2_stockFrom 114 = .ok (.aload_n 0, 1) := by decide +kernel
theorem dX2_stockFrom_115 : decode cX2_stockFrom 115 = .ok (.getfield 21, 3) := by decide +kernel
theorem dX2_stockFrom_118 : decode cX2_stockFrom 118 = .ok (.if_icmp .ge 30, 3) := by decide +kernel
theorem dX2_stockFrom_121 : decode cX2_stockFrom 121 = .ok (.aload_n 0, 1) := by decide +kernel
theorem dX2_stockFrom_122 : decode cX2_stockFrom 122 = .ok (.getfield 11, 3) := by decide +kernel
theorem dX2_stockFrom_125 : decode cX2_stockFrom 125 = .ok (.iload 4, 2) := by decide +kernel
theorem dX2_stockFrom_127 : decode cX2_stockFrom 127 = .ok (.aaload, 1) := by decide +kernel
theorem dX2_stockFrom_128 : decode cX2_stockFrom 128 = .ok (.aload_n 1, 1) := by decide +kernel
theorem dX2_stockFrom_129 : decode cX2_stockFrom 129 = .ok (.iload_n 2, 1) := by decide +kernel
theorem dX2_stockFrom_130 : decode cX2_stockFrom 130 = .ok (.bipush 11, 2) := by decide +kernel
theorem dX2_stockFrom_132 : decode cX2_stockFrom 132 = .ok (.iadd, 1) := by decide +kernel
theorem dX2_stockFrom_133 : decode cX2_stockFrom 133 = .ok (.iload 4, 2) := by decide +kernel
theorem dX2_stockFrom_135 : decode cX2_stockFrom 135 = .ok (.bipush 7, 2) := by decide +kernel
theorem dX2_stockFrom_137 : decode cX2_stockFrom 137 = .ok (.imul, 1) := by decide +kernel
theorem dX2_stockFrom_138 : decode cX2_stockFrom 138 = .ok (.iadd, 1) := by decide +kernel
theorem dX2_stockFrom_139 : decode cX2_stockFrom 139 = .ok (.invokevirtual 56, 3) := by decide +kernel
theorem dX2_stockFrom_142 : decode cX2_stockFrom 142 = .ok (.iinc 4 1, 3) := by decide +kernel
theorem dX2_stockFrom_145 : decode cX2_stockFrom 145 = .ok (.goto (-33), 3) := by decide +kernel
theorem dX2_stockFrom_148 : decode cX2_stockFrom 148 = .ok (.aload_n 0, 1) := by decide +kernel
theorem dX2_stockFrom_149 : decode cX2_stockFrom 149 = .ok (.iconst 0, 1) := by decide +kernel
theorem dX2_stockFrom_150 : decode cX2_stockFrom 150 = .ok (.putfield 60, 3) := by decide +kernel
theorem dX2_stockFrom_153 : decode cX2_stockFrom 153 = .ok (.aload_n 0, 1) := by decide +kernel
theorem dX2_stockFrom_154 : decode cX2_stockFrom 154 = .ok (.iconst 0, 1) := by decide +kernel
theorem dX2_stockFrom_155 : decode cX2_stockFrom 155 = .ok (.putfield 63, 3) := by decide +kernel
theorem dX2_stockFrom_158 : decode cX2_stockFrom 158 = .ok (.aload_n 0, 1) := by decide +kernel
theorem dX2_stockFrom_159 : decode cX2_stockFrom 159 = .ok (.iconst 0, 1) := by decide +kernel
theorem dX2_stockFrom_160 : decode cX2_stockFrom 160 = .ok (.putfield 66, 3) := by decide +kernel
theorem dX2_stockFrom_163 : decode cX2_stockFrom 163 = .ok (.return_, 1) := by decide +kernel
theorem dX2_wantedPart_0 : decode cX2_wantedPart 0 = .ok (.iload_n 1, 1) := by decide +kernel
theorem dX2_wantedPart_1 : decode cX2_wantedPart 1 = .ok (.tableswitch 42 0 2 #[27, 32, 37], 27) := by decide +kernel
theorem dX2_wantedPart_28 : decode cX2_wantedPart 28 = .ok (.aload_n 0, 1) := by decide +kernel
theorem dX2_wantedPart_29 : decode cX2_wantedPart 29 = .ok (.getfield 36, 3) := by decide +kernel
theorem dX2_wantedPart_32 : decode cX2_wantedPart 32 = .ok (.ireturn, 1) := by decide +kernel
theorem dX2_wantedPart_33 : decode cX2_wantedPart 33 = .ok (.aload_n 0, 1) := by decide +kernel
theorem dX2_wantedPart_34 : decode cX2_wantedPart 34 = .ok (.getfield 39, 3) := by decide +kernel
theorem dX2_wantedPart_37 : decode cX2_wantedPart 37 = .ok (.ireturn, 1) := by decide +kernel
theorem dX2_wantedPart_38 : decode cX2_wantedPart 38 = .ok (.aload_n 0, 1) := by decide +kernel
theorem dX2_wantedPart_39 : decode cX2_wantedPart 39 = .ok (.getfield 42, 3) := by decide +kernel
theorem dX2_wantedPart_42 : decode cX2_wantedPart 42 = .ok (.ireturn, 1) := by decide +kernel
theorem dX2_wantedPart_43 : decode cX2_wantedPart 43 = .ok (.aload_n 0, 1) := by decide +kernel
theorem dX2_wantedPart_44 : decode cX2_wantedPart 44 = .ok (.getfield 45, 3) := by decide +kernel
theorem dX2_wantedPart_47 : decode cX2_wantedPart 47 = .ok (.ireturn, 1) := by decide +kernel
theorem dX2_rememberedColour_0 : decode cX2_rememberedColour 0 = .ok (.bipush 7, 2) := by decide +kernel
theorem dX2_rememberedColour_2 : decode cX2_rememberedColour 2 = .ok (.aload_n 0, 1) := by decide +kernel
theorem dX2_rememberedColour_3 : decode cX2_rememberedColour 3 = .ok (.getfield 36, 3) := by decide +kernel
theorem dX2_rememberedColour_6 : decode cX2_rememberedColour 6 = .ok (.aload_n 0, 1) := by decide +kernel
theorem dX2_rememberedColour_7 : decode cX2_rememberedColour 7 = .ok (.getfield 60, 3) := by decide +kernel
theorem dX2_rememberedColour_10 : decode cX2_rememberedColour 10 = .ok (.iadd, 1) := by decide +kernel
theorem dX2_rememberedColour_11 : decode cX2_rememberedColour 11 = .ok (.invokestatic 50, 3) := by decide +kernel
theorem dX2_rememberedColour_14 : decode cX2_rememberedColour 14 = .ok (.ireturn, 1) := by decide +kernel
theorem dX2_rememberedSize_0 : decode cX2_rememberedSize 0 = .ok (.bipush 9, 2) := by decide +kernel
theorem dX2_rememberedSize_2 : decode cX2_rememberedSize 2 = .ok (.aload_n 0, 1) := by decide +kernel
theorem dX2_rememberedSize_3 : decode cX2_rememberedSize 3 = .ok (.getfield 39, 3) := by decide +kernel
theorem dX2_rememberedSize_6 : decode cX2_rememberedSize 6 = .ok (.aload_n 0, 1) := by decide +kernel
theorem dX2_rememberedSize_7 : decode cX2_rememberedSize 7 = .ok (.getfield 63, 3) := by decide +kernel
theorem dX2_rememberedSize_10 : decode cX2_rememberedSize 10 = .ok (.iadd, 1) := by decide +kernel
theorem dX2_rememberedSize_11 : decode cX2_rememberedSize 11 = .ok (.invokestatic 50, 3) := by decide +kernel
theorem dX2_rememberedSize_14 : decode cX2_rememberedSize 14 = .ok (.ireturn, 1) := by decide +kernel
set_option maxRecDepth 20000 in
theorem ggX2_farFromRemembered_X2_hasTube : GoodIn wsX2_farFromRemembered wsX2_hasTube := goodIn_r _ [7, 8, 49, 50, 51, 52, 53, 54, 55, 56, 57, 58] (by decide +kernel) (by decide +kernel)
set_option maxRecDepth 20000 in
theorem gX2_farFromRemembered_X2_hasTube : GoodIn wsX2_farFromRemembered (wsV RX2 32 RX2 yX2_hasTube wsX2_hasTube) := goodIn_app (goodIn_of _ (by decide +kernel)) ggX2_farFromRemembered_X2_hasTube
set_option maxRecDepth 20000 in
theorem ggX2_farFromRemembered_X2_rememberedColour : GoodIn wsX2_farFromRemembered wsX2_rememberedColour := goodIn_r _ [12, 13, 14, 15, 16, 17, 18, 49, 50, 51, 52, 53, 54, 55, 56, 57, 58] (by decide +kernel) (by decide +kernel)
set_option maxRecDepth 20000 in
theorem gX2_farFromRemembered_X2_rememberedColour : GoodIn wsX2_farFromRemembered (wsV RX2 69 RX2 yX2_rememberedColour wsX2_rememberedColour) := goodIn_app (goodIn_of _ (by decide +kernel)) ggX2_farFromRemembered_X2_rememberedColour
set_option maxRecDepth 20000 in
theorem ggX2_farFromRemembered_X2_rememberedSize : GoodIn wsX2_farFromRemembered wsX2_rememberedSize := goodIn_r _ [22, 23, 24, 15, 16, 17, 18, 49, 50, 51, 52, 53, 54, 55, 56, 57, 58] (by decide +kernel) (by decide +kernel)
set_option maxRecDepth 20000 in
theorem gX2_farFromRemembered_X2_rememberedSize : GoodIn wsX2_farFromRemembered (wsV RX2 73 RX2 yX2_rememberedSize wsX2_rememberedSize) := goodIn_app (goodIn_of _ (by decide +kernel)) ggX2_farFromRemembered_X2_rememberedSize
set_option maxRecDepth 20000 in
theorem ggX2_farFromRemembered_X5_farFrom : GoodIn wsX2_farFromRemembered wsX5_farFrom := goodIn_r _ [29, 30, 31, 17, 32, 33, 34, 35, 36, 28, 37, 38, 39, 40, 16, 18, 41, 42, 43, 44, 45, 46, 47, 48, 59, 60, 61, 62, 63, 64] (by decide +kernel) (by decide +kernel)
set_option maxRecDepth 20000 in
theorem gX2_farFromRemembered_X5_farFrom : GoodIn wsX2_farFromRemembered (wsV RX2 76 RX5 yX5_farFrom wsX5_farFrom) := goodIn_app (goodIn_of _ (by decide +kernel)) ggX2_farFromRemembered_X5_farFrom
theorem dX2_farFromRemembered_0 : decode cX2_farFromRemembered 0 = .ok (.aload_n 0, 1) := by decide +kernel
theorem dX2_farFromRemembered_1 : decode cX2_farFromRemembered 1 = .ok (.iload_n 1, 1) := by decide +kernel
theorem dX2_farFromRemembered_2 : decode cX2_farFromRemembered 2 = .ok (.invokevirtual 32, 3) := by decide +kernel
theorem dX2_farFromRemembered_5 : decode cX2_farFromRemembered 5 = .ok (.ifCond .eq 27, 3) := by decide +kernel
theorem dX2_farFromRemembered_8 : decode cX2_farFromRemembered 8 = .ok (.aload_n 0, 1) := by decide +kernel
theorem dX2_farFromRemembered_9 : decode cX2_farFromRemembered 9 = .ok (.getfield 11, 3) := by decide +kernel
theorem dX2_farFromRemembered_12 : decode cX2_farFromRemembered 12 = .ok (.iload_n 1, 1) := by decide +kernel
theorem dX2_farFromRemembered_13 : decode cX2_farFromRemembered 13 = .ok (.aaload, 1) := by decide +kernel
theorem dX2_farFromRemembered_14 : decode cX2_farFromRemembered 14 = .ok (.aload_n 0, 1) := by decide +kernel
theorem dX2_farFromRemembered_15 : decode cX2_farFromRemembered 15 = .ok (.invokevirtual 69, 3) := by decide +kernel
theorem dX2_farFromRemembered_18 : decode cX2_farFromRemembered 18 = .ok (.aload_n 0, 1) := by decide +kernel
theorem dX2_farFromRemembered_19 : decode cX2_farFromRemembered 19 = .ok (.invokevirtual 73, 3) := by decide +kernel
theorem dX2_farFromRemembered_22 : decode cX2_farFromRemembered 22 = .ok (.aload_n 0, 1) := by decide +kernel
theorem dX2_farFromRemembered_23 : decode cX2_farFromRemembered 23 = .ok (.getfield 42, 3) := by decide +kernel
theorem dX2_farFromRemembered_26 : decode cX2_farFromRemembered 26 = .ok (.invokevirtual 76, 3) := by decide +kernel
theorem dX2_farFromRemembered_29 : decode cX2_farFromRemembered 29 = .ok (.goto 4, 3) := by decide +kernel
theorem dX2_farFromRemembered_32 : decode cX2_farFromRemembered 32 = .ok (.iconst 0, 1) := by decide +kernel
theorem dX2_farFromRemembered_33 : decode cX2_farFromRemembered 33 = .ok (.ireturn, 1) := by decide +kernel
set_option maxRecDepth 20000 in
theorem ggX2_isAlike_X2_farFromRemembered : GoodIn wsX2_isAlike wsX2_farFromRemembered := goodIn_r _ [6, 7, 8, 9, 10, 11, 5, 12, 13, 14, 15, 16, 17, 18, 19, 20, 21, 22, 23, 24, 25, 26, 27, 28, 29, 30, 31, 32, 33, 34, 35, 36, 37, 38, 39, 40, 41, 42, 43, 44, 45, 46, 47, 48, 49, 50, 51, 52, 53, 54, 55, 56, 57, 58, 59, 60, 61, 62, 63, 64, 65, 66, 67, 68, 69] (by decide +kernel) (by decide +kernel)
set_option maxRecDepth 20000 in
theorem gX2_isAlike_X2_farFromRemembered : GoodIn wsX2_isAlike (wsV RX2 80 RX2 yX2_farFromRemembered wsX2_farFromRemembered) := goodIn_app (goodIn_of _ (by decide +kernel)) ggX2_isAlike_X2_farFromRemembered
theorem dX2_isAlike_0 : decode cX2_isAlike 0 = .ok (.aload_n 0, 1) := by decide +kernel
theorem dX2_isAlike_1 : decode cX2_isAlike 1 = .ok (.iload_n 1, 1) := by decide +kernel
theorem dX2_isAlike_2 : decode cX2_isAlike 2 = .ok (.invokevirtual 80, 3) := by decide +kernel
theorem dX2_isAlike_5 : decode cX2_isAlike 5 = .ok (.aload_n 0, 1) := by decide +kernel
theorem dX2_isAlike_6 : decode cX2_isAlike 6 = .ok (.getfield 66, 3) := by decide +kernel
theorem dX2_isAlike_9 : decode cX2_isAlike 9 = .ok (.if_icmp .gt 7, 3) := by decide +kernel
theorem dX2_isAlike_12 : decode cX2_isAlike 12 = .ok (.iconst 1, 1) := by decide +kernel
theorem dX2_isAlike_13 : decode cX2_isAlike 13 = .ok (.goto 4, 3) := by decide +kernel
theorem dX2_isAlike_16 : decode cX2_isAlike 16 = .ok (.iconst 0, 1) := by decide +kernel
theorem dX2_isAlike_17 : decode cX2_isAlike 17 = .ok (.ireturn, 1) := by decide +kernel
set_option maxRecDepth 20000 in
theorem ggX2_searched_X1_read : GoodIn wsX2_searched wsX1_read := goodIn_r _ [9, 10, 11, 12, 13, 8, 14, 15, 70, 71, 72] (by decide +kernel) (by decide +kernel)
set_option maxRecDepth 20000 in
theorem gX2_searched_X1_read : GoodIn wsX2_searched (wsV RX2 26 RX1 yX1_read wsX1_read) := goodIn_app (goodIn_of _ (by decide +kernel)) ggX2_searched_X1_read
set_option maxRecDepth 20000 in
theorem ggX2_searched_X2_isAlike : GoodIn wsX2_searched wsX2_isAlike := goodIn_r _ [20, 21, 22, 23, 24, 19, 25, 26, 27, 28, 29, 30, 31, 32, 33, 34, 35, 36, 37, 38, 39, 40, 3, 41, 42, 43, 44, 45, 46, 47, 48, 49, 50, 51, 52, 53, 2, 4, 54, 55, 56, 57, 58, 59, 60, 61, 62, 63, 64, 65, 66, 67, 68, 69, 73, 74, 75, 76, 77, 78, 79, 80, 81, 82, 83, 84, 85, 86, 87, 88] (by decide +kernel) (by decide +kernel)
set_option maxRecDepth 20000 in
theorem gX2_searched_X2_isAlike : GoodIn wsX2_searched (wsV RX2 86 RX2 yX2_isAlike wsX2_isAlike) := goodIn_app (goodIn_of _ (by decide +kernel)) ggX2_searched_X2_isAlike
theorem dX2_searched_0 : decode cX2_searched 0 = .ok (.iconst 0, 1) := by decide +kernel
theorem dX2_searched_1 : decode cX2_searched 1 = .ok (.istore 5, 2) := by decide +kernel
theorem dX2_searched_3 : decode cX2_searched 3 = .ok (.iconst 0, 1) := by decide +kernel
theorem dX2_searched_4 : decode cX2_searched 4 = .ok (.istore 6, 2) := by decide +kernel
theorem dX2_searched_6 : decode cX2_searched 6 = .ok (.iconst 0, 1) := by decide +kernel
theorem dX2_searched_7 : decode cX2_searched 7 = .ok (.istore 7, 2) := by decide +kernel
theorem dX2_searched_9 : decode cX2_searched 9 = .ok (.bipush (-9), 2) := by decide +kernel
theorem dX2_searched_11 : decode cX2_searched 11 = .ok (.istore 8, 2) := by decide +kernel
theorem dX2_searched_13 : decode cX2_searched 13 = .ok (.iconst 0, 1) := by decide +kernel
theorem dX2_searched_14 : decode cX2_searched 14 = .ok (.istore 9, 2) := by decide +kernel
theorem dX2_searched_16 : decode cX2_searched 16 = .ok (.iload 9, 2) := by decide +kernel
theorem dX2_searched_18 : decode cX2_searched 18 = .ok (.iload_n 3, 1) := by decide +kernel
theorem dX2_searched_19 : decode cX2_searched 19 = .ok (.if_icmp .ge 66, 3) := by decide +kernel
theorem dX2_searched_22 : decode cX2_searched 22 = .ok (.iload 8, 2) := by decide +kernel
theorem dX2_searched_24 : decode cX2_searched 24 = .ok (.bipush (-9), 2) := by decide +kernel
theorem dX2_searched_26 : decode cX2_searched 26 = .ok (.if_icmp .ne 59, 3) := by decide +kernel
theorem dX2_searched_29 : decode cX2_searched 29 = .ok (.aload_n 1, 1) := by decide +kernel
theorem dX2_searched_30 : decode cX2_searched 30 = .ok (.iload_n 2, 1) := by decide +kernel
theorem dX2_searched_31 : decode cX2_searched 31 = .ok (.iload 9, 2) := by decide +kernel
theorem dX2_searched_33 : decode cX2_searched 33 = .ok (.iadd, 1) := by decide +kernel
theorem dX2_searched_34 : decode cX2_searched 34 = .ok (.invokevirtual 26, 3) := by decide +kernel
theorem dX2_searched_37 : decode cX2_searched 37 = .ok (.istore 10, 2) := by decide +kernel
theorem dX2_searched_39 : decode cX2_searched 39 = .ok (.iload 6, 2) := by decide +kernel
theorem dX2_searched_41 : decode cX2_searched 41 = .ok (.iload 10, 2) := by decide +kernel
theorem dX2_searched_43 : decode cX2_searched 43 = .ok (.iload 5, 2) := by decide +kernel
theorem dX2_searched_45 : decode cX2_searched 45 = .ok (.isub, 1) := by decide +kernel
theorem dX2_searched_46 : decode cX2_searched 46 = .ok (.invokestatic 83, 3) := by decide +kernel
theorem dX2_searched_49 : decode cX2_searched 49 = .ok (.iconst 1, 1) := by decide +kernel
theorem dX2_searched_50 : decode cX2_searched 50 = .ok (.iadd, 1) := by decide +kernel
theorem dX2_searched_51 : decode cX2_searched 51 = .ok (.iadd, 1) := by decide +kernel
theorem dX2_searched_52 : decode cX2_searched 52 = .ok (.istore 6, 2) := by decide +kernel
theorem dX2_searched_54 : decode cX2_searched 54 = .ok (.iinc 7 1, 3) := by decide +kernel
theorem dX2_searched_57 : decode cX2_searched 57 = .ok (.iload 10, 2) := by decide +kernel
theorem dX2_searched_59 : decode cX2_searched 59 = .ok (.istore 5, 2) := by decide +kernel
theorem dX2_searched_61 : decode cX2_searched 61 = .ok (.aload_n 0, 1) := by decide +kernel
theorem dX2_searched_62 : decode cX2_searched 62 = .ok (.iload 10, 2) := by decide +kernel
theorem dX2_searched_64 : decode cX2_searched 64 = .ok (.invokevirtual 86, 3) := by decide +kernel
theorem dX2_searched_67 : decode cX2_searched 67 = .ok (.ifCond .eq 8, 3) := by decide +kernel
theorem dX2_searched_70 : decode cX2_searched 70 = .ok (.iload 10, 2) := by decide +kernel
theorem dX2_searched_72 : decode cX2_searched 72 = .ok (.goto 5, 3) := by decide +kernel
theorem dX2_searched_75 : decode cX2_searched 75 = .ok (.bipush (-9), 2) := by decide +kernel
theorem dX2_searched_77 : decode cX2_searched 77 = .ok (.istore 8, 2) := by decide +kernel
theorem dX2_searched_79 : decode cX2_searched 79 = .ok (.iinc 9 1, 3) := by decide +kernel
theorem dX2_searched_82 : decode cX2_searched 82 = .ok (.goto (-66), 3) := by decide +kernel
theorem dX2_searched_85 : decode cX2_searched 85 = .ok (.iload 4, 2) := by decide +kernel
theorem dX2_searched_87 : decode cX2_searched 87 = .ok (.ifCond .ne 8, 3) := by decide +kernel
theorem dX2_searched_90 : decode cX2_searched 90 = .ok (.iload 6, 2) := by decide +kernel
theorem dX2_searched_92 : decode cX2_searched 92 = .ok (.goto 16, 3) := by decide +kernel
theorem dX2_searched_95 : decode cX2_searched 95 = .ok (.iload 4, 2) := by decide +kernel
theorem dX2_searched_97 : decode cX2_searched 97 = .ok (.iconst 1, 1) := by decide +kernel
theorem dX2_searched_98 : decode cX2_searched 98 = .ok (.if_icmp .ne 8, 3) := by decide +kernel
theorem dX2_searched_101 : decode cX2_searched 101 = .ok (.iload 8, 2) := by decide +kernel
theorem dX2_searched_103 : decode cX2_searched 103 = .ok (.goto 5, 3) := by decide +kernel
theorem dX2_searched_106 : decode cX2_searched 106 = .ok (.iload 7, 2) := by decide +kernel
theorem dX2_searched_108 : decode cX2_searched 108 = .ok (.ireturn, 1) := by decide +kernel
theorem dX2_allAsSet_0 : decode cX2_allAsSet 0 = .ok (.iconst 1, 1) := by decide +kernel
theorem dX2_allAsSet_1 : decode cX2_allAsSet 1 = .ok (.aload_n 0, 1) := by decide +kernel
theorem dX2_allAsSet_2 : decode cX2_allAsSet 2 = .ok (.getfield 21, 3) := by decide +kernel
theorem dX2_allAsSet_5 : decode cX2_allAsSet 5 = .ok (.ishl, 1) := by decide +kernel
theorem dX2_allAsSet_6 : decode cX2_allAsSet 6 = .ok (.iconst 1, 1) := by decide +kernel
theorem dX2_allAsSet_7 : decode cX2_allAsSet 7 = .ok (.isub, 1) := by decide +kernel
theorem dX2_allAsSet_8 : decode cX2_allAsSet 8 = .ok (.ireturn, 1) := by decide +kernel
set_option maxRecDepth 20000 in
theorem ggX2_signFits_X5_looksColour : GoodIn wsX2_signFits wsX5_looksColour := goodIn_r _ [6, 7, 8, 9, 10, 11, 12, 35, 36, 37, 38, 39, 40] (by decide +kernel) (by decide +kernel)
set_option maxRecDepth 20000 in
theorem gX2_signFits_X5_looksColour : GoodIn wsX2_signFits (wsV RX2 89 RX5 yX5_looksColour wsX5_looksColour) := goodIn_app (goodIn_of _ (by decide +kernel)) ggX2_signFits_X5_looksColour
set_option maxRecDepth 20000 in
theorem ggX2_signFits_X2_rememberedColour : GoodIn wsX2_signFits wsX2_rememberedColour := goodIn_r _ [17, 18, 19, 20, 10, 11, 12, 41, 42, 43, 44, 45, 46, 47, 48, 49, 50] (by decide +kernel) (by decide +kernel)
set_option maxRecDepth 20000 in
theorem gX2_signFits_X2_rememberedColour : GoodIn wsX2_signFits (wsV RX2 69 RX2 yX2_rememberedColour wsX2_rememberedColour) := goodIn_app (goodIn_of _ (by decide +kernel)) ggX2_signFits_X2_rememberedColour
set_option maxRecDepth 20000 in
theorem ggX2_signFits_X5_looksSize : GoodIn wsX2_signFits wsX5_looksSize := goodIn_r _ [24, 7, 25, 26, 27, 11, 28, 35, 36, 37, 38, 39, 40] (by decide +kernel) (by decide +kernel)
set_option maxRecDepth 20000 in
theorem gX2_signFits_X5_looksSize : GoodIn wsX2_signFits (wsV RX2 92 RX5 yX5_looksSize wsX5_looksSize) := goodIn_app (goodIn_of _ (by decide +kernel)) ggX2_signFits_X5_looksSize
set_option maxRecDepth 20000 in
theorem ggX2_signFits_X2_rememberedSize : GoodIn wsX2_signFits wsX2_rememberedSize := goodIn_r _ [32, 33, 34, 20, 10, 11, 12, 41, 42, 43, 44, 45, 46, 47, 48, 49, 50] (by decide +kernel) (by decide +kernel)
set_option maxRecDepth 20000 in
theorem gX2_signFits_X2_rememberedSize : GoodIn wsX2_signFits (wsV RX2 73 RX2 yX2_rememberedSize wsX2_rememberedSize) := goodIn_app (goodIn_of _ (by decide +kernel)) ggX2_signFits_X2_rememberedSize
theorem dX2_signFits_0 : decode cX2_signFits 0 = .ok (.iload_n 2, 1) := by decide +kernel
theorem dX2_signFits_1 : decode cX2_signFits 1 = .ok (.lookupswitch 61 #[(0, 27), (1, 44)], 27) := by decide +kernel
theorem dX2_signFits_28 : decode cX2_signFits 28 = .ok (.aload_n 1, 1) := by decide +kernel
theorem dX2_signFits_29 : decode cX2_signFits 29 = .ok (.invokevirtual 89, 3) := by decide +kernel
theorem dX2_signFits_32 : decode cX2_signFits 32 = .ok (.aload_n 0, 1) := by decide +kernel
theorem dX2_signFits_33 : decode cX2_signFits 33 = .ok (.invokevirtual 69, 3) := by decide +kernel
theorem dX2_signFits_36 : decode cX2_signFits 36 = .ok (.if_icmp .ne 7, 3) := by decide +kernel
theorem dX2_signFits_39 : decode cX2_signFits 39 = .ok (.iconst 1, 1) := by decide +kernel
theorem dX2_signFits_40 : decode cX2_signFits 40 = .ok (.goto 4, 3) := by decide +kernel
theorem dX2_signFits_43 : decode cX2_signFits 43 = .ok (.iconst 0, 1) := by decide +kernel
theorem dX2_signFits_44 : decode cX2_signFits 44 = .ok (.ireturn, 1) := by decide +kernel
theorem dX2_signFits_45 : decode cX2_signFits 45 = .ok (.aload_n 1, 1) := by decide +kernel
theorem dX2_signFits_46 : decode cX2_signFits 46 = .ok (.invokevirtual 92, 3) := by decide +kernel
theorem dX2_signFits_49 : decode cX2_signFits 49 = .ok (.aload_n 0, 1) := by decide +kernel
theorem dX2_signFits_50 : decode cX2_signFits 50 = .ok (.invokevirtual 73, 3) := by decide +kernel
theorem dX2_signFits_53 : decode cX2_signFits 53 = .ok (.if_icmp .ne 7, 3) := by decide +kernel
theorem dX2_signFits_56 : decode cX2_signFits 56 = .ok (.iconst 1, 1) := by decide +kernel
theorem dX2_signFits_57 : decode cX2_signFits 57 = .ok (.goto 4, 3) := by decide +kernel
theorem dX2_signFits_60 : decode cX2_signFits 60 = .ok (.iconst 0, 1) := by decide +kernel
theorem dX2_signFits_61 : decode cX2_signFits 61 = .ok (.ireturn, 1) := by decide +kernel
theorem dX2_signFits_62 : decode cX2_signFits 62 = .ok (.aload_n 1, 1) := by decide +kernel
theorem dX2_signFits_63 : decode cX2_signFits 63 = .ok (.getfield 95, 3) := by decide +kernel
theorem dX2_signFits_66 : decode cX2_signFits 66 = .ok (.aload_n 0, 1) := by decide +kernel
theorem dX2_signFits_67 : decode cX2_signFits 67 = .ok (.getfield 42, 3) := by decide +kernel
theorem dX2_signFits_70 : decode cX2_signFits 70 = .ok (.if_icmp .ne 7, 3) := by decide +kernel
theorem dX2_signFits_73 : decode cX2_signFits 73 = .ok (.iconst 1, 1) := by decide +kernel
theorem dX2_signFits_74 : decode cX2_signFits 74 = .ok (.goto 4, 3) := by decide +kernel
theorem dX2_signFits_77 : decode cX2_signFits 77 = .ok (.iconst 0, 1) := by decide +kernel
theorem dX2_signFits_78 : decode cX2_signFits 78 = .ok (.ireturn, 1) := by decide +kernel
set_option maxRecDepth 20000 in
theorem ggX2_sifted_X2_signFits : GoodIn wsX2_sifted wsX2_signFits := goodIn_r _ [7, 8, 9, 10, 11, 12, 13, 14, 15, 16, 17, 18, 19, 20, 21, 22, 6, 23, 24, 25, 26, 27, 28, 29, 30, 31, 32, 33, 34, 35, 36, 37, 38, 39, 40, 51, 52, 53, 54, 55, 56, 41, 42, 43, 44, 45, 46, 47, 48, 49, 50] (by decide +kernel) (by decide +kernel)
set_option maxRecDepth 20000 in
theorem gX2_sifted_X2_signFits : GoodIn wsX2_sifted (wsV RX2 96 RX2 yX2_signFits wsX2_signFits) := goodIn_app (goodIn_of _ (by decide +kernel)) ggX2_sifted_X2_signFits
theorem dX2_sifted_0 : decode cX2_sifted 0 = .ok (.iconst 0, 1) := by decide +kernel
theorem dX2_sifted_1 : decode cX2_sifted 1 = .ok (.istore_n 3, 1) := by decide +kernel
theorem dX2_sifted_2 : decode cX2_sifted 2 = .ok (.iconst 0, 1) := by decide +kernel
theorem dX2_sifted_3 : decode cX2_sifted 3 = .ok (.istore 4, 2) := by decide +kernel
theorem dX2_sifted_5 : decode cX2_sifted 5 = .ok (.iload 4, 2) := by decide +kernel
theorem dX2_sifted_7 : decode cX2_sifted 7 = .ok (.aload_n 0, 1) := by decide +kernel
theorem dX2_sifted_8 : decode cX2_sifted 8 = .ok (.getfield 21, 3) := by decide +kernel
theorem dX2_sifted_11 : decode cX2_sifted 11 = .ok (.if_icmp .ge 40, 3) := by decide +kernel
theorem dX2_sifted_14 : decode cX2_sifted 14 = .ok (.iload_n 1, 1) := by decide +kernel
theorem dX2_sifted_15 : decode cX2_sifted 15 = .ok (.iload 4, 2) := by decide +kernel
theorem dX2_sifted_17 : decode cX2_sifted 17 = .ok (.ishr, 1) := by decide +kernel
theorem dX2_sifted_18 : decode cX2_sifted 18 = .ok (.iconst 1, 1) := by decide +kernel
theorem dX2_sifted_19 : decode cX2_sifted 19 = .ok (.iand, 1) := by decide +kernel
theorem dX2_sifted_20 : decode cX2_sifted 20 = .ok (.ifCond .eq 25, 3) := by decide +kernel
theorem dX2_sifted_23 : decode cX2_sifted 23 = .ok (.aload_n 0, 1) := by decide +kernel
theorem dX2_sifted_24 : decode cX2_sifted 24 = .ok (.aload_n 0, 1) := by decide +kernel
theorem dX2_sifted_25 : decode cX2_sifted 25 = .ok (.getfield 11, 3) := by decide +kernel
theorem dX2_sifted_28 : decode cX2_sifted 28 = .ok (.iload 4, 2) := by decide +kernel
theorem dX2_sifted_30 : decode cX2_sifted 30 = .ok (.aaload, 1) := by decide +kernel
theorem dX2_sifted_31 : decode cX2_sifted 31 = .ok (.iload_n 2, 1) := by decide +kernel
theorem dX2_sifted_32 : decode cX2_sifted 32 = .ok (.invokevirtual 96, 3) := by decide +kernel
theorem dX2_sifted_35 : decode cX2_sifted 35 = .ok (.ifCond .eq 10, 3) := by decide +kernel
theorem dX2_sifted_38 : decode cX2_sifted 38 = .ok (.iload_n 3, 1) := by decide +kernel
theorem dX2_sifted_39 : decode cX2_sifted 39 = .ok (.iconst 1, 1) := by decide +kernel
theorem dX2_sifted_40 : decode cX2_sifted 40 = .ok (.iload 4, 2) := by decide +kernel
theorem dX2_sifted_42 : decode cX2_sifted 42 = .ok (.ishl, 1) := by decide +kernel
theorem dX2_sifted_43 : decode cX2_sifted 43 = .ok (.ior, 1) := by decide +kernel
theorem dX2_sifted_44 : decode cX2_sifted 44 = .ok (.istore_n 3, 1) := by decide +kernel
theorem dX2_sifted_45 : decode cX2_sifted 45 = .ok (.iinc 4 1, 3) := by decide +kernel
theorem dX2_sifted_48 : decode cX2_sifted 48 = .ok (.goto (-43), 3) := by decide +kernel
theorem dX2_sifted_51 : decode cX2_sifted 51 = .ok (.iload_n 3, 1) := by decide +kernel
theorem dX2_sifted_52 : decode cX2_sifted 52 = .ok (.ireturn, 1) := by decide +kernel
set_option maxRecDepth 20000 in
theorem ggX2_sieved_X2_allAsSet : GoodIn wsX2_sieved wsX2_allAsSet := goodIn_r _ [5, 6, 56, 57, 58, 59, 60, 61, 62, 63, 64, 65] (by decide +kernel) (by decide +kernel)
set_option maxRecDepth 20000 in
theorem gX2_sieved_X2_allAsSet : GoodIn wsX2_sieved (wsV RX2 100 RX2 yX2_allAsSet wsX2_allAsSet) := goodIn_app (goodIn_of _ (by decide +kernel)) ggX2_sieved_X2_allAsSet
set_option maxRecDepth 20000 in
theorem ggX2_sieved_J6_bitCount_0f7a4 : GoodIn wsX2_sieved wsJ6_bitCount_0f7a4 := goodIn_r _ [10, 11, 12, 13] (by decide +kernel) (by decide +kernel)
set_option maxRecDepth 20000 in
theorem gX2_sieved_J6_bitCount_0f7a4 : GoodIn wsX2_sieved (va_wsS RX2 103 yJ6_bitCount_0f7a4 wsJ6_bitCount_0f7a4) := goodIn_app (goodIn_of _ (by decide +kernel)) ggX2_sieved_J6_bitCount_0f7a4
set_option maxRecDepth 20000 in
theorem ggX2_sieved_X2_sifted : GoodIn wsX2_sieved wsX2_sifted := goodIn_r _ [17, 6, 18, 19, 20, 21, 4, 22, 23, 24, 25, 26, 27, 28, 29, 30, 31, 32, 33, 34, 35, 36, 37, 38, 39, 40, 41, 42, 43, 44, 45, 46, 47, 48, 49, 50, 51, 52, 53, 54, 55, 56, 57, 58, 59, 60, 61, 62, 63, 64, 65, 66, 67, 68, 69, 70, 71] (by decide +kernel) (by decide +kernel)
set_option maxRecDepth 20000 in
theorem gX2_sieved_X2_sifted : GoodIn wsX2_sieved (wsV RX2 108 RX2 yX2_sifted wsX2_sifted) := goodIn_app (goodIn_of _ (by decide +kernel)) ggX2_sieved_X2_sifted
theorem dX2_sieved_0 : decode cX2_sieved 0 = .ok (.aload_n 0, 1) := by decide +kernel
theorem dX2_sieved_1 : decode cX2_sieved 1 = .ok (.invokevirtual 100, 3) := by decide +kernel
theorem dX2_sieved_4 : decode cX2_sieved 4 = .ok (.istore 5, 2) := by decide +kernel
theorem dX2_sieved_6 : decode cX2_sieved 6 = .ok (.iconst 0, 1) := by decide +kernel
theorem dX2_sieved_7 : decode cX2_sieved 7 = .ok (.istore 6, 2) := by decide +kernel
theorem dX2_sieved_9 : decode cX2_sieved 9 = .ok (.iconst 0, 1) := by decide +kernel
theorem dX2_sieved_10 : decode cX2_sieved 10 = .ok (.istore 7, 2) := by decide +kernel
theorem dX2_sieved_12 : decode cX2_sieved 12 = .ok (.iload 7, 2) := by decide +kernel
theorem dX2_sieved_14 : decode cX2_sieved 14 = .ok (.iload_n 3, 1) := by decide +kernel
theorem dX2_sieved_15 : decode cX2_sieved 15 = .ok (.if_icmp .ge 46, 3) := by decide +kernel
theorem dX2_sieved_18 : decode cX2_sieved 18 = .ok (.iload_n 2, 1) := by decide +kernel
theorem dX2_sieved_19 : decode cX2_sieved 19 = .ok (.ifCond .lt 42, 3) := by decide +kernel
theorem dX2_sieved_22 : decode cX2_sieved 22 = .ok (.iload_n 2, 1) := by decide +kernel
theorem dX2_sieved_23 : decode cX2_sieved 23 = .ok (.iload 7, 2) := by decide +kernel
theorem dX2_sieved_25 : decode cX2_sieved 25 = .ok (.iadd, 1) := by decide +kernel
theorem dX2_sieved_26 : decode cX2_sieved 26 = .ok (.aload_n 1, 1) := by decide +kernel
theorem dX2_sieved_27 : decode cX2_sieved 27 = .ok (.arraylength, 1) := by decide +kernel
theorem dX2_sieved_28 : decode cX2_sieved 28 = .ok (.if_icmp .ge 33, 3) := by decide +kernel
theorem dX2_sieved_31 : decode cX2_sieved 31 = .ok (.iload 6, 2) := by decide +kernel
theorem dX2_sieved_33 : decode cX2_sieved 33 = .ok (.iload 5, 2) := by decide +kernel
theorem dX2_sieved_35 : decode cX2_sieved 35 = .ok (.invokestatic 103, 3) := by decide +kernel
theorem dX2_sieved_38 : decode cX2_sieved 38 = .ok (.iadd, 1) := by decide +kernel
theorem dX2_sieved_39 : decode cX2_sieved 39 = .ok (.istore 6, 2) := by decide +kernel
theorem dX2_sieved_41 : decode cX2_sieved 41 = .ok (.aload_n 0, 1) := by decide +kernel
theorem dX2_sieved_42 : decode cX2_sieved 42 = .ok (.iload 5, 2) := by decide +kernel
theorem dX2_sieved_44 : decode cX2_sieved 44 = .ok (.aload_n 1, 1) := by decide +kernel
theorem dX2_sieved_45 : decode cX2_sieved 45 = .ok (.iload_n 2, 1) := by decide +kernel
theorem dX2_sieved_46 : decode cX2_sieved 46 = .ok (.iload 7, 2) := by decide +kernel
theorem dX2_sieved_48 : decode cX2_sieved 48 = .ok (.iadd, 1) := by decide +kernel
theorem dX2_sieved_49 : decode cX2_sieved 49 = .ok (.iaload, 1) := by decide +kernel
theorem dX2_sieved_50 : decode cX2_sieved 50 = .ok (.invokevirtual 108, 3) := by decide +kernel
theorem dX2_sieved_53 : decode cX2_sieved 53 = .ok (.istore 5, 2) := by decide +kernel
theorem dX2_sieved_55 : decode cX2_sieved 55 = .ok (.iinc 7 1, 3) := by decide +kernel
theorem dX2_sieved_58 : decode cX2_sieved 58 = .ok (.goto (-46), 3) := by decide +kernel
theorem dX2_sieved_61 : decode cX2_sieved 61 = .ok (.iload 4, 2) := by decide +kernel
theorem dX2_sieved_63 : decode cX2_sieved 63 = .ok (.ifCond .ne 8, 3) := by decide +kernel
theorem dX2_sieved_66 : decode cX2_sieved 66 = .ok (.iload 6, 2) := by decide +kernel
theorem dX2_sieved_68 : decode cX2_sieved 68 = .ok (.goto 5, 3) := by decide +kernel
theorem dX2_sieved_71 : decode cX2_sieved 71 = .ok (.iload 5, 2) := by decide +kernel
theorem dX2_sieved_73 : decode cX2_sieved 73 = .ok (.ireturn, 1) := by decide +kernel
set_option maxRecDepth 20000 in
theorem ggX2_secondsBySigns_X2_sieved : GoodIn wsX2_secondsBySigns wsX2_sieved := goodIn_r _ [5, 6, 7, 8, 4, 9, 10, 11, 12, 13, 14, 15, 16, 17, 18, 19, 20, 21, 22, 23, 24, 25, 26, 27, 28, 29, 30, 31, 32, 33, 34, 35, 36, 37, 38, 39, 40, 41, 42, 43, 44, 45, 46, 47, 48, 49, 50, 51, 52, 53, 54, 55, 56, 57, 58, 59, 60, 61, 62, 63, 64, 65, 66, 67, 68, 69, 70, 71, 72, 73, 74, 75] (by decide +kernel) (by decide +kernel)
set_option maxRecDepth 20000 in
theorem gX2_secondsBySigns_X2_sieved : GoodIn wsX2_secondsBySigns (wsV RX2 114 RX2 yX2_sieved wsX2_sieved) := goodIn_app (goodIn_of _ (by decide +kernel)) ggX2_secondsBySigns_X2_sieved
theorem dX2_secondsBySigns_0 : decode cX2_secondsBySigns 0 = .ok (.aload_n 0, 1) := by decide +kernel
theorem dX2_secondsBySigns_1 : decode cX2_secondsBySigns 1 = .ok (.getstatic 111, 3) := by decide +kernel
theorem dX2_secondsBySigns_4 : decode cX2_secondsBySigns 4 = .ok (.iload_n 1, 1) := by decide +kernel
theorem dX2_secondsBySigns_5 : decode cX2_secondsBySigns 5 = .ok (.iconst 3, 1) := by decide +kernel
theorem dX2_secondsBySigns_6 : decode cX2_secondsBySigns 6 = .ok (.iconst 0, 1) := by decide +kernel
theorem dX2_secondsBySigns_7 : decode cX2_secondsBySigns 7 = .ok (.invokevirtual 114, 3) := by decide +kernel
theorem dX2_secondsBySigns_10 : decode cX2_secondsBySigns 10 = .ok (.ireturn, 1) := by decide +kernel
set_option maxRecDepth 20000 in
theorem ggX2_harm_X5_farFrom : GoodIn wsX2_harm wsX5_farFrom := goodIn_r _ [10, 11, 12, 13, 14, 15, 16, 17, 18, 9, 19, 20, 21, 22, 23, 24, 25, 26, 27, 28, 29, 30, 31, 32, 43, 44, 45, 46, 47, 48] (by decide +kernel) (by decide +kernel)
set_option maxRecDepth 20000 in
theorem gX2_harm_X5_farFrom : GoodIn wsX2_harm (wsV RX2 76 RX5 yX5_farFrom wsX5_farFrom) := goodIn_app (goodIn_of _ (by decide +kernel)) ggX2_harm_X5_farFrom
theorem dX2_harm_0 : decode cX2_harm 0 = .ok (.iload_n 2, 1) := by decide +kernel
theorem dX2_harm_1 : decode cX2_harm 1 = .ok (.iload_n 3, 1) := by decide +kernel
theorem dX2_harm_2 : decode cX2_harm 2 = .ok (.if_icmp .ne 7, 3) := by decide +kernel
theorem dX2_harm_5 : decode cX2_harm 5 = .ok (.iconst 0, 1) := by decide +kernel
theorem dX2_harm_6 : decode cX2_harm 6 = .ok (.goto 7, 3) := by decide +kernel
theorem dX2_harm_9 : decode cX2_harm 9 = .ok (.aload_n 0, 1) := by decide +kernel
theorem dX2_harm_10 : decode cX2_harm 10 = .ok (.getfield 45, 3) := by decide +kernel
theorem dX2_harm_13 : decode cX2_harm 13 = .ok (.istore 4, 2) := by decide +kernel
theorem dX2_harm_15 : decode cX2_harm 15 = .ok (.aload_n 1, 1) := by decide +kernel
theorem dX2_harm_16 : decode cX2_harm 16 = .ok (.aload_n 0, 1) := by decide +kernel
theorem dX2_harm_17 : decode cX2_harm 17 = .ok (.getfield 36, 3) := by decide +kernel
theorem dX2_harm_20 : decode cX2_harm 20 = .ok (.aload_n 0, 1) := by decide +kernel
theorem dX2_harm_21 : decode cX2_harm 21 = .ok (.getfield 39, 3) := by decide +kernel
theorem dX2_harm_24 : decode cX2_harm 24 = .ok (.aload_n 0, 1) := by decide +kernel
theorem dX2_harm_25 : decode cX2_harm 25 = .ok (.getfield 42, 3) := by decide +kernel
theorem dX2_harm_28 : decode cX2_harm 28 = .ok (.invokevirtual 76, 3) := by decide +kernel
theorem dX2_harm_31 : decode cX2_harm 31 = .ok (.aload_n 0, 1) := by decide +kernel
theorem dX2_harm_32 : decode cX2_harm 32 = .ok (.getfield 17, 3) := by decide +kernel
theorem dX2_harm_35 : decode cX2_harm 35 = .ok (.iload_n 2, 1) := by decide +kernel
theorem dX2_harm_36 : decode cX2_harm 36 = .ok (.iaload, 1) := by decide +kernel
theorem dX2_harm_37 : decode cX2_harm 37 = .ok (.imul, 1) := by decide +kernel
theorem dX2_harm_38 : decode cX2_harm 38 = .ok (.aload_n 1, 1) := by decide +kernel
theorem dX2_harm_39 : decode cX2_harm 39 = .ok (.getfield 118, 3) := by decide +kernel
theorem dX2_harm_42 : decode cX2_harm 42 = .ok (.iadd, 1) := by decide +kernel
theorem dX2_harm_43 : decode cX2_harm 43 = .ok (.iload 4, 2) := by decide +kernel
theorem dX2_harm_45 : decode cX2_harm 45 = .ok (.iadd, 1) := by decide +kernel
theorem dX2_harm_46 : decode cX2_harm 46 = .ok (.ireturn, 1) := by decide +kernel
set_option maxRecDepth 20000 in
theorem ggX2_leastHarm_X2_harm : GoodIn wsX2_leastHarm wsX2_harm := goodIn_r _ [7, 8, 9, 10, 11, 12, 13, 14, 15, 16, 17, 18, 19, 20, 21, 22, 23, 24, 25, 26, 27, 28, 29, 30, 31, 32, 33, 34, 35, 36, 37, 38, 39, 40, 41, 42, 43, 44, 45, 46, 47, 48, 49, 50, 51, 52, 53, 54, 55] (by decide +kernel) (by decide +kernel)
set_option maxRecDepth 20000 in
theorem gX2_leastHarm_X2_harm : GoodIn wsX2_leastHarm (wsV RX2 124 RX2 yX2_harm wsX2_harm) := goodIn_app (goodIn_of _ (by decide +kernel)) ggX2_leastHarm_X2_harm
theorem dX2_leastHarm_0 : decode cX2_leastHarm 0 = .ok (.bipush (-9), 2) := by decide +kernel
theorem dX2_leastHarm_2 : decode cX2_leastHarm 2 = .ok (.istore_n 3, 1) := by decide +kernel
theorem dX2_leastHarm_3 : decode cX2_leastHarm 3 = .ok (.bipush (-9), 2) := by decide +kernel
theorem dX2_leastHarm_5 : decode cX2_leastHarm 5 = .ok (.istore 4, 2) := by decide +kernel
theorem dX2_leastHarm_7 : decode cX2_leastHarm 7 = .ok (.bipush (-9), 2) := by decide +kernel
theorem dX2_leastHarm_9 : decode cX2_leastHarm 9 = .ok (.istore 5, 2) := by decide +kernel
theorem dX2_leastHarm_11 : decode cX2_leastHarm 11 = .ok (.iconst 0, 1) := by decide +kernel
theorem dX2_leastHarm_12 : decode cX2_leastHarm 12 = .ok (.istore 6, 2) := by decide +kernel
theorem dX2_leastHarm_14 : decode cX2_leastHarm 14 = .ok (.iload 6, 2) := by decide +kernel
theorem dX2_leastHarm_16 : decode cX2_leastHarm 16 = .ok (.aload_n 0, 1) := by decide +kernel
theorem dX2_leastHarm_17 : decode cX2_leastHarm 17 = .ok (.getfield 21, 3) := by decide +kernel
theorem dX2_leastHarm_20 : decode cX2_leastHarm 20 = .ok (.if_icmp .ge 77, 3) := by decide +kernel
theorem dX2_leastHarm_23 : decode cX2_leastHarm 23 = .ok (.iconst 0, 1) := by decide +kernel
theorem dX2_leastHarm_24 : decode cX2_leastHarm 24 = .ok (.istore 7, 2) := by decide +kernel
theorem dX2_leastHarm_26 : decode cX2_leastHarm 26 = .ok (.iload 7, 2) := by decide +kernel
theorem dX2_leastHarm_28 : decode cX2_leastHarm 28 = .ok (.bipush 6, 2) := by decide +kernel
theorem dX2_leastHarm_30 : decode cX2_leastHarm 30 = .ok (.if_icmp .ge 61, 3) := by decide +kernel
theorem dX2_leastHarm_33 : decode cX2_leastHarm 33 = .ok (.aload_n 0, 1) := by decide +kernel
theorem dX2_leastHarm_34 : decode cX2_leastHarm 34 = .ok (.getfield 11, 3) := by decide +kernel
theorem dX2_leastHarm_37 : decode cX2_leastHarm 37 = .ok (.iload 6, 2) := by decide +kernel
theorem dX2_leastHarm_39 : decode cX2_leastHarm 39 = .ok (.aaload, 1) := by decide +kernel
theorem dX2_leastHarm_40 : decode cX2_leastHarm 40 = .ok (.getfield 121, 3) := by decide +kernel
theorem dX2_leastHarm_43 : decode cX2_leastHarm 43 = .ok (.ifCond .le 48, 3) := by decide +kernel
theorem dX2_leastHarm_46 : decode cX2_leastHarm 46 = .ok (.aload_n 0, 1) := by decide +kernel
theorem dX2_leastHarm_47 : decode cX2_leastHarm 47 = .ok (.aload_n 0, 1) := by decide +kernel
theorem dX2_leastHarm_48 : decode cX2_leastHarm 48 = .ok (.getfield 11, 3) := by decide +kernel
theorem dX2_leastHarm_51 : decode cX2_leastHarm 51 = .ok (.iload 6, 2) := by decide +kernel
theorem dX2_leastHarm_53 : decode cX2_leastHarm 53 = .ok (.aaload, 1) := by decide +kernel
theorem dX2_leastHarm_54 : decode cX2_leastHarm 54 = .ok (.iload 7, 2) := by decide +kernel
theorem dX2_leastHarm_56 : decode cX2_leastHarm 56 = .ok (.iload_n 1, 1) := by decide +kernel
theorem dX2_leastHarm_57 : decode cX2_leastHarm 57 = .ok (.invokevirtual 124, 3) := by decide +kernel
theorem dX2_leastHarm_60 : decode cX2_leastHarm 60 = .ok (.istore 8, 2) := by decide +kernel
theorem dX2_leastHarm_62 : decode cX2_leastHarm 62 = .ok (.iload_n 3, 1) := by decide +kernel
theorem dX2_leastHarm_63 : decode cX2_leastHarm 63 = .ok (.bipush (-9), 2) := by decide +kernel
theorem dX2_leastHarm_65 : decode cX2_leastHarm 65 = .ok (.if_icmp .eq 9, 3) := by decide +kernel
theorem dX2_leastHarm_68 : decode cX2_leastHarm 68 = .ok (.iload 8, 2) := by decide +kernel
theorem dX2_leastHarm_70 : decode cX2_leastHarm 70 = .ok (.iload_n 3, 1) := by decide +kernel
theorem dX2_leastHarm_71 : decode cX2_leastHarm 71 = .ok (.if_icmp .ge 14, 3) := by decide +kernel
theorem dX2_leastHarm_74 : decode cX2_leastHarm 74 = .ok (.iload 8, 2) := by decide +kernel
theorem dX2_leastHarm_76 : decode cX2_leastHarm 76 = .ok (.istore_n 3, 1) := by decide +kernel
theorem dX2_leastHarm_77 : decode cX2_leastHarm 77 = .ok (.iload 6, 2) := by decide +kernel
theorem dX2_leastHarm_79 : decode cX2_leastHarm 79 = .ok (.istore 4, 2) := by decide +kernel
theorem dX2_leastHarm_81 : decode cX2_leastHarm 81 = .ok (.iload 7, 2) := by decide +kernel
theorem dX2_leastHarm_83 : decode cX2_leastHarm 83 = .ok (.istore 5, 2) := by decide +kernel
theorem dX2_leastHarm_85 : decode cX2_leastHarm 85 = .ok (.iinc 7 1, 3) := by decide +kernel
theorem dX2_leastHarm_88 : decode cX2_leastHarm 88 = .ok (.goto (-62), 3) := by decide +kernel
theorem dX2_leastHarm_91 : decode cX2_leastHarm 91 = .ok (.iinc 6 1, 3) := by decide +kernel
theorem dX2_leastHarm_94 : decode cX2_leastHarm 94 = .ok (.goto (-80), 3) := by decide +kernel
theorem dX2_leastHarm_97 : decode cX2_leastHarm 97 = .ok (.iload_n 2, 1) := by decide +kernel
theorem dX2_leastHarm_98 : decode cX2_leastHarm 98 = .ok (.ifCond .ne 7, 3) := by decide +kernel
theorem dX2_leastHarm_101 : decode cX2_leastHarm 101 = .ok (.iload_n 3, 1) := by decide +kernel
theorem dX2_leastHarm_102 : decode cX2_leastHarm 102 = .ok (.goto 15, 3) := by decide +kernel
theorem dX2_leastHarm_105 : decode cX2_leastHarm 105 = .ok (.iload_n 2, 1) := by decide +kernel
theorem dX2_leastHarm_106 : decode cX2_leastHarm 106 = .ok (.iconst 1, 1) := by decide +kernel
theorem dX2_leastHarm_107 : decode cX2_leastHarm 107 = .ok (.if_icmp .ne 8, 3) := by decide +kernel
theorem dX2_leastHarm_110 : decode cX2_leastHarm 110 = .ok (.iload 4, 2) := by decide +kernel
theorem dX2_leastHarm_112 : decode cX2_leastHarm 112 = .ok (.goto 5, 3) := by decide +kernel
theorem dX2_leastHarm_115 : decode cX2_leastHarm 115 = .ok (.iload 5, 2) := by decide +kernel
theorem dX2_leastHarm_117 : decode cX2_leastHarm 117 = .ok (.ireturn, 1) := by decide +kernel
theorem dX2_cheapest_0 : decode cX2_cheapest 0 = .ok (.bipush (-9), 2) := by decide +kernel
theorem dX2_cheapest_2 : decode cX2_cheapest 2 = .ok (.istore_n 2, 1) := by decide +kernel
theorem dX2_cheapest_3 : decode cX2_cheapest 3 = .ok (.iconst 0, 1) := by decide +kernel
theorem dX2_cheapest_4 : decode cX2_cheapest 4 = .ok (.istore_n 3, 1) := by decide +kernel
theorem dX2_cheapest_5 : decode cX2_cheapest 5 = .ok (.iload_n 3, 1) := by decide +kernel
theorem dX2_cheapest_6 : decode cX2_cheapest 6 = .ok (.aload_n 0, 1) := by decide +kernel
theorem dX2_cheapest_7 : decode cX2_cheapest 7 = .ok (.getfield 21, 3) := by decide +kernel
theorem dX2_cheapest_10 : decode cX2_cheapest 10 = .ok (.if_icmp .ge 50, 3) := by decide +kernel
theorem dX2_cheapest_13 : decode cX2_cheapest 13 = .ok (.iload_n 1, 1) := by decide +kernel
theorem dX2_cheapest_14 : decode cX2_cheapest 14 = .ok (.aload_n 0, 1) := by decide +kernel
theorem dX2_cheapest_15 : decode cX2_cheapest 15 = .ok (.getfield 11, 3) := by decide +kernel
theorem dX2_cheapest_18 : decode cX2_cheapest 18 = .ok (.iload_n 3, 1) := by decide +kernel
theorem dX2_cheapest_19 : decode cX2_cheapest 19 = .ok (.aaload, 1) := by decide +kernel
theorem dX2_cheapest_20 : decode cX2_cheapest 20 = .ok (.getfield 118, 3) := by decide +kernel
theorem dX2_cheapest_23 : decode cX2_cheapest 23 = .ok (.imul, 1) := by decide +kernel
theorem dX2_cheapest_24 : decode cX2_cheapest 24 = .ok (.istore 4, 2) := by decide +kernel
theorem dX2_cheapest_26 : decode cX2_cheapest 26 = .ok (.aload_n 0, 1) := by decide +kernel
theorem dX2_cheapest_27 : decode cX2_cheapest 27 = .ok (.getfield 11, 3) := by decide +kernel
theorem dX2_cheapest_30 : decode cX2_cheapest 30 = .ok (.iload_n 3, 1) := by decide +kernel
theorem dX2_cheapest_31 : decode cX2_cheapest 31 = .ok (.aaload, 1) := by decide +kernel
theorem dX2_cheapest_32 : decode cX2_cheapest 32 = .ok (.getfield 121, 3) := by decide +kernel
theorem dX2_cheapest_35 : decode cX2_cheapest 35 = .ok (.iload_n 1, 1) := by decide +kernel
theorem dX2_cheapest_36 : decode cX2_cheapest 36 = .ok (.if_icmp .lt 18, 3) := by decide +kernel
theorem dX2_cheapest_39 : decode cX2_cheapest 39 = .ok (.iload_n 2, 1) := by decide +kernel
theorem dX2_cheapest_40 : decode cX2_cheapest 40 = .ok (.bipush (-9), 2) := by decide +kernel
theorem dX2_cheapest_42 : decode cX2_cheapest 42 = .ok (.if_icmp .eq 9, 3) := by decide +kernel
theorem dX2_cheapest_45 : decode cX2_cheapest 45 = .ok (.iload 4, 2) := by decide +kernel
theorem dX2_cheapest_47 : decode cX2_cheapest 47 = .ok (.iload_n 2, 1) := by decide +kernel
theorem dX2_cheapest_48 : decode cX2_cheapest 48 = .ok (.if_icmp .ge 6, 3) := by decide +kernel
theorem dX2_cheapest_51 : decode cX2_cheapest 51 = .ok (.iload 4, 2) := by decide +kernel
theorem dX2_cheapest_53 : decode cX2_cheapest 53 = .ok (.istore_n 2, 1) := by decide +kernel
theorem dX2_cheapest_54 : decode cX2_cheapest 54 = .ok (.iinc 3 1, 3) := by decide +kernel
theorem dX2_cheapest_57 : decode cX2_cheapest 57 = .ok (.goto (-52), 3) := by decide +kernel
theorem dX2_cheapest_60 : decode cX2_cheapest 60 = .ok (.iload_n 2, 1) := by decide +kernel
theorem dX2_cheapest_61 : decode cX2_cheapest 61 = .ok (.ireturn, 1) := by decide +kernel
theorem dX2_buttons_0 : decode cX2_buttons 0 = .ok (.iconst 0, 1) := by decide +kernel
theorem dX2_buttons_1 : decode cX2_buttons 1 = .ok (.istore_n 1, 1) := by decide +kernel
theorem dX2_buttons_2 : decode cX2_buttons 2 = .ok (.iconst 0, 1) := by decide +kernel
theorem dX2_buttons_3 : decode cX2_buttons 3 = .ok (.istore_n 2, 1) := by decide +kernel
theorem dX2_buttons_4 : decode cX2_buttons 4 = .ok (.iload_n 2, 1) := by decide +kernel
theorem dX2_buttons_5 : decode cX2_buttons 5 = .ok (.aload_n 0, 1) := by decide +kernel
theorem dX2_buttons_6 : decode cX2_buttons 6 = .ok (.getfield 21, 3) := by decide +kernel
theorem dX2_buttons_9 : decode cX2_buttons 9 = .ok (.if_icmp .ge 21, 3) := by decide +kernel
theorem dX2_buttons_12 : decode cX2_buttons 12 = .ok (.iload_n 1, 1) := by decide +kernel
theorem dX2_buttons_13 : decode cX2_buttons 13 = .ok (.aload_n 0, 1) := by decide +kernel
theorem dX2_buttons_14 : decode cX2_buttons 14 = .ok (.getfield 11, 3) := by decide +kernel
theorem dX2_buttons_17 : decode cX2_buttons 17 = .ok (.iload_n 2, 1) := by decide +kernel
theorem dX2_buttons_18 : decode cX2_buttons 18 = .ok (.aaload, 1) := by decide +kernel
theorem dX2_buttons_19 : decode cX2_buttons 19 = .ok (.getfield 121, 3) := by decide +kernel
theorem dX2_buttons_22 : decode cX2_buttons 22 = .ok (.iadd, 1) := by decide +kernel
theorem dX2_buttons_23 : decode cX2_buttons 23 = .ok (.istore_n 1, 1) := by decide +kernel
theorem dX2_buttons_24 : decode cX2_buttons 24 = .ok (.iinc 2 1, 3) := by decide +kernel
theorem dX2_buttons_27 : decode cX2_buttons 27 = .ok (.goto (-23), 3) := by decide +kernel
theorem dX2_buttons_30 : decode cX2_buttons 30 = .ok (.iload_n 1, 1) := by decide +kernel
theorem dX2_buttons_31 : decode cX2_buttons 31 = .ok (.ireturn, 1) := by decide +kernel
set_option maxRecDepth 20000 in
theorem ggX2_alikeButtons_X2_isAlike : GoodIn wsX2_alikeButtons wsX2_isAlike := goodIn_r _ [7, 8, 9, 10, 11, 6, 12, 2, 13, 14, 15, 16, 17, 1, 18, 19, 20, 21, 22, 23, 24, 25, 26, 27, 28, 29, 30, 31, 32, 33, 34, 35, 36, 37, 38, 39, 40, 41, 42, 43, 44, 45, 46, 47, 48, 49, 50, 51, 52, 53, 54, 55, 56, 57, 58, 59, 60, 61, 62, 63, 64, 65, 66, 67, 68, 69, 70, 71, 72, 73] (by decide +kernel) (by decide +kernel)
set_option maxRecDepth 20000 in
theorem gX2_alikeButtons_X2_isAlike : GoodIn wsX2_alikeButtons (wsV RX2 86 RX2 yX2_isAlike wsX2_isAlike) := goodIn_app (goodIn_of _ (by decide +kernel)) ggX2_alikeButtons_X2_isAlike
theorem dX2_alikeButtons_0 : decode cX2_alikeButtons 0 = .ok (.iconst 0, 1) := by decide +kernel
theorem dX2_alikeButtons_1 : decode cX2_alikeButtons 1 = .ok (.istore_n 1, 1) := by decide +kernel
theorem dX2_alikeButtons_2 : decode cX2_alikeButtons 2 = .ok (.iconst 0, 1) := by decide +kernel
theorem dX2_alikeButtons_3 : decode cX2_alikeButtons 3 = .ok (.istore_n 2, 1) := by decide +kernel
theorem dX2_alikeButtons_4 : decode cX2_alikeButtons 4 = .ok (.iload_n 2, 1) := by decide +kernel
theorem dX2_alikeButtons_5 : decode cX2_alikeButtons 5 = .ok (.aload_n 0, 1) := by decide +kernel
theorem dX2_alikeButtons_6 : decode cX2_alikeButtons 6 = .ok (.getfield 21, 3) := by decide +kernel
theorem dX2_alikeButtons_9 : decode cX2_alikeButtons 9 = .ok (.if_icmp .ge 33, 3) := by decide +kernel
theorem dX2_alikeButtons_12 : decode cX2_alikeButtons 12 = .ok (.iload_n 1, 1) := by decide +kernel
theorem dX2_alikeButtons_13 : decode cX2_alikeButtons 13 = .ok (.aload_n 0, 1) := by decide +kernel
theorem dX2_alikeButtons_14 : decode cX2_alikeButtons 14 = .ok (.iload_n 2, 1) := by decide +kernel
theorem dX2_alikeButtons_15 : decode cX2_alikeButtons 15 = .ok (.invokevirtual 86, 3) := by decide +kernel
theorem dX2_alikeButtons_18 : decode cX2_alikeButtons 18 = .ok (.ifCond .eq 15, 3) := by decide +kernel
theorem dX2_alikeButtons_21 : decode cX2_alikeButtons 21 = .ok (.aload_n 0, 1) := by decide +kernel
theorem dX2_alikeButtons_22 : decode cX2_alikeButtons 22 = .ok (.getfield 11, 3) := by decide +kernel
theorem dX2_alikeButtons_25 : decode cX2_alikeButtons 25 = .ok (.iload_n 2, 1) := by decide +kernel
theorem dX2_alikeButtons_26 : decode cX2_alikeButtons 26 = .ok (.aaload, 1) := by decide +kernel
theorem dX2_alikeButtons_27 : decode cX2_alikeButtons 27 = .ok (.getfield 121, 3) := by decide +kernel
theorem dX2_alikeButtons_30 : decode cX2_alikeButtons 30 = .ok (.goto 4, 3) := by decide +kernel
theorem dX2_alikeButtons_33 : decode cX2_alikeButtons 33 = .ok (.iconst 0, 1) := by decide +kernel
theorem dX2_alikeButtons_34 : decode cX2_alikeButtons 34 = .ok (.iadd, 1) := by decide +kernel
theorem dX2_alikeButtons_35 : decode cX2_alikeButtons 35 = .ok (.istore_n 1, 1) := by decide +kernel
theorem dX2_alikeButtons_36 : decode cX2_alikeButtons 36 = .ok (.iinc 2 1, 3) := by decide +kernel
theorem dX2_alikeButtons_39 : decode cX2_alikeButtons 39 = .ok (.goto (-35), 3) := by decide +kernel
theorem dX2_alikeButtons_42 : decode cX2_alikeButtons 42 = .ok (.iload_n 1, 1) := by decide +kernel
theorem dX2_alikeButtons_43 : decode cX2_alikeButtons 43 = .ok (.ireturn, 1) := by decide +kernel
set_option maxRecDepth 20000 in
theorem ggX3_firstFault_X1_read : GoodIn wsX3_firstFault wsX1_read := goodIn_r _ [5, 6, 7, 8, 9, 4, 10, 11, 63, 64, 65] (by decide +kernel) (by decide +kernel)
set_option maxRecDepth 20000 in
theorem gX3_firstFault_X1_read : GoodIn wsX3_firstFault (wsV RX3 11 RX1 yX1_read wsX1_read) := goodIn_app (goodIn_of _ (by decide +kernel)) ggX3_firstFault_X1_read
set_option maxRecDepth 20000 in
theorem ggX3_firstFault_X3_goesOn : GoodIn wsX3_firstFault wsX3_goesOn := goodIn_r _ [15, 16, 17, 18, 19, 20, 21, 22, 23, 24, 25, 26, 27, 28, 29, 30, 31, 32, 33, 34, 35, 36, 37, 38, 39, 40, 41, 42, 43, 44, 45, 46, 47, 48, 49, 50, 51, 52, 53, 54, 55, 56, 57, 58, 14, 59] (by decide +kernel) (by decide +kernel)
set_option maxRecDepth 20000 in
theorem gX3_firstFault_X3_goesOn : GoodIn wsX3_firstFault (va_wsS RX3 17 yX3_goesOn wsX3_goesOn) := goodIn_app (goodIn_of _ (by decide +kernel)) ggX3_firstFault_X3_goesOn
set_option maxRecDepth 20000 in
theorem ggX3_firstFault_X3_isWhole : GoodIn wsX3_firstFault wsX3_isWhole := goodIn_r _ [62] (by decide +kernel) (by decide +kernel)
set_option maxRecDepth 20000 in
theorem gX3_firstFault_X3_isWhole : GoodIn wsX3_firstFault (va_wsS RX3 21 yX3_isWhole wsX3_isWhole) := goodIn_app (goodIn_of _ (by decide +kernel)) ggX3_firstFault_X3_isWhole
theorem dX3_firstFault_0 : decode cX3_firstFault 0 = .ok (.iconst 0, 1) := by decide +kernel
theorem dX3_firstFault_1 : decode cX3_firstFault 1 = .ok (.istore_n 3, 1) := by decide +kernel
theorem dX3_firstFault_2 : decode cX3_firstFault 2 = .ok (.iload_n 3, 1) := by decide +kernel
theorem dX3_firstFault_3 : decode cX3_firstFault 3 = .ok (.iload_n 2, 1) := by decide +kernel
theorem dX3_firstFault_4 : decode cX3_firstFault 4 = .ok (.if_icmp .ge 25, 3) := by decide +kernel
theorem dX3_firstFault_7 : decode cX3_firstFault 7 = .ok (.iload_n 3, 1) := by decide +kernel
theorem dX3_firstFault_8 : decode cX3_firstFault 8 = .ok (.aload_n 0, 1) := by decide +kernel
theorem dX3_firstFault_9 : decode cX3_firstFault 9 = .ok (.iload_n 1, 1) := by decide +kernel
theorem dX3_firstFault_10 : decode cX3_firstFault 10 = .ok (.iload_n 3, 1) := by decide +kernel
theorem dX3_firstFault_11 : decode cX3_firstFault 11 = .ok (.iadd, 1) := by decide +kernel
theorem dX3_firstFault_12 : decode cX3_firstFault 12 = .ok (.invokevirtual 11, 3) := by decide +kernel
theorem dX3_firstFault_15 : decode cX3_firstFault 15 = .ok (.invokestatic 17, 3) := by decide +kernel
theorem dX3_firstFault_18 : decode cX3_firstFault 18 = .ok (.ifCond .ne 5, 3) := by decide +kernel
theorem dX3_firstFault_21 : decode cX3_firstFault 21 = .ok (.iload_n 3, 1) := by decide +kernel
theorem dX3_firstFault_22 : decode cX3_firstFault 22 = .ok (.ireturn, 1) := by decide +kernel
theorem dX3_firstFault_23 : decode cX3_firstFault 23 = .ok (.iinc 3 1, 3) := by decide +kernel
theorem dX3_firstFault_26 : decode cX3_firstFault 26 = .ok (.goto (-24), 3) := by decide +kernel
theorem dX3_firstFault_29 : decode cX3_firstFault 29 = .ok (.iload_n 2, 1) := by decide +kernel
theorem dX3_firstFault_30 : decode cX3_firstFault 30 = .ok (.invokestatic 21, 3) := by decide +kernel
theorem dX3_firstFault_33 : decode cX3_firstFault 33 = .ok (.ifCond .eq 7, 3) := by decide +kernel
theorem dX3_firstFault_36 : decode cX3_firstFault 36 = .ok (.iconst (-1), 1) := by decide +kernel
theorem dX3_firstFault_37 : decode cX3_firstFault 37 = .ok (.goto 4, 3) := by decide +kernel
theorem dX3_firstFault_40 : decode cX3_firstFault 40 = .ok (.iload_n 2, 1) := by decide +kernel
theorem dX3_firstFault_41 : decode cX3_firstFault 41 = .ok (.ireturn, 1) := by decide +kernel
theorem dX3_isWhole_0 : decode cX3_isWhole 0 = .ok (.iload_n 0, 1) := by decide +kernel
theorem dX3_isWhole_1 : decode cX3_isWhole 1 = .ok (.bipush 18, 2) := by decide +kernel
theorem dX3_isWhole_3 : decode cX3_isWhole 3 = .ok (.if_icmp .lt 17, 3) := by decide +kernel
theorem dX3_isWhole_6 : decode cX3_isWhole 6 = .ok (.iload_n 0, 1) := by decide +kernel
theorem dX3_isWhole_7 : decode cX3_isWhole 7 = .ok (.bipush 11, 2) := by decide +kernel
theorem dX3_isWhole_9 : decode cX3_isWhole 9 = .ok (.isub, 1) := by decide +kernel
theorem dX3_isWhole_10 : decode cX3_isWhole 10 = .ok (.bipush 7, 2) := by decide +kernel
theorem dX3_isWhole_12 : decode cX3_isWhole 12 = .ok (.irem, 1) := by decide +kernel
theorem dX3_isWhole_13 : decode cX3_isWhole 13 = .ok (.ifCond .ne 7, 3) := by decide +kernel
theorem dX3_isWhole_16 : decode cX3_isWhole 16 = .ok (.iconst 1, 1) := by decide +kernel
theorem dX3_isWhole_17 : decode cX3_isWhole 17 = .ok (.goto 4, 3) := by decide +kernel
theorem dX3_isWhole_20 : decode cX3_isWhole 20 = .ok (.iconst 0, 1) := by decide +kernel
theorem dX3_isWhole_21 : decode cX3_isWhole 21 = .ok (.ireturn, 1) := by decide +kernel
set_option maxRecDepth 20000 in
theorem ggX3_goesOn_J0_charAt_5068e : GoodIn wsX3_goesOn wsJ0_charAt_5068e := goodIn_r _ [5, 6, 7, 8, 9, 4, 10, 11, 12, 13, 14, 15, 16, 17, 18, 19, 20, 21, 22, 23, 24, 25, 26, 27, 28, 29, 30, 31, 32, 33, 34, 35, 36, 37, 38, 39, 40, 41] (by decide +kernel) (by decide +kernel)
set_option maxRecDepth 20000 in
theorem gX3_goesOn_J0_charAt_5068e : GoodIn wsX3_goesOn (wsV RX3 27 RJ0 yJ0_charAt_5068e wsJ0_charAt_5068e) := goodIn_app (goodIn_of _ (by decide +kernel)) ggX3_goesOn_J0_charAt_5068e
set_option maxRecDepth 20000 in
theorem ggX3_goesOn_X3_isOfSort : GoodIn wsX3_goesOn wsX3_isOfSort := goodIn_r _ [45] (by decide +kernel) (by decide +kernel)
set_option maxRecDepth 20000 in
theorem gX3_goesOn_X3_isOfSort : GoodIn wsX3_goesOn (va_wsS RX3 33 yX3_isOfSort wsX3_isOfSort) := goodIn_app (goodIn_of _ (by decide +kernel)) ggX3_goesOn_X3_isOfSort
theorem dX3_goesOn_0 : decode cX3_goesOn 0 = .ok (.iload_n 0, 1) := by decide +kernel
theorem dX3_goesOn_1 : decode cX3_goesOn 1 = .ok (.ifCond .lt 9, 3) := by decide +kernel
theorem dX3_goesOn_4 : decode cX3_goesOn 4 = .ok (.iload_n 0, 1) := by decide +kernel
theorem dX3_goesOn_5 : decode cX3_goesOn 5 = .ok (.bipush 53, 2) := by decide +kernel
theorem dX3_goesOn_7 : decode cX3_goesOn 7 = .ok (.if_icmp .lt 5, 3) := by decide +kernel
theorem dX3_goesOn_10 : decode cX3_goesOn 10 = .ok (.iconst 0, 1) := by decide +kernel
theorem dX3_goesOn_11 : decode cX3_goesOn 11 = .ok (.ireturn, 1) := by decide +kernel
theorem dX3_goesOn_12 : decode cX3_goesOn 12 = .ok (.iload_n 0, 1) := by decide +kernel
theorem dX3_goesOn_13 : decode cX3_goesOn 13 = .ok (.bipush 11, 2) := by decide +kernel
theorem dX3_goesOn_15 : decode cX3_goesOn 15 = .ok (.if_icmp .ge 14, 3) := by decide +kernel
theorem dX3_goesOn_18 : decode cX3_goesOn 18 = .ok (.ldc 25, 2) := by decide +kernel
theorem dX3_goesOn_20 : decode cX3_goesOn 20 = .ok (.iload_n 0, 1) := by decide +kernel
theorem dX3_goesOn_21 : decode cX3_goesOn 21 = .ok (.invokevirtual 27, 3) := by decide +kernel
theorem dX3_goesOn_24 : decode cX3_goesOn 24 = .ok (.iload_n 1, 1) := by decide +kernel
theorem dX3_goesOn_25 : decode cX3_goesOn 25 = .ok (.invokestatic 33, 3) := by decide +kernel
theorem dX3_goesOn_28 : decode cX3_goesOn 28 = .ok (.ireturn, 1) := by decide +kernel
theorem dX3_goesOn_29 : decode cX3_goesOn 29 = .ok (.ldc 37, 2) := by decide +kernel
theorem dX3_goesOn_31 : decode cX3_goesOn 31 = .ok (.iload_n 0, 1) := by decide +kernel
theorem dX3_goesOn_32 : decode cX3_goesOn 32 = .ok (.bipush 11, 2) := by decide +kernel
theorem dX3_goesOn_34 : decode cX3_goesOn 34 = .ok (.isub, 1) := by decide +kernel
theorem dX3_goesOn_35 : decode cX3_goesOn 35 = .ok (.bipush 7, 2) := by decide +kernel
theorem dX3_goesOn_37 : decode cX3_goesOn 37 = .ok (.irem, 1) := by decide +kernel
theorem dX3_goesOn_38 : decode cX3_goesOn 38 = .ok (.invokevirtual 27, 3) := by decide +kernel
theorem dX3_goesOn_41 : decode cX3_goesOn 41 = .ok (.iload_n 1, 1) := by decide +kernel
theorem dX3_goesOn_42 : decode cX3_goesOn 42 = .ok (.invokestatic 33, 3) := by decide +kernel
theorem dX3_goesOn_45 : decode cX3_goesOn 45 = .ok (.ireturn, 1) := by decide +kernel
theorem dX3_isOfSort_0 : decode cX3_isOfSort 0 = .ok (.iload_n 0, 1) := by decide +kernel
theorem dX3_isOfSort_1 : decode cX3_isOfSort 1 = .ok (.bipush 99, 2) := by decide +kernel
theorem dX3_isOfSort_3 : decode cX3_isOfSort 3 = .ok (.if_icmp .ne 21, 3) := by decide +kernel
theorem dX3_isOfSort_6 : decode cX3_isOfSort 6 = .ok (.iload_n 1, 1) := by decide +kernel
theorem dX3_isOfSort_7 : decode cX3_isOfSort 7 = .ok (.bipush 48, 2) := by decide +kernel
theorem dX3_isOfSort_9 : decode cX3_isOfSort 9 = .ok (.if_icmp .lt 13, 3) := by decide +kernel
theorem dX3_isOfSort_12 : decode cX3_isOfSort 12 = .ok (.iload_n 1, 1) := by decide +kernel
theorem dX3_isOfSort_13 : decode cX3_isOfSort 13 = .ok (.bipush 55, 2) := by decide +kernel
theorem dX3_isOfSort_15 : decode cX3_isOfSort 15 = .ok (.if_icmp .gt 7, 3) := by decide +kernel
theorem dX3_isOfSort_18 : decode cX3_isOfSort 18 = .ok (.iconst 1, 1) := by decide +kernel
theorem dX3_isOfSort_19 : decode cX3_isOfSort 19 = .ok (.goto 4, 3) := by decide +kernel
theorem dX3_isOfSort_22 : decode cX3_isOfSort 22 = .ok (.iconst 0, 1) := by decide +kernel
theorem dX3_isOfSort_23 : decode cX3_isOfSort 23 = .ok (.ireturn, 1) := by decide +kernel
theorem dX3_isOfSort_24 : decode cX3_isOfSort 24 = .ok (.iload_n 0, 1) := by decide +kernel
theorem dX3_isOfSort_25 : decode cX3_isOfSort 25 = .ok (.bipush 100, 2) := by decide +kernel
theorem dX3_isOfSort_27 : decode cX3_isOfSort 27 = .ok (.if_icmp .ne 21, 3) := by decide +kernel
theorem dX3_isOfSort_30 : decode cX3_isOfSort 30 = .ok (.iload_n 1, 1) := by decide +kernel
theorem dX3_isOfSort_31 : decode cX3_isOfSort 31 = .ok (.bipush 48, 2) := by decide +kernel
theorem dX3_isOfSort_33 : decode cX3_isOfSort 33 = .ok (.if_icmp .lt 13, 3) := by decide +kernel
theorem dX3_isOfSort_36 : decode cX3_isOfSort 36 = .ok (.iload_n 1, 1) := by decide +kernel
theorem dX3_isOfSort_37 : decode cX3_isOfSort 37 = .ok (.bipush 57, 2) := by decide +kernel
theorem dX3_isOfSort_39 : decode cX3_isOfSort 39 = .ok (.if_icmp .gt 7, 3) := by decide +kernel
theorem dX3_isOfSort_42 : decode cX3_isOfSort 42 = .ok (.iconst 1, 1) := by decide +kernel
theorem dX3_isOfSort_43 : decode cX3_isOfSort 43 = .ok (.goto 4, 3) := by decide +kernel
theorem dX3_isOfSort_46 : decode cX3_isOfSort 46 = .ok (.iconst 0, 1) := by decide +kernel
theorem dX3_isOfSort_47 : decode cX3_isOfSort 47 = .ok (.ireturn, 1) := by decide +kernel
theorem dX3_isOfSort_48 : decode cX3_isOfSort 48 = .ok (.iload_n 0, 1) := by decide +kernel
theorem dX3_isOfSort_49 : decode cX3_isOfSort 49 = .ok (.bipush 104, 2) := by decide +kernel
theorem dX3_isOfSort_51 : decode cX3_isOfSort 51 = .ok (.if_icmp .ne 21, 3) := by decide +kernel
theorem dX3_isOfSort_54 : decode cX3_isOfSort 54 = .ok (.iload_n 1, 1) := by decide +kernel
theorem dX3_isOfSort_55 : decode cX3_isOfSort 55 = .ok (.bipush 50, 2) := by decide +kernel
theorem dX3_isOfSort_57 : decode cX3_isOfSort 57 = .ok (.if_icmp .eq 9, 3) := by decide +kernel
theorem dX3_isOfSort_60 : decode cX3_isOfSort 60 = .ok (.iload_n 1, 1) := by decide +kernel
theorem dX3_isOfSort_61 : decode cX3_isOfSort 61 = .ok (.bipush 52, 2) := by decide +kernel
theorem dX3_isOfSort_63 : decode cX3_isOfSort 63 = .ok (.if_icmp .ne 7, 3) := by decide +kernel
theorem dX3_isOfSort_66 : decode cX3_isOfSort 66 = .ok (.iconst 1, 1) := by decide +kernel
theorem dX3_isOfSort_67 : decode cX3_isOfSort 67 = .ok (.goto 4, 3) := by decide +kernel
theorem dX3_isOfSort_70 : decode cX3_isOfSort 70 = .ok (.iconst 0, 1) := by decide +kernel
theorem dX3_isOfSort_71 : decode cX3_isOfSort 71 = .ok (.ireturn, 1) := by decide +kernel
theorem dX3_isOfSort_72 : decode cX3_isOfSort 72 = .ok (.iload_n 0, 1) := by decide +kernel
theorem dX3_isOfSort_73 : decode cX3_isOfSort 73 = .ok (.bipush 107, 2) := by decide +kernel
theorem dX3_isOfSort_75 : decode cX3_isOfSort 75 = .ok (.if_icmp .ne 27, 3) := by decide +kernel
theorem dX3_isOfSort_78 : decode cX3_isOfSort 78 = .ok (.iload_n 1, 1) := by decide +kernel
theorem dX3_isOfSort_79 : decode cX3_isOfSort 79 = .ok (.bipush 116, 2) := by decide +kernel
theorem dX3_isOfSort_81 : decode cX3_isOfSort 81 = .ok (.if_icmp .eq 15, 3) := by decide +kernel
theorem dX3_isOfSort_84 : decode cX3_isOfSort 84 = .ok (.iload_n 1, 1) := by decide +kernel
theorem dX3_isOfSort_85 : decode cX3_isOfSort 85 = .ok (.bipush 115, 2) := by decide +kernel
theorem dX3_isOfSort_87 : decode cX3_isOfSort 87 = .ok (.if_icmp .eq 9, 3) := by decide +kernel
theorem dX3_isOfSort_90 : decode cX3_isOfSort 90 = .ok (.iload_n 1, 1) := by decide +kernel
theorem dX3_isOfSort_91 : decode cX3_isOfSort 91 = .ok (.bipush 111, 2) := by decide +kernel
theorem dX3_isOfSort_93 : decode cX3_isOfSort 93 = .ok (.if_icmp .ne 7, 3) := by decide +kernel
theorem dX3_isOfSort_96 : decode cX3_isOfSort 96 = .ok (.iconst 1, 1) := by decide +kernel
theorem dX3_isOfSort_97 : decode cX3_isOfSort 97 = .ok (.goto 4, 3) := by decide +kernel
theorem dX3_isOfSort_100 : decode cX3_isOfSort 100 = .ok (.iconst 0, 1) := by decide +kernel
theorem dX3_isOfSort_101 : decode cX3_isOfSort 101 = .ok (.ireturn, 1) := by decide +kernel
theorem dX3_isOfSort_102 : decode cX3_isOfSort 102 = .ok (.iload_n 1, 1) := by decide +kernel
theorem dX3_isOfSort_103 : decode cX3_isOfSort 103 = .ok (.iload_n 0, 1) := by decide +kernel
theorem dX3_isOfSort_104 : decode cX3_isOfSort 104 = .ok (.if_icmp .ne 7, 3) := by decide +kernel
theorem dX3_isOfSort_107 : decode cX3_isOfSort 107 = .ok (.iconst 1, 1) := by decide +kernel
theorem dX3_isOfSort_108 : decode cX3_isOfSort 108 = .ok (.goto 4, 3) := by decide +kernel
theorem dX3_isOfSort_111 : decode cX3_isOfSort 111 = .ok (.iconst 0, 1) := by decide +kernel
theorem dX3_isOfSort_112 : decode cX3_isOfSort 112 = .ok (.ireturn, 1) := by decide +kernel
set_option maxRecDepth 20000 in
theorem ggX4_share_X4_waysToDraw : GoodIn wsX4_share wsX4_waysToDraw := goodIn_r _ [8] (by decide +kernel) (by decide +kernel)
set_option maxRecDepth 20000 in
theorem gX4_share_X4_waysToDraw : GoodIn wsX4_share (va_wsS RX4 9 yX4_waysToDraw wsX4_waysToDraw) := goodIn_app (goodIn_of _ (by decide +kernel)) ggX4_share_X4_waysToDraw
set_option maxRecDepth 20000 in
theorem ggX4_share_X4_commonDivisor : GoodIn wsX4_share wsX4_commonDivisor := goodIn_r _ [11] (by decide +kernel) (by decide +kernel)
set_option maxRecDepth 20000 in
theorem gX4_share_X4_commonDivisor : GoodIn wsX4_share (va_wsS RX4 15 yX4_commonDivisor wsX4_commonDivisor) := goodIn_app (goodIn_of _ (by decide +kernel)) ggX4_share_X4_commonDivisor
theorem dX4_share_0 : decode cX4_share 0 = .ok (.iload_n 0, 1) := by decide +kernel
theorem dX4_share_1 : decode cX4_share 1 = .ok (.iload_n 2, 1) := by decide +kernel
theorem dX4_share_2 : decode cX4_share 2 = .ok (.invokestatic 9, 3) := by decide +kernel
theorem dX4_share_5 : decode cX4_share 5 = .ok (.lstore 4, 2) := by decide +kernel
theorem dX4_share_7 : decode cX4_share 7 = .ok (.lload 4, 2) := by decide +kernel
theorem dX4_share_9 : decode cX4_share 9 = .ok (.iload_n 0, 1) := by decide +kernel
theorem dX4_share_10 : decode cX4_share 10 = .ok (.iload_n 1, 1) := by decide +kernel
theorem dX4_share_11 : decode cX4_share 11 = .ok (.isub, 1) := by decide +kernel
theorem dX4_share_12 : decode cX4_share 12 = .ok (.iload_n 2, 1) := by decide +kernel
theorem dX4_share_13 : decode cX4_share 13 = .ok (.invokestatic 9, 3) := by decide +kernel
theorem dX4_share_16 : decode cX4_share 16 = .ok (.lsub, 1) := by decide +kernel
theorem dX4_share_17 : decode cX4_share 17 = .ok (.lstore 6, 2) := by decide +kernel
theorem dX4_share_19 : decode cX4_share 19 = .ok (.lconst 1, 1) := by decide +kernel
theorem dX4_share_20 : decode cX4_share 20 = .ok (.lload 4, 2) := by decide +kernel
theorem dX4_share_22 : decode cX4_share 22 = .ok (.lload 6, 2) := by decide +kernel
theorem dX4_share_24 : decode cX4_share 24 = .ok (.invokestatic 15, 3) := by decide +kernel
theorem dX4_share_27 : decode cX4_share 27 = .ok (.invokestatic 19, 3) := by decide +kernel
theorem dX4_share_30 : decode cX4_share 30 = .ok (.lstore 8, 2) := by decide +kernel
theorem dX4_share_32 : decode cX4_share 32 = .ok (.iload_n 3, 1) := by decide +kernel
theorem dX4_share_33 : decode cX4_share 33 = .ok (.ifCond .ne 11, 3) := by decide +kernel
theorem dX4_share_36 : decode cX4_share 36 = .ok (.lload 6, 2) := by decide +kernel
theorem dX4_share_38 : decode cX4_share 38 = .ok (.lload 8, 2) := by decide +kernel
theorem dX4_share_40 : decode cX4_share 40 = .ok (.ldiv, 1) := by decide +kernel
theorem dX4_share_41 : decode cX4_share 41 = .ok (.goto 8, 3) := by decide +kernel
theorem dX4_share_44 : decode cX4_share 44 = .ok (.lload 4, 2) := by decide +kernel
theorem dX4_share_46 : decode cX4_share 46 = .ok (.lload 8, 2) := by decide +kernel
theorem dX4_share_48 : decode cX4_share 48 = .ok (.ldiv, 1) := by decide +kernel
theorem dX4_share_49 : decode cX4_share 49 = .ok (.lreturn, 1) := by decide +kernel
set_option maxRecDepth 20000 in
theorem ggX4_fewestForHalf_X4_waysToDraw : GoodIn wsX4_fewestForHalf wsX4_waysToDraw := goodIn_r _ [5] (by decide +kernel) (by decide +kernel)
set_option maxRecDepth 20000 in
theorem gX4_fewestForHalf_X4_waysToDraw : GoodIn wsX4_fewestForHalf (va_wsS RX4 9 yX4_waysToDraw wsX4_waysToDraw) := goodIn_app (goodIn_of _ (by decide +kernel)) ggX4_fewestForHalf_X4_waysToDraw
theorem dX4_fewestForHalf_0 : decode cX4_fewestForHalf 0 = .ok (.iconst 0, 1) := by decide +kernel
theorem dX4_fewestForHalf_1 : decode cX4_fewestForHalf 1 = .ok (.istore_n 2, 1) := by decide +kernel
theorem dX4_fewestForHalf_2 : decode cX4_fewestForHalf 2 = .ok (.iload_n 2, 1) := by decide +kernel
theorem dX4_fewestForHalf_3 : decode cX4_fewestForHalf 3 = .ok (.iload_n 0, 1) := by decide +kernel
theorem dX4_fewestForHalf_4 : decode cX4_fewestForHalf 4 = .ok (.if_icmp .gt 31, 3) := by decide +kernel
theorem dX4_fewestForHalf_7 : decode cX4_fewestForHalf 7 = .ok (.ldc2_w 24, 3) := by decide +kernel
theorem dX4_fewestForHalf_10 : decode cX4_fewestForHalf 10 = .ok (.iload_n 0, 1) := by decide +kernel
theorem dX4_fewestForHalf_11 : decode cX4_fewestForHalf 11 = .ok (.iload_n 1, 1) := by decide +kernel
theorem dX4_fewestForHalf_12 : decode cX4_fewestForHalf 12 = .ok (.isub, 1) := by decide +kernel
theorem dX4_fewestForHalf_13 : decode cX4_fewestForHalf 13 = .ok (.iload_n 2, 1) := by decide +kernel
theorem dX4_fewestForHalf_14 : decode cX4_fewestForHalf 14 = .ok (.invokestatic 9, 3) := by decide +kernel
theorem dX4_fewestForHalf_17 : decode cX4_fewestForHalf 17 = .ok (.lmul, 1) := by decide +kernel
theorem dX4_fewestForHalf_18 : decode cX4_fewestForHalf 18 = .ok (.iload_n 0, 1) := by decide +kernel
theorem dX4_fewestForHalf_19 : decode cX4_fewestForHalf 19 = .ok (.iload_n 2, 1) := by decide +kernel
theorem dX4_fewestForHalf_20 : decode cX4_fewestForHalf 20 = .ok (.invokestatic 9, 3) := by decide +kernel
theorem dX4_fewestForHalf_23 : decode cX4_fewestForHalf 23 = .ok (.lcmp, 1) := by decide +kernel
theorem dX4_fewestForHalf_24 : decode cX4_fewestForHalf 24 = .ok (.ifCond .gt 5, 3) := by decide +kernel
theorem dX4_fewestForHalf_27 : decode cX4_fewestForHalf 27 = .ok (.iload_n 2, 1) := by decide +kernel
theorem dX4_fewestForHalf_28 : decode cX4_fewestForHalf 28 = .ok (.ireturn, 1) := by decide +kernel
theorem dX4_fewestForHalf_29 : decode cX4_fewestForHalf 29 = .ok (.iinc 2 1, 3) := by decide +kernel
theorem dX4_fewestForHalf_32 : decode cX4_fewestForHalf 32 = .ok (.goto (-30), 3) := by decide +kernel
theorem dX4_fewestForHalf_35 : decode cX4_fewestForHalf 35 = .ok (.bipush (-9), 2) := by decide +kernel
theorem dX4_fewestForHalf_37 : decode cX4_fewestForHalf 37 = .ok (.ireturn, 1) := by decide +kernel
theorem dX4_waysToDraw_0 : decode cX4_waysToDraw 0 = .ok (.iload_n 1, 1) := by decide +kernel
theorem dX4_waysToDraw_1 : decode cX4_waysToDraw 1 = .ok (.iload_n 0, 1) := by decide +kernel
theorem dX4_waysToDraw_2 : decode cX4_waysToDraw 2 = .ok (.if_icmp .le 5, 3) := by decide +kernel
theorem dX4_waysToDraw_5 : decode cX4_waysToDraw 5 = .ok (.lconst 0, 1) := by decide +kernel
theorem dX4_waysToDraw_6 : decode cX4_waysToDraw 6 = .ok (.lreturn, 1) := by decide +kernel
theorem dX4_waysToDraw_7 : decode cX4_waysToDraw 7 = .ok (.lconst 1, 1) := by decide +kernel
theorem dX4_waysToDraw_8 : decode cX4_waysToDraw 8 = .ok (.lstore_n 2, 1) := by decide +kernel
theorem dX4_waysToDraw_9 : decode cX4_waysToDraw 9 = .ok (.iconst 1, 1) := by decide +kernel
theorem dX4_waysToDraw_10 : decode cX4_waysToDraw 10 = .ok (.istore 4, 2) := by decide +kernel
theorem dX4_waysToDraw_12 : decode cX4_waysToDraw 12 = .ok (.iload 4, 2) := by decide +kernel
theorem dX4_waysToDraw_14 : decode cX4_waysToDraw 14 = .ok (.iload_n 1, 1) := by decide +kernel
theorem dX4_waysToDraw_15 : decode cX4_waysToDraw 15 = .ok (.if_icmp .gt 23, 3) := by decide +kernel
theorem dX4_waysToDraw_18 : decode cX4_waysToDraw 18 = .ok (.lload_n 2, 1) := by decide +kernel
theorem dX4_waysToDraw_19 : decode cX4_waysToDraw 19 = .ok (.iload_n 0, 1) := by decide +kernel
theorem dX4_waysToDraw_20 : decode cX4_waysToDraw 20 = .ok (.iload_n 1, 1) := by decide +kernel
theorem dX4_waysToDraw_21 : decode cX4_waysToDraw 21 = .ok (.isub, 1) := by decide +kernel
theorem dX4_waysToDraw_22 : decode cX4_waysToDraw 22 = .ok (.iload 4, 2) := by decide +kernel
theorem dX4_waysToDraw_24 : decode cX4_waysToDraw 24 = .ok (.iadd, 1) := by decide +kernel
theorem dX4_waysToDraw_25 : decode cX4_waysToDraw 25 = .ok (.i2l, 1) := by decide +kernel
theorem dX4_waysToDraw_26 : decode cX4_waysToDraw 26 = .ok (.lmul, 1) := by decide +kernel
theorem dX4_waysToDraw_27 : decode cX4_waysToDraw 27 = .ok (.iload 4, 2) := by decide +kernel
theorem dX4_waysToDraw_29 : decode cX4_waysToDraw 29 = .ok (.i2l, 1) := by decide +kernel
theorem dX4_waysToDraw_30 : decode cX4_waysToDraw 30 = .ok (.ldiv, 1) := by decide +kernel
theorem dX4_waysToDraw_31 : decode cX4_waysToDraw 31 = .ok (.lstore_n 2, 1) := by decide +kernel
theorem dX4_waysToDraw_32 : decode cX4_waysToDraw 32 = .ok (.iinc 4 1, 3) := by decide +kernel
theorem dX4_waysToDraw_35 : decode cX4_waysToDraw 35 = .ok (.goto (-23), 3) := by decide +kernel
theorem dX4_waysToDraw_38 : decode cX4_waysToDraw 38 = .ok (.lload_n 2, 1) := by decide +kernel
theorem dX4_waysToDraw_39 : decode cX4_waysToDraw 39 = .ok (.lreturn, 1) := by decide +kernel
theorem dX4_commonDivisor_0 : decode cX4_commonDivisor 0 = .ok (.iconst 0, 1) := by decide +kernel
theorem dX4_commonDivisor_1 : decode cX4_commonDivisor 1 = .ok (.istore 4, 2) := by decide +kernel
theorem dX4_commonDivisor_3 : decode cX4_commonDivisor 3 = .ok (.iload 4, 2) := by decide +kernel
theorem dX4_commonDivisor_5 : decode cX4_commonDivisor 5 = .ok (.sipush 128, 3) := by decide +kernel
theorem dX4_commonDivisor_8 : decode cX4_commonDivisor 8 = .ok (.if_icmp .ge 25, 3) := by decide +kernel
theorem dX4_commonDivisor_11 : decode cX4_commonDivisor 11 = .ok (.lload_n 2, 1) := by decide +kernel
theorem dX4_commonDivisor_12 : decode cX4_commonDivisor 12 = .ok (.lconst 0, 1) := by decide +kernel
theorem dX4_commonDivisor_13 : decode cX4_commonDivisor 13 = .ok (.lcmp, 1) := by decide +kernel
theorem dX4_commonDivisor_14 : decode cX4_commonDivisor 14 = .ok (.ifCond .eq 19, 3) := by decide +kernel
theorem dX4_commonDivisor_17 : decode cX4_commonDivisor 17 = .ok (.lload_n 0, 1) := by decide +kernel
theorem dX4_commonDivisor_18 : decode cX4_commonDivisor 18 = .ok (.lload_n 2, 1) := by decide +kernel
theorem dX4_commonDivisor_19 : decode cX4_commonDivisor 19 = .ok (.lrem, 1) := by decide +kernel
theorem dX4_commonDivisor_20 : decode cX4_commonDivisor 20 = .ok (.lstore 5, 2) := by decide +kernel
theorem dX4_commonDivisor_22 : decode cX4_commonDivisor 22 = .ok (.lload_n 2, 1) := by decide +kernel
theorem dX4_commonDivisor_23 : decode cX4_commonDivisor 23 = .ok (.lstore_n 0, 1) := by decide +kernel
theorem dX4_commonDivisor_24 : decode cX4_commonDivisor 24 = .ok (.lload 5, 2) := by decide +kernel
theorem dX4_commonDivisor_26 : decode cX4_commonDivisor 26 = .ok (.lstore_n 2, 1) := by decide +kernel
theorem dX4_commonDivisor_27 : decode cX4_commonDivisor 27 = .ok (.iinc 4 1, 3) := by decide +kernel
theorem dX4_commonDivisor_30 : decode cX4_commonDivisor 30 = .ok (.goto (-27), 3) := by decide +kernel
theorem dX4_commonDivisor_33 : decode cX4_commonDivisor 33 = .ok (.lload_n 0, 1) := by decide +kernel
theorem dX4_commonDivisor_34 : decode cX4_commonDivisor 34 = .ok (.lreturn, 1) := by decide +kernel
theorem dX5_init_0 : decode cX5_init 0 = .ok (.aload_n 0, 1) := by decide +kernel
theorem dX5_init_1 : decode cX5_init 1 = .ok (.invokespecial 3, 3) := by decide +kernel
theorem dX5_init_4 : decode cX5_init 4 = .ok (.return_, 1) := by decide +kernel
set_option maxRecDepth 20000 in
theorem ggX5_fillFrom_X1_read : GoodIn wsX5_fillFrom wsX1_read := goodIn_r _ [11, 12, 13, 14, 15, 10, 16, 17, 24, 25, 26] (by decide +kernel) (by decide +kernel)
set_option maxRecDepth 20000 in
theorem gX5_fillFrom_X1_read : GoodIn wsX5_fillFrom (wsV RX5 9 RX1 yX1_read wsX1_read) := goodIn_app (goodIn_of _ (by decide +kernel)) ggX5_fillFrom_X1_read
theorem dX5_fillFrom_0 : decode cX5_fillFrom 0 = .ok (.aload_n 1, 1) := by decide +kernel
theorem dX5_fillFrom_1 : decode cX5_fillFrom 1 = .ok (.iload_n 2, 1) := by decide +kernel
theorem dX5_fillFrom_2 : decode cX5_fillFrom 2 = .ok (.iconst 1, 1) := by decide +kernel
theorem dX5_fillFrom_3 : decode cX5_fillFrom 3 = .ok (.iadd, 1) := by decide +kernel
theorem dX5_fillFrom_4 : decode cX5_fillFrom 4 = .ok (.invokevirtual 9, 3) := by decide +kernel
theorem dX5_fillFrom_7 : decode cX5_fillFrom 7 = .ok (.istore_n 3, 1) := by decide +kernel
theorem dX5_fillFrom_8 : decode cX5_fillFrom 8 = .ok (.aload_n 0, 1) := by decide +kernel
theorem dX5_fillFrom_9 : decode cX5_fillFrom 9 = .ok (.iload_n 3, 1) := by decide +kernel
theorem dX5_fillFrom_10 : decode cX5_fillFrom 10 = .ok (.bipush 111, 2) := by decide +kernel
theorem dX5_fillFrom_12 : decode cX5_fillFrom 12 = .ok (.if_icmp .ne 7, 3) := by decide +kernel
theorem dX5_fillFrom_15 : decode cX5_fillFrom 15 = .ok (.iconst 2, 1) := by decide +kernel
theorem dX5_fillFrom_16 : decode cX5_fillFrom 16 = .ok (.goto 14, 3) := by decide +kernel
theorem dX5_fillFrom_19 : decode cX5_fillFrom 19 = .ok (.iload_n 3, 1) := by decide +kernel
theorem dX5_fillFrom_20 : decode cX5_fillFrom 20 = .ok (.bipush 115, 2) := by decide +kernel
theorem dX5_fillFrom_22 : decode cX5_fillFrom 22 = .ok (.if_icmp .ne 7, 3) := by decide +kernel
theorem dX5_fillFrom_25 : decode cX5_fillFrom 25 = .ok (.iconst 1, 1) := by decide +kernel
theorem dX5_fillFrom_26 : decode cX5_fillFrom 26 = .ok (.goto 4, 3) := by decide +kernel
theorem dX5_fillFrom_29 : decode cX5_fillFrom 29 = .ok (.iconst 0, 1) := by decide +kernel
theorem dX5_fillFrom_30 : decode cX5_fillFrom 30 = .ok (.putfield 15, 3) := by decide +kernel
theorem dX5_fillFrom_33 : decode cX5_fillFrom 33 = .ok (.aload_n 0, 1) := by decide +kernel
theorem dX5_fillFrom_34 : decode cX5_fillFrom 34 = .ok (.aload_n 1, 1) := by decide +kernel
theorem dX5_fillFrom_35 : decode cX5_fillFrom 35 = .ok (.iload_n 2, 1) := by decide +kernel
theorem dX5_fillFrom_36 : decode cX5_fillFrom 36 = .ok (.iconst 2, 1) := by decide +kernel
theorem dX5_fillFrom_37 : decode cX5_fillFrom 37 = .ok (.iadd, 1) := by decide +kernel
theorem dX5_fillFrom_38 : decode cX5_fillFrom 38 = .ok (.invokevirtual 9, 3) := by decide +kernel
theorem dX5_fillFrom_41 : decode cX5_fillFrom 41 = .ok (.bipush 48, 2) := by decide +kernel
theorem dX5_fillFrom_43 : decode cX5_fillFrom 43 = .ok (.isub, 1) := by decide +kernel
theorem dX5_fillFrom_44 : decode cX5_fillFrom 44 = .ok (.putfield 21, 3) := by decide +kernel
theorem dX5_fillFrom_47 : decode cX5_fillFrom 47 = .ok (.aload_n 0, 1) := by decide +kernel
theorem dX5_fillFrom_48 : decode cX5_fillFrom 48 = .ok (.aload_n 1, 1) := by decide +kernel
theorem dX5_fillFrom_49 : decode cX5_fillFrom 49 = .ok (.iload_n 2, 1) := by decide +kernel
theorem dX5_fillFrom_50 : decode cX5_fillFrom 50 = .ok (.iconst 3, 1) := by decide +kernel
theorem dX5_fillFrom_51 : decode cX5_fillFrom 51 = .ok (.iadd, 1) := by decide +kernel
theorem dX5_fillFrom_52 : decode cX5_fillFrom 52 = .ok (.invokevirtual 9, 3) := by decide +kernel
theorem dX5_fillFrom_55 : decode cX5_fillFrom 55 = .ok (.bipush 48, 2) := by decide +kernel
theorem dX5_fillFrom_57 : decode cX5_fillFrom 57 = .ok (.isub, 1) := by decide +kernel
theorem dX5_fillFrom_58 : decode cX5_fillFrom 58 = .ok (.putfield 24, 3) := by decide +kernel
theorem dX5_fillFrom_61 : decode cX5_fillFrom 61 = .ok (.aload_n 0, 1) := by decide +kernel
theorem dX5_fillFrom_62 : decode cX5_fillFrom 62 = .ok (.aload_n 1, 1) := by decide +kernel
theorem dX5_fillFrom_63 : decode cX5_fillFrom 63 = .ok (.iload_n 2, 1) := by decide +kernel
theorem dX5_fillFrom_64 : decode cX5_fillFrom 64 = .ok (.iconst 4, 1) := by decide +kernel
theorem dX5_fillFrom_65 : decode cX5_fillFrom 65 = .ok (.iadd, 1) := by decide +kernel
theorem dX5_fillFrom_66 : decode cX5_fillFrom 66 = .ok (.invokevirtual 9, 3) := by decide +kernel
theorem dX5_fillFrom_69 : decode cX5_fillFrom 69 = .ok (.bipush 48, 2) := by decide +kernel
theorem dX5_fillFrom_71 : decode cX5_fillFrom 71 = .ok (.isub, 1) := by decide +kernel
theorem dX5_fillFrom_72 : decode cX5_fillFrom 72 = .ok (.putfield 27, 3) := by decide +kernel
theorem dX5_fillFrom_75 : decode cX5_fillFrom 75 = .ok (.aload_n 0, 1) := by decide +kernel
theorem dX5_fillFrom_76 : decode cX5_fillFrom 76 = .ok (.aload_n 1, 1) := by decide +kernel
theorem dX5_fillFrom_77 : decode cX5_fillFrom 77 = .ok (.iload_n 2, 1) := by decide +kernel
theorem dX5_fillFrom_78 : decode cX5_fillFrom 78 = .ok (.iconst 5, 1) := by decide +kernel
theorem dX5_fillFrom_79 : decode cX5_fillFrom 79 = .ok (.iadd, 1) := by decide +kernel
theorem dX5_fillFrom_80 : decode cX5_fillFrom 80 = .ok (.invokevirtual 9, 3) := by decide +kernel
theorem dX5_fillFrom_83 : decode cX5_fillFrom 83 = .ok (.bipush 48, 2) := by decide +kernel
theorem dX5_fillFrom_85 : decode cX5_fillFrom 85 = .ok (.isub, 1) := by decide +kernel
theorem dX5_fillFrom_86 : decode cX5_fillFrom 86 = .ok (.putfield 30, 3) := by decide +kernel
theorem dX5_fillFrom_89 : decode cX5_fillFrom 89 = .ok (.aload_n 0, 1) := by decide +kernel
theorem dX5_fillFrom_90 : decode cX5_fillFrom 90 = .ok (.aload_n 1, 1) := by decide +kernel
theorem dX5_fillFrom_91 : decode cX5_fillFrom 91 = .ok (.iload_n 2, 1) := by decide +kernel
theorem dX5_fillFrom_92 : decode cX5_fillFrom 92 = .ok (.bipush 6, 2) := by decide +kernel
theorem dX5_fillFrom_94 : decode cX5_fillFrom 94 = .ok (.iadd, 1) := by decide +kernel
theorem dX5_fillFrom_95 : decode cX5_fillFrom 95 = .ok (.invokevirtual 9, 3) := by decide +kernel
theorem dX5_fillFrom_98 : decode cX5_fillFrom 98 = .ok (.bipush 48, 2) := by decide +kernel
theorem dX5_fillFrom_100 : decode cX5_fillFrom 100 = .ok (.isub, 1) := by decide +kernel
theorem dX5_fillFrom_101 : decode cX5_fillFrom 101 = .ok (.putfield 33, 3) := by decide +kernel
theorem dX5_fillFrom_104 : decode cX5_fillFrom 104 = .ok (.return_, 1) := by decide +kernel
theorem dX5_looksColour_0 : decode cX5_looksColour 0 = .ok (.aload_n 0, 1) := by decide +kernel
theorem dX5_looksColour_1 : decode cX5_looksColour 1 = .ok (.getfield 15, 3) := by decide +kernel
theorem dX5_looksColour_4 : decode cX5_looksColour 4 = .ok (.iconst 1, 1) := by decide +kernel
theorem dX5_looksColour_5 : decode cX5_looksColour 5 = .ok (.if_icmp .ne 17, 3) := by decide +kernel
theorem dX5_looksColour_8 : decode cX5_looksColour 8 = .ok (.bipush 7, 2) := by decide +kernel
theorem dX5_looksColour_10 : decode cX5_looksColour 10 = .ok (.aload_n 0, 1) := by decide +kernel
theorem dX5_looksColour_11 : decode cX5_looksColour 11 = .ok (.getfield 21, 3) := by decide +kernel
theorem dX5_looksColour_14 : decode cX5_looksColour 14 = .ok (.iconst 1, 1) := by decide +kernel
theorem dX5_looksColour_15 : decode cX5_looksColour 15 = .ok (.iadd, 1) := by decide +kernel
theorem dX5_looksColour_16 : decode cX5_looksColour 16 = .ok (.invokestatic 36, 3) := by decide +kernel
theorem dX5_looksColour_19 : decode cX5_looksColour 19 = .ok (.goto 7, 3) := by decide +kernel
theorem dX5_looksColour_22 : decode cX5_looksColour 22 = .ok (.aload_n 0, 1) := by decide +kernel
theorem dX5_looksColour_23 : decode cX5_looksColour 23 = .ok (.getfield 21, 3) := by decide +kernel
theorem dX5_looksColour_26 : decode cX5_looksColour 26 = .ok (.ireturn, 1) := by decide +kernel
theorem dX5_looksSize_0 : decode cX5_looksSize 0 = .ok (.aload_n 0, 1) := by decide +kernel
theorem dX5_looksSize_1 : decode cX5_looksSize 1 = .ok (.getfield 15, 3) := by decide +kernel
theorem dX5_looksSize_4 : decode cX5_looksSize 4 = .ok (.iconst 2, 1) := by decide +kernel
theorem dX5_looksSize_5 : decode cX5_looksSize 5 = .ok (.if_icmp .ne 16, 3) := by decide +kernel
theorem dX5_looksSize_8 : decode cX5_looksSize 8 = .ok (.iconst 0, 1) := by decide +kernel
theorem dX5_looksSize_9 : decode cX5_looksSize 9 = .ok (.aload_n 0, 1) := by decide +kernel
theorem dX5_looksSize_10 : decode cX5_looksSize 10 = .ok (.getfield 24, 3) := by decide +kernel
theorem dX5_looksSize_13 : decode cX5_looksSize 13 = .ok (.iconst 1, 1) := by decide +kernel
theorem dX5_looksSize_14 : decode cX5_looksSize 14 = .ok (.isub, 1) := by decide +kernel
theorem dX5_looksSize_15 : decode cX5_looksSize 15 = .ok (.invokestatic 42, 3) := by decide +kernel
theorem dX5_looksSize_18 : decode cX5_looksSize 18 = .ok (.goto 7, 3) := by decide +kernel
theorem dX5_looksSize_21 : decode cX5_looksSize 21 = .ok (.aload_n 0, 1) := by decide +kernel
theorem dX5_looksSize_22 : decode cX5_looksSize 22 = .ok (.getfield 24, 3) := by decide +kernel
theorem dX5_looksSize_25 : decode cX5_looksSize 25 = .ok (.ireturn, 1) := by decide +kernel
set_option maxRecDepth 20000 in
theorem ggX5_farFrom_X5_looksColour : GoodIn wsX5_farFrom wsX5_looksColour := goodIn_r _ [10, 11, 12, 13, 14, 3, 15, 24, 25, 26, 27, 28, 29] (by decide +kernel) (by decide +kernel)
set_option maxRecDepth 20000 in
theorem gX5_farFrom_X5_looksColour : GoodIn wsX5_farFrom (wsV RX5 45 RX5 yX5_looksColour wsX5_looksColour) := goodIn_app (goodIn_of _ (by decide +kernel)) ggX5_farFrom_X5_looksColour
set_option maxRecDepth 20000 in
theorem ggX5_farFrom_X5_looksSize : GoodIn wsX5_farFrom wsX5_looksSize := goodIn_r _ [19, 11, 20, 21, 22, 3, 23, 24, 25, 26, 27, 28, 29] (by decide +kernel) (by decide +kernel)
set_option maxRecDepth 20000 in
theorem gX5_farFrom_X5_looksSize : GoodIn wsX5_farFrom (wsV RX5 52 RX5 yX5_looksSize wsX5_looksSize) := goodIn_app (goodIn_of _ (by decide +kernel)) ggX5_farFrom_X5_looksSize
theorem dX5_farFrom_0 : decode cX5_farFrom 0 = .ok (.aload_n 0, 1) := by decide +kernel
theorem dX5_farFrom_1 : decode cX5_farFrom 1 = .ok (.invokevirtual 45, 3) := by decide +kernel
theorem dX5_farFrom_4 : decode cX5_farFrom 4 = .ok (.iload_n 1, 1) := by decide +kernel
theorem dX5_farFrom_5 : decode cX5_farFrom 5 = .ok (.isub, 1) := by decide +kernel
theorem dX5_farFrom_6 : decode cX5_farFrom 6 = .ok (.invokestatic 49, 3) := by decide +kernel
theorem dX5_farFrom_9 : decode cX5_farFrom 9 = .ok (.aload_n 0, 1) := by decide +kernel
theorem dX5_farFrom_10 : decode cX5_farFrom 10 = .ok (.invokevirtual 52, 3) := by decide +kernel
theorem dX5_farFrom_13 : decode cX5_farFrom 13 = .ok (.iload_n 2, 1) := by decide +kernel
theorem dX5_farFrom_14 : decode cX5_farFrom 14 = .ok (.isub, 1) := by decide +kernel
theorem dX5_farFrom_15 : decode cX5_farFrom 15 = .ok (.invokestatic 49, 3) := by decide +kernel
theorem dX5_farFrom_18 : decode cX5_farFrom 18 = .ok (.iadd, 1) := by decide +kernel
theorem dX5_farFrom_19 : decode cX5_farFrom 19 = .ok (.istore 4, 2) := by decide +kernel
theorem dX5_farFrom_21 : decode cX5_farFrom 21 = .ok (.aload_n 0, 1) := by decide +kernel
theorem dX5_farFrom_22 : decode cX5_farFrom 22 = .ok (.getfield 27, 3) := by decide +kernel
theorem dX5_farFrom_25 : decode cX5_farFrom 25 = .ok (.iload_n 3, 1) := by decide +kernel
theorem dX5_farFrom_26 : decode cX5_farFrom 26 = .ok (.if_icmp .ne 8, 3) := by decide +kernel
theorem dX5_farFrom_29 : decode cX5_farFrom 29 = .ok (.iload 4, 2) := by decide +kernel
theorem dX5_farFrom_31 : decode cX5_farFrom 31 = .ok (.goto 7, 3) := by decide +kernel
theorem dX5_farFrom_34 : decode cX5_farFrom 34 = .ok (.iload 4, 2) := by decide +kernel
theorem dX5_farFrom_36 : decode cX5_farFrom 36 = .ok (.iconst 2, 1) := by decide +kernel
theorem dX5_farFrom_37 : decode cX5_farFrom 37 = .ok (.iadd, 1) := by decide +kernel
theorem dX5_farFrom_38 : decode cX5_farFrom 38 = .ok (.ireturn, 1) := by decide +kernel
set_option maxRecDepth 20000 in
theorem ggX5_part_X5_looksColour : GoodIn wsX5_part wsX5_looksColour := goodIn_r _ [11, 1, 2, 12, 13, 14, 15, 23, 24, 25, 26, 27, 28] (by decide +kernel) (by decide +kernel)
set_option maxRecDepth 20000 in
theorem gX5_part_X5_looksColour : GoodIn wsX5_part (wsV RX5 45 RX5 yX5_looksColour wsX5_looksColour) := goodIn_app (goodIn_of _ (by decide +kernel)) ggX5_part_X5_looksColour
set_option maxRecDepth 20000 in
theorem ggX5_part_X5_looksSize : GoodIn wsX5_part wsX5_looksSize := goodIn_r _ [19, 1, 3, 20, 21, 14, 22, 23, 24, 25, 26, 27, 28] (by decide +kernel) (by decide +kernel)
set_option maxRecDepth 20000 in
theorem gX5_part_X5_looksSize : GoodIn wsX5_part (wsV RX5 52 RX5 yX5_looksSize wsX5_looksSize) := goodIn_app (goodIn_of _ (by decide +kernel)) ggX5_part_X5_looksSize
theorem dX5_part_0 : decode cX5_part 0 = .ok (.iload_n 1, 1) := by decide +kernel
