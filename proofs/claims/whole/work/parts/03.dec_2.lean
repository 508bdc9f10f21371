theorem dX6_copy_102 : decode cX6_copy 102 = .ok (.iconst 3, 1) := by decide +kernel
theorem dX6_copy_103 : decode cX6_copy 103 = .ok (.invokevirtual 177, 3) := by decide +kernel
theorem dX6_copy_106 : decode cX6_copy 106 = .ok (.ireturn, 1) := by decide +kernel
theorem dX6_copy_107 : decode cX6_copy 107 = .ok (.aload 6, 2) := by decide +kernel
theorem dX6_copy_109 : decode cX6_copy 109 = .ok (.getfield 115, 3) := by decide +kernel
theorem dX6_copy_112 : decode cX6_copy 112 = .ok (.iload_n 2, 1) := by decide +kernel
theorem dX6_copy_113 : decode cX6_copy 113 = .ok (.aload 7, 2) := by decide +kernel
theorem dX6_copy_115 : decode cX6_copy 115 = .ok (.getfield 115, 3) := by decide +kernel
theorem dX6_copy_118 : decode cX6_copy 118 = .ok (.iload 4, 2) := by decide +kernel
theorem dX6_copy_120 : decode cX6_copy 120 = .ok (.iload 5, 2) := by decide +kernel
theorem dX6_copy_122 : decode cX6_copy 122 = .ok (.invokestatic 207, 3) := by decide +kernel
theorem dX6_copy_125 : decode cX6_copy 125 = .ok (.iload 5, 2) := by decide +kernel
theorem dX6_copy_127 : decode cX6_copy 127 = .ok (.ireturn, 1) := by decide +kernel
set_option maxRecDepth 20000 in
theorem ggX6_tell_X2_hasTube : GoodIn wsX6_tell wsX2_hasTube := goodIn_r _ [6, 7, 31, 32, 33, 34, 35, 36, 37, 38, 39, 40] (by decide +kernel) (by decide +kernel)
set_option maxRecDepth 20000 in
theorem gX6_tell_X2_hasTube : GoodIn wsX6_tell (wsV RX6 75 RX2 yX2_hasTube wsX2_hasTube) := goodIn_app (goodIn_of _ (by decide +kernel)) ggX6_tell_X2_hasTube
set_option maxRecDepth 20000 in
theorem ggX6_tell_X6_oldTelling : GoodIn wsX6_tell wsX6_oldTelling := goodIn_r _ [12, 13, 14, 15, 11, 16, 17, 18, 19, 20, 21, 22, 23, 24, 25, 26, 27, 28, 29, 30, 41, 42, 43, 44, 45, 46] (by decide +kernel) (by decide +kernel)
set_option maxRecDepth 20000 in
theorem gX6_tell_X6_oldTelling : GoodIn wsX6_tell (wsV RX6 213 RX6 yX6_oldTelling wsX6_oldTelling) := goodIn_app (goodIn_of _ (by decide +kernel)) ggX6_tell_X6_oldTelling
set_option maxRecDepth 20000 in
theorem ggX6_tell_X6_shadedTelling : GoodIn wsX6_tell wsX6_shadedTelling := goodIn_r _ [21, 13, 14, 15, 11, 16, 17, 22, 23, 24, 25, 26, 27, 28, 29, 30, 41, 42, 43, 44, 45, 46] (by decide +kernel) (by decide +kernel)
set_option maxRecDepth 20000 in
theorem gX6_tell_X6_shadedTelling : GoodIn wsX6_tell (wsV RX6 217 RX6 yX6_shadedTelling wsX6_shadedTelling) := goodIn_app (goodIn_of _ (by decide +kernel)) ggX6_tell_X6_shadedTelling
set_option maxRecDepth 20000 in
theorem ggX6_tell_X6_tubeTelling : GoodIn wsX6_tell wsX6_tubeTelling := goodIn_r _ [25, 13, 14, 15, 11, 16, 17, 41, 42, 43, 44, 45, 46, 26, 27, 28, 29, 30] (by decide +kernel) (by decide +kernel)
set_option maxRecDepth 20000 in
theorem gX6_tell_X6_tubeTelling : GoodIn wsX6_tell (wsV RX6 220 RX6 yX6_tubeTelling wsX6_tubeTelling) := goodIn_app (goodIn_of _ (by decide +kernel)) ggX6_tell_X6_tubeTelling
theorem dX6_tell_0 : decode cX6_tell 0 = .ok (.aload_n 0, 1) := by decide +kernel
theorem dX6_tell_1 : decode cX6_tell 1 = .ok (.getfield 20, 3) := by decide +kernel
theorem dX6_tell_4 : decode cX6_tell 4 = .ok (.iload_n 1, 1) := by decide +kernel
theorem dX6_tell_5 : decode cX6_tell 5 = .ok (.invokevirtual 75, 3) := by decide +kernel
theorem dX6_tell_8 : decode cX6_tell 8 = .ok (.ifCond .ne 5, 3) := by decide +kernel
theorem dX6_tell_11 : decode cX6_tell 11 = .ok (.iconst (-1), 1) := by decide +kernel
theorem dX6_tell_12 : decode cX6_tell 12 = .ok (.ireturn, 1) := by decide +kernel
theorem dX6_tell_13 : decode cX6_tell 13 = .ok (.aload_n 0, 1) := by decide +kernel
theorem dX6_tell_14 : decode cX6_tell 14 = .ok (.getfield 20, 3) := by decide +kernel
theorem dX6_tell_17 : decode cX6_tell 17 = .ok (.getfield 78, 3) := by decide +kernel
theorem dX6_tell_20 : decode cX6_tell 20 = .ok (.iload_n 1, 1) := by decide +kernel
theorem dX6_tell_21 : decode cX6_tell 21 = .ok (.aaload, 1) := by decide +kernel
theorem dX6_tell_22 : decode cX6_tell 22 = .ok (.astore_n 2, 1) := by decide +kernel
theorem dX6_tell_23 : decode cX6_tell 23 = .ok (.aload_n 2, 1) := by decide +kernel
theorem dX6_tell_24 : decode cX6_tell 24 = .ok (.getfield 165, 3) := by decide +kernel
theorem dX6_tell_27 : decode cX6_tell 27 = .ok (.iconst 2, 1) := by decide +kernel
theorem dX6_tell_28 : decode cX6_tell 28 = .ok (.if_icmp .ne 9, 3) := by decide +kernel
theorem dX6_tell_31 : decode cX6_tell 31 = .ok (.aload_n 0, 1) := by decide +kernel
theorem dX6_tell_32 : decode cX6_tell 32 = .ok (.aload_n 2, 1) := by decide +kernel
theorem dX6_tell_33 : decode cX6_tell 33 = .ok (.invokevirtual 213, 3) := by decide +kernel
theorem dX6_tell_36 : decode cX6_tell 36 = .ok (.ireturn, 1) := by decide +kernel
theorem dX6_tell_37 : decode cX6_tell 37 = .ok (.aload_n 2, 1) := by decide +kernel
theorem dX6_tell_38 : decode cX6_tell 38 = .ok (.getfield 165, 3) := by decide +kernel
theorem dX6_tell_41 : decode cX6_tell 41 = .ok (.iconst 1, 1) := by decide +kernel
theorem dX6_tell_42 : decode cX6_tell 42 = .ok (.if_icmp .ne 11, 3) := by decide +kernel
theorem dX6_tell_45 : decode cX6_tell 45 = .ok (.aload_n 0, 1) := by decide +kernel
theorem dX6_tell_46 : decode cX6_tell 46 = .ok (.aload_n 2, 1) := by decide +kernel
theorem dX6_tell_47 : decode cX6_tell 47 = .ok (.invokevirtual 217, 3) := by decide +kernel
theorem dX6_tell_50 : decode cX6_tell 50 = .ok (.goto 8, 3) := by decide +kernel
theorem dX6_tell_53 : decode cX6_tell 53 = .ok (.aload_n 0, 1) := by decide +kernel
theorem dX6_tell_54 : decode cX6_tell 54 = .ok (.aload_n 2, 1) := by decide +kernel
theorem dX6_tell_55 : decode cX6_tell 55 = .ok (.invokevirtual 220, 3) := by decide +kernel
theorem dX6_tell_58 : decode cX6_tell 58 = .ok (.ireturn, 1) := by decide +kernel
set_option maxRecDepth 20000 in
theorem ggX6_rattle_X2_hasTube : GoodIn wsX6_rattle wsX2_hasTube := goodIn_r _ [6, 7, 27, 28, 29, 30, 31, 32, 33, 34, 35, 36] (by decide +kernel) (by decide +kernel)
set_option maxRecDepth 20000 in
theorem gX6_rattle_X2_hasTube : GoodIn wsX6_rattle (wsV RX6 75 RX2 yX2_hasTube wsX2_hasTube) := goodIn_app (goodIn_of _ (by decide +kernel)) ggX6_rattle_X2_hasTube
set_option maxRecDepth 20000 in
theorem ggX6_rattle_X6_oldRattling : GoodIn wsX6_rattle wsX6_oldRattling := goodIn_r _ [12, 13, 14, 15, 11, 16, 17, 22, 23, 24, 25, 26] (by decide +kernel) (by decide +kernel)
set_option maxRecDepth 20000 in
theorem gX6_rattle_X6_oldRattling : GoodIn wsX6_rattle (wsV RX6 223 RX6 yX6_oldRattling wsX6_oldRattling) := goodIn_app (goodIn_of _ (by decide +kernel)) ggX6_rattle_X6_oldRattling
set_option maxRecDepth 20000 in
theorem ggX6_rattle_X6_lentRattling : GoodIn wsX6_rattle wsX6_lentRattling := goodIn_r _ [21, 13, 14, 15, 11, 16, 17, 22, 23, 24, 25, 26] (by decide +kernel) (by decide +kernel)
set_option maxRecDepth 20000 in
theorem gX6_rattle_X6_lentRattling : GoodIn wsX6_rattle (wsV RX6 226 RX6 yX6_lentRattling wsX6_lentRattling) := goodIn_app (goodIn_of _ (by decide +kernel)) ggX6_rattle_X6_lentRattling
theorem dX6_rattle_0 : decode cX6_rattle 0 = .ok (.aload_n 0, 1) := by decide +kernel
theorem dX6_rattle_1 : decode cX6_rattle 1 = .ok (.getfield 20, 3) := by decide +kernel
theorem dX6_rattle_4 : decode cX6_rattle 4 = .ok (.iload_n 1, 1) := by decide +kernel
theorem dX6_rattle_5 : decode cX6_rattle 5 = .ok (.invokevirtual 75, 3) := by decide +kernel
theorem dX6_rattle_8 : decode cX6_rattle 8 = .ok (.ifCond .ne 5, 3) := by decide +kernel
theorem dX6_rattle_11 : decode cX6_rattle 11 = .ok (.iconst (-1), 1) := by decide +kernel
theorem dX6_rattle_12 : decode cX6_rattle 12 = .ok (.ireturn, 1) := by decide +kernel
theorem dX6_rattle_13 : decode cX6_rattle 13 = .ok (.aload_n 0, 1) := by decide +kernel
theorem dX6_rattle_14 : decode cX6_rattle 14 = .ok (.getfield 20, 3) := by decide +kernel
theorem dX6_rattle_17 : decode cX6_rattle 17 = .ok (.getfield 78, 3) := by decide +kernel
theorem dX6_rattle_20 : decode cX6_rattle 20 = .ok (.iload_n 1, 1) := by decide +kernel
theorem dX6_rattle_21 : decode cX6_rattle 21 = .ok (.aaload, 1) := by decide +kernel
theorem dX6_rattle_22 : decode cX6_rattle 22 = .ok (.getfield 165, 3) := by decide +kernel
theorem dX6_rattle_25 : decode cX6_rattle 25 = .ok (.iconst 2, 1) := by decide +kernel
theorem dX6_rattle_26 : decode cX6_rattle 26 = .ok (.if_icmp .ne 10, 3) := by decide +kernel
theorem dX6_rattle_29 : decode cX6_rattle 29 = .ok (.aload_n 0, 1) := by decide +kernel
theorem dX6_rattle_30 : decode cX6_rattle 30 = .ok (.invokevirtual 223, 3) := by decide +kernel
theorem dX6_rattle_33 : decode cX6_rattle 33 = .ok (.goto 8, 3) := by decide +kernel
theorem dX6_rattle_36 : decode cX6_rattle 36 = .ok (.aload_n 0, 1) := by decide +kernel
theorem dX6_rattle_37 : decode cX6_rattle 37 = .ok (.iload_n 1, 1) := by decide +kernel
theorem dX6_rattle_38 : decode cX6_rattle 38 = .ok (.invokevirtual 226, 3) := by decide +kernel
theorem dX6_rattle_41 : decode cX6_rattle 41 = .ok (.ireturn, 1) := by decide +kernel
set_option maxRecDepth 20000 in
theorem ggX6_as_X2_hasTube : GoodIn wsX6_as wsX2_hasTube := goodIn_r _ [7, 8, 19, 20, 21, 22, 23, 24, 25, 26, 27, 28] (by decide +kernel) (by decide +kernel)
set_option maxRecDepth 20000 in
theorem gX6_as_X2_hasTube : GoodIn wsX6_as (wsV RX6 75 RX2 yX2_hasTube wsX2_hasTube) := goodIn_app (goodIn_of _ (by decide +kernel)) ggX6_as_X2_hasTube
set_option maxRecDepth 20000 in
theorem ggX6_as_X6_faulted : GoodIn wsX6_as wsX6_faulted := goodIn_r _ [13, 1, 14, 15, 16, 17, 18] (by decide +kernel) (by decide +kernel)
set_option maxRecDepth 20000 in
theorem gX6_as_X6_faulted : GoodIn wsX6_as (wsV RX6 177 RX6 yX6_faulted wsX6_faulted) := goodIn_app (goodIn_of _ (by decide +kernel)) ggX6_as_X6_faulted
theorem dX6_as_0 : decode cX6_as 0 = .ok (.aload_n 0, 1) := by decide +kernel
theorem dX6_as_1 : decode cX6_as 1 = .ok (.iconst 0, 1) := by decide +kernel
theorem dX6_as_2 : decode cX6_as 2 = .ok (.putfield 35, 3) := by decide +kernel
theorem dX6_as_5 : decode cX6_as 5 = .ok (.aload_n 0, 1) := by decide +kernel
theorem dX6_as_6 : decode cX6_as 6 = .ok (.getfield 20, 3) := by decide +kernel
theorem dX6_as_9 : decode cX6_as 9 = .ok (.iload_n 1, 1) := by decide +kernel
theorem dX6_as_10 : decode cX6_as 10 = .ok (.invokevirtual 75, 3) := by decide +kernel
theorem dX6_as_13 : decode cX6_as 13 = .ok (.ifCond .ne 5, 3) := by decide +kernel
theorem dX6_as_16 : decode cX6_as 16 = .ok (.iconst (-1), 1) := by decide +kernel
theorem dX6_as_17 : decode cX6_as 17 = .ok (.ireturn, 1) := by decide +kernel
theorem dX6_as_18 : decode cX6_as 18 = .ok (.iload_n 2, 1) := by decide +kernel
theorem dX6_as_19 : decode cX6_as 19 = .ok (.ifCond .lt 8, 3) := by decide +kernel
theorem dX6_as_22 : decode cX6_as 22 = .ok (.iload_n 2, 1) := by decide +kernel
theorem dX6_as_23 : decode cX6_as 23 = .ok (.iconst 3, 1) := by decide +kernel
theorem dX6_as_24 : decode cX6_as 24 = .ok (.if_icmp .lt 6, 3) := by decide +kernel
theorem dX6_as_27 : decode cX6_as 27 = .ok (.bipush (-2), 2) := by decide +kernel
theorem dX6_as_29 : decode cX6_as 29 = .ok (.ireturn, 1) := by decide +kernel
theorem dX6_as_30 : decode cX6_as 30 = .ok (.aload_n 0, 1) := by decide +kernel
theorem dX6_as_31 : decode cX6_as 31 = .ok (.getfield 20, 3) := by decide +kernel
theorem dX6_as_34 : decode cX6_as 34 = .ok (.getfield 78, 3) := by decide +kernel
theorem dX6_as_37 : decode cX6_as 37 = .ok (.iload_n 1, 1) := by decide +kernel
theorem dX6_as_38 : decode cX6_as 38 = .ok (.aaload, 1) := by decide +kernel
theorem dX6_as_39 : decode cX6_as 39 = .ok (.getfield 165, 3) := by decide +kernel
theorem dX6_as_42 : decode cX6_as 42 = .ok (.iload_n 2, 1) := by decide +kernel
theorem dX6_as_43 : decode cX6_as 43 = .ok (.if_icmp .lt 7, 3) := by decide +kernel
theorem dX6_as_46 : decode cX6_as 46 = .ok (.iconst 1, 1) := by decide +kernel
theorem dX6_as_47 : decode cX6_as 47 = .ok (.goto 8, 3) := by decide +kernel
theorem dX6_as_50 : decode cX6_as 50 = .ok (.aload_n 0, 1) := by decide +kernel
theorem dX6_as_51 : decode cX6_as 51 = .ok (.iconst 2, 1) := by decide +kernel
theorem dX6_as_52 : decode cX6_as 52 = .ok (.invokevirtual 177, 3) := by decide +kernel
theorem dX6_as_55 : decode cX6_as 55 = .ok (.ireturn, 1) := by decide +kernel
theorem dX6_trace_0 : decode cX6_trace 0 = .ok (.aload_n 0, 1) := by decide +kernel
theorem dX6_trace_1 : decode cX6_trace 1 = .ok (.getfield 31, 3) := by decide +kernel
theorem dX6_trace_4 : decode cX6_trace 4 = .ok (.ireturn, 1) := by decide +kernel
theorem dX6_fault_0 : decode cX6_fault 0 = .ok (.aload_n 0, 1) := by decide +kernel
theorem dX6_fault_1 : decode cX6_fault 1 = .ok (.getfield 35, 3) := by decide +kernel
theorem dX6_fault_4 : decode cX6_fault 4 = .ok (.ireturn, 1) := by decide +kernel
set_option maxRecDepth 20000 in
theorem ggX6_many_X2_buttons : GoodIn wsX6_many wsX2_buttons := goodIn_r _ [7, 8, 9, 15, 16, 17, 18, 19, 20, 21, 22, 23, 24, 28, 29, 30, 31, 32, 33] (by decide +kernel) (by decide +kernel)
set_option maxRecDepth 20000 in
theorem gX6_many_X2_buttons : GoodIn wsX6_many (wsV RX6 136 RX2 yX2_buttons wsX2_buttons) := goodIn_app (goodIn_of _ (by decide +kernel)) ggX6_many_X2_buttons
theorem dX6_many_0 : decode cX6_many 0 = .ok (.iload_n 1, 1) := by decide +kernel
theorem dX6_many_1 : decode cX6_many 1 = .ok (.tableswitch 63 0 3 #[31, 39, 47, 55], 31) := by decide +kernel
theorem dX6_many_32 : decode cX6_many 32 = .ok (.aload_n 0, 1) := by decide +kernel
theorem dX6_many_33 : decode cX6_many 33 = .ok (.getfield 20, 3) := by decide +kernel
theorem dX6_many_36 : decode cX6_many 36 = .ok (.getfield 56, 3) := by decide +kernel
theorem dX6_many_39 : decode cX6_many 39 = .ok (.ireturn, 1) := by decide +kernel
theorem dX6_many_40 : decode cX6_many 40 = .ok (.aload_n 0, 1) := by decide +kernel
theorem dX6_many_41 : decode cX6_many 41 = .ok (.getfield 20, 3) := by decide +kernel
theorem dX6_many_44 : decode cX6_many 44 = .ok (.invokevirtual 136, 3) := by decide +kernel
theorem dX6_many_47 : decode cX6_many 47 = .ok (.ireturn, 1) := by decide +kernel
theorem dX6_many_48 : decode cX6_many 48 = .ok (.aload_n 0, 1) := by decide +kernel
theorem dX6_many_49 : decode cX6_many 49 = .ok (.getfield 27, 3) := by decide +kernel
theorem dX6_many_52 : decode cX6_many 52 = .ok (.getfield 53, 3) := by decide +kernel
theorem dX6_many_55 : decode cX6_many 55 = .ok (.ireturn, 1) := by decide +kernel
theorem dX6_many_56 : decode cX6_many 56 = .ok (.aload_n 0, 1) := by decide +kernel
theorem dX6_many_57 : decode cX6_many 57 = .ok (.getfield 20, 3) := by decide +kernel
theorem dX6_many_60 : decode cX6_many 60 = .ok (.getfield 97, 3) := by decide +kernel
theorem dX6_many_63 : decode cX6_many 63 = .ok (.ireturn, 1) := by decide +kernel
theorem dX6_many_64 : decode cX6_many 64 = .ok (.bipush (-2), 2) := by decide +kernel
theorem dX6_many_66 : decode cX6_many 66 = .ok (.ireturn, 1) := by decide +kernel
theorem dX6_isSheet_0 : decode cX6_isSheet 0 = .ok (.iload_n 0, 1) := by decide +kernel
theorem dX6_isSheet_1 : decode cX6_isSheet 1 = .ok (.ifCond .lt 12, 3) := by decide +kernel
theorem dX6_isSheet_4 : decode cX6_isSheet 4 = .ok (.iload_n 0, 1) := by decide +kernel
theorem dX6_isSheet_5 : decode cX6_isSheet 5 = .ok (.iconst 4, 1) := by decide +kernel
theorem dX6_isSheet_6 : decode cX6_isSheet 6 = .ok (.if_icmp .ge 7, 3) := by decide +kernel
theorem dX6_isSheet_9 : decode cX6_isSheet 9 = .ok (.iconst 1, 1) := by decide +kernel
theorem dX6_isSheet_10 : decode cX6_isSheet 10 = .ok (.goto 4, 3) := by decide +kernel
theorem dX6_isSheet_13 : decode cX6_isSheet 13 = .ok (.iconst 0, 1) := by decide +kernel
theorem dX6_isSheet_14 : decode cX6_isSheet 14 = .ok (.ireturn, 1) := by decide +kernel
theorem dX6_isLane_0 : decode cX6_isLane 0 = .ok (.iload_n 0, 1) := by decide +kernel
theorem dX6_isLane_1 : decode cX6_isLane 1 = .ok (.ifCond .lt 12, 3) := by decide +kernel
theorem dX6_isLane_4 : decode cX6_isLane 4 = .ok (.iload_n 0, 1) := by decide +kernel
theorem dX6_isLane_5 : decode cX6_isLane 5 = .ok (.iconst 3, 1) := by decide +kernel
theorem dX6_isLane_6 : decode cX6_isLane 6 = .ok (.if_icmp .ge 7, 3) := by decide +kernel
theorem dX6_isLane_9 : decode cX6_isLane 9 = .ok (.iconst 1, 1) := by decide +kernel
theorem dX6_isLane_10 : decode cX6_isLane 10 = .ok (.goto 4, 3) := by decide +kernel
theorem dX6_isLane_13 : decode cX6_isLane 13 = .ok (.iconst 0, 1) := by decide +kernel
theorem dX6_isLane_14 : decode cX6_isLane 14 = .ok (.ireturn, 1) := by decide +kernel
theorem dX6_isPlace_0 : decode cX6_isPlace 0 = .ok (.iload_n 0, 1) := by decide +kernel
theorem dX6_isPlace_1 : decode cX6_isPlace 1 = .ok (.ifCond .lt 13, 3) := by decide +kernel
theorem dX6_isPlace_4 : decode cX6_isPlace 4 = .ok (.iload_n 0, 1) := by decide +kernel
theorem dX6_isPlace_5 : decode cX6_isPlace 5 = .ok (.bipush 6, 2) := by decide +kernel
theorem dX6_isPlace_7 : decode cX6_isPlace 7 = .ok (.if_icmp .ge 7, 3) := by decide +kernel
theorem dX6_isPlace_10 : decode cX6_isPlace 10 = .ok (.iconst 1, 1) := by decide +kernel
theorem dX6_isPlace_11 : decode cX6_isPlace 11 = .ok (.goto 4, 3) := by decide +kernel
theorem dX6_isPlace_14 : decode cX6_isPlace 14 = .ok (.iconst 0, 1) := by decide +kernel
theorem dX6_isPlace_15 : decode cX6_isPlace 15 = .ok (.ireturn, 1) := by decide +kernel
theorem dX6_memory_0 : decode cX6_memory 0 = .ok (.bipush 10, 2) := by decide +kernel
theorem dX6_memory_2 : decode cX6_memory 2 = .ok (.iload_n 0, 1) := by decide +kernel
theorem dX6_memory_3 : decode cX6_memory 3 = .ok (.imul, 1) := by decide +kernel
theorem dX6_memory_4 : decode cX6_memory 4 = .ok (.iload_n 1, 1) := by decide +kernel
theorem dX6_memory_5 : decode cX6_memory 5 = .ok (.iadd, 1) := by decide +kernel
theorem dX6_memory_6 : decode cX6_memory 6 = .ok (.ireturn, 1) := by decide +kernel
set_option maxRecDepth 20000 in
theorem ggX6_areSigns_X1_read : GoodIn wsX6_areSigns wsX1_read := goodIn_r _ [5, 6, 7, 8, 9, 4, 10, 11, 12, 13, 14] (by decide +kernel) (by decide +kernel)
set_option maxRecDepth 20000 in
theorem gX6_areSigns_X1_read : GoodIn wsX6_areSigns (wsV RX6 201 RX1 yX1_read wsX1_read) := goodIn_app (goodIn_of _ (by decide +kernel)) ggX6_areSigns_X1_read
theorem dX6_areSigns_0 : decode cX6_areSigns 0 = .ok (.iconst 0, 1) := by decide +kernel
theorem dX6_areSigns_1 : decode cX6_areSigns 1 = .ok (.istore_n 3, 1) := by decide +kernel
theorem dX6_areSigns_2 : decode cX6_areSigns 2 = .ok (.iconst 0, 1) := by decide +kernel
theorem dX6_areSigns_3 : decode cX6_areSigns 3 = .ok (.istore 4, 2) := by decide +kernel
theorem dX6_areSigns_5 : decode cX6_areSigns 5 = .ok (.iload 4, 2) := by decide +kernel
theorem dX6_areSigns_7 : decode cX6_areSigns 7 = .ok (.iload_n 2, 1) := by decide +kernel
theorem dX6_areSigns_8 : decode cX6_areSigns 8 = .ok (.if_icmp .ge 48, 3) := by decide +kernel
theorem dX6_areSigns_11 : decode cX6_areSigns 11 = .ok (.aload_n 0, 1) := by decide +kernel
theorem dX6_areSigns_12 : decode cX6_areSigns 12 = .ok (.iload_n 1, 1) := by decide +kernel
theorem dX6_areSigns_13 : decode cX6_areSigns 13 = .ok (.iload 4, 2) := by decide +kernel
theorem dX6_areSigns_15 : decode cX6_areSigns 15 = .ok (.iadd, 1) := by decide +kernel
theorem dX6_areSigns_16 : decode cX6_areSigns 16 = .ok (.invokevirtual 201, 3) := by decide +kernel
theorem dX6_areSigns_19 : decode cX6_areSigns 19 = .ok (.istore 5, 2) := by decide +kernel
theorem dX6_areSigns_21 : decode cX6_areSigns 21 = .ok (.iload 5, 2) := by decide +kernel
theorem dX6_areSigns_23 : decode cX6_areSigns 23 = .ok (.ifCond .lt 18, 3) := by decide +kernel
theorem dX6_areSigns_26 : decode cX6_areSigns 26 = .ok (.iload 5, 2) := by decide +kernel
theorem dX6_areSigns_28 : decode cX6_areSigns 28 = .ok (.iconst 3, 1) := by decide +kernel
theorem dX6_areSigns_29 : decode cX6_areSigns 29 = .ok (.if_icmp .ge 12, 3) := by decide +kernel
theorem dX6_areSigns_32 : decode cX6_areSigns 32 = .ok (.iload_n 3, 1) := by decide +kernel
theorem dX6_areSigns_33 : decode cX6_areSigns 33 = .ok (.iload 5, 2) := by decide +kernel
theorem dX6_areSigns_35 : decode cX6_areSigns 35 = .ok (.ishr, 1) := by decide +kernel
theorem dX6_areSigns_36 : decode cX6_areSigns 36 = .ok (.iconst 1, 1) := by decide +kernel
theorem dX6_areSigns_37 : decode cX6_areSigns 37 = .ok (.iand, 1) := by decide +kernel
theorem dX6_areSigns_38 : decode cX6_areSigns 38 = .ok (.ifCond .eq 5, 3) := by decide +kernel
theorem dX6_areSigns_41 : decode cX6_areSigns 41 = .ok (.iconst 0, 1) := by decide +kernel
theorem dX6_areSigns_42 : decode cX6_areSigns 42 = .ok (.ireturn, 1) := by decide +kernel
theorem dX6_areSigns_43 : decode cX6_areSigns 43 = .ok (.iload_n 3, 1) := by decide +kernel
theorem dX6_areSigns_44 : decode cX6_areSigns 44 = .ok (.iconst 1, 1) := by decide +kernel
theorem dX6_areSigns_45 : decode cX6_areSigns 45 = .ok (.iload 5, 2) := by decide +kernel
theorem dX6_areSigns_47 : decode cX6_areSigns 47 = .ok (.ishl, 1) := by decide +kernel
theorem dX6_areSigns_48 : decode cX6_areSigns 48 = .ok (.ior, 1) := by decide +kernel
theorem dX6_areSigns_49 : decode cX6_areSigns 49 = .ok (.istore_n 3, 1) := by decide +kernel
theorem dX6_areSigns_50 : decode cX6_areSigns 50 = .ok (.iinc 4 1, 3) := by decide +kernel
theorem dX6_areSigns_53 : decode cX6_areSigns 53 = .ok (.goto (-48), 3) := by decide +kernel
theorem dX6_areSigns_56 : decode cX6_areSigns 56 = .ok (.iconst 1, 1) := by decide +kernel
theorem dX6_areSigns_57 : decode cX6_areSigns 57 = .ok (.ireturn, 1) := by decide +kernel
theorem dX6_faulted_0 : decode cX6_faulted 0 = .ok (.aload_n 0, 1) := by decide +kernel
theorem dX6_faulted_1 : decode cX6_faulted 1 = .ok (.iload_n 1, 1) := by decide +kernel
theorem dX6_faulted_2 : decode cX6_faulted 2 = .ok (.putfield 35, 3) := by decide +kernel
theorem dX6_faulted_5 : decode cX6_faulted 5 = .ok (.bipush (-10), 2) := by decide +kernel
theorem dX6_faulted_7 : decode cX6_faulted 7 = .ok (.iload_n 1, 1) := by decide +kernel
theorem dX6_faulted_8 : decode cX6_faulted 8 = .ok (.isub, 1) := by decide +kernel
theorem dX6_faulted_9 : decode cX6_faulted 9 = .ok (.ireturn, 1) := by decide +kernel
set_option maxRecDepth 20000 in
theorem ggX6_refusalOfRow_X6_isSheet : GoodIn wsX6_refusalOfRow wsX6_isSheet := goodIn_r _ [6] (by decide +kernel) (by decide +kernel)
set_option maxRecDepth 20000 in
theorem gX6_refusalOfRow_X6_isSheet : GoodIn wsX6_refusalOfRow (va_wsS RX6 171 yX6_isSheet wsX6_isSheet) := goodIn_app (goodIn_of _ (by decide +kernel)) ggX6_refusalOfRow_X6_isSheet
set_option maxRecDepth 20000 in
theorem ggX6_refusalOfRow_X6_isLane : GoodIn wsX6_refusalOfRow wsX6_isLane := goodIn_r _ [9] (by decide +kernel) (by decide +kernel)
set_option maxRecDepth 20000 in
theorem gX6_refusalOfRow_X6_isLane : GoodIn wsX6_refusalOfRow (va_wsS RX6 174 yX6_isLane wsX6_isLane) := goodIn_app (goodIn_of _ (by decide +kernel)) ggX6_refusalOfRow_X6_isLane
set_option maxRecDepth 20000 in
theorem ggX6_refusalOfRow_X1_faultOfTaking : GoodIn wsX6_refusalOfRow wsX1_faultOfTaking := goodIn_r _ [14, 15, 16, 17, 18, 13, 19, 20, 21, 22, 23, 24, 34, 35, 36] (by decide +kernel) (by decide +kernel)
set_option maxRecDepth 20000 in
theorem gX6_refusalOfRow_X1_faultOfTaking : GoodIn wsX6_refusalOfRow (wsV RX6 197 RX1 yX1_faultOfTaking wsX1_faultOfTaking) := goodIn_app (goodIn_of _ (by decide +kernel)) ggX6_refusalOfRow_X1_faultOfTaking
set_option maxRecDepth 20000 in
theorem ggX6_refusalOfRow_X6_faulted : GoodIn wsX6_refusalOfRow wsX6_faulted := goodIn_r _ [28, 1, 29, 30, 31, 32, 33] (by decide +kernel) (by decide +kernel)
set_option maxRecDepth 20000 in
theorem gX6_refusalOfRow_X6_faulted : GoodIn wsX6_refusalOfRow (wsV RX6 177 RX6 yX6_faulted wsX6_faulted) := goodIn_app (goodIn_of _ (by decide +kernel)) ggX6_refusalOfRow_X6_faulted
theorem dX6_refusalOfRow_0 : decode cX6_refusalOfRow 0 = .ok (.aload_n 0, 1) := by decide +kernel
theorem dX6_refusalOfRow_1 : decode cX6_refusalOfRow 1 = .ok (.iconst 0, 1) := by decide +kernel
theorem dX6_refusalOfRow_2 : decode cX6_refusalOfRow 2 = .ok (.putfield 35, 3) := by decide +kernel
theorem dX6_refusalOfRow_5 : decode cX6_refusalOfRow 5 = .ok (.iload_n 1, 1) := by decide +kernel
theorem dX6_refusalOfRow_6 : decode cX6_refusalOfRow 6 = .ok (.invokestatic 171, 3) := by decide +kernel
theorem dX6_refusalOfRow_9 : decode cX6_refusalOfRow 9 = .ok (.ifCond .ne 5, 3) := by decide +kernel
theorem dX6_refusalOfRow_12 : decode cX6_refusalOfRow 12 = .ok (.iconst (-1), 1) := by decide +kernel
theorem dX6_refusalOfRow_13 : decode cX6_refusalOfRow 13 = .ok (.ireturn, 1) := by decide +kernel
theorem dX6_refusalOfRow_14 : decode cX6_refusalOfRow 14 = .ok (.iload_n 2, 1) := by decide +kernel
theorem dX6_refusalOfRow_15 : decode cX6_refusalOfRow 15 = .ok (.invokestatic 174, 3) := by decide +kernel
theorem dX6_refusalOfRow_18 : decode cX6_refusalOfRow 18 = .ok (.ifCond .eq 8, 3) := by decide +kernel
theorem dX6_refusalOfRow_21 : decode cX6_refusalOfRow 21 = .ok (.iload 5, 2) := by decide +kernel
theorem dX6_refusalOfRow_23 : decode cX6_refusalOfRow 23 = .ok (.ifCond .ne 6, 3) := by decide +kernel
theorem dX6_refusalOfRow_26 : decode cX6_refusalOfRow 26 = .ok (.bipush (-2), 2) := by decide +kernel
theorem dX6_refusalOfRow_28 : decode cX6_refusalOfRow 28 = .ok (.ireturn, 1) := by decide +kernel
theorem dX6_refusalOfRow_29 : decode cX6_refusalOfRow 29 = .ok (.aload_n 0, 1) := by decide +kernel
theorem dX6_refusalOfRow_30 : decode cX6_refusalOfRow 30 = .ok (.getfield 13, 3) := by decide +kernel
theorem dX6_refusalOfRow_33 : decode cX6_refusalOfRow 33 = .ok (.iload_n 1, 1) := by decide +kernel
theorem dX6_refusalOfRow_34 : decode cX6_refusalOfRow 34 = .ok (.aaload, 1) := by decide +kernel
theorem dX6_refusalOfRow_35 : decode cX6_refusalOfRow 35 = .ok (.iload_n 2, 1) := by decide +kernel
theorem dX6_refusalOfRow_36 : decode cX6_refusalOfRow 36 = .ok (.iload_n 3, 1) := by decide +kernel
theorem dX6_refusalOfRow_37 : decode cX6_refusalOfRow 37 = .ok (.iload 4, 2) := by decide +kernel
theorem dX6_refusalOfRow_39 : decode cX6_refusalOfRow 39 = .ok (.invokevirtual 197, 3) := by decide +kernel
theorem dX6_refusalOfRow_42 : decode cX6_refusalOfRow 42 = .ok (.istore 6, 2) := by decide +kernel
theorem dX6_refusalOfRow_44 : decode cX6_refusalOfRow 44 = .ok (.iload 6, 2) := by decide +kernel
theorem dX6_refusalOfRow_46 : decode cX6_refusalOfRow 46 = .ok (.ifCond .ne 7, 3) := by decide +kernel
theorem dX6_refusalOfRow_49 : decode cX6_refusalOfRow 49 = .ok (.iconst 0, 1) := by decide +kernel
theorem dX6_refusalOfRow_50 : decode cX6_refusalOfRow 50 = .ok (.goto 9, 3) := by decide +kernel
theorem dX6_refusalOfRow_53 : decode cX6_refusalOfRow 53 = .ok (.aload_n 0, 1) := by decide +kernel
theorem dX6_refusalOfRow_54 : decode cX6_refusalOfRow 54 = .ok (.iload 6, 2) := by decide +kernel
theorem dX6_refusalOfRow_56 : decode cX6_refusalOfRow 56 = .ok (.invokevirtual 177, 3) := by decide +kernel
theorem dX6_refusalOfRow_59 : decode cX6_refusalOfRow 59 = .ok (.ireturn, 1) := by decide +kernel
theorem dX6_mark_0 : decode cX6_mark 0 = .ok (.aload_n 0, 1) := by decide +kernel
theorem dX6_mark_1 : decode cX6_mark 1 = .ok (.bipush 31, 2) := by decide +kernel
theorem dX6_mark_3 : decode cX6_mark 3 = .ok (.aload_n 0, 1) := by decide +kernel
theorem dX6_mark_4 : decode cX6_mark 4 = .ok (.getfield 31, 3) := by decide +kernel
theorem dX6_mark_7 : decode cX6_mark 7 = .ok (.imul, 1) := by decide +kernel
theorem dX6_mark_8 : decode cX6_mark 8 = .ok (.iload_n 1, 1) := by decide +kernel
theorem dX6_mark_9 : decode cX6_mark 9 = .ok (.iadd, 1) := by decide +kernel
theorem dX6_mark_10 : decode cX6_mark 10 = .ok (.putfield 31, 3) := by decide +kernel
theorem dX6_mark_13 : decode cX6_mark 13 = .ok (.return_, 1) := by decide +kernel
set_option maxRecDepth 20000 in
theorem ggX6_tubeTelling_X6_mark : GoodIn wsX6_tubeTelling wsX6_mark := goodIn_r _ [5, 6, 13, 14, 15, 16, 17] (by decide +kernel) (by decide +kernel)
set_option maxRecDepth 20000 in
theorem gX6_tubeTelling_X6_mark : GoodIn wsX6_tubeTelling (wsV RX6 229 RX6 yX6_mark wsX6_mark) := goodIn_app (goodIn_of _ (by decide +kernel)) ggX6_tubeTelling_X6_mark
theorem dX6_tubeTelling_0 : decode cX6_tubeTelling 0 = .ok (.aload_n 0, 1) := by decide +kernel
theorem dX6_tubeTelling_1 : decode cX6_tubeTelling 1 = .ok (.iconst 1, 1) := by decide +kernel
theorem dX6_tubeTelling_2 : decode cX6_tubeTelling 2 = .ok (.invokevirtual 229, 3) := by decide +kernel
theorem dX6_tubeTelling_5 : decode cX6_tubeTelling 5 = .ok (.aload_n 1, 1) := by decide +kernel
theorem dX6_tubeTelling_6 : decode cX6_tubeTelling 6 = .ok (.getfield 233, 3) := by decide +kernel
theorem dX6_tubeTelling_9 : decode cX6_tubeTelling 9 = .ok (.ireturn, 1) := by decide +kernel
set_option maxRecDepth 20000 in
theorem ggX6_shadedTelling_X6_mark : GoodIn wsX6_shadedTelling wsX6_mark := goodIn_r _ [5, 6, 11, 12, 13, 14, 15] (by decide +kernel) (by decide +kernel)
set_option maxRecDepth 20000 in
theorem gX6_shadedTelling_X6_mark : GoodIn wsX6_shadedTelling (wsV RX6 229 RX6 yX6_mark wsX6_mark) := goodIn_app (goodIn_of _ (by decide +kernel)) ggX6_shadedTelling_X6_mark
set_option maxRecDepth 20000 in
theorem ggX6_shadedTelling_X6_tubeTelling : GoodIn wsX6_shadedTelling wsX6_tubeTelling := goodIn_r _ [10, 1, 2, 3, 4, 5, 6, 16, 17, 18, 19, 20, 21, 11, 12, 13, 14, 15] (by decide +kernel) (by decide +kernel)
set_option maxRecDepth 20000 in
theorem gX6_shadedTelling_X6_tubeTelling : GoodIn wsX6_shadedTelling (wsV RX6 220 RX6 yX6_tubeTelling wsX6_tubeTelling) := goodIn_app (goodIn_of _ (by decide +kernel)) ggX6_shadedTelling_X6_tubeTelling
theorem dX6_shadedTelling_0 : decode cX6_shadedTelling 0 = .ok (.aload_n 0, 1) := by decide +kernel
theorem dX6_shadedTelling_1 : decode cX6_shadedTelling 1 = .ok (.iconst 2, 1) := by decide +kernel
theorem dX6_shadedTelling_2 : decode cX6_shadedTelling 2 = .ok (.invokevirtual 229, 3) := by decide +kernel
theorem dX6_shadedTelling_5 : decode cX6_shadedTelling 5 = .ok (.aload_n 0, 1) := by decide +kernel
theorem dX6_shadedTelling_6 : decode cX6_shadedTelling 6 = .ok (.aload_n 1, 1) := by decide +kernel
theorem dX6_shadedTelling_7 : decode cX6_shadedTelling 7 = .ok (.invokevirtual 220, 3) := by decide +kernel
theorem dX6_shadedTelling_10 : decode cX6_shadedTelling 10 = .ok (.bipush 100, 2) := by decide +kernel
theorem dX6_shadedTelling_12 : decode cX6_shadedTelling 12 = .ok (.iadd, 1) := by decide +kernel
theorem dX6_shadedTelling_13 : decode cX6_shadedTelling 13 = .ok (.ireturn, 1) := by decide +kernel
set_option maxRecDepth 20000 in
theorem ggX6_oldTelling_X6_mark : GoodIn wsX6_oldTelling wsX6_mark := goodIn_r _ [5, 6, 15, 16, 17, 18, 19] (by decide +kernel) (by decide +kernel)
set_option maxRecDepth 20000 in
theorem gX6_oldTelling_X6_mark : GoodIn wsX6_oldTelling (wsV RX6 229 RX6 yX6_mark wsX6_mark) := goodIn_app (goodIn_of _ (by decide +kernel)) ggX6_oldTelling_X6_mark
set_option maxRecDepth 20000 in
theorem ggX6_oldTelling_X6_shadedTelling : GoodIn wsX6_oldTelling wsX6_shadedTelling := goodIn_r _ [10, 1, 2, 3, 4, 5, 6, 11, 12, 13, 14, 15, 16, 17, 18, 19, 20, 21, 22, 23, 24, 25] (by decide +kernel) (by decide +kernel)
set_option maxRecDepth 20000 in
theorem gX6_oldTelling_X6_shadedTelling : GoodIn wsX6_oldTelling (wsV RX6 217 RX6 yX6_shadedTelling wsX6_shadedTelling) := goodIn_app (goodIn_of _ (by decide +kernel)) ggX6_oldTelling_X6_shadedTelling
set_option maxRecDepth 20000 in
theorem ggX6_oldTelling_X6_tubeTelling : GoodIn wsX6_oldTelling wsX6_tubeTelling := goodIn_r _ [14, 1, 2, 3, 4, 5, 6, 20, 21, 22, 23, 24, 25, 15, 16, 17, 18, 19] (by decide +kernel) (by decide +kernel)
set_option maxRecDepth 20000 in
theorem gX6_oldTelling_X6_tubeTelling : GoodIn wsX6_oldTelling (wsV RX6 220 RX6 yX6_tubeTelling wsX6_tubeTelling) := goodIn_app (goodIn_of _ (by decide +kernel)) ggX6_oldTelling_X6_tubeTelling
theorem dX6_oldTelling_0 : decode cX6_oldTelling 0 = .ok (.aload_n 0, 1) := by decide +kernel
theorem dX6_oldTelling_1 : decode cX6_oldTelling 1 = .ok (.iconst 3, 1) := by decide +kernel
theorem dX6_oldTelling_2 : decode cX6_oldTelling 2 = .ok (.invokevirtual 229, 3) := by decide +kernel
theorem dX6_oldTelling_5 : decode cX6_oldTelling 5 = .ok (.aload_n 0, 1) := by decide +kernel
theorem dX6_oldTelling_6 : decode cX6_oldTelling 6 = .ok (.aload_n 1, 1) := by decide +kernel
theorem dX6_oldTelling_7 : decode cX6_oldTelling 7 = .ok (.invokevirtual 217, 3) := by decide +kernel
theorem dX6_oldTelling_10 : decode cX6_oldTelling 10 = .ok (.istore_n 2, 1) := by decide +kernel
theorem dX6_oldTelling_11 : decode cX6_oldTelling 11 = .ok (.iload_n 2, 1) := by decide +kernel
theorem dX6_oldTelling_12 : decode cX6_oldTelling 12 = .ok (.aload_n 0, 1) := by decide +kernel
theorem dX6_oldTelling_13 : decode cX6_oldTelling 13 = .ok (.aload_n 1, 1) := by decide +kernel
theorem dX6_oldTelling_14 : decode cX6_oldTelling 14 = .ok (.invokevirtual 220, 3) := by decide +kernel
theorem dX6_oldTelling_17 : decode cX6_oldTelling 17 = .ok (.iadd, 1) := by decide +kernel
theorem dX6_oldTelling_18 : decode cX6_oldTelling 18 = .ok (.ireturn, 1) := by decide +kernel
set_option maxRecDepth 20000 in
theorem ggX6_lentRattling_X6_mark : GoodIn wsX6_lentRattling wsX6_mark := goodIn_r _ [5, 6, 7, 8, 9, 10, 11] (by decide +kernel) (by decide +kernel)
set_option maxRecDepth 20000 in
theorem gX6_lentRattling_X6_mark : GoodIn wsX6_lentRattling (wsV RX6 229 RX6 yX6_mark wsX6_mark) := goodIn_app (goodIn_of _ (by decide +kernel)) ggX6_lentRattling_X6_mark
theorem dX6_lentRattling_0 : decode cX6_lentRattling 0 = .ok (.aload_n 0, 1) := by decide +kernel
theorem dX6_lentRattling_1 : decode cX6_lentRattling 1 = .ok (.iconst 4, 1) := by decide +kernel
theorem dX6_lentRattling_2 : decode cX6_lentRattling 2 = .ok (.invokevirtual 229, 3) := by decide +kernel
theorem dX6_lentRattling_5 : decode cX6_lentRattling 5 = .ok (.iload_n 1, 1) := by decide +kernel
theorem dX6_lentRattling_6 : decode cX6_lentRattling 6 = .ok (.ireturn, 1) := by decide +kernel
set_option maxRecDepth 20000 in
theorem ggX6_oldRattling_X6_mark : GoodIn wsX6_oldRattling wsX6_mark := goodIn_r _ [5, 6, 7, 8, 9, 10, 11] (by decide +kernel) (by decide +kernel)
set_option maxRecDepth 20000 in
theorem gX6_oldRattling_X6_mark : GoodIn wsX6_oldRattling (wsV RX6 229 RX6 yX6_mark wsX6_mark) := goodIn_app (goodIn_of _ (by decide +kernel)) ggX6_oldRattling_X6_mark
theorem dX6_oldRattling_0 : decode cX6_oldRattling 0 = .ok (.aload_n 0, 1) := by decide +kernel
theorem dX6_oldRattling_1 : decode cX6_oldRattling 1 = .ok (.iconst 5, 1) := by decide +kernel
theorem dX6_oldRattling_2 : decode cX6_oldRattling 2 = .ok (.invokevirtual 229, 3) := by decide +kernel
theorem dX6_oldRattling_5 : decode cX6_oldRattling 5 = .ok (.bipush 50, 2) := by decide +kernel
theorem dX6_oldRattling_7 : decode cX6_oldRattling 7 = .ok (.ireturn, 1) := by decide +kernel
theorem dX7_init_0 : decode cX7_init 0 = .ok (.aload_n 0, 1) := by decide +kernel
theorem dX7_init_1 : decode cX7_init 1 = .ok (.invokespecial 1, 3) := by decide +kernel
theorem dX7_init_4 : decode cX7_init 4 = .ok (.aload_n 0, 1) := by decide +kernel
theorem dX7_init_5 : decode cX7_init 5 = .ok (.iconst 4, 1) := by decide +kernel
theorem dX7_init_6 : decode cX7_init 6 = .ok (.newarray .int, 2) := by decide +kernel
theorem dX7_init_8 : decode cX7_init 8 = .ok (.dup, 1) := by decide +kernel
theorem dX7_init_9 : decode cX7_init 9 = .ok (.iconst 0, 1) := by decide +kernel
theorem dX7_init_10 : decode cX7_init 10 = .ok (.bipush (-9), 2) := by decide +kernel
theorem dX7_init_12 : decode cX7_init 12 = .ok (.iastore, 1) := by decide +kernel
theorem dX7_init_13 : decode cX7_init 13 = .ok (.dup, 1) := by decide +kernel
theorem dX7_init_14 : decode cX7_init 14 = .ok (.iconst 1, 1) := by decide +kernel
theorem dX7_init_15 : decode cX7_init 15 = .ok (.bipush (-9), 2) := by decide +kernel
theorem dX7_init_17 : decode cX7_init 17 = .ok (.iastore, 1) := by decide +kernel
theorem dX7_init_18 : decode cX7_init 18 = .ok (.dup, 1) := by decide +kernel
theorem dX7_init_19 : decode cX7_init 19 = .ok (.iconst 2, 1) := by decide +kernel
theorem dX7_init_20 : decode cX7_init 20 = .ok (.bipush (-9), 2) := by decide +kernel
theorem dX7_init_22 : decode cX7_init 22 = .ok (.iastore, 1) := by decide +kernel
theorem dX7_init_23 : decode cX7_init 23 = .ok (.dup, 1) := by decide +kernel
theorem dX7_init_24 : decode cX7_init 24 = .ok (.iconst 3, 1) := by decide +kernel
theorem dX7_init_25 : decode cX7_init 25 = .ok (.bipush (-9), 2) := by decide +kernel
theorem dX7_init_27 : decode cX7_init 27 = .ok (.iastore, 1) := by decide +kernel
theorem dX7_init_28 : decode cX7_init 28 = .ok (.putfield 9, 3) := by decide +kernel
theorem dX7_init_31 : decode cX7_init 31 = .ok (.aload_n 0, 1) := by decide +kernel
theorem dX7_init_32 : decode cX7_init 32 = .ok (.iconst 4, 1) := by decide +kernel
theorem dX7_init_33 : decode cX7_init 33 = .ok (.newarray .int, 2) := by decide +kernel
theorem dX7_init_35 : decode cX7_init 35 = .ok (.putfield 13, 3) := by decide +kernel
theorem dX7_init_38 : decode cX7_init 38 = .ok (.aload_n 0, 1) := by decide +kernel
theorem dX7_init_39 : decode cX7_init 39 = .ok (.sipush 240, 3) := by decide +kernel
theorem dX7_init_42 : decode cX7_init 42 = .ok (.newarray .int, 2) := by decide +kernel
theorem dX7_init_44 : decode cX7_init 44 = .ok (.putfield 16, 3) := by decide +kernel
theorem dX7_init_47 : decode cX7_init 47 = .ok (.aload_n 0, 1) := by decide +kernel
theorem dX7_init_48 : decode cX7_init 48 = .ok (.bipush 6, 2) := by decide +kernel
theorem dX7_init_50 : decode cX7_init 50 = .ok (.newarray .int, 2) := by decide +kernel
theorem dX7_init_52 : decode cX7_init 52 = .ok (.putfield 19, 3) := by decide +kernel
theorem dX7_init_55 : decode cX7_init 55 = .ok (.aload_n 0, 1) := by decide +kernel
theorem dX7_init_56 : decode cX7_init 56 = .ok (.bipush 6, 2) := by decide +kernel
theorem dX7_init_58 : decode cX7_init 58 = .ok (.newarray .int, 2) := by decide +kernel
theorem dX7_init_60 : decode cX7_init 60 = .ok (.putfield 22, 3) := by decide +kernel
theorem dX7_init_63 : decode cX7_init 63 = .ok (.aload_n 0, 1) := by decide +kernel
theorem dX7_init_64 : decode cX7_init 64 = .ok (.bipush 6, 2) := by decide +kernel
theorem dX7_init_66 : decode cX7_init 66 = .ok (.newarray .int, 2) := by decide +kernel
theorem dX7_init_68 : decode cX7_init 68 = .ok (.putfield 25, 3) := by decide +kernel
theorem dX7_init_71 : decode cX7_init 71 = .ok (.aload_n 0, 1) := by decide +kernel
theorem dX7_init_72 : decode cX7_init 72 = .ok (.bipush 6, 2) := by decide +kernel
theorem dX7_init_74 : decode cX7_init 74 = .ok (.newarray .int, 2) := by decide +kernel
theorem dX7_init_76 : decode cX7_init 76 = .ok (.putfield 28, 3) := by decide +kernel
theorem dX7_init_79 : decode cX7_init 79 = .ok (.aload_n 0, 1) := by decide +kernel
theorem dX7_init_80 : decode cX7_init 80 = .ok (.bipush 6, 2) := by decide +kernel
theorem dX7_init_82 : decode cX7_init 82 = .ok (.newarray .int, 2) := by decide +kernel
theorem dX7_init_84 : decode cX7_init 84 = .ok (.putfield 31, 3) := by decide +kernel
theorem dX7_init_87 : decode cX7_init 87 = .ok (.aload_n 0, 1) := by decide +kernel
theorem dX7_init_88 : decode cX7_init 88 = .ok (.bipush 6, 2) := by decide +kernel
theorem dX7_init_90 : decode cX7_init 90 = .ok (.newarray .int, 2) := by decide +kernel
theorem dX7_init_92 : decode cX7_init 92 = .ok (.putfield 34, 3) := by decide +kernel
theorem dX7_init_95 : decode cX7_init 95 = .ok (.aload_n 0, 1) := by decide +kernel
theorem dX7_init_96 : decode cX7_init 96 = .ok (.bipush 6, 2) := by decide +kernel
theorem dX7_init_98 : decode cX7_init 98 = .ok (.newarray .int, 2) := by decide +kernel
theorem dX7_init_100 : decode cX7_init 100 = .ok (.putfield 37, 3) := by decide +kernel
theorem dX7_init_103 : decode cX7_init 103 = .ok (.aload_n 0, 1) := by decide +kernel
theorem dX7_init_104 : decode cX7_init 104 = .ok (.bipush 10, 2) := by decide +kernel
theorem dX7_init_106 : decode cX7_init 106 = .ok (.newarray .int, 2) := by decide +kernel
theorem dX7_init_108 : decode cX7_init 108 = .ok (.putfield 40, 3) := by decide +kernel
theorem dX7_init_111 : decode cX7_init 111 = .ok (.aload_n 0, 1) := by decide +kernel
theorem dX7_init_112 : decode cX7_init 112 = .ok (.bipush 36, 2) := by decide +kernel
theorem dX7_init_114 : decode cX7_init 114 = .ok (.newarray .int, 2) := by decide +kernel
theorem dX7_init_116 : decode cX7_init 116 = .ok (.putfield 43, 3) := by decide +kernel
theorem dX7_init_119 : decode cX7_init 119 = .ok (.aload_n 0, 1) := by decide +kernel
theorem dX7_init_120 : decode cX7_init 120 = .ok (.iconst 3, 1) := by decide +kernel
theorem dX7_init_121 : decode cX7_init 121 = .ok (.newarray .int, 2) := by decide +kernel
theorem dX7_init_123 : decode cX7_init 123 = .ok (.putfield 46, 3) := by decide +kernel
theorem dX7_init_126 : decode cX7_init 126 = .ok (.aload_n 0, 1) := by decide +kernel
theorem dX7_init_127 : decode cX7_init 127 = .ok (.bipush 6, 2) := by decide +kernel
theorem dX7_init_129 : decode cX7_init 129 = .ok (.newarray .int, 2) := by decide +kernel
theorem dX7_init_131 : decode cX7_init 131 = .ok (.putfield 49, 3) := by decide +kernel
theorem dX7_init_134 : decode cX7_init 134 = .ok (.aload_n 0, 1) := by decide +kernel
theorem dX7_init_135 : decode cX7_init 135 = .ok (.bipush 6, 2) := by decide +kernel
theorem dX7_init_137 : decode cX7_init 137 = .ok (.newarray .int, 2) := by decide +kernel
theorem dX7_init_139 : decode cX7_init 139 = .ok (.putfield 52, 3) := by decide +kernel
theorem dX7_init_142 : decode cX7_init 142 = .ok (.aload_n 0, 1) := by decide +kernel
theorem dX7_init_143 : decode cX7_init 143 = .ok (.bipush 8, 2) := by decide +kernel
theorem dX7_init_145 : decode cX7_init 145 = .ok (.newarray .int, 2) := by decide +kernel
theorem dX7_init_147 : decode cX7_init 147 = .ok (.putfield 55, 3) := by decide +kernel
theorem dX7_init_150 : decode cX7_init 150 = .ok (.aload_n 0, 1) := by decide +kernel
theorem dX7_init_151 : decode cX7_init 151 = .ok (.bipush 8, 2) := by decide +kernel
theorem dX7_init_153 : decode cX7_init 153 = .ok (.newarray .boolean, 2) := by decide +kernel
theorem dX7_init_155 : decode cX7_init 155 = .ok (.putfield 58, 3) := by decide +kernel
theorem dX7_init_158 : decode cX7_init 158 = .ok (.return_, 1) := by decide +kernel
theorem dX7_fails_0 : decode cX7_fails 0 = .ok (.aload_n 0, 1) := by decide +kernel
theorem dX7_fails_1 : decode cX7_fails 1 = .ok (.iload_n 1, 1) := by decide +kernel
theorem dX7_fails_2 : decode cX7_fails 2 = .ok (.putfield 62, 3) := by decide +kernel
theorem dX7_fails_5 : decode cX7_fails 5 = .ok (.bipush (-10), 2) := by decide +kernel
theorem dX7_fails_7 : decode cX7_fails 7 = .ok (.iload_n 1, 1) := by decide +kernel
theorem dX7_fails_8 : decode cX7_fails 8 = .ok (.isub, 1) := by decide +kernel
theorem dX7_fails_9 : decode cX7_fails 9 = .ok (.ireturn, 1) := by decide +kernel
theorem dX7_lost_0 : decode cX7_lost 0 = .ok (.aload_n 0, 1) := by decide +kernel
theorem dX7_lost_1 : decode cX7_lost 1 = .ok (.iload_n 1, 1) := by decide +kernel
theorem dX7_lost_2 : decode cX7_lost 2 = .ok (.putfield 62, 3) := by decide +kernel
theorem dX7_lost_5 : decode cX7_lost 5 = .ok (.ldc2_w 66, 3) := by decide +kernel
theorem dX7_lost_8 : decode cX7_lost 8 = .ok (.lreturn, 1) := by decide +kernel
theorem dX7_within_0 : decode cX7_within 0 = .ok (.iload_n 0, 1) := by decide +kernel
theorem dX7_within_1 : decode cX7_within 1 = .ok (.iload_n 1, 1) := by decide +kernel
theorem dX7_within_2 : decode cX7_within 2 = .ok (.if_icmp .lt 12, 3) := by decide +kernel
theorem dX7_within_5 : decode cX7_within 5 = .ok (.iload_n 0, 1) := by decide +kernel
theorem dX7_within_6 : decode cX7_within 6 = .ok (.iload_n 2, 1) := by decide +kernel
theorem dX7_within_7 : decode cX7_within 7 = .ok (.if_icmp .gt 7, 3) := by decide +kernel
theorem dX7_within_10 : decode cX7_within 10 = .ok (.iconst 1, 1) := by decide +kernel
theorem dX7_within_11 : decode cX7_within 11 = .ok (.goto 4, 3) := by decide +kernel
theorem dX7_within_14 : decode cX7_within 14 = .ok (.iconst 0, 1) := by decide +kernel
theorem dX7_within_15 : decode cX7_within 15 = .ok (.ireturn, 1) := by decide +kernel
set_option maxRecDepth 20000 in
theorem ggX7_isSheet_X7_within : GoodIn wsX7_isSheet wsX7_within := goodIn_r _ [4] (by decide +kernel) (by decide +kernel)
set_option maxRecDepth 20000 in
theorem gX7_isSheet_X7_within : GoodIn wsX7_isSheet (va_wsS RX7 68 yX7_within wsX7_within) := goodIn_app (goodIn_of _ (by decide +kernel)) ggX7_isSheet_X7_within
theorem dX7_isSheet_0 : decode cX7_isSheet 0 = .ok (.iload_n 0, 1) := by decide +kernel
theorem dX7_isSheet_1 : decode cX7_isSheet 1 = .ok (.iconst 0, 1) := by decide +kernel
theorem dX7_isSheet_2 : decode cX7_isSheet 2 = .ok (.iconst 3, 1) := by decide +kernel
theorem dX7_isSheet_3 : decode cX7_isSheet 3 = .ok (.invokestatic 68, 3) := by decide +kernel
theorem dX7_isSheet_6 : decode cX7_isSheet 6 = .ok (.ireturn, 1) := by decide +kernel
set_option maxRecDepth 20000 in
theorem ggX7_isSort_X7_within : GoodIn wsX7_isSort wsX7_within := goodIn_r _ [4] (by decide +kernel) (by decide +kernel)
set_option maxRecDepth 20000 in
theorem gX7_isSort_X7_within : GoodIn wsX7_isSort (va_wsS RX7 68 yX7_within wsX7_within) := goodIn_app (goodIn_of _ (by decide +kernel)) ggX7_isSort_X7_within
theorem dX7_isSort_0 : decode cX7_isSort 0 = .ok (.iload_n 0, 1) := by decide +kernel
theorem dX7_isSort_1 : decode cX7_isSort 1 = .ok (.iconst 0, 1) := by decide +kernel
theorem dX7_isSort_2 : decode cX7_isSort 2 = .ok (.iconst 2, 1) := by decide +kernel
theorem dX7_isSort_3 : decode cX7_isSort 3 = .ok (.invokestatic 68, 3) := by decide +kernel
theorem dX7_isSort_6 : decode cX7_isSort 6 = .ok (.ireturn, 1) := by decide +kernel
theorem dX7_against_0 : decode cX7_against 0 = .ok (.aload_n 0, 1) := by decide +kernel
theorem dX7_against_1 : decode cX7_against 1 = .ok (.getfield 9, 3) := by decide +kernel
theorem dX7_against_4 : decode cX7_against 4 = .ok (.iload_n 1, 1) := by decide +kernel
theorem dX7_against_5 : decode cX7_against 5 = .ok (.iaload, 1) := by decide +kernel
theorem dX7_against_6 : decode cX7_against 6 = .ok (.bipush (-9), 2) := by decide +kernel
theorem dX7_against_8 : decode cX7_against 8 = .ok (.if_icmp .eq 15, 3) := by decide +kernel
theorem dX7_against_11 : decode cX7_against 11 = .ok (.aload_n 0, 1) := by decide +kernel
theorem dX7_against_12 : decode cX7_against 12 = .ok (.getfield 9, 3) := by decide +kernel
theorem dX7_against_15 : decode cX7_against 15 = .ok (.iload_n 1, 1) := by decide +kernel
theorem dX7_against_16 : decode cX7_against 16 = .ok (.iaload, 1) := by decide +kernel
theorem dX7_against_17 : decode cX7_against 17 = .ok (.iload_n 2, 1) := by decide +kernel
theorem dX7_against_18 : decode cX7_against 18 = .ok (.if_icmp .eq 5, 3) := by decide +kernel
theorem dX7_against_21 : decode cX7_against 21 = .ok (.iconst 2, 1) := by decide +kernel
theorem dX7_against_22 : decode cX7_against 22 = .ok (.ireturn, 1) := by decide +kernel
theorem dX7_against_23 : decode cX7_against 23 = .ok (.aload_n 0, 1) := by decide +kernel
theorem dX7_against_24 : decode cX7_against 24 = .ok (.getfield 9, 3) := by decide +kernel
theorem dX7_against_27 : decode cX7_against 27 = .ok (.iload_n 1, 1) := by decide +kernel
theorem dX7_against_28 : decode cX7_against 28 = .ok (.iaload, 1) := by decide +kernel
theorem dX7_against_29 : decode cX7_against 29 = .ok (.bipush (-9), 2) := by decide +kernel
theorem dX7_against_31 : decode cX7_against 31 = .ok (.if_icmp .ne 5, 3) := by decide +kernel
theorem dX7_against_34 : decode cX7_against 34 = .ok (.iconst 1, 1) := by decide +kernel
theorem dX7_against_35 : decode cX7_against 35 = .ok (.ireturn, 1) := by decide +kernel
theorem dX7_against_36 : decode cX7_against 36 = .ok (.iload 4, 2) := by decide +kernel
theorem dX7_against_38 : decode cX7_against 38 = .ok (.ifCond .ge 5, 3) := by decide +kernel
theorem dX7_against_41 : decode cX7_against 41 = .ok (.iconst 4, 1) := by decide +kernel
theorem dX7_against_42 : decode cX7_against 42 = .ok (.ireturn, 1) := by decide +kernel
theorem dX7_against_43 : decode cX7_against 43 = .ok (.iload_n 3, 1) := by decide +kernel
theorem dX7_against_44 : decode cX7_against 44 = .ok (.ifCond .lt 26, 3) := by decide +kernel
theorem dX7_against_47 : decode cX7_against 47 = .ok (.iload_n 3, 1) := by decide +kernel
theorem dX7_against_48 : decode cX7_against 48 = .ok (.aload_n 0, 1) := by decide +kernel
theorem dX7_against_49 : decode cX7_against 49 = .ok (.getfield 13, 3) := by decide +kernel
theorem dX7_against_52 : decode cX7_against 52 = .ok (.iload_n 1, 1) := by decide +kernel
theorem dX7_against_53 : decode cX7_against 53 = .ok (.iaload, 1) := by decide +kernel
theorem dX7_against_54 : decode cX7_against 54 = .ok (.if_icmp .gt 16, 3) := by decide +kernel
theorem dX7_against_57 : decode cX7_against 57 = .ok (.iload 4, 2) := by decide +kernel
theorem dX7_against_59 : decode cX7_against 59 = .ok (.aload_n 0, 1) := by decide +kernel
theorem dX7_against_60 : decode cX7_against 60 = .ok (.getfield 13, 3) := by decide +kernel
theorem dX7_against_63 : decode cX7_against 63 = .ok (.iload_n 1, 1) := by decide +kernel
theorem dX7_against_64 : decode cX7_against 64 = .ok (.iaload, 1) := by decide +kernel
theorem dX7_against_65 : decode cX7_against 65 = .ok (.iload_n 3, 1) := by decide +kernel
theorem dX7_against_66 : decode cX7_against 66 = .ok (.isub, 1) := by decide +kernel
theorem dX7_against_67 : decode cX7_against 67 = .ok (.if_icmp .le 7, 3) := by decide +kernel
theorem dX7_against_70 : decode cX7_against 70 = .ok (.iconst 3, 1) := by decide +kernel
theorem dX7_against_71 : decode cX7_against 71 = .ok (.goto 4, 3) := by decide +kernel
theorem dX7_against_74 : decode cX7_against 74 = .ok (.iconst 0, 1) := by decide +kernel
theorem dX7_against_75 : decode cX7_against 75 = .ok (.ireturn, 1) := by decide +kernel
theorem dX7_isTube_0 : decode cX7_isTube 0 = .ok (.iload_n 1, 1) := by decide +kernel
theorem dX7_isTube_1 : decode cX7_isTube 1 = .ok (.ifCond .lt 15, 3) := by decide +kernel
theorem dX7_isTube_4 : decode cX7_isTube 4 = .ok (.iload_n 1, 1) := by decide +kernel
theorem dX7_isTube_5 : decode cX7_isTube 5 = .ok (.aload_n 0, 1) := by decide +kernel
theorem dX7_isTube_6 : decode cX7_isTube 6 = .ok (.getfield 72, 3) := by decide +kernel
theorem dX7_isTube_9 : decode cX7_isTube 9 = .ok (.if_icmp .ge 7, 3) := by decide +kernel
theorem dX7_isTube_12 : decode cX7_isTube 12 = .ok (.iconst 1, 1) := by decide +kernel
theorem dX7_isTube_13 : decode cX7_isTube 13 = .ok (.goto 4, 3) := by decide +kernel
theorem dX7_isTube_16 : decode cX7_isTube 16 = .ok (.iconst 0, 1) := by decide +kernel
theorem dX7_isTube_17 : decode cX7_isTube 17 = .ok (.ireturn, 1) := by decide +kernel
set_option maxRecDepth 20000 in
theorem ggX7_digit_X7_within : GoodIn wsX7_digit wsX7_within := goodIn_r _ [6] (by decide +kernel) (by decide +kernel)
set_option maxRecDepth 20000 in
theorem gX7_digit_X7_within : GoodIn wsX7_digit (va_wsS RX7 68 yX7_within wsX7_within) := goodIn_app (goodIn_of _ (by decide +kernel)) ggX7_digit_X7_within
theorem dX7_digit_0 : decode cX7_digit 0 = .ok (.aload_n 0, 1) := by decide +kernel
theorem dX7_digit_1 : decode cX7_digit 1 = .ok (.getfield 75, 3) := by decide +kernel
theorem dX7_digit_4 : decode cX7_digit 4 = .ok (.iload_n 1, 1) := by decide +kernel
theorem dX7_digit_5 : decode cX7_digit 5 = .ok (.if_icmp .ge 26, 3) := by decide +kernel
theorem dX7_digit_8 : decode cX7_digit 8 = .ok (.aload_n 0, 1) := by decide +kernel
theorem dX7_digit_9 : decode cX7_digit 9 = .ok (.getfield 16, 3) := by decide +kernel
theorem dX7_digit_12 : decode cX7_digit 12 = .ok (.aload_n 0, 1) := by decide +kernel
theorem dX7_digit_13 : decode cX7_digit 13 = .ok (.getfield 75, 3) := by decide +kernel
theorem dX7_digit_16 : decode cX7_digit 16 = .ok (.iaload, 1) := by decide +kernel
theorem dX7_digit_17 : decode cX7_digit 17 = .ok (.bipush 48, 2) := by decide +kernel
theorem dX7_digit_19 : decode cX7_digit 19 = .ok (.iload_n 2, 1) := by decide +kernel
theorem dX7_digit_20 : decode cX7_digit 20 = .ok (.iadd, 1) := by decide +kernel
theorem dX7_digit_21 : decode cX7_digit 21 = .ok (.bipush 48, 2) := by decide +kernel
theorem dX7_digit_23 : decode cX7_digit 23 = .ok (.iload_n 3, 1) := by decide +kernel
theorem dX7_digit_24 : decode cX7_digit 24 = .ok (.iadd, 1) := by decide +kernel
theorem dX7_digit_25 : decode cX7_digit 25 = .ok (.invokestatic 68, 3) := by decide +kernel
theorem dX7_digit_28 : decode cX7_digit 28 = .ok (.ifCond .ne 6, 3) := by decide +kernel
theorem dX7_digit_31 : decode cX7_digit 31 = .ok (.bipush (-9), 2) := by decide +kernel
theorem dX7_digit_33 : decode cX7_digit 33 = .ok (.ireturn, 1) := by decide +kernel
theorem dX7_digit_34 : decode cX7_digit 34 = .ok (.aload_n 0, 1) := by decide +kernel
theorem dX7_digit_35 : decode cX7_digit 35 = .ok (.dup, 1) := by decide +kernel
theorem dX7_digit_36 : decode cX7_digit 36 = .ok (.getfield 75, 3) := by decide +kernel
theorem dX7_digit_39 : decode cX7_digit 39 = .ok (.iconst 1, 1) := by decide +kernel
theorem dX7_digit_40 : decode cX7_digit 40 = .ok (.iadd, 1) := by decide +kernel
theorem dX7_digit_41 : decode cX7_digit 41 = .ok (.putfield 75, 3) := by decide +kernel
theorem dX7_digit_44 : decode cX7_digit 44 = .ok (.aload_n 0, 1) := by decide +kernel
theorem dX7_digit_45 : decode cX7_digit 45 = .ok (.getfield 16, 3) := by decide +kernel
theorem dX7_digit_48 : decode cX7_digit 48 = .ok (.aload_n 0, 1) := by decide +kernel
theorem dX7_digit_49 : decode cX7_digit 49 = .ok (.getfield 75, 3) := by decide +kernel
theorem dX7_digit_52 : decode cX7_digit 52 = .ok (.iconst 1, 1) := by decide +kernel
theorem dX7_digit_53 : decode cX7_digit 53 = .ok (.isub, 1) := by decide +kernel
theorem dX7_digit_54 : decode cX7_digit 54 = .ok (.iaload, 1) := by decide +kernel
theorem dX7_digit_55 : decode cX7_digit 55 = .ok (.bipush 48, 2) := by decide +kernel
theorem dX7_digit_57 : decode cX7_digit 57 = .ok (.isub, 1) := by decide +kernel
theorem dX7_digit_58 : decode cX7_digit 58 = .ok (.ireturn, 1) := by decide +kernel
theorem dX7_readHoles_0 : decode cX7_readHoles 0 = .ok (.aload_n 0, 1) := by decide +kernel
theorem dX7_readHoles_1 : decode cX7_readHoles 1 = .ok (.getfield 75, 3) := by decide +kernel
theorem dX7_readHoles_4 : decode cX7_readHoles 4 = .ok (.iload_n 1, 1) := by decide +kernel
theorem dX7_readHoles_5 : decode cX7_readHoles 5 = .ok (.if_icmp .ge 31, 3) := by decide +kernel
theorem dX7_readHoles_8 : decode cX7_readHoles 8 = .ok (.aload_n 0, 1) := by decide +kernel
theorem dX7_readHoles_9 : decode cX7_readHoles 9 = .ok (.getfield 16, 3) := by decide +kernel
theorem dX7_readHoles_12 : decode cX7_readHoles 12 = .ok (.aload_n 0, 1) := by decide +kernel
theorem dX7_readHoles_13 : decode cX7_readHoles 13 = .ok (.getfield 75, 3) := by decide +kernel
theorem dX7_readHoles_16 : decode cX7_readHoles 16 = .ok (.iaload, 1) := by decide +kernel
theorem dX7_readHoles_17 : decode cX7_readHoles 17 = .ok (.bipush 50, 2) := by decide +kernel
theorem dX7_readHoles_19 : decode cX7_readHoles 19 = .ok (.if_icmp .eq 20, 3) := by decide +kernel
theorem dX7_readHoles_22 : decode cX7_readHoles 22 = .ok (.aload_n 0, 1) := by decide +kernel
theorem dX7_readHoles_23 : decode cX7_readHoles 23 = .ok (.getfield 16, 3) := by decide +kernel
theorem dX7_readHoles_26 : decode cX7_readHoles 26 = .ok (.aload_n 0, 1) := by decide +kernel
theorem dX7_readHoles_27 : decode cX7_readHoles 27 = .ok (.getfield 75, 3) := by decide +kernel
theorem dX7_readHoles_30 : decode cX7_readHoles 30 = .ok (.iaload, 1) := by decide +kernel
theorem dX7_readHoles_31 : decode cX7_readHoles 31 = .ok (.bipush 52, 2) := by decide +kernel
theorem dX7_readHoles_33 : decode cX7_readHoles 33 = .ok (.if_icmp .eq 6, 3) := by decide +kernel
theorem dX7_readHoles_36 : decode cX7_readHoles 36 = .ok (.bipush (-9), 2) := by decide +kernel
theorem dX7_readHoles_38 : decode cX7_readHoles 38 = .ok (.ireturn, 1) := by decide +kernel
theorem dX7_readHoles_39 : decode cX7_readHoles 39 = .ok (.aload_n 0, 1) := by decide +kernel
theorem dX7_readHoles_40 : decode cX7_readHoles 40 = .ok (.dup, 1) := by decide +kernel
theorem dX7_readHoles_41 : decode cX7_readHoles 41 = .ok (.getfield 75, 3) := by decide +kernel
theorem dX7_readHoles_44 : decode cX7_readHoles 44 = .ok (.iconst 1, 1) := by decide +kernel
theorem dX7_readHoles_45 : decode cX7_readHoles 45 = .ok (.iadd, 1) := by decide +kernel
theorem dX7_readHoles_46 : decode cX7_readHoles 46 = .ok (.putfield 75, 3) := by decide +kernel
theorem dX7_readHoles_49 : decode cX7_readHoles 49 = .ok (.aload_n 0, 1) := by decide +kernel
theorem dX7_readHoles_50 : decode cX7_readHoles 50 = .ok (.getfield 16, 3) := by decide +kernel
theorem dX7_readHoles_53 : decode cX7_readHoles 53 = .ok (.aload_n 0, 1) := by decide +kernel
theorem dX7_readHoles_54 : decode cX7_readHoles 54 = .ok (.getfield 75, 3) := by decide +kernel
theorem dX7_readHoles_57 : decode cX7_readHoles 57 = .ok (.iconst 1, 1) := by decide +kernel
theorem dX7_readHoles_58 : decode cX7_readHoles 58 = .ok (.isub, 1) := by decide +kernel
theorem dX7_readHoles_59 : decode cX7_readHoles 59 = .ok (.iaload, 1) := by decide +kernel
theorem dX7_readHoles_60 : decode cX7_readHoles 60 = .ok (.bipush 48, 2) := by decide +kernel
theorem dX7_readHoles_62 : decode cX7_readHoles 62 = .ok (.isub, 1) := by decide +kernel
theorem dX7_readHoles_63 : decode cX7_readHoles 63 = .ok (.ireturn, 1) := by decide +kernel
theorem dX7_isSign_0 : decode cX7_isSign 0 = .ok (.aload_n 0, 1) := by decide +kernel
theorem dX7_isSign_1 : decode cX7_isSign 1 = .ok (.getfield 75, 3) := by decide +kernel
theorem dX7_isSign_4 : decode cX7_isSign 4 = .ok (.iload_n 1, 1) := by decide +kernel
theorem dX7_isSign_5 : decode cX7_isSign 5 = .ok (.if_icmp .ge 16, 3) := by decide +kernel
theorem dX7_isSign_8 : decode cX7_isSign 8 = .ok (.aload_n 0, 1) := by decide +kernel
theorem dX7_isSign_9 : decode cX7_isSign 9 = .ok (.getfield 16, 3) := by decide +kernel
theorem dX7_isSign_12 : decode cX7_isSign 12 = .ok (.aload_n 0, 1) := by decide +kernel
theorem dX7_isSign_13 : decode cX7_isSign 13 = .ok (.getfield 75, 3) := by decide +kernel
theorem dX7_isSign_16 : decode cX7_isSign 16 = .ok (.iaload, 1) := by decide +kernel
theorem dX7_isSign_17 : decode cX7_isSign 17 = .ok (.iload_n 2, 1) := by decide +kernel
theorem dX7_isSign_18 : decode cX7_isSign 18 = .ok (.if_icmp .eq 5, 3) := by decide +kernel
theorem dX7_isSign_21 : decode cX7_isSign 21 = .ok (.iconst 0, 1) := by decide +kernel
theorem dX7_isSign_22 : decode cX7_isSign 22 = .ok (.ireturn, 1) := by decide +kernel
theorem dX7_isSign_23 : decode cX7_isSign 23 = .ok (.aload_n 0, 1) := by decide +kernel
theorem dX7_isSign_24 : decode cX7_isSign 24 = .ok (.dup, 1) := by decide +kernel
theorem dX7_isSign_25 : decode cX7_isSign 25 = .ok (.getfield 75, 3) := by decide +kernel
theorem dX7_isSign_28 : decode cX7_isSign 28 = .ok (.iconst 1, 1) := by decide +kernel
theorem dX7_isSign_29 : decode cX7_isSign 29 = .ok (.iadd, 1) := by decide +kernel
theorem dX7_isSign_30 : decode cX7_isSign 30 = .ok (.putfield 75, 3) := by decide +kernel
theorem dX7_isSign_33 : decode cX7_isSign 33 = .ok (.iconst 1, 1) := by decide +kernel
theorem dX7_isSign_34 : decode cX7_isSign 34 = .ok (.ireturn, 1) := by decide +kernel
set_option maxRecDepth 20000 in
theorem ggX7_shop_X7_isSheet : GoodIn wsX7_shop wsX7_isSheet := goodIn_r _ [7, 8, 9, 6, 10] (by decide +kernel) (by decide +kernel)
set_option maxRecDepth 20000 in
theorem gX7_shop_X7_isSheet : GoodIn wsX7_shop (va_wsS RX7 78 yX7_isSheet wsX7_isSheet) := goodIn_app (goodIn_of _ (by decide +kernel)) ggX7_shop_X7_isSheet
set_option maxRecDepth 20000 in
theorem ggX7_shop_X7_isSort : GoodIn wsX7_shop wsX7_isSort := goodIn_r _ [13, 8, 9, 6, 10] (by decide +kernel) (by decide +kernel)
set_option maxRecDepth 20000 in
theorem gX7_shop_X7_isSort : GoodIn wsX7_shop (va_wsS RX7 82 yX7_isSort wsX7_isSort) := goodIn_app (goodIn_of _ (by decide +kernel)) ggX7_shop_X7_isSort
set_option maxRecDepth 20000 in
theorem ggX7_shop_X7_against : GoodIn wsX7_shop wsX7_against := goodIn_r _ [17, 18, 19, 67, 68, 69, 70, 71, 72, 73, 74, 75, 76, 77, 78, 79, 80, 81, 82, 83, 84, 85, 86, 87, 88, 89, 90, 91, 92, 93, 94, 95, 96, 97, 98, 99] (by decide +kernel) (by decide +kernel)
set_option maxRecDepth 20000 in
theorem gX7_shop_X7_against : GoodIn wsX7_shop (wsV RX7 85 RX7 yX7_against wsX7_against) := goodIn_app (goodIn_of _ (by decide +kernel)) ggX7_shop_X7_against
set_option maxRecDepth 20000 in
theorem ggX7_shop_X7_fails : GoodIn wsX7_shop wsX7_fails := goodIn_r _ [23, 1, 67, 68, 69, 70, 71, 72, 73, 74, 75, 76, 77, 78, 79, 80, 81, 82, 83, 84, 85, 86, 87, 88, 89, 90, 91, 92, 93, 94, 95, 96, 97, 98, 99] (by decide +kernel) (by decide +kernel)
set_option maxRecDepth 20000 in
theorem gX7_shop_X7_fails : GoodIn wsX7_shop (wsV RX7 89 RX7 yX7_fails wsX7_fails) := goodIn_app (goodIn_of _ (by decide +kernel)) ggX7_shop_X7_fails
set_option maxRecDepth 20000 in
theorem ggX7_shop_X7_readShop : GoodIn wsX7_shop wsX7_readShop := goodIn_r _ [27, 28, 29, 2, 30, 31, 32, 6, 33, 34, 35, 36, 37, 38, 39, 40, 41, 42, 8, 9, 10, 43, 44, 45, 46, 47, 67, 68, 69, 70, 71, 72, 73, 74, 75, 76, 77, 78, 79, 80, 81, 82, 83, 84, 85, 86, 87, 88, 89, 90, 91, 92, 93, 94, 95, 96, 97, 98, 99] (by decide +kernel) (by decide +kernel)
set_option maxRecDepth 20000 in
theorem gX7_shop_X7_readShop : GoodIn wsX7_shop (wsV RX7 93 RX7 yX7_readShop wsX7_readShop) := goodIn_app (goodIn_of _ (by decide +kernel)) ggX7_shop_X7_readShop
set_option maxRecDepth 20000 in
theorem ggX7_shop_X7_takeShop : GoodIn wsX7_shop wsX7_takeShop := goodIn_r _ [51, 29, 52, 53, 54, 55, 56, 28, 3, 57, 47, 58, 59, 60, 61, 62, 63, 64, 65, 66, 67, 68, 69, 70, 71, 72, 73, 74, 75, 76, 77, 78, 79, 80, 81, 82, 83, 84, 85, 86, 87, 88, 89, 90, 91, 92, 93, 94, 95, 96, 97, 98, 99] (by decide +kernel) (by decide +kernel)
set_option maxRecDepth 20000 in
theorem gX7_shop_X7_takeShop : GoodIn wsX7_shop (wsV RX7 96 RX7 yX7_takeShop wsX7_takeShop) := goodIn_app (goodIn_of _ (by decide +kernel)) ggX7_shop_X7_takeShop
theorem dX7_shop_0 : decode cX7_shop 0 = .ok (.aload_n 0, 1) := by decide +kernel
theorem dX7_shop_1 : decode cX7_shop 1 = .ok (.iconst 0, 1) := by decide +kernel
theorem dX7_shop_2 : decode cX7_shop 2 = .ok (.putfield 62, 3) := by decide +kernel
theorem dX7_shop_5 : decode cX7_shop 5 = .ok (.iload_n 1, 1) := by decide +kernel
theorem dX7_shop_6 : decode cX7_shop 6 = .ok (.invokestatic 78, 3) := by decide +kernel
theorem dX7_shop_9 : decode cX7_shop 9 = .ok (.ifCond .ne 5, 3) := by decide +kernel
theorem dX7_shop_12 : decode cX7_shop 12 = .ok (.iconst (-1), 1) := by decide +kernel
theorem dX7_shop_13 : decode cX7_shop 13 = .ok (.ireturn, 1) := by decide +kernel
theorem dX7_shop_14 : decode cX7_shop 14 = .ok (.iload_n 2, 1) := by decide +kernel
theorem dX7_shop_15 : decode cX7_shop 15 = .ok (.invokestatic 82, 3) := by decide +kernel
theorem dX7_shop_18 : decode cX7_shop 18 = .ok (.ifCond .ne 6, 3) := by decide +kernel
theorem dX7_shop_21 : decode cX7_shop 21 = .ok (.bipush (-2), 2) := by decide +kernel
theorem dX7_shop_23 : decode cX7_shop 23 = .ok (.ireturn, 1) := by decide +kernel
theorem dX7_shop_24 : decode cX7_shop 24 = .ok (.aload_n 0, 1) := by decide +kernel
theorem dX7_shop_25 : decode cX7_shop 25 = .ok (.iload_n 1, 1) := by decide +kernel
theorem dX7_shop_26 : decode cX7_shop 26 = .ok (.iload_n 2, 1) := by decide +kernel
theorem dX7_shop_27 : decode cX7_shop 27 = .ok (.iload_n 3, 1) := by decide +kernel
theorem dX7_shop_28 : decode cX7_shop 28 = .ok (.iload 4, 2) := by decide +kernel
theorem dX7_shop_30 : decode cX7_shop 30 = .ok (.invokevirtual 85, 3) := by decide +kernel
theorem dX7_shop_33 : decode cX7_shop 33 = .ok (.istore 5, 2) := by decide +kernel
theorem dX7_shop_35 : decode cX7_shop 35 = .ok (.iload 5, 2) := by decide +kernel
theorem dX7_shop_37 : decode cX7_shop 37 = .ok (.ifCond .eq 10, 3) := by decide +kernel
theorem dX7_shop_40 : decode cX7_shop 40 = .ok (.aload_n 0, 1) := by decide +kernel
theorem dX7_shop_41 : decode cX7_shop 41 = .ok (.iload 5, 2) := by decide +kernel
theorem dX7_shop_43 : decode cX7_shop 43 = .ok (.invokevirtual 89, 3) := by decide +kernel
theorem dX7_shop_46 : decode cX7_shop 46 = .ok (.ireturn, 1) := by decide +kernel
theorem dX7_shop_47 : decode cX7_shop 47 = .ok (.bipush 60, 2) := by decide +kernel
theorem dX7_shop_49 : decode cX7_shop 49 = .ok (.iload_n 1, 1) := by decide +kernel
theorem dX7_shop_50 : decode cX7_shop 50 = .ok (.imul, 1) := by decide +kernel
theorem dX7_shop_51 : decode cX7_shop 51 = .ok (.iload_n 3, 1) := by decide +kernel
theorem dX7_shop_52 : decode cX7_shop 52 = .ok (.iadd, 1) := by decide +kernel
theorem dX7_shop_53 : decode cX7_shop 53 = .ok (.istore 6, 2) := by decide +kernel
theorem dX7_shop_55 : decode cX7_shop 55 = .ok (.aload_n 0, 1) := by decide +kernel
theorem dX7_shop_56 : decode cX7_shop 56 = .ok (.iload 6, 2) := by decide +kernel
theorem dX7_shop_58 : decode cX7_shop 58 = .ok (.putfield 75, 3) := by decide +kernel
theorem dX7_shop_61 : decode cX7_shop 61 = .ok (.aload_n 0, 1) := by decide +kernel
theorem dX7_shop_62 : decode cX7_shop 62 = .ok (.iload 6, 2) := by decide +kernel
theorem dX7_shop_64 : decode cX7_shop 64 = .ok (.iload 4, 2) := by decide +kernel
theorem dX7_shop_66 : decode cX7_shop 66 = .ok (.iadd, 1) := by decide +kernel
theorem dX7_shop_67 : decode cX7_shop 67 = .ok (.invokevirtual 93, 3) := by decide +kernel
theorem dX7_shop_70 : decode cX7_shop 70 = .ok (.ifCond .ne 14, 3) := by decide +kernel
theorem dX7_shop_73 : decode cX7_shop 73 = .ok (.bipush (-100), 2) := by decide +kernel
theorem dX7_shop_75 : decode cX7_shop 75 = .ok (.aload_n 0, 1) := by decide +kernel
theorem dX7_shop_76 : decode cX7_shop 76 = .ok (.getfield 75, 3) := by decide +kernel
theorem dX7_shop_79 : decode cX7_shop 79 = .ok (.iload 6, 2) := by decide +kernel
theorem dX7_shop_81 : decode cX7_shop 81 = .ok (.isub, 1) := by decide +kernel
theorem dX7_shop_82 : decode cX7_shop 82 = .ok (.isub, 1) := by decide +kernel
theorem dX7_shop_83 : decode cX7_shop 83 = .ok (.ireturn, 1) := by decide +kernel
theorem dX7_shop_84 : decode cX7_shop 84 = .ok (.aload_n 0, 1) := by decide +kernel
theorem dX7_shop_85 : decode cX7_shop 85 = .ok (.invokevirtual 96, 3) := by decide +kernel
theorem dX7_shop_88 : decode cX7_shop 88 = .ok (.aload_n 0, 1) := by decide +kernel
theorem dX7_shop_89 : decode cX7_shop 89 = .ok (.getfield 72, 3) := by decide +kernel
theorem dX7_shop_92 : decode cX7_shop 92 = .ok (.ireturn, 1) := by decide +kernel
theorem dX7_takeShop_0 : decode cX7_takeShop 0 = .ok (.aload_n 0, 1) := by decide +kernel
theorem dX7_takeShop_1 : decode cX7_takeShop 1 = .ok (.aload_n 0, 1) := by decide +kernel
theorem dX7_takeShop_2 : decode cX7_takeShop 2 = .ok (.getfield 40, 3) := by decide +kernel
theorem dX7_takeShop_5 : decode cX7_takeShop 5 = .ok (.iconst 0, 1) := by decide +kernel
theorem dX7_takeShop_6 : decode cX7_takeShop 6 = .ok (.iaload, 1) := by decide +kernel
theorem dX7_takeShop_7 : decode cX7_takeShop 7 = .ok (.putfield 99, 3) := by decide +kernel
theorem dX7_takeShop_10 : decode cX7_takeShop 10 = .ok (.aload_n 0, 1) := by decide +kernel
theorem dX7_takeShop_11 : decode cX7_takeShop 11 = .ok (.aload_n 0, 1) := by decide +kernel
theorem dX7_takeShop_12 : decode cX7_takeShop 12 = .ok (.getfield 40, 3) := by decide +kernel
theorem dX7_takeShop_15 : decode cX7_takeShop 15 = .ok (.iconst 1, 1) := by decide +kernel
theorem dX7_takeShop_16 : decode cX7_takeShop 16 = .ok (.iaload, 1) := by decide +kernel
theorem dX7_takeShop_17 : decode cX7_takeShop 17 = .ok (.putfield 102, 3) := by decide +kernel
theorem dX7_takeShop_20 : decode cX7_takeShop 20 = .ok (.aload_n 0, 1) := by decide +kernel
theorem dX7_takeShop_21 : decode cX7_takeShop 21 = .ok (.aload_n 0, 1) := by decide +kernel
theorem dX7_takeShop_22 : decode cX7_takeShop 22 = .ok (.getfield 40, 3) := by decide +kernel
theorem dX7_takeShop_25 : decode cX7_takeShop 25 = .ok (.iconst 2, 1) := by decide +kernel
theorem dX7_takeShop_26 : decode cX7_takeShop 26 = .ok (.iaload, 1) := by decide +kernel
theorem dX7_takeShop_27 : decode cX7_takeShop 27 = .ok (.putfield 105, 3) := by decide +kernel
theorem dX7_takeShop_30 : decode cX7_takeShop 30 = .ok (.iconst 0, 1) := by decide +kernel
theorem dX7_takeShop_31 : decode cX7_takeShop 31 = .ok (.istore_n 1, 1) := by decide +kernel
theorem dX7_takeShop_32 : decode cX7_takeShop 32 = .ok (.iload_n 1, 1) := by decide +kernel
theorem dX7_takeShop_33 : decode cX7_takeShop 33 = .ok (.bipush 6, 2) := by decide +kernel
theorem dX7_takeShop_35 : decode cX7_takeShop 35 = .ok (.if_icmp .ge 23, 3) := by decide +kernel
theorem dX7_takeShop_38 : decode cX7_takeShop 38 = .ok (.aload_n 0, 1) := by decide +kernel
theorem dX7_takeShop_39 : decode cX7_takeShop 39 = .ok (.getfield 19, 3) := by decide +kernel
theorem dX7_takeShop_42 : decode cX7_takeShop 42 = .ok (.iload_n 1, 1) := by decide +kernel
theorem dX7_takeShop_43 : decode cX7_takeShop 43 = .ok (.aload_n 0, 1) := by decide +kernel
theorem dX7_takeShop_44 : decode cX7_takeShop 44 = .ok (.getfield 40, 3) := by decide +kernel
theorem dX7_takeShop_47 : decode cX7_takeShop 47 = .ok (.iconst 3, 1) := by decide +kernel
theorem dX7_takeShop_48 : decode cX7_takeShop 48 = .ok (.iload_n 1, 1) := by decide +kernel
theorem dX7_takeShop_49 : decode cX7_takeShop 49 = .ok (.iadd, 1) := by decide +kernel
theorem dX7_takeShop_50 : decode cX7_takeShop 50 = .ok (.iaload, 1) := by decide +kernel
theorem dX7_takeShop_51 : decode cX7_takeShop 51 = .ok (.iastore, 1) := by decide +kernel
theorem dX7_takeShop_52 : decode cX7_takeShop 52 = .ok (.iinc 1 1, 3) := by decide +kernel
theorem dX7_takeShop_55 : decode cX7_takeShop 55 = .ok (.goto (-23), 3) := by decide +kernel
theorem dX7_takeShop_58 : decode cX7_takeShop 58 = .ok (.aload_n 0, 1) := by decide +kernel
theorem dX7_takeShop_59 : decode cX7_takeShop 59 = .ok (.aload_n 0, 1) := by decide +kernel
theorem dX7_takeShop_60 : decode cX7_takeShop 60 = .ok (.getfield 40, 3) := by decide +kernel
theorem dX7_takeShop_63 : decode cX7_takeShop 63 = .ok (.bipush 9, 2) := by decide +kernel
theorem dX7_takeShop_65 : decode cX7_takeShop 65 = .ok (.iaload, 1) := by decide +kernel
theorem dX7_takeShop_66 : decode cX7_takeShop 66 = .ok (.putfield 108, 3) := by decide +kernel
theorem dX7_takeShop_69 : decode cX7_takeShop 69 = .ok (.aload_n 0, 1) := by decide +kernel
theorem dX7_takeShop_70 : decode cX7_takeShop 70 = .ok (.aload_n 0, 1) := by decide +kernel
theorem dX7_takeShop_71 : decode cX7_takeShop 71 = .ok (.getfield 111, 3) := by decide +kernel
theorem dX7_takeShop_74 : decode cX7_takeShop 74 = .ok (.putfield 72, 3) := by decide +kernel
theorem dX7_takeShop_77 : decode cX7_takeShop 77 = .ok (.iconst 0, 1) := by decide +kernel
theorem dX7_takeShop_78 : decode cX7_takeShop 78 = .ok (.istore_n 1, 1) := by decide +kernel
theorem dX7_takeShop_79 : decode cX7_takeShop 79 = .ok (.iload_n 1, 1) := by decide +kernel
theorem dX7_takeShop_80 : decode cX7_takeShop 80 = .ok (.aload_n 0, 1) := by decide +kernel
theorem dX7_takeShop_81 : decode cX7_takeShop 81 = .ok (.getfield 72, 3) := by decide +kernel
theorem dX7_takeShop_84 : decode cX7_takeShop 84 = .ok (.if_icmp .ge 109, 3) := by decide +kernel
theorem dX7_takeShop_87 : decode cX7_takeShop 87 = .ok (.aload_n 0, 1) := by decide +kernel
theorem dX7_takeShop_88 : decode cX7_takeShop 88 = .ok (.getfield 22, 3) := by decide +kernel
theorem dX7_takeShop_91 : decode cX7_takeShop 91 = .ok (.iload_n 1, 1) := by decide +kernel
theorem dX7_takeShop_92 : decode cX7_takeShop 92 = .ok (.aload_n 0, 1) := by decide +kernel
theorem dX7_takeShop_93 : decode cX7_takeShop 93 = .ok (.getfield 43, 3) := by decide +kernel
theorem dX7_takeShop_96 : decode cX7_takeShop 96 = .ok (.bipush 6, 2) := by decide +kernel
theorem dX7_takeShop_98 : decode cX7_takeShop 98 = .ok (.iload_n 1, 1) := by decide +kernel
theorem dX7_takeShop_99 : decode cX7_takeShop 99 = .ok (.imul, 1) := by decide +kernel
theorem dX7_takeShop_100 : decode cX7_takeShop 100 = .ok (.iaload, 1) := by decide +kernel
theorem dX7_takeShop_101 : decode cX7_takeShop 101 = .ok (.iastore, 1) := by decide +kernel
theorem dX7_takeShop_102 : decode cX7_takeShop 102 = .ok (.aload_n 0, 1) := by decide +kernel
theorem dX7_takeShop_103 : decode cX7_takeShop 103 = .ok (.getfield 25, 3) := by decide +kernel
theorem dX7_takeShop_106 : decode cX7_takeShop 106 = .ok (.iload_n 1, 1) := by decide +kernel
theorem dX7_takeShop_107 : decode cX7_takeShop 107 = .ok (.aload_n 0, 1) := by decide +kernel
theorem dX7_takeShop_108 : decode cX7_takeShop 108 = .ok (.getfield 43, 3) := by decide +kernel
theorem dX7_takeShop_111 : decode cX7_takeShop 111 = .ok (.bipush 6, 2) := by decide +kernel
theorem dX7_takeShop_113 : decode cX7_takeShop 113 = .ok (.iload_n 1, 1) := by decide +kernel
theorem dX7_takeShop_114 : decode cX7_takeShop 114 = .ok (.imul, 1) := by decide +kernel
theorem dX7_takeShop_115 : decode cX7_takeShop 115 = .ok (.iconst 1, 1) := by decide +kernel
theorem dX7_takeShop_116 : decode cX7_takeShop 116 = .ok (.iadd, 1) := by decide +kernel
theorem dX7_takeShop_117 : decode cX7_takeShop 117 = .ok (.iaload, 1) := by decide +kernel
theorem dX7_takeShop_118 : decode cX7_takeShop 118 = .ok (.iastore, 1) := by decide +kernel
theorem dX7_takeShop_119 : decode cX7_takeShop 119 = .ok (.aload_n 0, 1) := by decide +kernel
theorem dX7_takeShop_120 : decode cX7_takeShop 120 = .ok (.getfield 28, 3) := by decide +kernel
theorem dX7_takeShop_123 : decode cX7_takeShop 123 = .ok (.iload_n 1, 1) := by decide +kernel
theorem dX7_takeShop_124 : decode cX7_takeShop 124 = .ok (.aload_n 0, 1) := by decide +kernel
theorem dX7_takeShop_125 : decode cX7_takeShop 125 = .ok (.getfield 43, 3) := by decide +kernel
theorem dX7_takeShop_128 : decode cX7_takeShop 128 = .ok (.bipush 6, 2) := by decide +kernel
theorem dX7_takeShop_130 : decode cX7_takeShop 130 = .ok (.iload_n 1, 1) := by decide +kernel
theorem dX7_takeShop_131 : decode cX7_takeShop 131 = .ok (.imul, 1) := by decide +kernel
theorem dX7_takeShop_132 : decode cX7_takeShop 132 = .ok (.iconst 2, 1) := by decide +kernel
theorem dX7_takeShop_133 : decode cX7_takeShop 133 = .ok (.iadd, 1) := by decide +kernel
theorem dX7_takeShop_134 : decode cX7_takeShop 134 = .ok (.iaload, 1) := by decide +kernel
theorem dX7_takeShop_135 : decode cX7_takeShop 135 = .ok (.iastore, 1) := by decide +kernel
theorem dX7_takeShop_136 : decode cX7_takeShop 136 = .ok (.aload_n 0, 1) := by decide +kernel
theorem dX7_takeShop_137 : decode cX7_takeShop 137 = .ok (.getfield 31, 3) := by decide +kernel
theorem dX7_takeShop_140 : decode cX7_takeShop 140 = .ok (.iload_n 1, 1) := by decide +kernel
theorem dX7_takeShop_141 : decode cX7_takeShop 141 = .ok (.aload_n 0, 1) := by decide +kernel
theorem dX7_takeShop_142 : decode cX7_takeShop 142 = .ok (.getfield 43, 3) := by decide +kernel
theorem dX7_takeShop_145 : decode cX7_takeShop 145 = .ok (.bipush 6, 2) := by decide +kernel
theorem dX7_takeShop_147 : decode cX7_takeShop 147 = .ok (.iload_n 1, 1) := by decide +kernel
theorem dX7_takeShop_148 : decode cX7_takeShop 148 = .ok (.imul, 1) := by decide +kernel
theorem dX7_takeShop_149 : decode cX7_takeShop 149 = .ok (.iconst 3, 1) := by decide +kernel
theorem dX7_takeShop_150 : decode cX7_takeShop 150 = .ok (.iadd, 1) := by decide +kernel
theorem dX7_takeShop_151 : decode cX7_takeShop 151 = .ok (.iaload, 1) := by decide +kernel
theorem dX7_takeShop_152 : decode cX7_takeShop 152 = .ok (.iastore, 1) := by decide +kernel
theorem dX7_takeShop_153 : decode cX7_takeShop 153 = .ok (.aload_n 0, 1) := by decide +kernel
theorem dX7_takeShop_154 : decode cX7_takeShop 154 = .ok (.getfield 34, 3) := by decide +kernel
theorem dX7_takeShop_157 : decode cX7_takeShop 157 = .ok (.iload_n 1, 1) := by decide +kernel
theorem dX7_takeShop_158 : decode cX7_takeShop 158 = .ok (.aload_n 0, 1) := by decide +kernel
theorem dX7_takeShop_159 : decode cX7_takeShop 159 = .ok (.getfield 43, 3) := by decide +kernel
theorem dX7_takeShop_162 : decode cX7_takeShop 162 = .ok (.bipush 6, 2) := by decide +kernel
theorem dX7_takeShop_164 : decode cX7_takeShop 164 = .ok (.iload_n 1, 1) := by decide +kernel
theorem dX7_takeShop_165 : decode cX7_takeShop 165 = .ok (.imul, 1) := by decide +kernel
theorem dX7_takeShop_166 : decode cX7_takeShop 166 = .ok (.iconst 4, 1) := by decide +kernel
theorem dX7_takeShop_167 : decode cX7_takeShop 167 = .ok (.iadd, 1) := by decide +kernel
theorem dX7_takeShop_168 : decode cX7_takeShop 168 = .ok (.iaload, 1) := by decide +kernel
theorem dX7_takeShop_169 : decode cX7_takeShop 169 = .ok (.iastore, 1) := by decide +kernel
theorem dX7_takeShop_170 : decode cX7_takeShop 170 = .ok (.aload_n 0, 1) := by decide +kernel
theorem dX7_takeShop_171 : decode cX7_takeShop 171 = .ok (.getfield 37, 3) := by decide +kernel
theorem dX7_takeShop_174 : decode cX7_takeShop 174 = .ok (.iload_n 1, 1) := by decide +kernel
theorem dX7_takeShop_175 : decode cX7_takeShop 175 = .ok (.aload_n 0, 1) := by decide +kernel
theorem dX7_takeShop_176 : decode cX7_takeShop 176 = .ok (.getfield 43, 3) := by decide +kernel
theorem dX7_takeShop_179 : decode cX7_takeShop 179 = .ok (.bipush 6, 2) := by decide +kernel
theorem dX7_takeShop_181 : decode cX7_takeShop 181 = .ok (.iload_n 1, 1) := by decide +kernel
theorem dX7_takeShop_182 : decode cX7_takeShop 182 = .ok (.imul, 1) := by decide +kernel
theorem dX7_takeShop_183 : decode cX7_takeShop 183 = .ok (.iconst 5, 1) := by decide +kernel
theorem dX7_takeShop_184 : decode cX7_takeShop 184 = .ok (.iadd, 1) := by decide +kernel
theorem dX7_takeShop_185 : decode cX7_takeShop 185 = .ok (.iaload, 1) := by decide +kernel
theorem dX7_takeShop_186 : decode cX7_takeShop 186 = .ok (.iastore, 1) := by decide +kernel
theorem dX7_takeShop_187 : decode cX7_takeShop 187 = .ok (.iinc 1 1, 3) := by decide +kernel
theorem dX7_takeShop_190 : decode cX7_takeShop 190 = .ok (.goto (-111), 3) := by decide +kernel
theorem dX7_takeShop_193 : decode cX7_takeShop 193 = .ok (.aload_n 0, 1) := by decide +kernel
theorem dX7_takeShop_194 : decode cX7_takeShop 194 = .ok (.iconst 0, 1) := by decide +kernel
theorem dX7_takeShop_195 : decode cX7_takeShop 195 = .ok (.putfield 114, 3) := by decide +kernel
theorem dX7_takeShop_198 : decode cX7_takeShop 198 = .ok (.aload_n 0, 1) := by decide +kernel
theorem dX7_takeShop_199 : decode cX7_takeShop 199 = .ok (.iconst 0, 1) := by decide +kernel
theorem dX7_takeShop_200 : decode cX7_takeShop 200 = .ok (.putfield 117, 3) := by decide +kernel
theorem dX7_takeShop_203 : decode cX7_takeShop 203 = .ok (.aload_n 0, 1) := by decide +kernel
theorem dX7_takeShop_204 : decode cX7_takeShop 204 = .ok (.iconst 0, 1) := by decide +kernel
theorem dX7_takeShop_205 : decode cX7_takeShop 205 = .ok (.putfield 120, 3) := by decide +kernel
theorem dX7_takeShop_208 : decode cX7_takeShop 208 = .ok (.aload_n 0, 1) := by decide +kernel
theorem dX7_takeShop_209 : decode cX7_takeShop 209 = .ok (.iconst 0, 1) := by decide +kernel
theorem dX7_takeShop_210 : decode cX7_takeShop 210 = .ok (.putfield 123, 3) := by decide +kernel
theorem dX7_takeShop_213 : decode cX7_takeShop 213 = .ok (.return_, 1) := by decide +kernel
set_option maxRecDepth 20000 in
theorem ggX7_readShop_X7_isSign : GoodIn wsX7_readShop wsX7_isSign := goodIn_r _ [8, 3, 9, 26, 27, 28, 29, 30, 31, 32, 33, 34, 35, 36, 37, 38, 39, 40, 41, 42, 43, 44, 45, 46, 47, 48, 49, 50, 51, 52, 53, 54, 55, 56, 57, 58] (by decide +kernel) (by decide +kernel)
set_option maxRecDepth 20000 in
theorem gX7_readShop_X7_isSign : GoodIn wsX7_readShop (wsV RX7 126 RX7 yX7_isSign wsX7_isSign) := goodIn_app (goodIn_of _ (by decide +kernel)) ggX7_readShop_X7_isSign
set_option maxRecDepth 20000 in
theorem ggX7_readShop_X7_readHoles : GoodIn wsX7_readShop wsX7_readHoles := goodIn_r _ [13, 3, 9, 26, 27, 28, 29, 30, 31, 32, 33, 34, 35, 36, 37, 38, 39, 40, 41, 42, 43, 44, 45, 46, 47, 48, 49, 50, 51, 52, 53, 54, 55, 56, 57, 58] (by decide +kernel) (by decide +kernel)
set_option maxRecDepth 20000 in
theorem gX7_readShop_X7_readHoles : GoodIn wsX7_readShop (wsV RX7 130 RX7 yX7_readHoles wsX7_readHoles) := goodIn_app (goodIn_of _ (by decide +kernel)) ggX7_readShop_X7_readHoles
set_option maxRecDepth 20000 in
theorem ggX7_readShop_X7_digit : GoodIn wsX7_readShop wsX7_digit := goodIn_r _ [17, 3, 9, 18, 19, 7, 20, 26, 27, 28, 29, 30, 31, 32, 33, 34, 35, 36, 37, 38, 39, 40, 41, 42, 43, 44, 45, 46, 47, 48, 49, 50, 51, 52, 53, 54, 55, 56, 57, 58] (by decide +kernel) (by decide +kernel)
set_option maxRecDepth 20000 in
theorem gX7_readShop_X7_digit : GoodIn wsX7_readShop (wsV RX7 133 RX7 yX7_digit wsX7_digit) := goodIn_app (goodIn_of _ (by decide +kernel)) ggX7_readShop_X7_digit
set_option maxRecDepth 20000 in
theorem ggX7_readShop_X7_readTube : GoodIn wsX7_readShop wsX7_readTube := goodIn_r _ [24, 1, 3, 9, 25, 10, 11, 12, 7, 13, 14, 15, 16, 17, 18, 19, 20, 26, 27, 28, 29, 30, 31, 32, 33, 34, 35, 36, 37, 38, 39, 40, 41, 42, 43, 44, 45, 46, 47, 48, 49, 50, 51, 52, 53, 54, 55, 56, 57, 58] (by decide +kernel) (by decide +kernel)
set_option maxRecDepth 20000 in
theorem gX7_readShop_X7_readTube : GoodIn wsX7_readShop (wsV RX7 137 RX7 yX7_readTube wsX7_readTube) := goodIn_app (goodIn_of _ (by decide +kernel)) ggX7_readShop_X7_readTube
theorem dX7_readShop_0 : decode cX7_readShop 0 = .ok (.aload_n 0, 1) := by decide +kernel
theorem dX7_readShop_1 : decode cX7_readShop 1 = .ok (.iconst 0, 1) := by decide +kernel
theorem dX7_readShop_2 : decode cX7_readShop 2 = .ok (.putfield 111, 3) := by decide +kernel
theorem dX7_readShop_5 : decode cX7_readShop 5 = .ok (.aload_n 0, 1) := by decide +kernel
theorem dX7_readShop_6 : decode cX7_readShop 6 = .ok (.iload_n 1, 1) := by decide +kernel
theorem dX7_readShop_7 : decode cX7_readShop 7 = .ok (.bipush 98, 2) := by decide +kernel
theorem dX7_readShop_9 : decode cX7_readShop 9 = .ok (.invokevirtual 126, 3) := by decide +kernel
theorem dX7_readShop_12 : decode cX7_readShop 12 = .ok (.ifCond .ne 5, 3) := by decide +kernel
theorem dX7_readShop_15 : decode cX7_readShop 15 = .ok (.iconst 0, 1) := by decide +kernel
theorem dX7_readShop_16 : decode cX7_readShop 16 = .ok (.ireturn, 1) := by decide +kernel
theorem dX7_readShop_17 : decode cX7_readShop 17 = .ok (.iconst 0, 1) := by decide +kernel
theorem dX7_readShop_18 : decode cX7_readShop 18 = .ok (.istore_n 2, 1) := by decide +kernel
theorem dX7_readShop_19 : decode cX7_readShop 19 = .ok (.iload_n 2, 1) := by decide +kernel
theorem dX7_readShop_20 : decode cX7_readShop 20 = .ok (.bipush 10, 2) := by decide +kernel
theorem dX7_readShop_22 : decode cX7_readShop 22 = .ok (.if_icmp .ge 58, 3) := by decide +kernel
theorem dX7_readShop_25 : decode cX7_readShop 25 = .ok (.aload_n 0, 1) := by decide +kernel
theorem dX7_readShop_26 : decode cX7_readShop 26 = .ok (.getfield 40, 3) := by decide +kernel
theorem dX7_readShop_29 : decode cX7_readShop 29 = .ok (.iload_n 2, 1) := by decide +kernel
theorem dX7_readShop_30 : decode cX7_readShop 30 = .ok (.iload_n 2, 1) := by decide +kernel
theorem dX7_readShop_31 : decode cX7_readShop 31 = .ok (.iconst 2, 1) := by decide +kernel
theorem dX7_readShop_32 : decode cX7_readShop 32 = .ok (.if_icmp .ne 11, 3) := by decide +kernel
theorem dX7_readShop_35 : decode cX7_readShop 35 = .ok (.aload_n 0, 1) := by decide +kernel
theorem dX7_readShop_36 : decode cX7_readShop 36 = .ok (.iload_n 1, 1) := by decide +kernel
theorem dX7_readShop_37 : decode cX7_readShop 37 = .ok (.invokevirtual 130, 3) := by decide +kernel
theorem dX7_readShop_40 : decode cX7_readShop 40 = .ok (.goto 20, 3) := by decide +kernel
theorem dX7_readShop_43 : decode cX7_readShop 43 = .ok (.aload_n 0, 1) := by decide +kernel
theorem dX7_readShop_44 : decode cX7_readShop 44 = .ok (.iload_n 1, 1) := by decide +kernel
theorem dX7_readShop_45 : decode cX7_readShop 45 = .ok (.iconst 0, 1) := by decide +kernel
theorem dX7_readShop_46 : decode cX7_readShop 46 = .ok (.iload_n 2, 1) := by decide +kernel
theorem dX7_readShop_47 : decode cX7_readShop 47 = .ok (.ifCond .ne 8, 3) := by decide +kernel
theorem dX7_readShop_50 : decode cX7_readShop 50 = .ok (.bipush 7, 2) := by decide +kernel
theorem dX7_readShop_52 : decode cX7_readShop 52 = .ok (.goto 5, 3) := by decide +kernel
theorem dX7_readShop_55 : decode cX7_readShop 55 = .ok (.bipush 9, 2) := by decide +kernel
theorem dX7_readShop_57 : decode cX7_readShop 57 = .ok (.invokevirtual 133, 3) := by decide +kernel
theorem dX7_readShop_60 : decode cX7_readShop 60 = .ok (.iastore, 1) := by decide +kernel
theorem dX7_readShop_61 : decode cX7_readShop 61 = .ok (.aload_n 0, 1) := by decide +kernel
theorem dX7_readShop_62 : decode cX7_readShop 62 = .ok (.getfield 40, 3) := by decide +kernel
theorem dX7_readShop_65 : decode cX7_readShop 65 = .ok (.iload_n 2, 1) := by decide +kernel
theorem dX7_readShop_66 : decode cX7_readShop 66 = .ok (.iaload, 1) := by decide +kernel
theorem dX7_readShop_67 : decode cX7_readShop 67 = .ok (.bipush (-9), 2) := by decide +kernel
theorem dX7_readShop_69 : decode cX7_readShop 69 = .ok (.if_icmp .ne 5, 3) := by decide +kernel
theorem dX7_readShop_72 : decode cX7_readShop 72 = .ok (.iconst 0, 1) := by decide +kernel
theorem dX7_readShop_73 : decode cX7_readShop 73 = .ok (.ireturn, 1) := by decide +kernel
theorem dX7_readShop_74 : decode cX7_readShop 74 = .ok (.iinc 2 1, 3) := by decide +kernel
theorem dX7_readShop_77 : decode cX7_readShop 77 = .ok (.goto (-58), 3) := by decide +kernel
theorem dX7_readShop_80 : decode cX7_readShop 80 = .ok (.aload_n 0, 1) := by decide +kernel
theorem dX7_readShop_81 : decode cX7_readShop 81 = .ok (.getfield 111, 3) := by decide +kernel
theorem dX7_readShop_84 : decode cX7_readShop 84 = .ok (.ifCond .eq 20, 3) := by decide +kernel
theorem dX7_readShop_87 : decode cX7_readShop 87 = .ok (.aload_n 0, 1) := by decide +kernel
theorem dX7_readShop_88 : decode cX7_readShop 88 = .ok (.getfield 111, 3) := by decide +kernel
theorem dX7_readShop_91 : decode cX7_readShop 91 = .ok (.bipush 6, 2) := by decide +kernel
theorem dX7_readShop_93 : decode cX7_readShop 93 = .ok (.if_icmp .ge 31, 3) := by decide +kernel
theorem dX7_readShop_96 : decode cX7_readShop 96 = .ok (.aload_n 0, 1) := by decide +kernel
theorem dX7_readShop_97 : decode cX7_readShop 97 = .ok (.getfield 75, 3) := by decide +kernel
theorem dX7_readShop_100 : decode cX7_readShop 100 = .ok (.iload_n 1, 1) := by decide +kernel
theorem dX7_readShop_101 : decode cX7_readShop 101 = .ok (.if_icmp .ge 23, 3) := by decide +kernel
theorem dX7_readShop_104 : decode cX7_readShop 104 = .ok (.aload_n 0, 1) := by decide +kernel
theorem dX7_readShop_105 : decode cX7_readShop 105 = .ok (.iload_n 1, 1) := by decide +kernel
theorem dX7_readShop_106 : decode cX7_readShop 106 = .ok (.bipush 59, 2) := by decide +kernel
theorem dX7_readShop_108 : decode cX7_readShop 108 = .ok (.invokevirtual 126, 3) := by decide +kernel
theorem dX7_readShop_111 : decode cX7_readShop 111 = .ok (.ifCond .eq 11, 3) := by decide +kernel
theorem dX7_readShop_114 : decode cX7_readShop 114 = .ok (.aload_n 0, 1) := by decide +kernel
theorem dX7_readShop_115 : decode cX7_readShop 115 = .ok (.iload_n 1, 1) := by decide +kernel
theorem dX7_readShop_116 : decode cX7_readShop 116 = .ok (.invokevirtual 137, 3) := by decide +kernel
theorem dX7_readShop_119 : decode cX7_readShop 119 = .ok (.ifCond .ne (-39), 3) := by decide +kernel
theorem dX7_readShop_122 : decode cX7_readShop 122 = .ok (.iconst 0, 1) := by decide +kernel
theorem dX7_readShop_123 : decode cX7_readShop 123 = .ok (.ireturn, 1) := by decide +kernel
theorem dX7_readShop_124 : decode cX7_readShop 124 = .ok (.aload_n 0, 1) := by decide +kernel
theorem dX7_readShop_125 : decode cX7_readShop 125 = .ok (.getfield 75, 3) := by decide +kernel
theorem dX7_readShop_128 : decode cX7_readShop 128 = .ok (.iload_n 1, 1) := by decide +kernel
theorem dX7_readShop_129 : decode cX7_readShop 129 = .ok (.if_icmp .ne 7, 3) := by decide +kernel
theorem dX7_readShop_132 : decode cX7_readShop 132 = .ok (.iconst 1, 1) := by decide +kernel
theorem dX7_readShop_133 : decode cX7_readShop 133 = .ok (.goto 4, 3) := by decide +kernel
theorem dX7_readShop_136 : decode cX7_readShop 136 = .ok (.iconst 0, 1) := by decide +kernel
theorem dX7_readShop_137 : decode cX7_readShop 137 = .ok (.ireturn, 1) := by decide +kernel
set_option maxRecDepth 20000 in
theorem ggX7_readTube_X7_readHoles : GoodIn wsX7_readTube wsX7_readHoles := goodIn_r _ [9, 2, 3, 17, 18, 19, 20, 21, 22, 23, 24, 25, 26, 27, 28, 29, 30, 31, 32, 33, 34, 35, 36, 37, 38, 39, 40, 41, 42, 43, 44, 45, 46, 47, 48, 49] (by decide +kernel) (by decide +kernel)
set_option maxRecDepth 20000 in
theorem gX7_readTube_X7_readHoles : GoodIn wsX7_readTube (wsV RX7 130 RX7 yX7_readHoles wsX7_readHoles) := goodIn_app (goodIn_of _ (by decide +kernel)) ggX7_readTube_X7_readHoles
set_option maxRecDepth 20000 in
theorem ggX7_readTube_X7_digit : GoodIn wsX7_readTube wsX7_digit := goodIn_r _ [13, 2, 3, 14, 15, 8, 16, 17, 18, 19, 20, 21, 22, 23, 24, 25, 26, 27, 28, 29, 30, 31, 32, 33, 34, 35, 36, 37, 38, 39, 40, 41, 42, 43, 44, 45, 46, 47, 48, 49] (by decide +kernel) (by decide +kernel)
set_option maxRecDepth 20000 in
theorem gX7_readTube_X7_digit : GoodIn wsX7_readTube (wsV RX7 133 RX7 yX7_digit wsX7_digit) := goodIn_app (goodIn_of _ (by decide +kernel)) ggX7_readTube_X7_digit
theorem dX7_readTube_0 : decode cX7_readTube 0 = .ok (.bipush 6, 2) := by decide +kernel
theorem dX7_readTube_2 : decode cX7_readTube 2 = .ok (.aload_n 0, 1) := by decide +kernel
theorem dX7_readTube_3 : decode cX7_readTube 3 = .ok (.getfield 111, 3) := by decide +kernel
theorem dX7_readTube_6 : decode cX7_readTube 6 = .ok (.imul, 1) := by decide +kernel
theorem dX7_readTube_7 : decode cX7_readTube 7 = .ok (.istore_n 2, 1) := by decide +kernel
theorem dX7_readTube_8 : decode cX7_readTube 8 = .ok (.aload_n 0, 1) := by decide +kernel
theorem dX7_readTube_9 : decode cX7_readTube 9 = .ok (.getfield 75, 3) := by decide +kernel
theorem dX7_readTube_12 : decode cX7_readTube 12 = .ok (.iload_n 1, 1) := by decide +kernel
theorem dX7_readTube_13 : decode cX7_readTube 13 = .ok (.if_icmp .ge 15, 3) := by decide +kernel
theorem dX7_readTube_16 : decode cX7_readTube 16 = .ok (.aload_n 0, 1) := by decide +kernel
theorem dX7_readTube_17 : decode cX7_readTube 17 = .ok (.getfield 16, 3) := by decide +kernel
theorem dX7_readTube_20 : decode cX7_readTube 20 = .ok (.aload_n 0, 1) := by decide +kernel
theorem dX7_readTube_21 : decode cX7_readTube 21 = .ok (.getfield 75, 3) := by decide +kernel
theorem dX7_readTube_24 : decode cX7_readTube 24 = .ok (.iaload, 1) := by decide +kernel
theorem dX7_readTube_25 : decode cX7_readTube 25 = .ok (.goto 4, 3) := by decide +kernel
theorem dX7_readTube_28 : decode cX7_readTube 28 = .ok (.iconst 0, 1) := by decide +kernel
theorem dX7_readTube_29 : decode cX7_readTube 29 = .ok (.istore_n 3, 1) := by decide +kernel
theorem dX7_readTube_30 : decode cX7_readTube 30 = .ok (.aload_n 0, 1) := by decide +kernel
theorem dX7_readTube_31 : decode cX7_readTube 31 = .ok (.getfield 43, 3) := by decide +kernel
theorem dX7_readTube_34 : decode cX7_readTube 34 = .ok (.iload_n 2, 1) := by decide +kernel
theorem dX7_readTube_35 : decode cX7_readTube 35 = .ok (.iload_n 3, 1) := by decide +kernel
theorem dX7_readTube_36 : decode cX7_readTube 36 = .ok (.bipush 116, 2) := by decide +kernel
theorem dX7_readTube_38 : decode cX7_readTube 38 = .ok (.if_icmp .ne 7, 3) := by decide +kernel
theorem dX7_readTube_41 : decode cX7_readTube 41 = .ok (.iconst 0, 1) := by decide +kernel
theorem dX7_readTube_42 : decode cX7_readTube 42 = .ok (.goto 25, 3) := by decide +kernel
theorem dX7_readTube_45 : decode cX7_readTube 45 = .ok (.iload_n 3, 1) := by decide +kernel
theorem dX7_readTube_46 : decode cX7_readTube 46 = .ok (.bipush 115, 2) := by decide +kernel
theorem dX7_readTube_48 : decode cX7_readTube 48 = .ok (.if_icmp .ne 7, 3) := by decide +kernel
theorem dX7_readTube_51 : decode cX7_readTube 51 = .ok (.iconst 1, 1) := by decide +kernel
theorem dX7_readTube_52 : decode cX7_readTube 52 = .ok (.goto 15, 3) := by decide +kernel
theorem dX7_readTube_55 : decode cX7_readTube 55 = .ok (.iload_n 3, 1) := by decide +kernel
theorem dX7_readTube_56 : decode cX7_readTube 56 = .ok (.bipush 111, 2) := by decide +kernel
theorem dX7_readTube_58 : decode cX7_readTube 58 = .ok (.if_icmp .ne 7, 3) := by decide +kernel
theorem dX7_readTube_61 : decode cX7_readTube 61 = .ok (.iconst 2, 1) := by decide +kernel
theorem dX7_readTube_62 : decode cX7_readTube 62 = .ok (.goto 5, 3) := by decide +kernel
theorem dX7_readTube_65 : decode cX7_readTube 65 = .ok (.bipush (-9), 2) := by decide +kernel
theorem dX7_readTube_67 : decode cX7_readTube 67 = .ok (.iastore, 1) := by decide +kernel
theorem dX7_readTube_68 : decode cX7_readTube 68 = .ok (.aload_n 0, 1) := by decide +kernel
theorem dX7_readTube_69 : decode cX7_readTube 69 = .ok (.getfield 43, 3) := by decide +kernel
theorem dX7_readTube_72 : decode cX7_readTube 72 = .ok (.iload_n 2, 1) := by decide +kernel
theorem dX7_readTube_73 : decode cX7_readTube 73 = .ok (.iaload, 1) := by decide +kernel
theorem dX7_readTube_74 : decode cX7_readTube 74 = .ok (.bipush (-9), 2) := by decide +kernel
theorem dX7_readTube_76 : decode cX7_readTube 76 = .ok (.if_icmp .ne 5, 3) := by decide +kernel
theorem dX7_readTube_79 : decode cX7_readTube 79 = .ok (.iconst 0, 1) := by decide +kernel
theorem dX7_readTube_80 : decode cX7_readTube 80 = .ok (.ireturn, 1) := by decide +kernel
theorem dX7_readTube_81 : decode cX7_readTube 81 = .ok (.aload_n 0, 1) := by decide +kernel
theorem dX7_readTube_82 : decode cX7_readTube 82 = .ok (.dup, 1) := by decide +kernel
theorem dX7_readTube_83 : decode cX7_readTube 83 = .ok (.getfield 75, 3) := by decide +kernel
theorem dX7_readTube_86 : decode cX7_readTube 86 = .ok (.iconst 1, 1) := by decide +kernel
theorem dX7_readTube_87 : decode cX7_readTube 87 = .ok (.iadd, 1) := by decide +kernel
theorem dX7_readTube_88 : decode cX7_readTube 88 = .ok (.putfield 75, 3) := by decide +kernel
theorem dX7_readTube_91 : decode cX7_readTube 91 = .ok (.iconst 1, 1) := by decide +kernel
theorem dX7_readTube_92 : decode cX7_readTube 92 = .ok (.istore 4, 2) := by decide +kernel
theorem dX7_readTube_94 : decode cX7_readTube 94 = .ok (.iload 4, 2) := by decide +kernel
theorem dX7_readTube_96 : decode cX7_readTube 96 = .ok (.bipush 6, 2) := by decide +kernel
theorem dX7_readTube_98 : decode cX7_readTube 98 = .ok (.if_icmp .ge 67, 3) := by decide +kernel
theorem dX7_readTube_101 : decode cX7_readTube 101 = .ok (.aload_n 0, 1) := by decide +kernel
theorem dX7_readTube_102 : decode cX7_readTube 102 = .ok (.getfield 43, 3) := by decide +kernel
theorem dX7_readTube_105 : decode cX7_readTube 105 = .ok (.iload_n 2, 1) := by decide +kernel
theorem dX7_readTube_106 : decode cX7_readTube 106 = .ok (.iload 4, 2) := by decide +kernel
theorem dX7_readTube_108 : decode cX7_readTube 108 = .ok (.iadd, 1) := by decide +kernel
theorem dX7_readTube_109 : decode cX7_readTube 109 = .ok (.iload 4, 2) := by decide +kernel
theorem dX7_readTube_111 : decode cX7_readTube 111 = .ok (.iconst 3, 1) := by decide +kernel
theorem dX7_readTube_112 : decode cX7_readTube 112 = .ok (.if_icmp .ne 11, 3) := by decide +kernel
theorem dX7_readTube_115 : decode cX7_readTube 115 = .ok (.aload_n 0, 1) := by decide +kernel
theorem dX7_readTube_116 : decode cX7_readTube 116 = .ok (.iload_n 1, 1) := by decide +kernel
theorem dX7_readTube_117 : decode cX7_readTube 117 = .ok (.invokevirtual 130, 3) := by decide +kernel
theorem dX7_readTube_120 : decode cX7_readTube 120 = .ok (.goto 22, 3) := by decide +kernel
theorem dX7_readTube_123 : decode cX7_readTube 123 = .ok (.aload_n 0, 1) := by decide +kernel
theorem dX7_readTube_124 : decode cX7_readTube 124 = .ok (.iload_n 1, 1) := by decide +kernel
theorem dX7_readTube_125 : decode cX7_readTube 125 = .ok (.iconst 0, 1) := by decide +kernel
theorem dX7_readTube_126 : decode cX7_readTube 126 = .ok (.iload 4, 2) := by decide +kernel
theorem dX7_readTube_128 : decode cX7_readTube 128 = .ok (.iconst 1, 1) := by decide +kernel
theorem dX7_readTube_129 : decode cX7_readTube 129 = .ok (.if_icmp .ne 8, 3) := by decide +kernel
theorem dX7_readTube_132 : decode cX7_readTube 132 = .ok (.bipush 7, 2) := by decide +kernel
theorem dX7_readTube_134 : decode cX7_readTube 134 = .ok (.goto 5, 3) := by decide +kernel
theorem dX7_readTube_137 : decode cX7_readTube 137 = .ok (.bipush 9, 2) := by decide +kernel
theorem dX7_readTube_139 : decode cX7_readTube 139 = .ok (.invokevirtual 133, 3) := by decide +kernel
theorem dX7_readTube_142 : decode cX7_readTube 142 = .ok (.iastore, 1) := by decide +kernel
theorem dX7_readTube_143 : decode cX7_readTube 143 = .ok (.aload_n 0, 1) := by decide +kernel
theorem dX7_readTube_144 : decode cX7_readTube 144 = .ok (.getfield 43, 3) := by decide +kernel
theorem dX7_readTube_147 : decode cX7_readTube 147 = .ok (.iload_n 2, 1) := by decide +kernel
theorem dX7_readTube_148 : decode cX7_readTube 148 = .ok (.iload 4, 2) := by decide +kernel
theorem dX7_readTube_150 : decode cX7_readTube 150 = .ok (.iadd, 1) := by decide +kernel
theorem dX7_readTube_151 : decode cX7_readTube 151 = .ok (.iaload, 1) := by decide +kernel
theorem dX7_readTube_152 : decode cX7_readTube 152 = .ok (.bipush (-9), 2) := by decide +kernel
theorem dX7_readTube_154 : decode cX7_readTube 154 = .ok (.if_icmp .ne 5, 3) := by decide +kernel
theorem dX7_readTube_157 : decode cX7_readTube 157 = .ok (.iconst 0, 1) := by decide +kernel
theorem dX7_readTube_158 : decode cX7_readTube 158 = .ok (.ireturn, 1) := by decide +kernel
theorem dX7_readTube_159 : decode cX7_readTube 159 = .ok (.iinc 4 1, 3) := by decide +kernel
theorem dX7_readTube_162 : decode cX7_readTube 162 = .ok (.goto (-68), 3) := by decide +kernel
theorem dX7_readTube_165 : decode cX7_readTube 165 = .ok (.aload_n 0, 1) := by decide +kernel
theorem dX7_readTube_166 : decode cX7_readTube 166 = .ok (.dup, 1) := by decide +kernel
theorem dX7_readTube_167 : decode cX7_readTube 167 = .ok (.getfield 111, 3) := by decide +kernel
theorem dX7_readTube_170 : decode cX7_readTube 170 = .ok (.iconst 1, 1) := by decide +kernel
theorem dX7_readTube_171 : decode cX7_readTube 171 = .ok (.iadd, 1) := by decide +kernel
theorem dX7_readTube_172 : decode cX7_readTube 172 = .ok (.putfield 111, 3) := by decide +kernel
theorem dX7_readTube_175 : decode cX7_readTube 175 = .ok (.iconst 1, 1) := by decide +kernel
theorem dX7_readTube_176 : decode cX7_readTube 176 = .ok (.ireturn, 1) := by decide +kernel
set_option maxRecDepth 20000 in
theorem ggX7_wanted_X7_within : GoodIn wsX7_wanted wsX7_within := goodIn_r _ [9] (by decide +kernel) (by decide +kernel)
set_option maxRecDepth 20000 in
theorem gX7_wanted_X7_within : GoodIn wsX7_wanted (va_wsS RX7 68 yX7_within wsX7_within) := goodIn_app (goodIn_of _ (by decide +kernel)) ggX7_wanted_X7_within
theorem dX7_wanted_0 : decode cX7_wanted 0 = .ok (.iload_n 1, 1) := by decide +kernel
theorem dX7_wanted_1 : decode cX7_wanted 1 = .ok (.iconst 0, 1) := by decide +kernel
theorem dX7_wanted_2 : decode cX7_wanted 2 = .ok (.iconst 3, 1) := by decide +kernel
theorem dX7_wanted_3 : decode cX7_wanted 3 = .ok (.invokestatic 68, 3) := by decide +kernel
theorem dX7_wanted_6 : decode cX7_wanted 6 = .ok (.ifCond .ne 6, 3) := by decide +kernel
theorem dX7_wanted_9 : decode cX7_wanted 9 = .ok (.bipush (-2), 2) := by decide +kernel
theorem dX7_wanted_11 : decode cX7_wanted 11 = .ok (.ireturn, 1) := by decide +kernel
theorem dX7_wanted_12 : decode cX7_wanted 12 = .ok (.aload_n 0, 1) := by decide +kernel
theorem dX7_wanted_13 : decode cX7_wanted 13 = .ok (.getfield 72, 3) := by decide +kernel
theorem dX7_wanted_16 : decode cX7_wanted 16 = .ok (.ifCond .ne 6, 3) := by decide +kernel
theorem dX7_wanted_19 : decode cX7_wanted 19 = .ok (.bipush (-3), 2) := by decide +kernel
theorem dX7_wanted_21 : decode cX7_wanted 21 = .ok (.ireturn, 1) := by decide +kernel
theorem dX7_wanted_22 : decode cX7_wanted 22 = .ok (.iload_n 1, 1) := by decide +kernel
theorem dX7_wanted_23 : decode cX7_wanted 23 = .ok (.ifCond .ne 10, 3) := by decide +kernel
theorem dX7_wanted_26 : decode cX7_wanted 26 = .ok (.aload_n 0, 1) := by decide +kernel
theorem dX7_wanted_27 : decode cX7_wanted 27 = .ok (.getfield 99, 3) := by decide +kernel
theorem dX7_wanted_30 : decode cX7_wanted 30 = .ok (.goto 31, 3) := by decide +kernel
theorem dX7_wanted_33 : decode cX7_wanted 33 = .ok (.iload_n 1, 1) := by decide +kernel
theorem dX7_wanted_34 : decode cX7_wanted 34 = .ok (.iconst 1, 1) := by decide +kernel
theorem dX7_wanted_35 : decode cX7_wanted 35 = .ok (.if_icmp .ne 10, 3) := by decide +kernel
theorem dX7_wanted_38 : decode cX7_wanted 38 = .ok (.aload_n 0, 1) := by decide +kernel
theorem dX7_wanted_39 : decode cX7_wanted 39 = .ok (.getfield 102, 3) := by decide +kernel
theorem dX7_wanted_42 : decode cX7_wanted 42 = .ok (.goto 19, 3) := by decide +kernel
theorem dX7_wanted_45 : decode cX7_wanted 45 = .ok (.iload_n 1, 1) := by decide +kernel
theorem dX7_wanted_46 : decode cX7_wanted 46 = .ok (.iconst 2, 1) := by decide +kernel
theorem dX7_wanted_47 : decode cX7_wanted 47 = .ok (.if_icmp .ne 10, 3) := by decide +kernel
theorem dX7_wanted_50 : decode cX7_wanted 50 = .ok (.aload_n 0, 1) := by decide +kernel
theorem dX7_wanted_51 : decode cX7_wanted 51 = .ok (.getfield 105, 3) := by decide +kernel
theorem dX7_wanted_54 : decode cX7_wanted 54 = .ok (.goto 7, 3) := by decide +kernel
theorem dX7_wanted_57 : decode cX7_wanted 57 = .ok (.aload_n 0, 1) := by decide +kernel
theorem dX7_wanted_58 : decode cX7_wanted 58 = .ok (.getfield 108, 3) := by decide +kernel
theorem dX7_wanted_61 : decode cX7_wanted 61 = .ok (.ireturn, 1) := by decide +kernel
set_option maxRecDepth 20000 in
theorem ggX7_seen_X7_within : GoodIn wsX7_seen wsX7_within := goodIn_r _ [6] (by decide +kernel) (by decide +kernel)
set_option maxRecDepth 20000 in
theorem gX7_seen_X7_within : GoodIn wsX7_seen (va_wsS RX7 68 yX7_within wsX7_within) := goodIn_app (goodIn_of _ (by decide +kernel)) ggX7_seen_X7_within
theorem dX7_seen_0 : decode cX7_seen 0 = .ok (.iload_n 1, 1) := by decide +kernel
theorem dX7_seen_1 : decode cX7_seen 1 = .ok (.iconst 0, 1) := by decide +kernel
theorem dX7_seen_2 : decode cX7_seen 2 = .ok (.iconst 5, 1) := by decide +kernel
theorem dX7_seen_3 : decode cX7_seen 3 = .ok (.invokestatic 68, 3) := by decide +kernel
theorem dX7_seen_6 : decode cX7_seen 6 = .ok (.ifCond .ne 5, 3) := by decide +kernel
theorem dX7_seen_9 : decode cX7_seen 9 = .ok (.iconst (-1), 1) := by decide +kernel
theorem dX7_seen_10 : decode cX7_seen 10 = .ok (.ireturn, 1) := by decide +kernel
theorem dX7_seen_11 : decode cX7_seen 11 = .ok (.aload_n 0, 1) := by decide +kernel
theorem dX7_seen_12 : decode cX7_seen 12 = .ok (.getfield 72, 3) := by decide +kernel
theorem dX7_seen_15 : decode cX7_seen 15 = .ok (.ifCond .ne 8, 3) := by decide +kernel
theorem dX7_seen_18 : decode cX7_seen 18 = .ok (.bipush (-3), 2) := by decide +kernel
theorem dX7_seen_20 : decode cX7_seen 20 = .ok (.goto 9, 3) := by decide +kernel
theorem dX7_seen_23 : decode cX7_seen 23 = .ok (.aload_n 0, 1) := by decide +kernel
theorem dX7_seen_24 : decode cX7_seen 24 = .ok (.getfield 19, 3) := by decide +kernel
theorem dX7_seen_27 : decode cX7_seen 27 = .ok (.iload_n 1, 1) := by decide +kernel
theorem dX7_seen_28 : decode cX7_seen 28 = .ok (.iaload, 1) := by decide +kernel
theorem dX7_seen_29 : decode cX7_seen 29 = .ok (.ireturn, 1) := by decide +kernel
theorem dX7_looksColour_0 : decode cX7_looksColour 0 = .ok (.aload_n 0, 1) := by decide +kernel
theorem dX7_looksColour_1 : decode cX7_looksColour 1 = .ok (.getfield 22, 3) := by decide +kernel
theorem dX7_looksColour_4 : decode cX7_looksColour 4 = .ok (.iload_n 1, 1) := by decide +kernel
theorem dX7_looksColour_5 : decode cX7_looksColour 5 = .ok (.iaload, 1) := by decide +kernel
theorem dX7_looksColour_6 : decode cX7_looksColour 6 = .ok (.iconst 1, 1) := by decide +kernel
theorem dX7_looksColour_7 : decode cX7_looksColour 7 = .ok (.if_icmp .ne 14, 3) := by decide +kernel
theorem dX7_looksColour_10 : decode cX7_looksColour 10 = .ok (.aload_n 0, 1) := by decide +kernel
theorem dX7_looksColour_11 : decode cX7_looksColour 11 = .ok (.getfield 25, 3) := by decide +kernel
theorem dX7_looksColour_14 : decode cX7_looksColour 14 = .ok (.iload_n 1, 1) := by decide +kernel
theorem dX7_looksColour_15 : decode cX7_looksColour 15 = .ok (.iaload, 1) := by decide +kernel
theorem dX7_looksColour_16 : decode cX7_looksColour 16 = .ok (.iconst 1, 1) := by decide +kernel
theorem dX7_looksColour_17 : decode cX7_looksColour 17 = .ok (.iadd, 1) := by decide +kernel
theorem dX7_looksColour_18 : decode cX7_looksColour 18 = .ok (.goto 9, 3) := by decide +kernel
theorem dX7_looksColour_21 : decode cX7_looksColour 21 = .ok (.aload_n 0, 1) := by decide +kernel
theorem dX7_looksColour_22 : decode cX7_looksColour 22 = .ok (.getfield 25, 3) := by decide +kernel
theorem dX7_looksColour_25 : decode cX7_looksColour 25 = .ok (.iload_n 1, 1) := by decide +kernel
theorem dX7_looksColour_26 : decode cX7_looksColour 26 = .ok (.iaload, 1) := by decide +kernel
theorem dX7_looksColour_27 : decode cX7_looksColour 27 = .ok (.istore_n 2, 1) := by decide +kernel
theorem dX7_looksColour_28 : decode cX7_looksColour 28 = .ok (.iload_n 2, 1) := by decide +kernel
theorem dX7_looksColour_29 : decode cX7_looksColour 29 = .ok (.bipush 7, 2) := by decide +kernel
theorem dX7_looksColour_31 : decode cX7_looksColour 31 = .ok (.if_icmp .le 8, 3) := by decide +kernel
theorem dX7_looksColour_34 : decode cX7_looksColour 34 = .ok (.bipush 7, 2) := by decide +kernel
theorem dX7_looksColour_36 : decode cX7_looksColour 36 = .ok (.goto 4, 3) := by decide +kernel
theorem dX7_looksColour_39 : decode cX7_looksColour 39 = .ok (.iload_n 2, 1) := by decide +kernel
theorem dX7_looksColour_40 : decode cX7_looksColour 40 = .ok (.ireturn, 1) := by decide +kernel
theorem dX7_looksSize_0 : decode cX7_looksSize 0 = .ok (.aload_n 0, 1) := by decide +kernel
theorem dX7_looksSize_1 : decode cX7_looksSize 1 = .ok (.getfield 22, 3) := by decide +kernel
theorem dX7_looksSize_4 : decode cX7_looksSize 4 = .ok (.iload_n 1, 1) := by decide +kernel
theorem dX7_looksSize_5 : decode cX7_looksSize 5 = .ok (.iaload, 1) := by decide +kernel
theorem dX7_looksSize_6 : decode cX7_looksSize 6 = .ok (.iconst 2, 1) := by decide +kernel
theorem dX7_looksSize_7 : decode cX7_looksSize 7 = .ok (.if_icmp .ne 23, 3) := by decide +kernel
theorem dX7_looksSize_10 : decode cX7_looksSize 10 = .ok (.aload_n 0, 1) := by decide +kernel
theorem dX7_looksSize_11 : decode cX7_looksSize 11 = .ok (.getfield 28, 3) := by decide +kernel
theorem dX7_looksSize_14 : decode cX7_looksSize 14 = .ok (.iload_n 1, 1) := by decide +kernel
theorem dX7_looksSize_15 : decode cX7_looksSize 15 = .ok (.iaload, 1) := by decide +kernel
theorem dX7_looksSize_16 : decode cX7_looksSize 16 = .ok (.ifCond .le 14, 3) := by decide +kernel
theorem dX7_looksSize_19 : decode cX7_looksSize 19 = .ok (.aload_n 0, 1) := by decide +kernel
theorem dX7_looksSize_20 : decode cX7_looksSize 20 = .ok (.getfield 28, 3) := by decide +kernel
theorem dX7_looksSize_23 : decode cX7_looksSize 23 = .ok (.iload_n 1, 1) := by decide +kernel
theorem dX7_looksSize_24 : decode cX7_looksSize 24 = .ok (.iaload, 1) := by decide +kernel
theorem dX7_looksSize_25 : decode cX7_looksSize 25 = .ok (.iconst 1, 1) := by decide +kernel
theorem dX7_looksSize_26 : decode cX7_looksSize 26 = .ok (.isub, 1) := by decide +kernel
theorem dX7_looksSize_27 : decode cX7_looksSize 27 = .ok (.goto 9, 3) := by decide +kernel
theorem dX7_looksSize_30 : decode cX7_looksSize 30 = .ok (.aload_n 0, 1) := by decide +kernel
theorem dX7_looksSize_31 : decode cX7_looksSize 31 = .ok (.getfield 28, 3) := by decide +kernel
theorem dX7_looksSize_34 : decode cX7_looksSize 34 = .ok (.iload_n 1, 1) := by decide +kernel
theorem dX7_looksSize_35 : decode cX7_looksSize 35 = .ok (.iaload, 1) := by decide +kernel
theorem dX7_looksSize_36 : decode cX7_looksSize 36 = .ok (.ireturn, 1) := by decide +kernel
theorem dX7_rememberedColour_0 : decode cX7_rememberedColour 0 = .ok (.aload_n 0, 1) := by decide +kernel
theorem dX7_rememberedColour_1 : decode cX7_rememberedColour 1 = .ok (.getfield 99, 3) := by decide +kernel
theorem dX7_rememberedColour_4 : decode cX7_rememberedColour 4 = .ok (.aload_n 0, 1) := by decide +kernel
theorem dX7_rememberedColour_5 : decode cX7_rememberedColour 5 = .ok (.getfield 114, 3) := by decide +kernel
theorem dX7_rememberedColour_8 : decode cX7_rememberedColour 8 = .ok (.iadd, 1) := by decide +kernel
theorem dX7_rememberedColour_9 : decode cX7_rememberedColour 9 = .ok (.istore_n 1, 1) := by decide +kernel
theorem dX7_rememberedColour_10 : decode cX7_rememberedColour 10 = .ok (.iload_n 1, 1) := by decide +kernel
theorem dX7_rememberedColour_11 : decode cX7_rememberedColour 11 = .ok (.bipush 7, 2) := by decide +kernel
theorem dX7_rememberedColour_13 : decode cX7_rememberedColour 13 = .ok (.if_icmp .le 8, 3) := by decide +kernel
theorem dX7_rememberedColour_16 : decode cX7_rememberedColour 16 = .ok (.bipush 7, 2) := by decide +kernel
theorem dX7_rememberedColour_18 : decode cX7_rememberedColour 18 = .ok (.goto 4, 3) := by decide +kernel
theorem dX7_rememberedColour_21 : decode cX7_rememberedColour 21 = .ok (.iload_n 1, 1) := by decide +kernel
theorem dX7_rememberedColour_22 : decode cX7_rememberedColour 22 = .ok (.ireturn, 1) := by decide +kernel
theorem dX7_rememberedSize_0 : decode cX7_rememberedSize 0 = .ok (.aload_n 0, 1) := by decide +kernel
theorem dX7_rememberedSize_1 : decode cX7_rememberedSize 1 = .ok (.getfield 102, 3) := by decide +kernel
theorem dX7_rememberedSize_4 : decode cX7_rememberedSize 4 = .ok (.aload_n 0, 1) := by decide +kernel
theorem dX7_rememberedSize_5 : decode cX7_rememberedSize 5 = .ok (.getfield 117, 3) := by decide +kernel
theorem dX7_rememberedSize_8 : decode cX7_rememberedSize 8 = .ok (.iadd, 1) := by decide +kernel
theorem dX7_rememberedSize_9 : decode cX7_rememberedSize 9 = .ok (.istore_n 1, 1) := by decide +kernel
theorem dX7_rememberedSize_10 : decode cX7_rememberedSize 10 = .ok (.iload_n 1, 1) := by decide +kernel
theorem dX7_rememberedSize_11 : decode cX7_rememberedSize 11 = .ok (.bipush 9, 2) := by decide +kernel
theorem dX7_rememberedSize_13 : decode cX7_rememberedSize 13 = .ok (.if_icmp .le 8, 3) := by decide +kernel
theorem dX7_rememberedSize_16 : decode cX7_rememberedSize 16 = .ok (.bipush 9, 2) := by decide +kernel
theorem dX7_rememberedSize_18 : decode cX7_rememberedSize 18 = .ok (.goto 4, 3) := by decide +kernel
theorem dX7_rememberedSize_21 : decode cX7_rememberedSize 21 = .ok (.iload_n 1, 1) := by decide +kernel
theorem dX7_rememberedSize_22 : decode cX7_rememberedSize 22 = .ok (.ireturn, 1) := by decide +kernel
theorem dX7_apart_0 : decode cX7_apart 0 = .ok (.iload_n 0, 1) := by decide +kernel
theorem dX7_apart_1 : decode cX7_apart 1 = .ok (.iload_n 1, 1) := by decide +kernel
theorem dX7_apart_2 : decode cX7_apart 2 = .ok (.if_icmp .le 9, 3) := by decide +kernel
theorem dX7_apart_5 : decode cX7_apart 5 = .ok (.iload_n 0, 1) := by decide +kernel
theorem dX7_apart_6 : decode cX7_apart 6 = .ok (.iload_n 1, 1) := by decide +kernel
theorem dX7_apart_7 : decode cX7_apart 7 = .ok (.isub, 1) := by decide +kernel
theorem dX7_apart_8 : decode cX7_apart 8 = .ok (.goto 6, 3) := by decide +kernel
theorem dX7_apart_11 : decode cX7_apart 11 = .ok (.iload_n 1, 1) := by decide +kernel
theorem dX7_apart_12 : decode cX7_apart 12 = .ok (.iload_n 0, 1) := by decide +kernel
theorem dX7_apart_13 : decode cX7_apart 13 = .ok (.isub, 1) := by decide +kernel
theorem dX7_apart_14 : decode cX7_apart 14 = .ok (.ireturn, 1) := by decide +kernel
set_option maxRecDepth 20000 in
theorem ggX7_farFrom_X7_looksColour : GoodIn wsX7_farFrom wsX7_looksColour := goodIn_r _ [7, 8, 9, 18, 19, 20, 21, 22, 23, 24, 25, 26, 27, 28, 29, 30, 31, 32, 33, 34, 35, 36, 37, 38, 39, 40, 41, 42, 43, 44, 45, 46, 47, 48, 49, 50] (by decide +kernel) (by decide +kernel)
set_option maxRecDepth 20000 in
theorem gX7_farFrom_X7_looksColour : GoodIn wsX7_farFrom (wsV RX7 140 RX7 yX7_looksColour wsX7_looksColour) := goodIn_app (goodIn_of _ (by decide +kernel)) ggX7_farFrom_X7_looksColour
set_option maxRecDepth 20000 in
theorem ggX7_farFrom_X7_apart : GoodIn wsX7_farFrom wsX7_apart := goodIn_r _ [12] (by decide +kernel) (by decide +kernel)
set_option maxRecDepth 20000 in
theorem gX7_farFrom_X7_apart : GoodIn wsX7_farFrom (va_wsS RX7 143 yX7_apart wsX7_apart) := goodIn_app (goodIn_of _ (by decide +kernel)) ggX7_farFrom_X7_apart
set_option maxRecDepth 20000 in
theorem ggX7_farFrom_X7_looksSize : GoodIn wsX7_farFrom wsX7_looksSize := goodIn_r _ [16, 8, 17, 18, 19, 20, 21, 22, 23, 24, 25, 26, 27, 28, 29, 30, 31, 32, 33, 34, 35, 36, 37, 38, 39, 40, 41, 42, 43, 44, 45, 46, 47, 48, 49, 50] (by decide +kernel) (by decide +kernel)
set_option maxRecDepth 20000 in
theorem gX7_farFrom_X7_looksSize : GoodIn wsX7_farFrom (wsV RX7 147 RX7 yX7_looksSize wsX7_looksSize) := goodIn_app (goodIn_of _ (by decide +kernel)) ggX7_farFrom_X7_looksSize
theorem dX7_farFrom_0 : decode cX7_farFrom 0 = .ok (.aload_n 0, 1) := by decide +kernel
theorem dX7_farFrom_1 : decode cX7_farFrom 1 = .ok (.iload_n 1, 1) := by decide +kernel
theorem dX7_farFrom_2 : decode cX7_farFrom 2 = .ok (.invokevirtual 140, 3) := by decide +kernel
theorem dX7_farFrom_5 : decode cX7_farFrom 5 = .ok (.iload_n 2, 1) := by decide +kernel
theorem dX7_farFrom_6 : decode cX7_farFrom 6 = .ok (.invokestatic 143, 3) := by decide +kernel
theorem dX7_farFrom_9 : decode cX7_farFrom 9 = .ok (.aload_n 0, 1) := by decide +kernel
theorem dX7_farFrom_10 : decode cX7_farFrom 10 = .ok (.iload_n 1, 1) := by decide +kernel
theorem dX7_farFrom_11 : decode cX7_farFrom 11 = .ok (.invokevirtual 147, 3) := by decide +kernel
theorem dX7_farFrom_14 : decode cX7_farFrom 14 = .ok (.iload_n 3, 1) := by decide +kernel
theorem dX7_farFrom_15 : decode cX7_farFrom 15 = .ok (.invokestatic 143, 3) := by decide +kernel
theorem dX7_farFrom_18 : decode cX7_farFrom 18 = .ok (.iadd, 1) := by decide +kernel
theorem dX7_farFrom_19 : decode cX7_farFrom 19 = .ok (.aload_n 0, 1) := by decide +kernel
theorem dX7_farFrom_20 : decode cX7_farFrom 20 = .ok (.getfield 31, 3) := by decide +kernel
theorem dX7_farFrom_23 : decode cX7_farFrom 23 = .ok (.iload_n 1, 1) := by decide +kernel
theorem dX7_farFrom_24 : decode cX7_farFrom 24 = .ok (.iaload, 1) := by decide +kernel
theorem dX7_farFrom_25 : decode cX7_farFrom 25 = .ok (.aload_n 0, 1) := by decide +kernel
theorem dX7_farFrom_26 : decode cX7_farFrom 26 = .ok (.getfield 105, 3) := by decide +kernel
theorem dX7_farFrom_29 : decode cX7_farFrom 29 = .ok (.if_icmp .ne 7, 3) := by decide +kernel
theorem dX7_farFrom_32 : decode cX7_farFrom 32 = .ok (.iconst 0, 1) := by decide +kernel
theorem dX7_farFrom_33 : decode cX7_farFrom 33 = .ok (.goto 4, 3) := by decide +kernel
theorem dX7_farFrom_36 : decode cX7_farFrom 36 = .ok (.iconst 2, 1) := by decide +kernel
theorem dX7_farFrom_37 : decode cX7_farFrom 37 = .ok (.iadd, 1) := by decide +kernel
theorem dX7_farFrom_38 : decode cX7_farFrom 38 = .ok (.ireturn, 1) := by decide +kernel
set_option maxRecDepth 20000 in
theorem ggX7_farOf_X7_rememberedColour : GoodIn wsX7_farOf wsX7_rememberedColour := goodIn_r _ [5, 6, 7, 34, 35, 36, 37, 38, 39, 40, 41, 42, 43, 44, 45, 46, 47, 48, 49, 50, 51, 52, 53, 54, 55, 56, 57, 58, 59, 60, 61, 62, 63, 64, 65, 66] (by decide +kernel) (by decide +kernel)
set_option maxRecDepth 20000 in
theorem gX7_farOf_X7_rememberedColour : GoodIn wsX7_farOf (wsV RX7 150 RX7 yX7_rememberedColour wsX7_rememberedColour) := goodIn_app (goodIn_of _ (by decide +kernel)) ggX7_farOf_X7_rememberedColour
set_option maxRecDepth 20000 in
theorem ggX7_farOf_X7_rememberedSize : GoodIn wsX7_farOf wsX7_rememberedSize := goodIn_r _ [11, 12, 13, 34, 35, 36, 37, 38, 39, 40, 41, 42, 43, 44, 45, 46, 47, 48, 49, 50, 51, 52, 53, 54, 55, 56, 57, 58, 59, 60, 61, 62, 63, 64, 65, 66] (by decide +kernel) (by decide +kernel)
set_option maxRecDepth 20000 in
theorem gX7_farOf_X7_rememberedSize : GoodIn wsX7_farOf (wsV RX7 154 RX7 yX7_rememberedSize wsX7_rememberedSize) := goodIn_app (goodIn_of _ (by decide +kernel)) ggX7_farOf_X7_rememberedSize
set_option maxRecDepth 20000 in
theorem ggX7_farOf_X7_farFrom : GoodIn wsX7_farOf wsX7_farFrom := goodIn_r _ [17, 18, 19, 20, 21, 22, 4, 23, 24, 25, 26, 27, 28, 29, 30, 31, 32, 33, 34, 35, 36, 37, 38, 39, 40, 41, 42, 43, 44, 45, 46, 47, 48, 49, 50, 51, 52, 53, 54, 55, 56, 57, 58, 59, 60, 61, 62, 63, 64, 65, 66] (by decide +kernel) (by decide +kernel)
set_option maxRecDepth 20000 in
theorem gX7_farOf_X7_farFrom : GoodIn wsX7_farOf (wsV RX7 157 RX7 yX7_farFrom wsX7_farFrom) := goodIn_app (goodIn_of _ (by decide +kernel)) ggX7_farOf_X7_farFrom
theorem dX7_farOf_0 : decode cX7_farOf 0 = .ok (.aload_n 0, 1) := by decide +kernel
