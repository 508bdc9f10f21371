theorem dX7_isHalf_20 : decode cX7_isHalf 20 = .ok (.goto 6, 3) := by decide +kernel
theorem dX7_isHalf_23 : decode cX7_isHalf 23 = .ok (.iload_n 1, 1) := by decide +kernel
theorem dX7_isHalf_24 : decode cX7_isHalf 24 = .ok (.iload_n 3, 1) := by decide +kernel
theorem dX7_isHalf_25 : decode cX7_isHalf 25 = .ok (.isub, 1) := by decide +kernel
theorem dX7_isHalf_26 : decode cX7_isHalf 26 = .ok (.istore 5, 2) := by decide +kernel
theorem dX7_isHalf_28 : decode cX7_isHalf 28 = .ok (.ldc2_w 226, 3) := by decide +kernel
theorem dX7_isHalf_31 : decode cX7_isHalf 31 = .ok (.iload 5, 2) := by decide +kernel
theorem dX7_isHalf_33 : decode cX7_isHalf 33 = .ok (.iload 4, 2) := by decide +kernel
theorem dX7_isHalf_35 : decode cX7_isHalf 35 = .ok (.invokestatic 215, 3) := by decide +kernel
theorem dX7_isHalf_38 : decode cX7_isHalf 38 = .ok (.lmul, 1) := by decide +kernel
theorem dX7_isHalf_39 : decode cX7_isHalf 39 = .ok (.iload_n 1, 1) := by decide +kernel
theorem dX7_isHalf_40 : decode cX7_isHalf 40 = .ok (.iload 4, 2) := by decide +kernel
theorem dX7_isHalf_42 : decode cX7_isHalf 42 = .ok (.invokestatic 215, 3) := by decide +kernel
theorem dX7_isHalf_45 : decode cX7_isHalf 45 = .ok (.lcmp, 1) := by decide +kernel
theorem dX7_isHalf_46 : decode cX7_isHalf 46 = .ok (.ifCond .gt 7, 3) := by decide +kernel
theorem dX7_isHalf_49 : decode cX7_isHalf 49 = .ok (.iconst 1, 1) := by decide +kernel
theorem dX7_isHalf_50 : decode cX7_isHalf 50 = .ok (.goto 4, 3) := by decide +kernel
theorem dX7_isHalf_53 : decode cX7_isHalf 53 = .ok (.iconst 0, 1) := by decide +kernel
theorem dX7_isHalf_54 : decode cX7_isHalf 54 = .ok (.ireturn, 1) := by decide +kernel
set_option maxRecDepth 20000 in
theorem ggX7_half_X7_allButtons : GoodIn wsX7_half wsX7_allButtons := goodIn_r _ [6, 1, 7, 61, 62, 63, 64, 65, 66, 67, 68, 69, 70, 71, 72, 73, 74, 75, 76, 77, 78, 79, 80, 81, 82, 83, 84, 85, 86, 87, 88, 89, 90, 91, 92, 93] (by decide +kernel) (by decide +kernel)
set_option maxRecDepth 20000 in
theorem gX7_half_X7_allButtons : GoodIn wsX7_half (wsV RX7 212 RX7 yX7_allButtons wsX7_allButtons) := goodIn_app (goodIn_of _ (by decide +kernel)) ggX7_half_X7_allButtons
set_option maxRecDepth 20000 in
theorem ggX7_half_X7_alikeButtons : GoodIn wsX7_half wsX7_alikeButtons := goodIn_r _ [11, 1, 7, 12, 13, 14, 5, 15, 16, 17, 18, 19, 20, 21, 22, 23, 24, 25, 26, 27, 28, 29, 30, 31, 32, 33, 34, 35, 36, 37, 38, 39, 40, 41, 42, 43, 44, 45, 46, 47, 48, 49, 50, 51, 52, 61, 62, 63, 64, 65, 66, 67, 68, 69, 70, 71, 72, 73, 74, 75, 76, 77, 78, 79, 80, 81, 82, 83, 84, 85, 86, 87, 88, 89, 90, 91, 92, 93] (by decide +kernel) (by decide +kernel)
set_option maxRecDepth 20000 in
theorem gX7_half_X7_alikeButtons : GoodIn wsX7_half (wsV RX7 219 RX7 yX7_alikeButtons wsX7_alikeButtons) := goodIn_app (goodIn_of _ (by decide +kernel)) ggX7_half_X7_alikeButtons
set_option maxRecDepth 20000 in
theorem ggX7_half_X7_isHalf : GoodIn wsX7_half wsX7_isHalf := goodIn_r _ [56, 57, 58, 59, 5, 60] (by decide +kernel) (by decide +kernel)
set_option maxRecDepth 20000 in
theorem gX7_half_X7_isHalf : GoodIn wsX7_half (wsV RX7 228 RX7 yX7_isHalf wsX7_isHalf) := goodIn_app (goodIn_of _ (by decide +kernel)) ggX7_half_X7_isHalf
theorem dX7_half_0 : decode cX7_half 0 = .ok (.aload_n 0, 1) := by decide +kernel
theorem dX7_half_1 : decode cX7_half 1 = .ok (.getfield 72, 3) := by decide +kernel
theorem dX7_half_4 : decode cX7_half 4 = .ok (.ifCond .ne 6, 3) := by decide +kernel
theorem dX7_half_7 : decode cX7_half 7 = .ok (.bipush (-3), 2) := by decide +kernel
theorem dX7_half_9 : decode cX7_half 9 = .ok (.ireturn, 1) := by decide +kernel
theorem dX7_half_10 : decode cX7_half 10 = .ok (.aload_n 0, 1) := by decide +kernel
theorem dX7_half_11 : decode cX7_half 11 = .ok (.invokevirtual 212, 3) := by decide +kernel
theorem dX7_half_14 : decode cX7_half 14 = .ok (.istore_n 1, 1) := by decide +kernel
theorem dX7_half_15 : decode cX7_half 15 = .ok (.aload_n 0, 1) := by decide +kernel
theorem dX7_half_16 : decode cX7_half 16 = .ok (.invokevirtual 219, 3) := by decide +kernel
theorem dX7_half_19 : decode cX7_half 19 = .ok (.istore_n 2, 1) := by decide +kernel
theorem dX7_half_20 : decode cX7_half 20 = .ok (.iconst 0, 1) := by decide +kernel
theorem dX7_half_21 : decode cX7_half 21 = .ok (.istore_n 3, 1) := by decide +kernel
theorem dX7_half_22 : decode cX7_half 22 = .ok (.iload_n 3, 1) := by decide +kernel
theorem dX7_half_23 : decode cX7_half 23 = .ok (.iload_n 1, 1) := by decide +kernel
theorem dX7_half_24 : decode cX7_half 24 = .ok (.if_icmp .gt 25, 3) := by decide +kernel
theorem dX7_half_27 : decode cX7_half 27 = .ok (.iload_n 2, 1) := by decide +kernel
theorem dX7_half_28 : decode cX7_half 28 = .ok (.ifCond .le 21, 3) := by decide +kernel
theorem dX7_half_31 : decode cX7_half 31 = .ok (.aload_n 0, 1) := by decide +kernel
theorem dX7_half_32 : decode cX7_half 32 = .ok (.iload_n 1, 1) := by decide +kernel
theorem dX7_half_33 : decode cX7_half 33 = .ok (.iload_n 2, 1) := by decide +kernel
theorem dX7_half_34 : decode cX7_half 34 = .ok (.iload_n 3, 1) := by decide +kernel
theorem dX7_half_35 : decode cX7_half 35 = .ok (.invokevirtual 228, 3) := by decide +kernel
theorem dX7_half_38 : decode cX7_half 38 = .ok (.ifCond .eq 5, 3) := by decide +kernel
theorem dX7_half_41 : decode cX7_half 41 = .ok (.iload_n 3, 1) := by decide +kernel
theorem dX7_half_42 : decode cX7_half 42 = .ok (.ireturn, 1) := by decide +kernel
theorem dX7_half_43 : decode cX7_half 43 = .ok (.iinc 3 1, 3) := by decide +kernel
theorem dX7_half_46 : decode cX7_half 46 = .ok (.goto (-24), 3) := by decide +kernel
theorem dX7_half_49 : decode cX7_half 49 = .ok (.bipush (-9), 2) := by decide +kernel
theorem dX7_half_51 : decode cX7_half 51 = .ok (.ireturn, 1) := by decide +kernel
set_option maxRecDepth 20000 in
theorem ggX7_reading_X7_isTube : GoodIn wsX7_reading wsX7_isTube := goodIn_r _ [8, 9, 10, 11, 12, 13, 14, 15, 16, 17, 18, 19, 20, 21, 22, 23, 24, 25, 26, 27, 28, 29, 30, 31, 32, 33, 34, 35, 36, 37, 38, 39, 40, 41, 42] (by decide +kernel) (by decide +kernel)
set_option maxRecDepth 20000 in
theorem gX7_reading_X7_isTube : GoodIn wsX7_reading (wsV RX7 163 RX7 yX7_isTube wsX7_isTube) := goodIn_app (goodIn_of _ (by decide +kernel)) ggX7_reading_X7_isTube
theorem dX7_reading_0 : decode cX7_reading 0 = .ok (.aload_n 0, 1) := by decide +kernel
theorem dX7_reading_1 : decode cX7_reading 1 = .ok (.iload_n 1, 1) := by decide +kernel
theorem dX7_reading_2 : decode cX7_reading 2 = .ok (.invokevirtual 163, 3) := by decide +kernel
theorem dX7_reading_5 : decode cX7_reading 5 = .ok (.ifCond .ne 5, 3) := by decide +kernel
theorem dX7_reading_8 : decode cX7_reading 8 = .ok (.iconst (-1), 1) := by decide +kernel
theorem dX7_reading_9 : decode cX7_reading 9 = .ok (.ireturn, 1) := by decide +kernel
theorem dX7_reading_10 : decode cX7_reading 10 = .ok (.aload_n 0, 1) := by decide +kernel
theorem dX7_reading_11 : decode cX7_reading 11 = .ok (.getfield 123, 3) := by decide +kernel
theorem dX7_reading_14 : decode cX7_reading 14 = .ok (.bipush 8, 2) := by decide +kernel
theorem dX7_reading_16 : decode cX7_reading 16 = .ok (.if_icmp .ne 6, 3) := by decide +kernel
theorem dX7_reading_19 : decode cX7_reading 19 = .ok (.bipush (-4), 2) := by decide +kernel
theorem dX7_reading_21 : decode cX7_reading 21 = .ok (.ireturn, 1) := by decide +kernel
theorem dX7_reading_22 : decode cX7_reading 22 = .ok (.aload_n 0, 1) := by decide +kernel
theorem dX7_reading_23 : decode cX7_reading 23 = .ok (.getfield 55, 3) := by decide +kernel
theorem dX7_reading_26 : decode cX7_reading 26 = .ok (.aload_n 0, 1) := by decide +kernel
theorem dX7_reading_27 : decode cX7_reading 27 = .ok (.getfield 123, 3) := by decide +kernel
theorem dX7_reading_30 : decode cX7_reading 30 = .ok (.iload_n 1, 1) := by decide +kernel
theorem dX7_reading_31 : decode cX7_reading 31 = .ok (.iastore, 1) := by decide +kernel
theorem dX7_reading_32 : decode cX7_reading 32 = .ok (.aload_n 0, 1) := by decide +kernel
theorem dX7_reading_33 : decode cX7_reading 33 = .ok (.getfield 58, 3) := by decide +kernel
theorem dX7_reading_36 : decode cX7_reading 36 = .ok (.aload_n 0, 1) := by decide +kernel
theorem dX7_reading_37 : decode cX7_reading 37 = .ok (.getfield 123, 3) := by decide +kernel
theorem dX7_reading_40 : decode cX7_reading 40 = .ok (.iload_n 2, 1) := by decide +kernel
theorem dX7_reading_41 : decode cX7_reading 41 = .ok (.bastore, 1) := by decide +kernel
theorem dX7_reading_42 : decode cX7_reading 42 = .ok (.aload_n 0, 1) := by decide +kernel
theorem dX7_reading_43 : decode cX7_reading 43 = .ok (.dup, 1) := by decide +kernel
theorem dX7_reading_44 : decode cX7_reading 44 = .ok (.getfield 123, 3) := by decide +kernel
theorem dX7_reading_47 : decode cX7_reading 47 = .ok (.iconst 1, 1) := by decide +kernel
theorem dX7_reading_48 : decode cX7_reading 48 = .ok (.iadd, 1) := by decide +kernel
theorem dX7_reading_49 : decode cX7_reading 49 = .ok (.putfield 123, 3) := by decide +kernel
theorem dX7_reading_52 : decode cX7_reading 52 = .ok (.aload_n 0, 1) := by decide +kernel
theorem dX7_reading_53 : decode cX7_reading 53 = .ok (.getfield 123, 3) := by decide +kernel
theorem dX7_reading_56 : decode cX7_reading 56 = .ok (.iconst 1, 1) := by decide +kernel
theorem dX7_reading_57 : decode cX7_reading 57 = .ok (.isub, 1) := by decide +kernel
theorem dX7_reading_58 : decode cX7_reading 58 = .ok (.ireturn, 1) := by decide +kernel
set_option maxRecDepth 20000 in
theorem ggX7_back_X7_within : GoodIn wsX7_back wsX7_within := goodIn_r _ [5] (by decide +kernel) (by decide +kernel)
set_option maxRecDepth 20000 in
theorem gX7_back_X7_within : GoodIn wsX7_back (va_wsS RX7 68 yX7_within wsX7_within) := goodIn_app (goodIn_of _ (by decide +kernel)) ggX7_back_X7_within
theorem dX7_back_0 : decode cX7_back 0 = .ok (.iload_n 1, 1) := by decide +kernel
theorem dX7_back_1 : decode cX7_back 1 = .ok (.iconst 0, 1) := by decide +kernel
theorem dX7_back_2 : decode cX7_back 2 = .ok (.aload_n 0, 1) := by decide +kernel
theorem dX7_back_3 : decode cX7_back 3 = .ok (.getfield 123, 3) := by decide +kernel
theorem dX7_back_6 : decode cX7_back 6 = .ok (.invokestatic 68, 3) := by decide +kernel
theorem dX7_back_9 : decode cX7_back 9 = .ok (.ifCond .ne 6, 3) := by decide +kernel
theorem dX7_back_12 : decode cX7_back 12 = .ok (.bipush (-2), 2) := by decide +kernel
theorem dX7_back_14 : decode cX7_back 14 = .ok (.ireturn, 1) := by decide +kernel
theorem dX7_back_15 : decode cX7_back 15 = .ok (.aload_n 0, 1) := by decide +kernel
theorem dX7_back_16 : decode cX7_back 16 = .ok (.dup, 1) := by decide +kernel
theorem dX7_back_17 : decode cX7_back 17 = .ok (.getfield 123, 3) := by decide +kernel
theorem dX7_back_20 : decode cX7_back 20 = .ok (.iload_n 1, 1) := by decide +kernel
theorem dX7_back_21 : decode cX7_back 21 = .ok (.isub, 1) := by decide +kernel
theorem dX7_back_22 : decode cX7_back 22 = .ok (.putfield 123, 3) := by decide +kernel
theorem dX7_back_25 : decode cX7_back 25 = .ok (.aload_n 0, 1) := by decide +kernel
theorem dX7_back_26 : decode cX7_back 26 = .ok (.getfield 123, 3) := by decide +kernel
theorem dX7_back_29 : decode cX7_back 29 = .ok (.ireturn, 1) := by decide +kernel
set_option maxRecDepth 20000 in
theorem ggX7_areSo_X7_isAlike : GoodIn wsX7_areSo wsX7_isAlike := goodIn_r _ [8, 9, 10, 11, 12, 7, 13, 14, 15, 16, 17, 18, 19, 20, 21, 22, 23, 24, 25, 26, 27, 28, 29, 30, 31, 32, 33, 34, 35, 36, 37, 38, 39, 40, 41, 42, 43, 44, 45, 46, 47, 48, 49, 50, 51, 52, 53, 54, 55, 56, 57, 58, 59, 60, 61, 62, 63, 64, 65, 66, 67, 68, 69, 70, 71, 72, 73, 74, 75, 76, 77, 78] (by decide +kernel) (by decide +kernel)
set_option maxRecDepth 20000 in
theorem gX7_areSo_X7_isAlike : GoodIn wsX7_areSo (wsV RX7 169 RX7 yX7_isAlike wsX7_isAlike) := goodIn_app (goodIn_of _ (by decide +kernel)) ggX7_areSo_X7_isAlike
theorem dX7_areSo_0 : decode cX7_areSo 0 = .ok (.iconst 0, 1) := by decide +kernel
theorem dX7_areSo_1 : decode cX7_areSo 1 = .ok (.istore_n 1, 1) := by decide +kernel
theorem dX7_areSo_2 : decode cX7_areSo 2 = .ok (.iload_n 1, 1) := by decide +kernel
theorem dX7_areSo_3 : decode cX7_areSo 3 = .ok (.aload_n 0, 1) := by decide +kernel
theorem dX7_areSo_4 : decode cX7_areSo 4 = .ok (.getfield 123, 3) := by decide +kernel
theorem dX7_areSo_7 : decode cX7_areSo 7 = .ok (.if_icmp .ge 30, 3) := by decide +kernel
theorem dX7_areSo_10 : decode cX7_areSo 10 = .ok (.aload_n 0, 1) := by decide +kernel
theorem dX7_areSo_11 : decode cX7_areSo 11 = .ok (.aload_n 0, 1) := by decide +kernel
theorem dX7_areSo_12 : decode cX7_areSo 12 = .ok (.getfield 55, 3) := by decide +kernel
theorem dX7_areSo_15 : decode cX7_areSo 15 = .ok (.iload_n 1, 1) := by decide +kernel
theorem dX7_areSo_16 : decode cX7_areSo 16 = .ok (.iaload, 1) := by decide +kernel
theorem dX7_areSo_17 : decode cX7_areSo 17 = .ok (.invokevirtual 169, 3) := by decide +kernel
theorem dX7_areSo_20 : decode cX7_areSo 20 = .ok (.aload_n 0, 1) := by decide +kernel
theorem dX7_areSo_21 : decode cX7_areSo 21 = .ok (.getfield 58, 3) := by decide +kernel
theorem dX7_areSo_24 : decode cX7_areSo 24 = .ok (.iload_n 1, 1) := by decide +kernel
theorem dX7_areSo_25 : decode cX7_areSo 25 = .ok (.baload, 1) := by decide +kernel
theorem dX7_areSo_26 : decode cX7_areSo 26 = .ok (.if_icmp .eq 5, 3) := by decide +kernel
theorem dX7_areSo_29 : decode cX7_areSo 29 = .ok (.iconst 0, 1) := by decide +kernel
theorem dX7_areSo_30 : decode cX7_areSo 30 = .ok (.ireturn, 1) := by decide +kernel
theorem dX7_areSo_31 : decode cX7_areSo 31 = .ok (.iinc 1 1, 3) := by decide +kernel
theorem dX7_areSo_34 : decode cX7_areSo 34 = .ok (.goto (-32), 3) := by decide +kernel
theorem dX7_areSo_37 : decode cX7_areSo 37 = .ok (.iconst 1, 1) := by decide +kernel
theorem dX7_areSo_38 : decode cX7_areSo 38 = .ok (.ireturn, 1) := by decide +kernel
set_option maxRecDepth 20000 in
theorem ggX7_memories_X7_within : GoodIn wsX7_memories wsX7_within := goodIn_r _ [7] (by decide +kernel) (by decide +kernel)
set_option maxRecDepth 20000 in
theorem gX7_memories_X7_within : GoodIn wsX7_memories (va_wsS RX7 68 yX7_within wsX7_within) := goodIn_app (goodIn_of _ (by decide +kernel)) ggX7_memories_X7_within
set_option maxRecDepth 20000 in
theorem ggX7_memories_X7_areSo : GoodIn wsX7_memories wsX7_areSo := goodIn_r _ [11, 12, 13, 14, 15, 16, 17, 6, 18, 19, 20, 21, 22, 23, 24, 25, 26, 27, 28, 2, 29, 30, 31, 32, 33, 3, 34, 35, 36, 37, 38, 39, 40, 41, 42, 43, 44, 45, 46, 47, 48, 49, 50, 51, 52, 53, 54, 55, 56, 57, 58, 59, 60, 61, 62, 63, 64, 65, 66, 67, 68, 69, 70, 71, 72, 73, 74, 75, 76, 77, 78, 79, 80, 81, 82, 83, 84, 85, 86] (by decide +kernel) (by decide +kernel)
set_option maxRecDepth 20000 in
theorem gX7_memories_X7_areSo : GoodIn wsX7_memories (wsV RX7 231 RX7 yX7_areSo wsX7_areSo) := goodIn_app (goodIn_of _ (by decide +kernel)) ggX7_memories_X7_areSo
theorem dX7_memories_0 : decode cX7_memories 0 = .ok (.iload_n 1, 1) := by decide +kernel
theorem dX7_memories_1 : decode cX7_memories 1 = .ok (.iconst 0, 1) := by decide +kernel
theorem dX7_memories_2 : decode cX7_memories 2 = .ok (.iconst 1, 1) := by decide +kernel
theorem dX7_memories_3 : decode cX7_memories 3 = .ok (.invokestatic 68, 3) := by decide +kernel
theorem dX7_memories_6 : decode cX7_memories 6 = .ok (.ifCond .ne 6, 3) := by decide +kernel
theorem dX7_memories_9 : decode cX7_memories 9 = .ok (.bipush (-2), 2) := by decide +kernel
theorem dX7_memories_11 : decode cX7_memories 11 = .ok (.ireturn, 1) := by decide +kernel
theorem dX7_memories_12 : decode cX7_memories 12 = .ok (.aload_n 0, 1) := by decide +kernel
theorem dX7_memories_13 : decode cX7_memories 13 = .ok (.getfield 72, 3) := by decide +kernel
theorem dX7_memories_16 : decode cX7_memories 16 = .ok (.ifCond .ne 6, 3) := by decide +kernel
theorem dX7_memories_19 : decode cX7_memories 19 = .ok (.bipush (-3), 2) := by decide +kernel
theorem dX7_memories_21 : decode cX7_memories 21 = .ok (.ireturn, 1) := by decide +kernel
theorem dX7_memories_22 : decode cX7_memories 22 = .ok (.aload_n 0, 1) := by decide +kernel
theorem dX7_memories_23 : decode cX7_memories 23 = .ok (.getfield 114, 3) := by decide +kernel
theorem dX7_memories_26 : decode cX7_memories 26 = .ok (.istore_n 2, 1) := by decide +kernel
theorem dX7_memories_27 : decode cX7_memories 27 = .ok (.aload_n 0, 1) := by decide +kernel
theorem dX7_memories_28 : decode cX7_memories 28 = .ok (.getfield 117, 3) := by decide +kernel
theorem dX7_memories_31 : decode cX7_memories 31 = .ok (.istore_n 3, 1) := by decide +kernel
theorem dX7_memories_32 : decode cX7_memories 32 = .ok (.iconst 0, 1) := by decide +kernel
theorem dX7_memories_33 : decode cX7_memories 33 = .ok (.istore 4, 2) := by decide +kernel
theorem dX7_memories_35 : decode cX7_memories 35 = .ok (.bipush (-9), 2) := by decide +kernel
theorem dX7_memories_37 : decode cX7_memories 37 = .ok (.istore 5, 2) := by decide +kernel
theorem dX7_memories_39 : decode cX7_memories 39 = .ok (.iconst 0, 1) := by decide +kernel
theorem dX7_memories_40 : decode cX7_memories 40 = .ok (.istore 6, 2) := by decide +kernel
theorem dX7_memories_42 : decode cX7_memories 42 = .ok (.iload 6, 2) := by decide +kernel
theorem dX7_memories_44 : decode cX7_memories 44 = .ok (.bipush 16, 2) := by decide +kernel
theorem dX7_memories_46 : decode cX7_memories 46 = .ok (.if_icmp .ge 59, 3) := by decide +kernel
theorem dX7_memories_49 : decode cX7_memories 49 = .ok (.aload_n 0, 1) := by decide +kernel
theorem dX7_memories_50 : decode cX7_memories 50 = .ok (.iload 6, 2) := by decide +kernel
theorem dX7_memories_52 : decode cX7_memories 52 = .ok (.iconst 4, 1) := by decide +kernel
theorem dX7_memories_53 : decode cX7_memories 53 = .ok (.idiv, 1) := by decide +kernel
theorem dX7_memories_54 : decode cX7_memories 54 = .ok (.putfield 114, 3) := by decide +kernel
theorem dX7_memories_57 : decode cX7_memories 57 = .ok (.aload_n 0, 1) := by decide +kernel
theorem dX7_memories_58 : decode cX7_memories 58 = .ok (.iload 6, 2) := by decide +kernel
theorem dX7_memories_60 : decode cX7_memories 60 = .ok (.iconst 4, 1) := by decide +kernel
theorem dX7_memories_61 : decode cX7_memories 61 = .ok (.irem, 1) := by decide +kernel
theorem dX7_memories_62 : decode cX7_memories 62 = .ok (.putfield 117, 3) := by decide +kernel
theorem dX7_memories_65 : decode cX7_memories 65 = .ok (.aload_n 0, 1) := by decide +kernel
theorem dX7_memories_66 : decode cX7_memories 66 = .ok (.invokevirtual 231, 3) := by decide +kernel
theorem dX7_memories_69 : decode cX7_memories 69 = .ok (.ifCond .eq 30, 3) := by decide +kernel
theorem dX7_memories_72 : decode cX7_memories 72 = .ok (.iload 4, 2) := by decide +kernel
theorem dX7_memories_74 : decode cX7_memories 74 = .ok (.ifCond .ne 18, 3) := by decide +kernel
theorem dX7_memories_77 : decode cX7_memories 77 = .ok (.bipush 10, 2) := by decide +kernel
theorem dX7_memories_79 : decode cX7_memories 79 = .ok (.aload_n 0, 1) := by decide +kernel
theorem dX7_memories_80 : decode cX7_memories 80 = .ok (.getfield 114, 3) := by decide +kernel
theorem dX7_memories_83 : decode cX7_memories 83 = .ok (.imul, 1) := by decide +kernel
theorem dX7_memories_84 : decode cX7_memories 84 = .ok (.aload_n 0, 1) := by decide +kernel
theorem dX7_memories_85 : decode cX7_memories 85 = .ok (.getfield 117, 3) := by decide +kernel
theorem dX7_memories_88 : decode cX7_memories 88 = .ok (.iadd, 1) := by decide +kernel
theorem dX7_memories_89 : decode cX7_memories 89 = .ok (.goto 5, 3) := by decide +kernel
theorem dX7_memories_92 : decode cX7_memories 92 = .ok (.iload 5, 2) := by decide +kernel
theorem dX7_memories_94 : decode cX7_memories 94 = .ok (.istore 5, 2) := by decide +kernel
theorem dX7_memories_96 : decode cX7_memories 96 = .ok (.iinc 4 1, 3) := by decide +kernel
theorem dX7_memories_99 : decode cX7_memories 99 = .ok (.iinc 6 1, 3) := by decide +kernel
theorem dX7_memories_102 : decode cX7_memories 102 = .ok (.goto (-60), 3) := by decide +kernel
theorem dX7_memories_105 : decode cX7_memories 105 = .ok (.aload_n 0, 1) := by decide +kernel
theorem dX7_memories_106 : decode cX7_memories 106 = .ok (.iload_n 2, 1) := by decide +kernel
theorem dX7_memories_107 : decode cX7_memories 107 = .ok (.putfield 114, 3) := by decide +kernel
theorem dX7_memories_110 : decode cX7_memories 110 = .ok (.aload_n 0, 1) := by decide +kernel
theorem dX7_memories_111 : decode cX7_memories 111 = .ok (.iload_n 3, 1) := by decide +kernel
theorem dX7_memories_112 : decode cX7_memories 112 = .ok (.putfield 117, 3) := by decide +kernel
theorem dX7_memories_115 : decode cX7_memories 115 = .ok (.iload_n 1, 1) := by decide +kernel
theorem dX7_memories_116 : decode cX7_memories 116 = .ok (.ifCond .ne 8, 3) := by decide +kernel
theorem dX7_memories_119 : decode cX7_memories 119 = .ok (.iload 4, 2) := by decide +kernel
theorem dX7_memories_121 : decode cX7_memories 121 = .ok (.goto 5, 3) := by decide +kernel
theorem dX7_memories_124 : decode cX7_memories 124 = .ok (.iload 5, 2) := by decide +kernel
theorem dX7_memories_126 : decode cX7_memories 126 = .ok (.ireturn, 1) := by decide +kernel
set_option maxRecDepth 20000 in
theorem ggX7_kinds_X7_isTube : GoodIn wsX7_kinds wsX7_isTube := goodIn_r _ [6, 7, 55, 56, 57, 58, 59, 60, 61, 62, 63, 64, 65, 66, 67, 68, 69, 70, 71, 72, 73, 74, 75, 76, 77, 78, 79, 80, 81, 82, 83, 84, 85, 86, 87] (by decide +kernel) (by decide +kernel)
set_option maxRecDepth 20000 in
theorem gX7_kinds_X7_isTube : GoodIn wsX7_kinds (wsV RX7 163 RX7 yX7_isTube wsX7_isTube) := goodIn_app (goodIn_of _ (by decide +kernel)) ggX7_kinds_X7_isTube
set_option maxRecDepth 20000 in
theorem ggX7_kinds_X7_areSo : GoodIn wsX7_kinds wsX7_areSo := goodIn_r _ [11, 12, 13, 14, 15, 16, 17, 5, 18, 19, 20, 21, 22, 23, 24, 25, 26, 27, 28, 29, 30, 31, 32, 33, 34, 35, 36, 37, 38, 39, 40, 41, 42, 43, 44, 45, 1, 46, 47, 48, 49, 50, 51, 52, 53, 54, 55, 56, 57, 58, 59, 60, 61, 62, 63, 64, 65, 66, 67, 68, 69, 70, 71, 72, 73, 74, 75, 76, 77, 78, 79, 80, 81, 82, 83, 84, 85, 86, 87] (by decide +kernel) (by decide +kernel)
set_option maxRecDepth 20000 in
theorem gX7_kinds_X7_areSo : GoodIn wsX7_kinds (wsV RX7 231 RX7 yX7_areSo wsX7_areSo) := goodIn_app (goodIn_of _ (by decide +kernel)) ggX7_kinds_X7_areSo
theorem dX7_kinds_0 : decode cX7_kinds 0 = .ok (.aload_n 0, 1) := by decide +kernel
theorem dX7_kinds_1 : decode cX7_kinds 1 = .ok (.iload_n 1, 1) := by decide +kernel
theorem dX7_kinds_2 : decode cX7_kinds 2 = .ok (.invokevirtual 163, 3) := by decide +kernel
theorem dX7_kinds_5 : decode cX7_kinds 5 = .ok (.ifCond .ne 5, 3) := by decide +kernel
theorem dX7_kinds_8 : decode cX7_kinds 8 = .ok (.iconst (-1), 1) := by decide +kernel
theorem dX7_kinds_9 : decode cX7_kinds 9 = .ok (.ireturn, 1) := by decide +kernel
theorem dX7_kinds_10 : decode cX7_kinds 10 = .ok (.aload_n 0, 1) := by decide +kernel
theorem dX7_kinds_11 : decode cX7_kinds 11 = .ok (.getfield 22, 3) := by decide +kernel
theorem dX7_kinds_14 : decode cX7_kinds 14 = .ok (.iload_n 1, 1) := by decide +kernel
theorem dX7_kinds_15 : decode cX7_kinds 15 = .ok (.iaload, 1) := by decide +kernel
theorem dX7_kinds_16 : decode cX7_kinds 16 = .ok (.istore_n 2, 1) := by decide +kernel
theorem dX7_kinds_17 : decode cX7_kinds 17 = .ok (.iconst 0, 1) := by decide +kernel
theorem dX7_kinds_18 : decode cX7_kinds 18 = .ok (.istore_n 3, 1) := by decide +kernel
theorem dX7_kinds_19 : decode cX7_kinds 19 = .ok (.iconst 0, 1) := by decide +kernel
theorem dX7_kinds_20 : decode cX7_kinds 20 = .ok (.istore 4, 2) := by decide +kernel
theorem dX7_kinds_22 : decode cX7_kinds 22 = .ok (.iload 4, 2) := by decide +kernel
theorem dX7_kinds_24 : decode cX7_kinds 24 = .ok (.iconst 3, 1) := by decide +kernel
theorem dX7_kinds_25 : decode cX7_kinds 25 = .ok (.if_icmp .ge 35, 3) := by decide +kernel
theorem dX7_kinds_28 : decode cX7_kinds 28 = .ok (.aload_n 0, 1) := by decide +kernel
theorem dX7_kinds_29 : decode cX7_kinds 29 = .ok (.getfield 22, 3) := by decide +kernel
theorem dX7_kinds_32 : decode cX7_kinds 32 = .ok (.iload_n 1, 1) := by decide +kernel
theorem dX7_kinds_33 : decode cX7_kinds 33 = .ok (.iload 4, 2) := by decide +kernel
theorem dX7_kinds_35 : decode cX7_kinds 35 = .ok (.iastore, 1) := by decide +kernel
theorem dX7_kinds_36 : decode cX7_kinds 36 = .ok (.iload_n 3, 1) := by decide +kernel
theorem dX7_kinds_37 : decode cX7_kinds 37 = .ok (.aload_n 0, 1) := by decide +kernel
theorem dX7_kinds_38 : decode cX7_kinds 38 = .ok (.invokevirtual 231, 3) := by decide +kernel
theorem dX7_kinds_41 : decode cX7_kinds 41 = .ok (.ifCond .eq 10, 3) := by decide +kernel
theorem dX7_kinds_44 : decode cX7_kinds 44 = .ok (.iconst 1, 1) := by decide +kernel
theorem dX7_kinds_45 : decode cX7_kinds 45 = .ok (.iload 4, 2) := by decide +kernel
theorem dX7_kinds_47 : decode cX7_kinds 47 = .ok (.ishl, 1) := by decide +kernel
theorem dX7_kinds_48 : decode cX7_kinds 48 = .ok (.goto 4, 3) := by decide +kernel
theorem dX7_kinds_51 : decode cX7_kinds 51 = .ok (.iconst 0, 1) := by decide +kernel
theorem dX7_kinds_52 : decode cX7_kinds 52 = .ok (.ior, 1) := by decide +kernel
theorem dX7_kinds_53 : decode cX7_kinds 53 = .ok (.istore_n 3, 1) := by decide +kernel
theorem dX7_kinds_54 : decode cX7_kinds 54 = .ok (.iinc 4 1, 3) := by decide +kernel
theorem dX7_kinds_57 : decode cX7_kinds 57 = .ok (.goto (-35), 3) := by decide +kernel
theorem dX7_kinds_60 : decode cX7_kinds 60 = .ok (.aload_n 0, 1) := by decide +kernel
theorem dX7_kinds_61 : decode cX7_kinds 61 = .ok (.getfield 22, 3) := by decide +kernel
theorem dX7_kinds_64 : decode cX7_kinds 64 = .ok (.iload_n 1, 1) := by decide +kernel
theorem dX7_kinds_65 : decode cX7_kinds 65 = .ok (.iload_n 2, 1) := by decide +kernel
theorem dX7_kinds_66 : decode cX7_kinds 66 = .ok (.iastore, 1) := by decide +kernel
theorem dX7_kinds_67 : decode cX7_kinds 67 = .ok (.iload_n 3, 1) := by decide +kernel
theorem dX7_kinds_68 : decode cX7_kinds 68 = .ok (.ireturn, 1) := by decide +kernel
set_option maxRecDepth 20000 in
theorem ggX7_colours_X7_isTube : GoodIn wsX7_colours wsX7_isTube := goodIn_r _ [6, 7, 55, 56, 57, 58, 59, 60, 61, 62, 63, 64, 65, 66, 67, 68, 69, 70, 71, 72, 73, 74, 75, 76, 77, 78, 79, 80, 81, 82, 83, 84, 85, 86, 87] (by decide +kernel) (by decide +kernel)
set_option maxRecDepth 20000 in
theorem gX7_colours_X7_isTube : GoodIn wsX7_colours (wsV RX7 163 RX7 yX7_isTube wsX7_isTube) := goodIn_app (goodIn_of _ (by decide +kernel)) ggX7_colours_X7_isTube
set_option maxRecDepth 20000 in
theorem ggX7_colours_X7_areSo : GoodIn wsX7_colours wsX7_areSo := goodIn_r _ [11, 12, 13, 14, 15, 16, 17, 5, 18, 19, 20, 21, 22, 23, 24, 25, 26, 27, 28, 29, 30, 31, 32, 33, 34, 35, 36, 37, 38, 39, 40, 41, 42, 43, 44, 45, 46, 1, 47, 48, 49, 50, 51, 52, 53, 54, 55, 56, 57, 58, 59, 60, 61, 62, 63, 64, 65, 66, 67, 68, 69, 70, 71, 72, 73, 74, 75, 76, 77, 78, 79, 80, 81, 82, 83, 84, 85, 86, 87] (by decide +kernel) (by decide +kernel)
set_option maxRecDepth 20000 in
theorem gX7_colours_X7_areSo : GoodIn wsX7_colours (wsV RX7 231 RX7 yX7_areSo wsX7_areSo) := goodIn_app (goodIn_of _ (by decide +kernel)) ggX7_colours_X7_areSo
theorem dX7_colours_0 : decode cX7_colours 0 = .ok (.aload_n 0, 1) := by decide +kernel
theorem dX7_colours_1 : decode cX7_colours 1 = .ok (.iload_n 1, 1) := by decide +kernel
theorem dX7_colours_2 : decode cX7_colours 2 = .ok (.invokevirtual 163, 3) := by decide +kernel
theorem dX7_colours_5 : decode cX7_colours 5 = .ok (.ifCond .ne 5, 3) := by decide +kernel
theorem dX7_colours_8 : decode cX7_colours 8 = .ok (.iconst (-1), 1) := by decide +kernel
theorem dX7_colours_9 : decode cX7_colours 9 = .ok (.ireturn, 1) := by decide +kernel
theorem dX7_colours_10 : decode cX7_colours 10 = .ok (.aload_n 0, 1) := by decide +kernel
theorem dX7_colours_11 : decode cX7_colours 11 = .ok (.getfield 25, 3) := by decide +kernel
theorem dX7_colours_14 : decode cX7_colours 14 = .ok (.iload_n 1, 1) := by decide +kernel
theorem dX7_colours_15 : decode cX7_colours 15 = .ok (.iaload, 1) := by decide +kernel
theorem dX7_colours_16 : decode cX7_colours 16 = .ok (.istore_n 2, 1) := by decide +kernel
theorem dX7_colours_17 : decode cX7_colours 17 = .ok (.iconst 0, 1) := by decide +kernel
theorem dX7_colours_18 : decode cX7_colours 18 = .ok (.istore_n 3, 1) := by decide +kernel
theorem dX7_colours_19 : decode cX7_colours 19 = .ok (.iconst 0, 1) := by decide +kernel
theorem dX7_colours_20 : decode cX7_colours 20 = .ok (.istore 4, 2) := by decide +kernel
theorem dX7_colours_22 : decode cX7_colours 22 = .ok (.iload 4, 2) := by decide +kernel
theorem dX7_colours_24 : decode cX7_colours 24 = .ok (.bipush 7, 2) := by decide +kernel
theorem dX7_colours_26 : decode cX7_colours 26 = .ok (.if_icmp .gt 35, 3) := by decide +kernel
theorem dX7_colours_29 : decode cX7_colours 29 = .ok (.aload_n 0, 1) := by decide +kernel
theorem dX7_colours_30 : decode cX7_colours 30 = .ok (.getfield 25, 3) := by decide +kernel
theorem dX7_colours_33 : decode cX7_colours 33 = .ok (.iload_n 1, 1) := by decide +kernel
theorem dX7_colours_34 : decode cX7_colours 34 = .ok (.iload 4, 2) := by decide +kernel
theorem dX7_colours_36 : decode cX7_colours 36 = .ok (.iastore, 1) := by decide +kernel
theorem dX7_colours_37 : decode cX7_colours 37 = .ok (.iload_n 3, 1) := by decide +kernel
theorem dX7_colours_38 : decode cX7_colours 38 = .ok (.aload_n 0, 1) := by decide +kernel
theorem dX7_colours_39 : decode cX7_colours 39 = .ok (.invokevirtual 231, 3) := by decide +kernel
theorem dX7_colours_42 : decode cX7_colours 42 = .ok (.ifCond .eq 10, 3) := by decide +kernel
theorem dX7_colours_45 : decode cX7_colours 45 = .ok (.iconst 1, 1) := by decide +kernel
theorem dX7_colours_46 : decode cX7_colours 46 = .ok (.iload 4, 2) := by decide +kernel
theorem dX7_colours_48 : decode cX7_colours 48 = .ok (.ishl, 1) := by decide +kernel
theorem dX7_colours_49 : decode cX7_colours 49 = .ok (.goto 4, 3) := by decide +kernel
theorem dX7_colours_52 : decode cX7_colours 52 = .ok (.iconst 0, 1) := by decide +kernel
theorem dX7_colours_53 : decode cX7_colours 53 = .ok (.ior, 1) := by decide +kernel
theorem dX7_colours_54 : decode cX7_colours 54 = .ok (.istore_n 3, 1) := by decide +kernel
theorem dX7_colours_55 : decode cX7_colours 55 = .ok (.iinc 4 1, 3) := by decide +kernel
theorem dX7_colours_58 : decode cX7_colours 58 = .ok (.goto (-36), 3) := by decide +kernel
theorem dX7_colours_61 : decode cX7_colours 61 = .ok (.aload_n 0, 1) := by decide +kernel
theorem dX7_colours_62 : decode cX7_colours 62 = .ok (.getfield 25, 3) := by decide +kernel
theorem dX7_colours_65 : decode cX7_colours 65 = .ok (.iload_n 1, 1) := by decide +kernel
theorem dX7_colours_66 : decode cX7_colours 66 = .ok (.iload_n 2, 1) := by decide +kernel
theorem dX7_colours_67 : decode cX7_colours 67 = .ok (.iastore, 1) := by decide +kernel
theorem dX7_colours_68 : decode cX7_colours 68 = .ok (.iload_n 3, 1) := by decide +kernel
theorem dX7_colours_69 : decode cX7_colours 69 = .ok (.ireturn, 1) := by decide +kernel
set_option maxRecDepth 20000 in
theorem ggX7_nears_X7_areSo : GoodIn wsX7_nears wsX7_areSo := goodIn_r _ [7, 8, 9, 10, 11, 12, 13, 6, 14, 2, 15, 16, 17, 18, 19, 20, 21, 22, 23, 24, 25, 26, 27, 28, 29, 30, 31, 32, 33, 34, 35, 36, 37, 38, 39, 40, 41, 42, 43, 44, 45, 46, 47, 48, 49, 50, 51, 52, 53, 54, 55, 56, 57, 58, 59, 60, 61, 62, 63, 64, 65, 66, 67, 68, 69, 70, 71, 72, 73, 74, 75, 76, 77, 78, 79, 80, 81, 82, 83] (by decide +kernel) (by decide +kernel)
set_option maxRecDepth 20000 in
theorem gX7_nears_X7_areSo : GoodIn wsX7_nears (wsV RX7 231 RX7 yX7_areSo wsX7_areSo) := goodIn_app (goodIn_of _ (by decide +kernel)) ggX7_nears_X7_areSo
theorem dX7_nears_0 : decode cX7_nears 0 = .ok (.aload_n 0, 1) := by decide +kernel
theorem dX7_nears_1 : decode cX7_nears 1 = .ok (.getfield 72, 3) := by decide +kernel
theorem dX7_nears_4 : decode cX7_nears 4 = .ok (.ifCond .ne 6, 3) := by decide +kernel
theorem dX7_nears_7 : decode cX7_nears 7 = .ok (.bipush (-3), 2) := by decide +kernel
theorem dX7_nears_9 : decode cX7_nears 9 = .ok (.ireturn, 1) := by decide +kernel
theorem dX7_nears_10 : decode cX7_nears 10 = .ok (.aload_n 0, 1) := by decide +kernel
theorem dX7_nears_11 : decode cX7_nears 11 = .ok (.getfield 120, 3) := by decide +kernel
theorem dX7_nears_14 : decode cX7_nears 14 = .ok (.istore_n 1, 1) := by decide +kernel
theorem dX7_nears_15 : decode cX7_nears 15 = .ok (.iconst 0, 1) := by decide +kernel
theorem dX7_nears_16 : decode cX7_nears 16 = .ok (.istore_n 2, 1) := by decide +kernel
theorem dX7_nears_17 : decode cX7_nears 17 = .ok (.iconst 0, 1) := by decide +kernel
theorem dX7_nears_18 : decode cX7_nears 18 = .ok (.istore_n 3, 1) := by decide +kernel
theorem dX7_nears_19 : decode cX7_nears 19 = .ok (.iload_n 3, 1) := by decide +kernel
theorem dX7_nears_20 : decode cX7_nears 20 = .ok (.bipush 20, 2) := by decide +kernel
theorem dX7_nears_22 : decode cX7_nears 22 = .ok (.if_icmp .gt 31, 3) := by decide +kernel
theorem dX7_nears_25 : decode cX7_nears 25 = .ok (.aload_n 0, 1) := by decide +kernel
theorem dX7_nears_26 : decode cX7_nears 26 = .ok (.iload_n 3, 1) := by decide +kernel
theorem dX7_nears_27 : decode cX7_nears 27 = .ok (.putfield 120, 3) := by decide +kernel
theorem dX7_nears_30 : decode cX7_nears 30 = .ok (.iload_n 2, 1) := by decide +kernel
theorem dX7_nears_31 : decode cX7_nears 31 = .ok (.aload_n 0, 1) := by decide +kernel
theorem dX7_nears_32 : decode cX7_nears 32 = .ok (.invokevirtual 231, 3) := by decide +kernel
theorem dX7_nears_35 : decode cX7_nears 35 = .ok (.ifCond .eq 9, 3) := by decide +kernel
theorem dX7_nears_38 : decode cX7_nears 38 = .ok (.iconst 1, 1) := by decide +kernel
theorem dX7_nears_39 : decode cX7_nears 39 = .ok (.iload_n 3, 1) := by decide +kernel
theorem dX7_nears_40 : decode cX7_nears 40 = .ok (.ishl, 1) := by decide +kernel
theorem dX7_nears_41 : decode cX7_nears 41 = .ok (.goto 4, 3) := by decide +kernel
theorem dX7_nears_44 : decode cX7_nears 44 = .ok (.iconst 0, 1) := by decide +kernel
theorem dX7_nears_45 : decode cX7_nears 45 = .ok (.ior, 1) := by decide +kernel
theorem dX7_nears_46 : decode cX7_nears 46 = .ok (.istore_n 2, 1) := by decide +kernel
theorem dX7_nears_47 : decode cX7_nears 47 = .ok (.iinc 3 1, 3) := by decide +kernel
theorem dX7_nears_50 : decode cX7_nears 50 = .ok (.goto (-31), 3) := by decide +kernel
theorem dX7_nears_53 : decode cX7_nears 53 = .ok (.aload_n 0, 1) := by decide +kernel
theorem dX7_nears_54 : decode cX7_nears 54 = .ok (.iload_n 1, 1) := by decide +kernel
theorem dX7_nears_55 : decode cX7_nears 55 = .ok (.putfield 120, 3) := by decide +kernel
theorem dX7_nears_58 : decode cX7_nears 58 = .ok (.iload_n 2, 1) := by decide +kernel
theorem dX7_nears_59 : decode cX7_nears 59 = .ok (.ireturn, 1) := by decide +kernel
set_option maxRecDepth 20000 in
theorem ggX7_sheet_X7_isSheet : GoodIn wsX7_sheet wsX7_isSheet := goodIn_r _ [8, 9, 10, 7, 11] (by decide +kernel) (by decide +kernel)
set_option maxRecDepth 20000 in
theorem gX7_sheet_X7_isSheet : GoodIn wsX7_sheet (va_wsS RX7 78 yX7_isSheet wsX7_isSheet) := goodIn_app (goodIn_of _ (by decide +kernel)) ggX7_sheet_X7_isSheet
set_option maxRecDepth 20000 in
theorem ggX7_sheet_X7_isSort : GoodIn wsX7_sheet wsX7_isSort := goodIn_r _ [14, 9, 10, 7, 11] (by decide +kernel) (by decide +kernel)
set_option maxRecDepth 20000 in
theorem gX7_sheet_X7_isSort : GoodIn wsX7_sheet (va_wsS RX7 82 yX7_isSort wsX7_isSort) := goodIn_app (goodIn_of _ (by decide +kernel)) ggX7_sheet_X7_isSort
set_option maxRecDepth 20000 in
theorem ggX7_sheet_X7_fails : GoodIn wsX7_sheet wsX7_fails := goodIn_r _ [18, 1, 19, 20, 21, 22, 23, 24, 25, 26, 27, 28, 29, 30, 31, 32, 33, 34, 35, 36, 37, 38, 39, 40, 41, 42, 43, 44, 45, 46, 47, 48, 49, 50, 51] (by decide +kernel) (by decide +kernel)
set_option maxRecDepth 20000 in
theorem gX7_sheet_X7_fails : GoodIn wsX7_sheet (wsV RX7 89 RX7 yX7_fails wsX7_fails) := goodIn_app (goodIn_of _ (by decide +kernel)) ggX7_sheet_X7_fails
theorem dX7_sheet_0 : decode cX7_sheet 0 = .ok (.aload_n 0, 1) := by decide +kernel
theorem dX7_sheet_1 : decode cX7_sheet 1 = .ok (.iconst 0, 1) := by decide +kernel
theorem dX7_sheet_2 : decode cX7_sheet 2 = .ok (.putfield 62, 3) := by decide +kernel
theorem dX7_sheet_5 : decode cX7_sheet 5 = .ok (.iload_n 1, 1) := by decide +kernel
theorem dX7_sheet_6 : decode cX7_sheet 6 = .ok (.invokestatic 78, 3) := by decide +kernel
theorem dX7_sheet_9 : decode cX7_sheet 9 = .ok (.ifCond .ne 5, 3) := by decide +kernel
theorem dX7_sheet_12 : decode cX7_sheet 12 = .ok (.iconst (-1), 1) := by decide +kernel
theorem dX7_sheet_13 : decode cX7_sheet 13 = .ok (.ireturn, 1) := by decide +kernel
theorem dX7_sheet_14 : decode cX7_sheet 14 = .ok (.iload_n 2, 1) := by decide +kernel
theorem dX7_sheet_15 : decode cX7_sheet 15 = .ok (.invokestatic 82, 3) := by decide +kernel
theorem dX7_sheet_18 : decode cX7_sheet 18 = .ok (.ifCond .eq 9, 3) := by decide +kernel
theorem dX7_sheet_21 : decode cX7_sheet 21 = .ok (.iload_n 3, 1) := by decide +kernel
theorem dX7_sheet_22 : decode cX7_sheet 22 = .ok (.bipush 60, 2) := by decide +kernel
theorem dX7_sheet_24 : decode cX7_sheet 24 = .ok (.if_icmp .le 6, 3) := by decide +kernel
theorem dX7_sheet_27 : decode cX7_sheet 27 = .ok (.bipush (-2), 2) := by decide +kernel
theorem dX7_sheet_29 : decode cX7_sheet 29 = .ok (.ireturn, 1) := by decide +kernel
theorem dX7_sheet_30 : decode cX7_sheet 30 = .ok (.iload_n 3, 1) := by decide +kernel
theorem dX7_sheet_31 : decode cX7_sheet 31 = .ok (.ifCond .ge 9, 3) := by decide +kernel
theorem dX7_sheet_34 : decode cX7_sheet 34 = .ok (.aload_n 0, 1) := by decide +kernel
theorem dX7_sheet_35 : decode cX7_sheet 35 = .ok (.iconst 4, 1) := by decide +kernel
theorem dX7_sheet_36 : decode cX7_sheet 36 = .ok (.invokevirtual 89, 3) := by decide +kernel
theorem dX7_sheet_39 : decode cX7_sheet 39 = .ok (.ireturn, 1) := by decide +kernel
theorem dX7_sheet_40 : decode cX7_sheet 40 = .ok (.aload_n 0, 1) := by decide +kernel
theorem dX7_sheet_41 : decode cX7_sheet 41 = .ok (.getfield 9, 3) := by decide +kernel
theorem dX7_sheet_44 : decode cX7_sheet 44 = .ok (.iload_n 1, 1) := by decide +kernel
theorem dX7_sheet_45 : decode cX7_sheet 45 = .ok (.iload_n 2, 1) := by decide +kernel
theorem dX7_sheet_46 : decode cX7_sheet 46 = .ok (.iastore, 1) := by decide +kernel
theorem dX7_sheet_47 : decode cX7_sheet 47 = .ok (.aload_n 0, 1) := by decide +kernel
theorem dX7_sheet_48 : decode cX7_sheet 48 = .ok (.getfield 13, 3) := by decide +kernel
theorem dX7_sheet_51 : decode cX7_sheet 51 = .ok (.iload_n 1, 1) := by decide +kernel
theorem dX7_sheet_52 : decode cX7_sheet 52 = .ok (.iload_n 3, 1) := by decide +kernel
theorem dX7_sheet_53 : decode cX7_sheet 53 = .ok (.iastore, 1) := by decide +kernel
theorem dX7_sheet_54 : decode cX7_sheet 54 = .ok (.iconst 0, 1) := by decide +kernel
theorem dX7_sheet_55 : decode cX7_sheet 55 = .ok (.istore 4, 2) := by decide +kernel
theorem dX7_sheet_57 : decode cX7_sheet 57 = .ok (.iload 4, 2) := by decide +kernel
theorem dX7_sheet_59 : decode cX7_sheet 59 = .ok (.bipush 60, 2) := by decide +kernel
theorem dX7_sheet_61 : decode cX7_sheet 61 = .ok (.if_icmp .ge 22, 3) := by decide +kernel
theorem dX7_sheet_64 : decode cX7_sheet 64 = .ok (.aload_n 0, 1) := by decide +kernel
theorem dX7_sheet_65 : decode cX7_sheet 65 = .ok (.getfield 16, 3) := by decide +kernel
theorem dX7_sheet_68 : decode cX7_sheet 68 = .ok (.bipush 60, 2) := by decide +kernel
theorem dX7_sheet_70 : decode cX7_sheet 70 = .ok (.iload_n 1, 1) := by decide +kernel
theorem dX7_sheet_71 : decode cX7_sheet 71 = .ok (.imul, 1) := by decide +kernel
theorem dX7_sheet_72 : decode cX7_sheet 72 = .ok (.iload 4, 2) := by decide +kernel
theorem dX7_sheet_74 : decode cX7_sheet 74 = .ok (.iadd, 1) := by decide +kernel
theorem dX7_sheet_75 : decode cX7_sheet 75 = .ok (.iconst 0, 1) := by decide +kernel
theorem dX7_sheet_76 : decode cX7_sheet 76 = .ok (.iastore, 1) := by decide +kernel
theorem dX7_sheet_77 : decode cX7_sheet 77 = .ok (.iinc 4 1, 3) := by decide +kernel
theorem dX7_sheet_80 : decode cX7_sheet 80 = .ok (.goto (-23), 3) := by decide +kernel
theorem dX7_sheet_83 : decode cX7_sheet 83 = .ok (.iconst 1, 1) := by decide +kernel
theorem dX7_sheet_84 : decode cX7_sheet 84 = .ok (.ireturn, 1) := by decide +kernel
set_option maxRecDepth 20000 in
theorem ggX7_lose_X7_isSheet : GoodIn wsX7_lose wsX7_isSheet := goodIn_r _ [5, 6, 7, 4, 8] (by decide +kernel) (by decide +kernel)
set_option maxRecDepth 20000 in
theorem gX7_lose_X7_isSheet : GoodIn wsX7_lose (va_wsS RX7 78 yX7_isSheet wsX7_isSheet) := goodIn_app (goodIn_of _ (by decide +kernel)) ggX7_lose_X7_isSheet
theorem dX7_lose_0 : decode cX7_lose 0 = .ok (.iload_n 1, 1) := by decide +kernel
theorem dX7_lose_1 : decode cX7_lose 1 = .ok (.invokestatic 78, 3) := by decide +kernel
theorem dX7_lose_4 : decode cX7_lose 4 = .ok (.ifCond .ne 5, 3) := by decide +kernel
theorem dX7_lose_7 : decode cX7_lose 7 = .ok (.iconst (-1), 1) := by decide +kernel
theorem dX7_lose_8 : decode cX7_lose 8 = .ok (.ireturn, 1) := by decide +kernel
theorem dX7_lose_9 : decode cX7_lose 9 = .ok (.aload_n 0, 1) := by decide +kernel
theorem dX7_lose_10 : decode cX7_lose 10 = .ok (.getfield 9, 3) := by decide +kernel
theorem dX7_lose_13 : decode cX7_lose 13 = .ok (.iload_n 1, 1) := by decide +kernel
theorem dX7_lose_14 : decode cX7_lose 14 = .ok (.iaload, 1) := by decide +kernel
theorem dX7_lose_15 : decode cX7_lose 15 = .ok (.bipush (-9), 2) := by decide +kernel
theorem dX7_lose_17 : decode cX7_lose 17 = .ok (.if_icmp .ne 7, 3) := by decide +kernel
theorem dX7_lose_20 : decode cX7_lose 20 = .ok (.iconst 0, 1) := by decide +kernel
theorem dX7_lose_21 : decode cX7_lose 21 = .ok (.goto 4, 3) := by decide +kernel
theorem dX7_lose_24 : decode cX7_lose 24 = .ok (.iconst 1, 1) := by decide +kernel
theorem dX7_lose_25 : decode cX7_lose 25 = .ok (.istore_n 2, 1) := by decide +kernel
theorem dX7_lose_26 : decode cX7_lose 26 = .ok (.aload_n 0, 1) := by decide +kernel
theorem dX7_lose_27 : decode cX7_lose 27 = .ok (.getfield 9, 3) := by decide +kernel
theorem dX7_lose_30 : decode cX7_lose 30 = .ok (.iload_n 1, 1) := by decide +kernel
theorem dX7_lose_31 : decode cX7_lose 31 = .ok (.bipush (-9), 2) := by decide +kernel
theorem dX7_lose_33 : decode cX7_lose 33 = .ok (.iastore, 1) := by decide +kernel
theorem dX7_lose_34 : decode cX7_lose 34 = .ok (.iload_n 2, 1) := by decide +kernel
theorem dX7_lose_35 : decode cX7_lose 35 = .ok (.ireturn, 1) := by decide +kernel
set_option maxRecDepth 20000 in
theorem ggX7_put_X7_isSheet : GoodIn wsX7_put wsX7_isSheet := goodIn_r _ [8, 9, 10, 7, 11] (by decide +kernel) (by decide +kernel)
set_option maxRecDepth 20000 in
theorem gX7_put_X7_isSheet : GoodIn wsX7_put (va_wsS RX7 78 yX7_isSheet wsX7_isSheet) := goodIn_app (goodIn_of _ (by decide +kernel)) ggX7_put_X7_isSheet
set_option maxRecDepth 20000 in
theorem ggX7_put_X7_fails : GoodIn wsX7_put wsX7_fails := goodIn_r _ [15, 1, 16, 17, 18, 19, 20, 21, 22, 23, 24, 25, 26, 27, 28, 29, 30, 31, 32, 33, 34, 35, 36, 37, 38, 39, 40, 41, 42, 43, 44, 45, 46, 47, 48] (by decide +kernel) (by decide +kernel)
set_option maxRecDepth 20000 in
theorem gX7_put_X7_fails : GoodIn wsX7_put (wsV RX7 89 RX7 yX7_fails wsX7_fails) := goodIn_app (goodIn_of _ (by decide +kernel)) ggX7_put_X7_fails
set_option maxRecDepth 20000 in
theorem ggX7_put_X7_within : GoodIn wsX7_put wsX7_within := goodIn_r _ [11] (by decide +kernel) (by decide +kernel)
set_option maxRecDepth 20000 in
theorem gX7_put_X7_within : GoodIn wsX7_put (va_wsS RX7 68 yX7_within wsX7_within) := goodIn_app (goodIn_of _ (by decide +kernel)) ggX7_put_X7_within
theorem dX7_put_0 : decode cX7_put 0 = .ok (.aload_n 0, 1) := by decide +kernel
theorem dX7_put_1 : decode cX7_put 1 = .ok (.iconst 0, 1) := by decide +kernel
theorem dX7_put_2 : decode cX7_put 2 = .ok (.putfield 62, 3) := by decide +kernel
theorem dX7_put_5 : decode cX7_put 5 = .ok (.iload_n 1, 1) := by decide +kernel
theorem dX7_put_6 : decode cX7_put 6 = .ok (.invokestatic 78, 3) := by decide +kernel
theorem dX7_put_9 : decode cX7_put 9 = .ok (.ifCond .ne 5, 3) := by decide +kernel
theorem dX7_put_12 : decode cX7_put 12 = .ok (.iconst (-1), 1) := by decide +kernel
theorem dX7_put_13 : decode cX7_put 13 = .ok (.ireturn, 1) := by decide +kernel
theorem dX7_put_14 : decode cX7_put 14 = .ok (.aload_n 0, 1) := by decide +kernel
theorem dX7_put_15 : decode cX7_put 15 = .ok (.getfield 9, 3) := by decide +kernel
theorem dX7_put_18 : decode cX7_put 18 = .ok (.iload_n 1, 1) := by decide +kernel
theorem dX7_put_19 : decode cX7_put 19 = .ok (.iaload, 1) := by decide +kernel
theorem dX7_put_20 : decode cX7_put 20 = .ok (.bipush (-9), 2) := by decide +kernel
theorem dX7_put_22 : decode cX7_put 22 = .ok (.if_icmp .ne 9, 3) := by decide +kernel
theorem dX7_put_25 : decode cX7_put 25 = .ok (.aload_n 0, 1) := by decide +kernel
theorem dX7_put_26 : decode cX7_put 26 = .ok (.iconst 1, 1) := by decide +kernel
theorem dX7_put_27 : decode cX7_put 27 = .ok (.invokevirtual 89, 3) := by decide +kernel
theorem dX7_put_30 : decode cX7_put 30 = .ok (.ireturn, 1) := by decide +kernel
theorem dX7_put_31 : decode cX7_put 31 = .ok (.iload_n 2, 1) := by decide +kernel
theorem dX7_put_32 : decode cX7_put 32 = .ok (.iconst 0, 1) := by decide +kernel
theorem dX7_put_33 : decode cX7_put 33 = .ok (.aload_n 0, 1) := by decide +kernel
theorem dX7_put_34 : decode cX7_put 34 = .ok (.getfield 13, 3) := by decide +kernel
theorem dX7_put_37 : decode cX7_put 37 = .ok (.iload_n 1, 1) := by decide +kernel
theorem dX7_put_38 : decode cX7_put 38 = .ok (.iaload, 1) := by decide +kernel
theorem dX7_put_39 : decode cX7_put 39 = .ok (.iconst 1, 1) := by decide +kernel
theorem dX7_put_40 : decode cX7_put 40 = .ok (.isub, 1) := by decide +kernel
theorem dX7_put_41 : decode cX7_put 41 = .ok (.invokestatic 68, 3) := by decide +kernel
theorem dX7_put_44 : decode cX7_put 44 = .ok (.ifCond .ne 9, 3) := by decide +kernel
theorem dX7_put_47 : decode cX7_put 47 = .ok (.aload_n 0, 1) := by decide +kernel
theorem dX7_put_48 : decode cX7_put 48 = .ok (.iconst 3, 1) := by decide +kernel
theorem dX7_put_49 : decode cX7_put 49 = .ok (.invokevirtual 89, 3) := by decide +kernel
theorem dX7_put_52 : decode cX7_put 52 = .ok (.ireturn, 1) := by decide +kernel
theorem dX7_put_53 : decode cX7_put 53 = .ok (.aload_n 0, 1) := by decide +kernel
theorem dX7_put_54 : decode cX7_put 54 = .ok (.getfield 16, 3) := by decide +kernel
theorem dX7_put_57 : decode cX7_put 57 = .ok (.bipush 60, 2) := by decide +kernel
theorem dX7_put_59 : decode cX7_put 59 = .ok (.iload_n 1, 1) := by decide +kernel
theorem dX7_put_60 : decode cX7_put 60 = .ok (.imul, 1) := by decide +kernel
theorem dX7_put_61 : decode cX7_put 61 = .ok (.iload_n 2, 1) := by decide +kernel
theorem dX7_put_62 : decode cX7_put 62 = .ok (.iadd, 1) := by decide +kernel
theorem dX7_put_63 : decode cX7_put 63 = .ok (.aload_n 0, 1) := by decide +kernel
theorem dX7_put_64 : decode cX7_put 64 = .ok (.getfield 9, 3) := by decide +kernel
theorem dX7_put_67 : decode cX7_put 67 = .ok (.iload_n 1, 1) := by decide +kernel
theorem dX7_put_68 : decode cX7_put 68 = .ok (.iaload, 1) := by decide +kernel
theorem dX7_put_69 : decode cX7_put 69 = .ok (.ifCond .ne 8, 3) := by decide +kernel
theorem dX7_put_72 : decode cX7_put 72 = .ok (.iload_n 3, 1) := by decide +kernel
theorem dX7_put_73 : decode cX7_put 73 = .ok (.i2b, 1) := by decide +kernel
theorem dX7_put_74 : decode cX7_put 74 = .ok (.goto 19, 3) := by decide +kernel
theorem dX7_put_77 : decode cX7_put 77 = .ok (.aload_n 0, 1) := by decide +kernel
theorem dX7_put_78 : decode cX7_put 78 = .ok (.getfield 9, 3) := by decide +kernel
theorem dX7_put_81 : decode cX7_put 81 = .ok (.iload_n 1, 1) := by decide +kernel
theorem dX7_put_82 : decode cX7_put 82 = .ok (.iaload, 1) := by decide +kernel
theorem dX7_put_83 : decode cX7_put 83 = .ok (.iconst 1, 1) := by decide +kernel
theorem dX7_put_84 : decode cX7_put 84 = .ok (.if_icmp .ne 8, 3) := by decide +kernel
theorem dX7_put_87 : decode cX7_put 87 = .ok (.iload_n 3, 1) := by decide +kernel
theorem dX7_put_88 : decode cX7_put 88 = .ok (.i2s, 1) := by decide +kernel
theorem dX7_put_89 : decode cX7_put 89 = .ok (.goto 4, 3) := by decide +kernel
theorem dX7_put_92 : decode cX7_put 92 = .ok (.iload_n 3, 1) := by decide +kernel
theorem dX7_put_93 : decode cX7_put 93 = .ok (.iastore, 1) := by decide +kernel
theorem dX7_put_94 : decode cX7_put 94 = .ok (.iconst 1, 1) := by decide +kernel
theorem dX7_put_95 : decode cX7_put 95 = .ok (.ireturn, 1) := by decide +kernel
set_option maxRecDepth 20000 in
theorem ggX7_cell_X7_isSheet : GoodIn wsX7_cell wsX7_isSheet := goodIn_r _ [9, 10, 11, 8, 12] (by decide +kernel) (by decide +kernel)
set_option maxRecDepth 20000 in
theorem gX7_cell_X7_isSheet : GoodIn wsX7_cell (va_wsS RX7 78 yX7_isSheet wsX7_isSheet) := goodIn_app (goodIn_of _ (by decide +kernel)) ggX7_cell_X7_isSheet
set_option maxRecDepth 20000 in
theorem ggX7_cell_X7_isSort : GoodIn wsX7_cell wsX7_isSort := goodIn_r _ [15, 10, 11, 8, 12] (by decide +kernel) (by decide +kernel)
set_option maxRecDepth 20000 in
theorem gX7_cell_X7_isSort : GoodIn wsX7_cell (va_wsS RX7 82 yX7_isSort wsX7_isSort) := goodIn_app (goodIn_of _ (by decide +kernel)) ggX7_cell_X7_isSort
set_option maxRecDepth 20000 in
theorem ggX7_cell_X7_lost : GoodIn wsX7_cell wsX7_lost := goodIn_r _ [19, 1, 2, 20, 21, 22, 23, 24, 25, 26, 27, 28, 29, 30, 31, 32, 33, 34, 35, 36, 37, 38, 39, 40, 41, 42, 43, 44, 45, 46, 47, 48, 49, 50, 51, 52] (by decide +kernel) (by decide +kernel)
set_option maxRecDepth 20000 in
theorem gX7_cell_X7_lost : GoodIn wsX7_cell (wsV RX7 234 RX7 yX7_lost wsX7_lost) := goodIn_app (goodIn_of _ (by decide +kernel)) ggX7_cell_X7_lost
set_option maxRecDepth 20000 in
theorem ggX7_cell_X7_within : GoodIn wsX7_cell wsX7_within := goodIn_r _ [12] (by decide +kernel) (by decide +kernel)
set_option maxRecDepth 20000 in
theorem gX7_cell_X7_within : GoodIn wsX7_cell (va_wsS RX7 68 yX7_within wsX7_within) := goodIn_app (goodIn_of _ (by decide +kernel)) ggX7_cell_X7_within
theorem dX7_cell_0 : decode cX7_cell 0 = .ok (.aload_n 0, 1) := by decide +kernel
theorem dX7_cell_1 : decode cX7_cell 1 = .ok (.iconst 0, 1) := by decide +kernel
theorem dX7_cell_2 : decode cX7_cell 2 = .ok (.putfield 62, 3) := by decide +kernel
theorem dX7_cell_5 : decode cX7_cell 5 = .ok (.iload_n 1, 1) := by decide +kernel
theorem dX7_cell_6 : decode cX7_cell 6 = .ok (.invokestatic 78, 3) := by decide +kernel
theorem dX7_cell_9 : decode cX7_cell 9 = .ok (.ifCond .eq 10, 3) := by decide +kernel
theorem dX7_cell_12 : decode cX7_cell 12 = .ok (.iload_n 3, 1) := by decide +kernel
theorem dX7_cell_13 : decode cX7_cell 13 = .ok (.invokestatic 82, 3) := by decide +kernel
theorem dX7_cell_16 : decode cX7_cell 16 = .ok (.ifCond .ne 7, 3) := by decide +kernel
theorem dX7_cell_19 : decode cX7_cell 19 = .ok (.ldc2_w 66, 3) := by decide +kernel
theorem dX7_cell_22 : decode cX7_cell 22 = .ok (.lreturn, 1) := by decide +kernel
theorem dX7_cell_23 : decode cX7_cell 23 = .ok (.aload_n 0, 1) := by decide +kernel
theorem dX7_cell_24 : decode cX7_cell 24 = .ok (.getfield 9, 3) := by decide +kernel
theorem dX7_cell_27 : decode cX7_cell 27 = .ok (.iload_n 1, 1) := by decide +kernel
theorem dX7_cell_28 : decode cX7_cell 28 = .ok (.iaload, 1) := by decide +kernel
theorem dX7_cell_29 : decode cX7_cell 29 = .ok (.bipush (-9), 2) := by decide +kernel
theorem dX7_cell_31 : decode cX7_cell 31 = .ok (.if_icmp .eq 19, 3) := by decide +kernel
theorem dX7_cell_34 : decode cX7_cell 34 = .ok (.aload_n 0, 1) := by decide +kernel
theorem dX7_cell_35 : decode cX7_cell 35 = .ok (.getfield 9, 3) := by decide +kernel
theorem dX7_cell_38 : decode cX7_cell 38 = .ok (.iload_n 1, 1) := by decide +kernel
theorem dX7_cell_39 : decode cX7_cell 39 = .ok (.iaload, 1) := by decide +kernel
theorem dX7_cell_40 : decode cX7_cell 40 = .ok (.iload_n 3, 1) := by decide +kernel
theorem dX7_cell_41 : decode cX7_cell 41 = .ok (.if_icmp .eq 9, 3) := by decide +kernel
theorem dX7_cell_44 : decode cX7_cell 44 = .ok (.aload_n 0, 1) := by decide +kernel
theorem dX7_cell_45 : decode cX7_cell 45 = .ok (.iconst 2, 1) := by decide +kernel
theorem dX7_cell_46 : decode cX7_cell 46 = .ok (.invokevirtual 234, 3) := by decide +kernel
theorem dX7_cell_49 : decode cX7_cell 49 = .ok (.lreturn, 1) := by decide +kernel
theorem dX7_cell_50 : decode cX7_cell 50 = .ok (.aload_n 0, 1) := by decide +kernel
theorem dX7_cell_51 : decode cX7_cell 51 = .ok (.getfield 9, 3) := by decide +kernel
theorem dX7_cell_54 : decode cX7_cell 54 = .ok (.iload_n 1, 1) := by decide +kernel
theorem dX7_cell_55 : decode cX7_cell 55 = .ok (.iaload, 1) := by decide +kernel
theorem dX7_cell_56 : decode cX7_cell 56 = .ok (.bipush (-9), 2) := by decide +kernel
theorem dX7_cell_58 : decode cX7_cell 58 = .ok (.if_icmp .ne 9, 3) := by decide +kernel
theorem dX7_cell_61 : decode cX7_cell 61 = .ok (.aload_n 0, 1) := by decide +kernel
theorem dX7_cell_62 : decode cX7_cell 62 = .ok (.iconst 1, 1) := by decide +kernel
theorem dX7_cell_63 : decode cX7_cell 63 = .ok (.invokevirtual 234, 3) := by decide +kernel
theorem dX7_cell_66 : decode cX7_cell 66 = .ok (.lreturn, 1) := by decide +kernel
theorem dX7_cell_67 : decode cX7_cell 67 = .ok (.iload_n 2, 1) := by decide +kernel
theorem dX7_cell_68 : decode cX7_cell 68 = .ok (.iconst 0, 1) := by decide +kernel
theorem dX7_cell_69 : decode cX7_cell 69 = .ok (.aload_n 0, 1) := by decide +kernel
theorem dX7_cell_70 : decode cX7_cell 70 = .ok (.getfield 13, 3) := by decide +kernel
theorem dX7_cell_73 : decode cX7_cell 73 = .ok (.iload_n 1, 1) := by decide +kernel
theorem dX7_cell_74 : decode cX7_cell 74 = .ok (.iaload, 1) := by decide +kernel
theorem dX7_cell_75 : decode cX7_cell 75 = .ok (.iconst 1, 1) := by decide +kernel
theorem dX7_cell_76 : decode cX7_cell 76 = .ok (.isub, 1) := by decide +kernel
theorem dX7_cell_77 : decode cX7_cell 77 = .ok (.invokestatic 68, 3) := by decide +kernel
theorem dX7_cell_80 : decode cX7_cell 80 = .ok (.ifCond .ne 9, 3) := by decide +kernel
theorem dX7_cell_83 : decode cX7_cell 83 = .ok (.aload_n 0, 1) := by decide +kernel
theorem dX7_cell_84 : decode cX7_cell 84 = .ok (.iconst 3, 1) := by decide +kernel
theorem dX7_cell_85 : decode cX7_cell 85 = .ok (.invokevirtual 234, 3) := by decide +kernel
theorem dX7_cell_88 : decode cX7_cell 88 = .ok (.lreturn, 1) := by decide +kernel
theorem dX7_cell_89 : decode cX7_cell 89 = .ok (.aload_n 0, 1) := by decide +kernel
theorem dX7_cell_90 : decode cX7_cell 90 = .ok (.getfield 16, 3) := by decide +kernel
theorem dX7_cell_93 : decode cX7_cell 93 = .ok (.bipush 60, 2) := by decide +kernel
theorem dX7_cell_95 : decode cX7_cell 95 = .ok (.iload_n 1, 1) := by decide +kernel
theorem dX7_cell_96 : decode cX7_cell 96 = .ok (.imul, 1) := by decide +kernel
theorem dX7_cell_97 : decode cX7_cell 97 = .ok (.iload_n 2, 1) := by decide +kernel
theorem dX7_cell_98 : decode cX7_cell 98 = .ok (.iadd, 1) := by decide +kernel
theorem dX7_cell_99 : decode cX7_cell 99 = .ok (.iaload, 1) := by decide +kernel
theorem dX7_cell_100 : decode cX7_cell 100 = .ok (.i2l, 1) := by decide +kernel
theorem dX7_cell_101 : decode cX7_cell 101 = .ok (.lreturn, 1) := by decide +kernel
set_option maxRecDepth 20000 in
theorem ggX7_copy_X7_isSheet : GoodIn wsX7_copy wsX7_isSheet := goodIn_r _ [8, 9, 10, 7, 11] (by decide +kernel) (by decide +kernel)
set_option maxRecDepth 20000 in
theorem gX7_copy_X7_isSheet : GoodIn wsX7_copy (va_wsS RX7 78 yX7_isSheet wsX7_isSheet) := goodIn_app (goodIn_of _ (by decide +kernel)) ggX7_copy_X7_isSheet
set_option maxRecDepth 20000 in
theorem ggX7_copy_X7_fails : GoodIn wsX7_copy wsX7_fails := goodIn_r _ [15, 1, 16, 17, 18, 19, 20, 21, 22, 23, 24, 25, 26, 27, 28, 29, 30, 31, 32, 33, 34, 35, 36, 37, 38, 39, 40, 41, 42, 43, 44, 45, 46, 47, 48] (by decide +kernel) (by decide +kernel)
set_option maxRecDepth 20000 in
theorem gX7_copy_X7_fails : GoodIn wsX7_copy (wsV RX7 89 RX7 yX7_fails wsX7_fails) := goodIn_app (goodIn_of _ (by decide +kernel)) ggX7_copy_X7_fails
theorem dX7_copy_0 : decode cX7_copy 0 = .ok (.aload_n 0, 1) := by decide +kernel
theorem dX7_copy_1 : decode cX7_copy 1 = .ok (.iconst 0, 1) := by decide +kernel
theorem dX7_copy_2 : decode cX7_copy 2 = .ok (.putfield 62, 3) := by decide +kernel
theorem dX7_copy_5 : decode cX7_copy 5 = .ok (.iload_n 1, 1) := by decide +kernel
theorem dX7_copy_6 : decode cX7_copy 6 = .ok (.invokestatic 78, 3) := by decide +kernel
theorem dX7_copy_9 : decode cX7_copy 9 = .ok (.ifCond .eq 10, 3) := by decide +kernel
theorem dX7_copy_12 : decode cX7_copy 12 = .ok (.iload_n 3, 1) := by decide +kernel
theorem dX7_copy_13 : decode cX7_copy 13 = .ok (.invokestatic 78, 3) := by decide +kernel
theorem dX7_copy_16 : decode cX7_copy 16 = .ok (.ifCond .ne 5, 3) := by decide +kernel
theorem dX7_copy_19 : decode cX7_copy 19 = .ok (.iconst (-1), 1) := by decide +kernel
theorem dX7_copy_20 : decode cX7_copy 20 = .ok (.ireturn, 1) := by decide +kernel
theorem dX7_copy_21 : decode cX7_copy 21 = .ok (.aload_n 0, 1) := by decide +kernel
theorem dX7_copy_22 : decode cX7_copy 22 = .ok (.getfield 9, 3) := by decide +kernel
theorem dX7_copy_25 : decode cX7_copy 25 = .ok (.iload_n 1, 1) := by decide +kernel
theorem dX7_copy_26 : decode cX7_copy 26 = .ok (.iaload, 1) := by decide +kernel
theorem dX7_copy_27 : decode cX7_copy 27 = .ok (.bipush (-9), 2) := by decide +kernel
theorem dX7_copy_29 : decode cX7_copy 29 = .ok (.if_icmp .eq 14, 3) := by decide +kernel
theorem dX7_copy_32 : decode cX7_copy 32 = .ok (.aload_n 0, 1) := by decide +kernel
theorem dX7_copy_33 : decode cX7_copy 33 = .ok (.getfield 9, 3) := by decide +kernel
theorem dX7_copy_36 : decode cX7_copy 36 = .ok (.iload_n 3, 1) := by decide +kernel
theorem dX7_copy_37 : decode cX7_copy 37 = .ok (.iaload, 1) := by decide +kernel
theorem dX7_copy_38 : decode cX7_copy 38 = .ok (.bipush (-9), 2) := by decide +kernel
theorem dX7_copy_40 : decode cX7_copy 40 = .ok (.if_icmp .ne 9, 3) := by decide +kernel
theorem dX7_copy_43 : decode cX7_copy 43 = .ok (.aload_n 0, 1) := by decide +kernel
theorem dX7_copy_44 : decode cX7_copy 44 = .ok (.iconst 1, 1) := by decide +kernel
theorem dX7_copy_45 : decode cX7_copy 45 = .ok (.invokevirtual 89, 3) := by decide +kernel
theorem dX7_copy_48 : decode cX7_copy 48 = .ok (.ireturn, 1) := by decide +kernel
theorem dX7_copy_49 : decode cX7_copy 49 = .ok (.aload_n 0, 1) := by decide +kernel
theorem dX7_copy_50 : decode cX7_copy 50 = .ok (.getfield 9, 3) := by decide +kernel
theorem dX7_copy_53 : decode cX7_copy 53 = .ok (.iload_n 1, 1) := by decide +kernel
theorem dX7_copy_54 : decode cX7_copy 54 = .ok (.iaload, 1) := by decide +kernel
theorem dX7_copy_55 : decode cX7_copy 55 = .ok (.aload_n 0, 1) := by decide +kernel
theorem dX7_copy_56 : decode cX7_copy 56 = .ok (.getfield 9, 3) := by decide +kernel
theorem dX7_copy_59 : decode cX7_copy 59 = .ok (.iload_n 3, 1) := by decide +kernel
theorem dX7_copy_60 : decode cX7_copy 60 = .ok (.iaload, 1) := by decide +kernel
theorem dX7_copy_61 : decode cX7_copy 61 = .ok (.if_icmp .eq 9, 3) := by decide +kernel
theorem dX7_copy_64 : decode cX7_copy 64 = .ok (.aload_n 0, 1) := by decide +kernel
theorem dX7_copy_65 : decode cX7_copy 65 = .ok (.iconst 2, 1) := by decide +kernel
theorem dX7_copy_66 : decode cX7_copy 66 = .ok (.invokevirtual 89, 3) := by decide +kernel
theorem dX7_copy_69 : decode cX7_copy 69 = .ok (.ireturn, 1) := by decide +kernel
theorem dX7_copy_70 : decode cX7_copy 70 = .ok (.iload_n 2, 1) := by decide +kernel
theorem dX7_copy_71 : decode cX7_copy 71 = .ok (.ifCond .lt 38, 3) := by decide +kernel
theorem dX7_copy_74 : decode cX7_copy 74 = .ok (.iload 4, 2) := by decide +kernel
theorem dX7_copy_76 : decode cX7_copy 76 = .ok (.ifCond .lt 33, 3) := by decide +kernel
theorem dX7_copy_79 : decode cX7_copy 79 = .ok (.iload 5, 2) := by decide +kernel
theorem dX7_copy_81 : decode cX7_copy 81 = .ok (.ifCond .lt 28, 3) := by decide +kernel
theorem dX7_copy_84 : decode cX7_copy 84 = .ok (.iload_n 2, 1) := by decide +kernel
theorem dX7_copy_85 : decode cX7_copy 85 = .ok (.aload_n 0, 1) := by decide +kernel
theorem dX7_copy_86 : decode cX7_copy 86 = .ok (.getfield 13, 3) := by decide +kernel
theorem dX7_copy_89 : decode cX7_copy 89 = .ok (.iload_n 1, 1) := by decide +kernel
theorem dX7_copy_90 : decode cX7_copy 90 = .ok (.iaload, 1) := by decide +kernel
theorem dX7_copy_91 : decode cX7_copy 91 = .ok (.if_icmp .gt 18, 3) := by decide +kernel
theorem dX7_copy_94 : decode cX7_copy 94 = .ok (.iload 4, 2) := by decide +kernel
theorem dX7_copy_96 : decode cX7_copy 96 = .ok (.aload_n 0, 1) := by decide +kernel
theorem dX7_copy_97 : decode cX7_copy 97 = .ok (.getfield 13, 3) := by decide +kernel
theorem dX7_copy_100 : decode cX7_copy 100 = .ok (.iload_n 3, 1) := by decide +kernel
theorem dX7_copy_101 : decode cX7_copy 101 = .ok (.iaload, 1) := by decide +kernel
theorem dX7_copy_102 : decode cX7_copy 102 = .ok (.if_icmp .gt 7, 3) := by decide +kernel
theorem dX7_copy_105 : decode cX7_copy 105 = .ok (.iconst 1, 1) := by decide +kernel
theorem dX7_copy_106 : decode cX7_copy 106 = .ok (.goto 4, 3) := by decide +kernel
theorem dX7_copy_109 : decode cX7_copy 109 = .ok (.iconst 0, 1) := by decide +kernel
theorem dX7_copy_110 : decode cX7_copy 110 = .ok (.istore 6, 2) := by decide +kernel
theorem dX7_copy_112 : decode cX7_copy 112 = .ok (.iload 6, 2) := by decide +kernel
theorem dX7_copy_114 : decode cX7_copy 114 = .ok (.ifCond .eq 30, 3) := by decide +kernel
theorem dX7_copy_117 : decode cX7_copy 117 = .ok (.iload 5, 2) := by decide +kernel
theorem dX7_copy_119 : decode cX7_copy 119 = .ok (.aload_n 0, 1) := by decide +kernel
theorem dX7_copy_120 : decode cX7_copy 120 = .ok (.getfield 13, 3) := by decide +kernel
theorem dX7_copy_123 : decode cX7_copy 123 = .ok (.iload_n 1, 1) := by decide +kernel
theorem dX7_copy_124 : decode cX7_copy 124 = .ok (.iaload, 1) := by decide +kernel
theorem dX7_copy_125 : decode cX7_copy 125 = .ok (.iload_n 2, 1) := by decide +kernel
theorem dX7_copy_126 : decode cX7_copy 126 = .ok (.isub, 1) := by decide +kernel
theorem dX7_copy_127 : decode cX7_copy 127 = .ok (.if_icmp .gt 17, 3) := by decide +kernel
theorem dX7_copy_130 : decode cX7_copy 130 = .ok (.iload 5, 2) := by decide +kernel
theorem dX7_copy_132 : decode cX7_copy 132 = .ok (.aload_n 0, 1) := by decide +kernel
theorem dX7_copy_133 : decode cX7_copy 133 = .ok (.getfield 13, 3) := by decide +kernel
theorem dX7_copy_136 : decode cX7_copy 136 = .ok (.iload_n 3, 1) := by decide +kernel
theorem dX7_copy_137 : decode cX7_copy 137 = .ok (.iaload, 1) := by decide +kernel
theorem dX7_copy_138 : decode cX7_copy 138 = .ok (.iload 4, 2) := by decide +kernel
theorem dX7_copy_140 : decode cX7_copy 140 = .ok (.isub, 1) := by decide +kernel
theorem dX7_copy_141 : decode cX7_copy 141 = .ok (.if_icmp .le 9, 3) := by decide +kernel
theorem dX7_copy_144 : decode cX7_copy 144 = .ok (.aload_n 0, 1) := by decide +kernel
theorem dX7_copy_145 : decode cX7_copy 145 = .ok (.iconst 3, 1) := by decide +kernel
theorem dX7_copy_146 : decode cX7_copy 146 = .ok (.invokevirtual 89, 3) := by decide +kernel
theorem dX7_copy_149 : decode cX7_copy 149 = .ok (.ireturn, 1) := by decide +kernel
theorem dX7_copy_150 : decode cX7_copy 150 = .ok (.iload_n 2, 1) := by decide +kernel
theorem dX7_copy_151 : decode cX7_copy 151 = .ok (.iload 4, 2) := by decide +kernel
theorem dX7_copy_153 : decode cX7_copy 153 = .ok (.if_icmp .ge 7, 3) := by decide +kernel
theorem dX7_copy_156 : decode cX7_copy 156 = .ok (.iconst 1, 1) := by decide +kernel
theorem dX7_copy_157 : decode cX7_copy 157 = .ok (.goto 4, 3) := by decide +kernel
theorem dX7_copy_160 : decode cX7_copy 160 = .ok (.iconst 0, 1) := by decide +kernel
theorem dX7_copy_161 : decode cX7_copy 161 = .ok (.istore 7, 2) := by decide +kernel
theorem dX7_copy_163 : decode cX7_copy 163 = .ok (.iconst 0, 1) := by decide +kernel
theorem dX7_copy_164 : decode cX7_copy 164 = .ok (.istore 8, 2) := by decide +kernel
theorem dX7_copy_166 : decode cX7_copy 166 = .ok (.iload 8, 2) := by decide +kernel
theorem dX7_copy_168 : decode cX7_copy 168 = .ok (.iload 5, 2) := by decide +kernel
theorem dX7_copy_170 : decode cX7_copy 170 = .ok (.if_icmp .ge 57, 3) := by decide +kernel
theorem dX7_copy_173 : decode cX7_copy 173 = .ok (.iload 7, 2) := by decide +kernel
theorem dX7_copy_175 : decode cX7_copy 175 = .ok (.ifCond .eq 13, 3) := by decide +kernel
theorem dX7_copy_178 : decode cX7_copy 178 = .ok (.iload 5, 2) := by decide +kernel
theorem dX7_copy_180 : decode cX7_copy 180 = .ok (.iconst 1, 1) := by decide +kernel
theorem dX7_copy_181 : decode cX7_copy 181 = .ok (.isub, 1) := by decide +kernel
theorem dX7_copy_182 : decode cX7_copy 182 = .ok (.iload 8, 2) := by decide +kernel
theorem dX7_copy_184 : decode cX7_copy 184 = .ok (.isub, 1) := by decide +kernel
theorem dX7_copy_185 : decode cX7_copy 185 = .ok (.goto 5, 3) := by decide +kernel
theorem dX7_copy_188 : decode cX7_copy 188 = .ok (.iload 8, 2) := by decide +kernel
theorem dX7_copy_190 : decode cX7_copy 190 = .ok (.istore 9, 2) := by decide +kernel
theorem dX7_copy_192 : decode cX7_copy 192 = .ok (.aload_n 0, 1) := by decide +kernel
theorem dX7_copy_193 : decode cX7_copy 193 = .ok (.getfield 16, 3) := by decide +kernel
theorem dX7_copy_196 : decode cX7_copy 196 = .ok (.bipush 60, 2) := by decide +kernel
theorem dX7_copy_198 : decode cX7_copy 198 = .ok (.iload_n 3, 1) := by decide +kernel
theorem dX7_copy_199 : decode cX7_copy 199 = .ok (.imul, 1) := by decide +kernel
theorem dX7_copy_200 : decode cX7_copy 200 = .ok (.iload 4, 2) := by decide +kernel
theorem dX7_copy_202 : decode cX7_copy 202 = .ok (.iadd, 1) := by decide +kernel
theorem dX7_copy_203 : decode cX7_copy 203 = .ok (.iload 9, 2) := by decide +kernel
theorem dX7_copy_205 : decode cX7_copy 205 = .ok (.iadd, 1) := by decide +kernel
theorem dX7_copy_206 : decode cX7_copy 206 = .ok (.aload_n 0, 1) := by decide +kernel
theorem dX7_copy_207 : decode cX7_copy 207 = .ok (.getfield 16, 3) := by decide +kernel
theorem dX7_copy_210 : decode cX7_copy 210 = .ok (.bipush 60, 2) := by decide +kernel
theorem dX7_copy_212 : decode cX7_copy 212 = .ok (.iload_n 1, 1) := by decide +kernel
theorem dX7_copy_213 : decode cX7_copy 213 = .ok (.imul, 1) := by decide +kernel
theorem dX7_copy_214 : decode cX7_copy 214 = .ok (.iload_n 2, 1) := by decide +kernel
theorem dX7_copy_215 : decode cX7_copy 215 = .ok (.iadd, 1) := by decide +kernel
theorem dX7_copy_216 : decode cX7_copy 216 = .ok (.iload 9, 2) := by decide +kernel
theorem dX7_copy_218 : decode cX7_copy 218 = .ok (.iadd, 1) := by decide +kernel
theorem dX7_copy_219 : decode cX7_copy 219 = .ok (.iaload, 1) := by decide +kernel
theorem dX7_copy_220 : decode cX7_copy 220 = .ok (.iastore, 1) := by decide +kernel
theorem dX7_copy_221 : decode cX7_copy 221 = .ok (.iinc 8 1, 3) := by decide +kernel
theorem dX7_copy_224 : decode cX7_copy 224 = .ok (.goto (-58), 3) := by decide +kernel
theorem dX7_copy_227 : decode cX7_copy 227 = .ok (.iload 5, 2) := by decide +kernel
theorem dX7_copy_229 : decode cX7_copy 229 = .ok (.ireturn, 1) := by decide +kernel
theorem dX7_begins_0 : decode cX7_begins 0 = .ok (.aload_n 0, 1) := by decide +kernel
theorem dX7_begins_1 : decode cX7_begins 1 = .ok (.bipush 31, 2) := by decide +kernel
theorem dX7_begins_3 : decode cX7_begins 3 = .ok (.aload_n 0, 1) := by decide +kernel
theorem dX7_begins_4 : decode cX7_begins 4 = .ok (.getfield 238, 3) := by decide +kernel
theorem dX7_begins_7 : decode cX7_begins 7 = .ok (.imul, 1) := by decide +kernel
theorem dX7_begins_8 : decode cX7_begins 8 = .ok (.iload_n 1, 1) := by decide +kernel
theorem dX7_begins_9 : decode cX7_begins 9 = .ok (.iadd, 1) := by decide +kernel
theorem dX7_begins_10 : decode cX7_begins 10 = .ok (.putfield 238, 3) := by decide +kernel
theorem dX7_begins_13 : decode cX7_begins 13 = .ok (.return_, 1) := by decide +kernel
set_option maxRecDepth 20000 in
theorem ggX7_tell_X7_isTube : GoodIn wsX7_tell wsX7_isTube := goodIn_r _ [7, 8, 14, 15, 16, 17, 18, 19, 20, 21, 22, 23, 24, 25, 26, 27, 28, 29, 30, 31, 32, 33, 34, 35, 36, 37, 38, 39, 40, 41, 42, 43, 44, 45, 46] (by decide +kernel) (by decide +kernel)
set_option maxRecDepth 20000 in
theorem gX7_tell_X7_isTube : GoodIn wsX7_tell (wsV RX7 163 RX7 yX7_isTube wsX7_isTube) := goodIn_app (goodIn_of _ (by decide +kernel)) ggX7_tell_X7_isTube
set_option maxRecDepth 20000 in
theorem ggX7_tell_X7_begins : GoodIn wsX7_tell wsX7_begins := goodIn_r _ [12, 13, 14, 15, 16, 17, 18, 19, 20, 21, 22, 23, 24, 25, 26, 27, 28, 29, 30, 31, 32, 33, 34, 35, 36, 37, 38, 39, 40, 41, 42, 43, 44, 45, 46] (by decide +kernel) (by decide +kernel)
set_option maxRecDepth 20000 in
theorem gX7_tell_X7_begins : GoodIn wsX7_tell (wsV RX7 241 RX7 yX7_begins wsX7_begins) := goodIn_app (goodIn_of _ (by decide +kernel)) ggX7_tell_X7_begins
theorem dX7_tell_0 : decode cX7_tell 0 = .ok (.aload_n 0, 1) := by decide +kernel
theorem dX7_tell_1 : decode cX7_tell 1 = .ok (.iload_n 1, 1) := by decide +kernel
theorem dX7_tell_2 : decode cX7_tell 2 = .ok (.invokevirtual 163, 3) := by decide +kernel
theorem dX7_tell_5 : decode cX7_tell 5 = .ok (.ifCond .ne 5, 3) := by decide +kernel
theorem dX7_tell_8 : decode cX7_tell 8 = .ok (.iconst (-1), 1) := by decide +kernel
theorem dX7_tell_9 : decode cX7_tell 9 = .ok (.ireturn, 1) := by decide +kernel
theorem dX7_tell_10 : decode cX7_tell 10 = .ok (.aload_n 0, 1) := by decide +kernel
theorem dX7_tell_11 : decode cX7_tell 11 = .ok (.getfield 37, 3) := by decide +kernel
theorem dX7_tell_14 : decode cX7_tell 14 = .ok (.iload_n 1, 1) := by decide +kernel
theorem dX7_tell_15 : decode cX7_tell 15 = .ok (.iaload, 1) := by decide +kernel
theorem dX7_tell_16 : decode cX7_tell 16 = .ok (.istore_n 2, 1) := by decide +kernel
theorem dX7_tell_17 : decode cX7_tell 17 = .ok (.aload_n 0, 1) := by decide +kernel
theorem dX7_tell_18 : decode cX7_tell 18 = .ok (.getfield 22, 3) := by decide +kernel
theorem dX7_tell_21 : decode cX7_tell 21 = .ok (.iload_n 1, 1) := by decide +kernel
theorem dX7_tell_22 : decode cX7_tell 22 = .ok (.iaload, 1) := by decide +kernel
theorem dX7_tell_23 : decode cX7_tell 23 = .ok (.lookupswitch 67 #[(1, 25), (2, 40)], 25) := by decide +kernel
theorem dX7_tell_48 : decode cX7_tell 48 = .ok (.aload_n 0, 1) := by decide +kernel
theorem dX7_tell_49 : decode cX7_tell 49 = .ok (.iconst 2, 1) := by decide +kernel
theorem dX7_tell_50 : decode cX7_tell 50 = .ok (.invokevirtual 241, 3) := by decide +kernel
theorem dX7_tell_53 : decode cX7_tell 53 = .ok (.aload_n 0, 1) := by decide +kernel
theorem dX7_tell_54 : decode cX7_tell 54 = .ok (.iconst 1, 1) := by decide +kernel
theorem dX7_tell_55 : decode cX7_tell 55 = .ok (.invokevirtual 241, 3) := by decide +kernel
theorem dX7_tell_58 : decode cX7_tell 58 = .ok (.iload_n 2, 1) := by decide +kernel
theorem dX7_tell_59 : decode cX7_tell 59 = .ok (.bipush 100, 2) := by decide +kernel
theorem dX7_tell_61 : decode cX7_tell 61 = .ok (.iadd, 1) := by decide +kernel
theorem dX7_tell_62 : decode cX7_tell 62 = .ok (.ireturn, 1) := by decide +kernel
theorem dX7_tell_63 : decode cX7_tell 63 = .ok (.aload_n 0, 1) := by decide +kernel
theorem dX7_tell_64 : decode cX7_tell 64 = .ok (.iconst 3, 1) := by decide +kernel
theorem dX7_tell_65 : decode cX7_tell 65 = .ok (.invokevirtual 241, 3) := by decide +kernel
theorem dX7_tell_68 : decode cX7_tell 68 = .ok (.aload_n 0, 1) := by decide +kernel
theorem dX7_tell_69 : decode cX7_tell 69 = .ok (.iconst 2, 1) := by decide +kernel
theorem dX7_tell_70 : decode cX7_tell 70 = .ok (.invokevirtual 241, 3) := by decide +kernel
theorem dX7_tell_73 : decode cX7_tell 73 = .ok (.aload_n 0, 1) := by decide +kernel
theorem dX7_tell_74 : decode cX7_tell 74 = .ok (.iconst 1, 1) := by decide +kernel
theorem dX7_tell_75 : decode cX7_tell 75 = .ok (.invokevirtual 241, 3) := by decide +kernel
theorem dX7_tell_78 : decode cX7_tell 78 = .ok (.aload_n 0, 1) := by decide +kernel
theorem dX7_tell_79 : decode cX7_tell 79 = .ok (.iconst 1, 1) := by decide +kernel
theorem dX7_tell_80 : decode cX7_tell 80 = .ok (.invokevirtual 241, 3) := by decide +kernel
theorem dX7_tell_83 : decode cX7_tell 83 = .ok (.iconst 2, 1) := by decide +kernel
theorem dX7_tell_84 : decode cX7_tell 84 = .ok (.iload_n 2, 1) := by decide +kernel
theorem dX7_tell_85 : decode cX7_tell 85 = .ok (.imul, 1) := by decide +kernel
theorem dX7_tell_86 : decode cX7_tell 86 = .ok (.bipush 100, 2) := by decide +kernel
theorem dX7_tell_88 : decode cX7_tell 88 = .ok (.iadd, 1) := by decide +kernel
theorem dX7_tell_89 : decode cX7_tell 89 = .ok (.ireturn, 1) := by decide +kernel
theorem dX7_tell_90 : decode cX7_tell 90 = .ok (.aload_n 0, 1) := by decide +kernel
theorem dX7_tell_91 : decode cX7_tell 91 = .ok (.iconst 1, 1) := by decide +kernel
theorem dX7_tell_92 : decode cX7_tell 92 = .ok (.invokevirtual 241, 3) := by decide +kernel
theorem dX7_tell_95 : decode cX7_tell 95 = .ok (.iload_n 2, 1) := by decide +kernel
theorem dX7_tell_96 : decode cX7_tell 96 = .ok (.ireturn, 1) := by decide +kernel
set_option maxRecDepth 20000 in
theorem ggX7_rattle_X7_isTube : GoodIn wsX7_rattle wsX7_isTube := goodIn_r _ [6, 7, 13, 14, 15, 16, 17, 18, 19, 20, 21, 22, 23, 24, 25, 26, 27, 28, 29, 30, 31, 32, 33, 34, 35, 36, 37, 38, 39, 40, 41, 42, 43, 44, 45] (by decide +kernel) (by decide +kernel)
set_option maxRecDepth 20000 in
theorem gX7_rattle_X7_isTube : GoodIn wsX7_rattle (wsV RX7 163 RX7 yX7_isTube wsX7_isTube) := goodIn_app (goodIn_of _ (by decide +kernel)) ggX7_rattle_X7_isTube
set_option maxRecDepth 20000 in
theorem ggX7_rattle_X7_begins : GoodIn wsX7_rattle wsX7_begins := goodIn_r _ [11, 12, 13, 14, 15, 16, 17, 18, 19, 20, 21, 22, 23, 24, 25, 26, 27, 28, 29, 30, 31, 32, 33, 34, 35, 36, 37, 38, 39, 40, 41, 42, 43, 44, 45] (by decide +kernel) (by decide +kernel)
set_option maxRecDepth 20000 in
theorem gX7_rattle_X7_begins : GoodIn wsX7_rattle (wsV RX7 241 RX7 yX7_begins wsX7_begins) := goodIn_app (goodIn_of _ (by decide +kernel)) ggX7_rattle_X7_begins
theorem dX7_rattle_0 : decode cX7_rattle 0 = .ok (.aload_n 0, 1) := by decide +kernel
theorem dX7_rattle_1 : decode cX7_rattle 1 = .ok (.iload_n 1, 1) := by decide +kernel
theorem dX7_rattle_2 : decode cX7_rattle 2 = .ok (.invokevirtual 163, 3) := by decide +kernel
theorem dX7_rattle_5 : decode cX7_rattle 5 = .ok (.ifCond .ne 5, 3) := by decide +kernel
theorem dX7_rattle_8 : decode cX7_rattle 8 = .ok (.iconst (-1), 1) := by decide +kernel
theorem dX7_rattle_9 : decode cX7_rattle 9 = .ok (.ireturn, 1) := by decide +kernel
theorem dX7_rattle_10 : decode cX7_rattle 10 = .ok (.aload_n 0, 1) := by decide +kernel
theorem dX7_rattle_11 : decode cX7_rattle 11 = .ok (.aload_n 0, 1) := by decide +kernel
theorem dX7_rattle_12 : decode cX7_rattle 12 = .ok (.getfield 22, 3) := by decide +kernel
theorem dX7_rattle_15 : decode cX7_rattle 15 = .ok (.iload_n 1, 1) := by decide +kernel
theorem dX7_rattle_16 : decode cX7_rattle 16 = .ok (.iaload, 1) := by decide +kernel
theorem dX7_rattle_17 : decode cX7_rattle 17 = .ok (.iconst 2, 1) := by decide +kernel
theorem dX7_rattle_18 : decode cX7_rattle 18 = .ok (.if_icmp .ne 7, 3) := by decide +kernel
theorem dX7_rattle_21 : decode cX7_rattle 21 = .ok (.iconst 5, 1) := by decide +kernel
theorem dX7_rattle_22 : decode cX7_rattle 22 = .ok (.goto 4, 3) := by decide +kernel
theorem dX7_rattle_25 : decode cX7_rattle 25 = .ok (.iconst 4, 1) := by decide +kernel
theorem dX7_rattle_26 : decode cX7_rattle 26 = .ok (.invokevirtual 241, 3) := by decide +kernel
theorem dX7_rattle_29 : decode cX7_rattle 29 = .ok (.aload_n 0, 1) := by decide +kernel
theorem dX7_rattle_30 : decode cX7_rattle 30 = .ok (.getfield 22, 3) := by decide +kernel
theorem dX7_rattle_33 : decode cX7_rattle 33 = .ok (.iload_n 1, 1) := by decide +kernel
theorem dX7_rattle_34 : decode cX7_rattle 34 = .ok (.iaload, 1) := by decide +kernel
theorem dX7_rattle_35 : decode cX7_rattle 35 = .ok (.iconst 2, 1) := by decide +kernel
theorem dX7_rattle_36 : decode cX7_rattle 36 = .ok (.if_icmp .ne 8, 3) := by decide +kernel
theorem dX7_rattle_39 : decode cX7_rattle 39 = .ok (.bipush 50, 2) := by decide +kernel
theorem dX7_rattle_41 : decode cX7_rattle 41 = .ok (.goto 4, 3) := by decide +kernel
theorem dX7_rattle_44 : decode cX7_rattle 44 = .ok (.iload_n 1, 1) := by decide +kernel
theorem dX7_rattle_45 : decode cX7_rattle 45 = .ok (.ireturn, 1) := by decide +kernel
set_option maxRecDepth 20000 in
theorem ggX7_as_X7_isTube : GoodIn wsX7_as wsX7_isTube := goodIn_r _ [7, 8, 16, 17, 18, 19, 20, 21, 22, 23, 24, 25, 26, 27, 28, 29, 30, 31, 32, 33, 34, 35, 36, 37, 38, 39, 40, 41, 42, 43, 44, 45, 46, 47, 48] (by decide +kernel) (by decide +kernel)
set_option maxRecDepth 20000 in
theorem gX7_as_X7_isTube : GoodIn wsX7_as (wsV RX7 163 RX7 yX7_isTube wsX7_isTube) := goodIn_app (goodIn_of _ (by decide +kernel)) ggX7_as_X7_isTube
set_option maxRecDepth 20000 in
theorem ggX7_as_X7_within : GoodIn wsX7_as wsX7_within := goodIn_r _ [11] (by decide +kernel) (by decide +kernel)
set_option maxRecDepth 20000 in
theorem gX7_as_X7_within : GoodIn wsX7_as (va_wsS RX7 68 yX7_within wsX7_within) := goodIn_app (goodIn_of _ (by decide +kernel)) ggX7_as_X7_within
set_option maxRecDepth 20000 in
theorem ggX7_as_X7_fails : GoodIn wsX7_as wsX7_fails := goodIn_r _ [15, 1, 16, 17, 18, 19, 20, 21, 22, 23, 24, 25, 26, 27, 28, 29, 30, 31, 32, 33, 34, 35, 36, 37, 38, 39, 40, 41, 42, 43, 44, 45, 46, 47, 48] (by decide +kernel) (by decide +kernel)
set_option maxRecDepth 20000 in
theorem gX7_as_X7_fails : GoodIn wsX7_as (wsV RX7 89 RX7 yX7_fails wsX7_fails) := goodIn_app (goodIn_of _ (by decide +kernel)) ggX7_as_X7_fails
theorem dX7_as_0 : decode cX7_as 0 = .ok (.aload_n 0, 1) := by decide +kernel
theorem dX7_as_1 : decode cX7_as 1 = .ok (.iconst 0, 1) := by decide +kernel
theorem dX7_as_2 : decode cX7_as 2 = .ok (.putfield 62, 3) := by decide +kernel
theorem dX7_as_5 : decode cX7_as 5 = .ok (.aload_n 0, 1) := by decide +kernel
theorem dX7_as_6 : decode cX7_as 6 = .ok (.iload_n 1, 1) := by decide +kernel
theorem dX7_as_7 : decode cX7_as 7 = .ok (.invokevirtual 163, 3) := by decide +kernel
theorem dX7_as_10 : decode cX7_as 10 = .ok (.ifCond .ne 5, 3) := by decide +kernel
theorem dX7_as_13 : decode cX7_as 13 = .ok (.iconst (-1), 1) := by decide +kernel
theorem dX7_as_14 : decode cX7_as 14 = .ok (.ireturn, 1) := by decide +kernel
theorem dX7_as_15 : decode cX7_as 15 = .ok (.iload_n 2, 1) := by decide +kernel
theorem dX7_as_16 : decode cX7_as 16 = .ok (.iconst 0, 1) := by decide +kernel
theorem dX7_as_17 : decode cX7_as 17 = .ok (.iconst 2, 1) := by decide +kernel
theorem dX7_as_18 : decode cX7_as 18 = .ok (.invokestatic 68, 3) := by decide +kernel
theorem dX7_as_21 : decode cX7_as 21 = .ok (.ifCond .ne 6, 3) := by decide +kernel
theorem dX7_as_24 : decode cX7_as 24 = .ok (.bipush (-2), 2) := by decide +kernel
theorem dX7_as_26 : decode cX7_as 26 = .ok (.ireturn, 1) := by decide +kernel
theorem dX7_as_27 : decode cX7_as 27 = .ok (.aload_n 0, 1) := by decide +kernel
theorem dX7_as_28 : decode cX7_as 28 = .ok (.getfield 22, 3) := by decide +kernel
theorem dX7_as_31 : decode cX7_as 31 = .ok (.iload_n 1, 1) := by decide +kernel
theorem dX7_as_32 : decode cX7_as 32 = .ok (.iaload, 1) := by decide +kernel
theorem dX7_as_33 : decode cX7_as 33 = .ok (.iload_n 2, 1) := by decide +kernel
theorem dX7_as_34 : decode cX7_as 34 = .ok (.if_icmp .lt 7, 3) := by decide +kernel
theorem dX7_as_37 : decode cX7_as 37 = .ok (.iconst 1, 1) := by decide +kernel
theorem dX7_as_38 : decode cX7_as 38 = .ok (.goto 8, 3) := by decide +kernel
theorem dX7_as_41 : decode cX7_as 41 = .ok (.aload_n 0, 1) := by decide +kernel
theorem dX7_as_42 : decode cX7_as 42 = .ok (.iconst 2, 1) := by decide +kernel
theorem dX7_as_43 : decode cX7_as 43 = .ok (.invokevirtual 89, 3) := by decide +kernel
theorem dX7_as_46 : decode cX7_as 46 = .ok (.ireturn, 1) := by decide +kernel
theorem dX7_trace_0 : decode cX7_trace 0 = .ok (.aload_n 0, 1) := by decide +kernel
theorem dX7_trace_1 : decode cX7_trace 1 = .ok (.getfield 238, 3) := by decide +kernel
theorem dX7_trace_4 : decode cX7_trace 4 = .ok (.ireturn, 1) := by decide +kernel
theorem dX7_fault_0 : decode cX7_fault 0 = .ok (.aload_n 0, 1) := by decide +kernel
theorem dX7_fault_1 : decode cX7_fault 1 = .ok (.getfield 62, 3) := by decide +kernel
theorem dX7_fault_4 : decode cX7_fault 4 = .ok (.ireturn, 1) := by decide +kernel
set_option maxRecDepth 20000 in
theorem ggX7_many_X7_allButtons : GoodIn wsX7_many wsX7_allButtons := goodIn_r _ [8, 1, 9, 10, 11, 12, 13, 14, 15, 16, 17, 18, 19, 20, 21, 22, 23, 24, 25, 26, 27, 28, 29, 30, 31, 32, 33, 34, 35, 36, 37, 38, 39, 40, 41, 42] (by decide +kernel) (by decide +kernel)
set_option maxRecDepth 20000 in
theorem gX7_many_X7_allButtons : GoodIn wsX7_many (wsV RX7 212 RX7 yX7_allButtons wsX7_allButtons) := goodIn_app (goodIn_of _ (by decide +kernel)) ggX7_many_X7_allButtons
theorem dX7_many_0 : decode cX7_many 0 = .ok (.iload_n 1, 1) := by decide +kernel
theorem dX7_many_1 : decode cX7_many 1 = .ok (.ifCond .ne 10, 3) := by decide +kernel
theorem dX7_many_4 : decode cX7_many 4 = .ok (.aload_n 0, 1) := by decide +kernel
theorem dX7_many_5 : decode cX7_many 5 = .ok (.getfield 72, 3) := by decide +kernel
theorem dX7_many_8 : decode cX7_many 8 = .ok (.goto 41, 3) := by decide +kernel
theorem dX7_many_11 : decode cX7_many 11 = .ok (.iload_n 1, 1) := by decide +kernel
theorem dX7_many_12 : decode cX7_many 12 = .ok (.iconst 1, 1) := by decide +kernel
theorem dX7_many_13 : decode cX7_many 13 = .ok (.if_icmp .ne 10, 3) := by decide +kernel
theorem dX7_many_16 : decode cX7_many 16 = .ok (.aload_n 0, 1) := by decide +kernel
theorem dX7_many_17 : decode cX7_many 17 = .ok (.invokevirtual 212, 3) := by decide +kernel
theorem dX7_many_20 : decode cX7_many 20 = .ok (.goto 29, 3) := by decide +kernel
theorem dX7_many_23 : decode cX7_many 23 = .ok (.iload_n 1, 1) := by decide +kernel
theorem dX7_many_24 : decode cX7_many 24 = .ok (.iconst 2, 1) := by decide +kernel
theorem dX7_many_25 : decode cX7_many 25 = .ok (.if_icmp .ne 10, 3) := by decide +kernel
theorem dX7_many_28 : decode cX7_many 28 = .ok (.aload_n 0, 1) := by decide +kernel
theorem dX7_many_29 : decode cX7_many 29 = .ok (.getfield 123, 3) := by decide +kernel
theorem dX7_many_32 : decode cX7_many 32 = .ok (.goto 17, 3) := by decide +kernel
theorem dX7_many_35 : decode cX7_many 35 = .ok (.iload_n 1, 1) := by decide +kernel
theorem dX7_many_36 : decode cX7_many 36 = .ok (.iconst 3, 1) := by decide +kernel
theorem dX7_many_37 : decode cX7_many 37 = .ok (.if_icmp .ne 10, 3) := by decide +kernel
theorem dX7_many_40 : decode cX7_many 40 = .ok (.aload_n 0, 1) := by decide +kernel
theorem dX7_many_41 : decode cX7_many 41 = .ok (.getfield 120, 3) := by decide +kernel
theorem dX7_many_44 : decode cX7_many 44 = .ok (.goto 5, 3) := by decide +kernel
theorem dX7_many_47 : decode cX7_many 47 = .ok (.bipush (-2), 2) := by decide +kernel
theorem dX7_many_49 : decode cX7_many 49 = .ok (.ireturn, 1) := by decide +kernel
theorem dJ6_bitCount_0f7a4_0 : decode cJ6_bitCount_0f7a4 0 = .ok (.iload_n 0, 1) := by decide +kernel
theorem dJ6_bitCount_0f7a4_1 : decode cJ6_bitCount_0f7a4 1 = .ok (.iload_n 0, 1) := by decide +kernel
theorem dJ6_bitCount_0f7a4_2 : decode cJ6_bitCount_0f7a4 2 = .ok (.iconst 1, 1) := by decide +kernel
theorem dJ6_bitCount_0f7a4_3 : decode cJ6_bitCount_0f7a4 3 = .ok (.iushr, 1) := by decide +kernel
theorem dJ6_bitCount_0f7a4_4 : decode cJ6_bitCount_0f7a4 4 = .ok (.ldc_w 265, 3) := by decide +kernel
theorem dJ6_bitCount_0f7a4_7 : decode cJ6_bitCount_0f7a4 7 = .ok (.iand, 1) := by decide +kernel
theorem dJ6_bitCount_0f7a4_8 : decode cJ6_bitCount_0f7a4 8 = .ok (.isub, 1) := by decide +kernel
theorem dJ6_bitCount_0f7a4_9 : decode cJ6_bitCount_0f7a4 9 = .ok (.istore_n 0, 1) := by decide +kernel
theorem dJ6_bitCount_0f7a4_10 : decode cJ6_bitCount_0f7a4 10 = .ok (.iload_n 0, 1) := by decide +kernel
theorem dJ6_bitCount_0f7a4_11 : decode cJ6_bitCount_0f7a4 11 = .ok (.ldc_w 266, 3) := by decide +kernel
theorem dJ6_bitCount_0f7a4_14 : decode cJ6_bitCount_0f7a4 14 = .ok (.iand, 1) := by decide +kernel
theorem dJ6_bitCount_0f7a4_15 : decode cJ6_bitCount_0f7a4 15 = .ok (.iload_n 0, 1) := by decide +kernel
theorem dJ6_bitCount_0f7a4_16 : decode cJ6_bitCount_0f7a4 16 = .ok (.iconst 2, 1) := by decide +kernel
theorem dJ6_bitCount_0f7a4_17 : decode cJ6_bitCount_0f7a4 17 = .ok (.iushr, 1) := by decide +kernel
theorem dJ6_bitCount_0f7a4_18 : decode cJ6_bitCount_0f7a4 18 = .ok (.ldc_w 266, 3) := by decide +kernel
theorem dJ6_bitCount_0f7a4_21 : decode cJ6_bitCount_0f7a4 21 = .ok (.iand, 1) := by decide +kernel
theorem dJ6_bitCount_0f7a4_22 : decode cJ6_bitCount_0f7a4 22 = .ok (.iadd, 1) := by decide +kernel
theorem dJ6_bitCount_0f7a4_23 : decode cJ6_bitCount_0f7a4 23 = .ok (.istore_n 0, 1) := by decide +kernel
theorem dJ6_bitCount_0f7a4_24 : decode cJ6_bitCount_0f7a4 24 = .ok (.iload_n 0, 1) := by decide +kernel
theorem dJ6_bitCount_0f7a4_25 : decode cJ6_bitCount_0f7a4 25 = .ok (.iload_n 0, 1) := by decide +kernel
theorem dJ6_bitCount_0f7a4_26 : decode cJ6_bitCount_0f7a4 26 = .ok (.iconst 4, 1) := by decide +kernel
theorem dJ6_bitCount_0f7a4_27 : decode cJ6_bitCount_0f7a4 27 = .ok (.iushr, 1) := by decide +kernel
theorem dJ6_bitCount_0f7a4_28 : decode cJ6_bitCount_0f7a4 28 = .ok (.iadd, 1) := by decide +kernel
theorem dJ6_bitCount_0f7a4_29 : decode cJ6_bitCount_0f7a4 29 = .ok (.ldc_w 267, 3) := by decide +kernel
theorem dJ6_bitCount_0f7a4_32 : decode cJ6_bitCount_0f7a4 32 = .ok (.iand, 1) := by decide +kernel
theorem dJ6_bitCount_0f7a4_33 : decode cJ6_bitCount_0f7a4 33 = .ok (.istore_n 0, 1) := by decide +kernel
theorem dJ6_bitCount_0f7a4_34 : decode cJ6_bitCount_0f7a4 34 = .ok (.iload_n 0, 1) := by decide +kernel
theorem dJ6_bitCount_0f7a4_35 : decode cJ6_bitCount_0f7a4 35 = .ok (.iload_n 0, 1) := by decide +kernel
theorem dJ6_bitCount_0f7a4_36 : decode cJ6_bitCount_0f7a4 36 = .ok (.bipush 8, 2) := by decide +kernel
theorem dJ6_bitCount_0f7a4_38 : decode cJ6_bitCount_0f7a4 38 = .ok (.iushr, 1) := by decide +kernel
theorem dJ6_bitCount_0f7a4_39 : decode cJ6_bitCount_0f7a4 39 = .ok (.iadd, 1) := by decide +kernel
theorem dJ6_bitCount_0f7a4_40 : decode cJ6_bitCount_0f7a4 40 = .ok (.istore_n 0, 1) := by decide +kernel
theorem dJ6_bitCount_0f7a4_41 : decode cJ6_bitCount_0f7a4 41 = .ok (.iload_n 0, 1) := by decide +kernel
theorem dJ6_bitCount_0f7a4_42 : decode cJ6_bitCount_0f7a4 42 = .ok (.iload_n 0, 1) := by decide +kernel
theorem dJ6_bitCount_0f7a4_43 : decode cJ6_bitCount_0f7a4 43 = .ok (.bipush 16, 2) := by decide +kernel
theorem dJ6_bitCount_0f7a4_45 : decode cJ6_bitCount_0f7a4 45 = .ok (.iushr, 1) := by decide +kernel
theorem dJ6_bitCount_0f7a4_46 : decode cJ6_bitCount_0f7a4 46 = .ok (.iadd, 1) := by decide +kernel
theorem dJ6_bitCount_0f7a4_47 : decode cJ6_bitCount_0f7a4 47 = .ok (.istore_n 0, 1) := by decide +kernel
theorem dJ6_bitCount_0f7a4_48 : decode cJ6_bitCount_0f7a4 48 = .ok (.iload_n 0, 1) := by decide +kernel
theorem dJ6_bitCount_0f7a4_49 : decode cJ6_bitCount_0f7a4 49 = .ok (.bipush 63, 2) := by decide +kernel
theorem dJ6_bitCount_0f7a4_51 : decode cJ6_bitCount_0f7a4 51 = .ok (.iand, 1) := by decide +kernel
theorem dJ6_bitCount_0f7a4_52 : decode cJ6_bitCount_0f7a4 52 = .ok (.ireturn, 1) := by decide +kernel
theorem dJ9_abs_0f7a4_0 : decode cJ9_abs_0f7a4 0 = .ok (.iload_n 0, 1) := by decide +kernel
theorem dJ9_abs_0f7a4_1 : decode cJ9_abs_0f7a4 1 = .ok (.ifCond .ge 8, 3) := by decide +kernel
theorem dJ9_abs_0f7a4_4 : decode cJ9_abs_0f7a4 4 = .ok (.iload_n 0, 1) := by decide +kernel
theorem dJ9_abs_0f7a4_5 : decode cJ9_abs_0f7a4 5 = .ok (.ineg, 1) := by decide +kernel
theorem dJ9_abs_0f7a4_6 : decode cJ9_abs_0f7a4 6 = .ok (.goto 4, 3) := by decide +kernel
theorem dJ9_abs_0f7a4_9 : decode cJ9_abs_0f7a4 9 = .ok (.iload_n 0, 1) := by decide +kernel
theorem dJ9_abs_0f7a4_10 : decode cJ9_abs_0f7a4 10 = .ok (.ireturn, 1) := by decide +kernel
theorem dJ9_max_7cf53_0 : decode cJ9_max_7cf53 0 = .ok (.iload_n 0, 1) := by decide +kernel
theorem dJ9_max_7cf53_1 : decode cJ9_max_7cf53 1 = .ok (.iload_n 1, 1) := by decide +kernel
theorem dJ9_max_7cf53_2 : decode cJ9_max_7cf53 2 = .ok (.if_icmp .lt 7, 3) := by decide +kernel
theorem dJ9_max_7cf53_5 : decode cJ9_max_7cf53 5 = .ok (.iload_n 0, 1) := by decide +kernel
theorem dJ9_max_7cf53_6 : decode cJ9_max_7cf53 6 = .ok (.goto 4, 3) := by decide +kernel
theorem dJ9_max_7cf53_9 : decode cJ9_max_7cf53 9 = .ok (.iload_n 1, 1) := by decide +kernel
theorem dJ9_max_7cf53_10 : decode cJ9_max_7cf53 10 = .ok (.ireturn, 1) := by decide +kernel
theorem dJ9_max_f86c9_0 : decode cJ9_max_f86c9 0 = .ok (.lload_n 0, 1) := by decide +kernel
theorem dJ9_max_f86c9_1 : decode cJ9_max_f86c9 1 = .ok (.lload_n 2, 1) := by decide +kernel
theorem dJ9_max_f86c9_2 : decode cJ9_max_f86c9 2 = .ok (.lcmp, 1) := by decide +kernel
theorem dJ9_max_f86c9_3 : decode cJ9_max_f86c9 3 = .ok (.ifCond .lt 7, 3) := by decide +kernel
theorem dJ9_max_f86c9_6 : decode cJ9_max_f86c9 6 = .ok (.lload_n 0, 1) := by decide +kernel
theorem dJ9_max_f86c9_7 : decode cJ9_max_f86c9 7 = .ok (.goto 4, 3) := by decide +kernel
theorem dJ9_max_f86c9_10 : decode cJ9_max_f86c9 10 = .ok (.lload_n 2, 1) := by decide +kernel
theorem dJ9_max_f86c9_11 : decode cJ9_max_f86c9 11 = .ok (.lreturn, 1) := by decide +kernel
theorem dJ9_min_7cf53_0 : decode cJ9_min_7cf53 0 = .ok (.iload_n 0, 1) := by decide +kernel
theorem dJ9_min_7cf53_1 : decode cJ9_min_7cf53 1 = .ok (.iload_n 1, 1) := by decide +kernel
theorem dJ9_min_7cf53_2 : decode cJ9_min_7cf53 2 = .ok (.if_icmp .gt 7, 3) := by decide +kernel
theorem dJ9_min_7cf53_5 : decode cJ9_min_7cf53 5 = .ok (.iload_n 0, 1) := by decide +kernel
theorem dJ9_min_7cf53_6 : decode cJ9_min_7cf53 6 = .ok (.goto 4, 3) := by decide +kernel
theorem dJ9_min_7cf53_9 : decode cJ9_min_7cf53 9 = .ok (.iload_n 1, 1) := by decide +kernel
theorem dJ9_min_7cf53_10 : decode cJ9_min_7cf53 10 = .ok (.ireturn, 1) := by decide +kernel
set_option maxRecDepth 20000 in
theorem ggJ0_charAt_5068e_J0_isLatin1_aae02 : GoodIn wsJ0_charAt_5068e wsJ0_isLatin1_aae02 := goodIn_r _ [6, 7, 8] (by decide +kernel) (by decide +kernel)
set_option maxRecDepth 20000 in
theorem gJ0_charAt_5068e_J0_isLatin1_aae02 : GoodIn wsJ0_charAt_5068e (wsV RJ0 492 RJ0 yJ0_isLatin1_aae02 wsJ0_isLatin1_aae02) := goodIn_app (goodIn_of _ (by decide +kernel)) ggJ0_charAt_5068e_J0_isLatin1_aae02
set_option maxRecDepth 20000 in
theorem ggJ0_charAt_5068e_J1_charAt_3b067 : GoodIn wsJ0_charAt_5068e wsJ1_charAt_3b067 := goodIn_r _ [12, 13, 14, 5, 15, 16, 17, 18, 19, 20] (by decide +kernel) (by decide +kernel)
set_option maxRecDepth 20000 in
theorem gJ0_charAt_5068e_J1_charAt_3b067 : GoodIn wsJ0_charAt_5068e (va_wsS RJ0 495 yJ1_charAt_3b067 wsJ1_charAt_3b067) := goodIn_app (goodIn_of _ (by decide +kernel)) ggJ0_charAt_5068e_J1_charAt_3b067
set_option maxRecDepth 20000 in
theorem ggJ0_charAt_5068e_J2_charAt_3b067 : GoodIn wsJ0_charAt_5068e wsJ2_charAt_3b067 := goodIn_r _ [24, 25, 26, 23, 27, 28, 29, 30, 31, 14, 5, 15, 16, 17, 18, 19, 20, 32, 33, 34, 35, 36, 37] (by decide +kernel) (by decide +kernel)
set_option maxRecDepth 20000 in
theorem gJ0_charAt_5068e_J2_charAt_3b067 : GoodIn wsJ0_charAt_5068e (va_wsS RJ0 498 yJ2_charAt_3b067 wsJ2_charAt_3b067) := goodIn_app (goodIn_of _ (by decide +kernel)) ggJ0_charAt_5068e_J2_charAt_3b067
theorem dJ0_charAt_5068e_0 : decode cJ0_charAt_5068e 0 = .ok (.aload_n 0, 1) := by decide +kernel
theorem dJ0_charAt_5068e_1 : decode cJ0_charAt_5068e 1 = .ok (.invokevirtual 492, 3) := by decide +kernel
theorem dJ0_charAt_5068e_4 : decode cJ0_charAt_5068e 4 = .ok (.ifCond .eq 12, 3) := by decide +kernel
theorem dJ0_charAt_5068e_7 : decode cJ0_charAt_5068e 7 = .ok (.aload_n 0, 1) := by decide +kernel
theorem dJ0_charAt_5068e_8 : decode cJ0_charAt_5068e 8 = .ok (.getfield 9, 3) := by decide +kernel
theorem dJ0_charAt_5068e_11 : decode cJ0_charAt_5068e 11 = .ok (.iload_n 1, 1) := by decide +kernel
theorem dJ0_charAt_5068e_12 : decode cJ0_charAt_5068e 12 = .ok (.invokestatic 495, 3) := by decide +kernel
theorem dJ0_charAt_5068e_15 : decode cJ0_charAt_5068e 15 = .ok (.ireturn, 1) := by decide +kernel
theorem dJ0_charAt_5068e_16 : decode cJ0_charAt_5068e 16 = .ok (.aload_n 0, 1) := by decide +kernel
theorem dJ0_charAt_5068e_17 : decode cJ0_charAt_5068e 17 = .ok (.getfield 9, 3) := by decide +kernel
theorem dJ0_charAt_5068e_20 : decode cJ0_charAt_5068e 20 = .ok (.iload_n 1, 1) := by decide +kernel
theorem dJ0_charAt_5068e_21 : decode cJ0_charAt_5068e 21 = .ok (.invokestatic 498, 3) := by decide +kernel
theorem dJ0_charAt_5068e_24 : decode cJ0_charAt_5068e 24 = .ok (.ireturn, 1) := by decide +kernel
theorem dJ0_isLatin1_aae02_0 : decode cJ0_isLatin1_aae02 0 = .ok (.getstatic 38, 3) := by decide +kernel
theorem dJ0_isLatin1_aae02_3 : decode cJ0_isLatin1_aae02 3 = .ok (.ifCond .eq 14, 3) := by decide +kernel
theorem dJ0_isLatin1_aae02_6 : decode cJ0_isLatin1_aae02 6 = .ok (.aload_n 0, 1) := by decide +kernel
theorem dJ0_isLatin1_aae02_7 : decode cJ0_isLatin1_aae02 7 = .ok (.getfield 15, 3) := by decide +kernel
theorem dJ0_isLatin1_aae02_10 : decode cJ0_isLatin1_aae02 10 = .ok (.ifCond .ne 7, 3) := by decide +kernel
theorem dJ0_isLatin1_aae02_13 : decode cJ0_isLatin1_aae02 13 = .ok (.iconst 1, 1) := by decide +kernel
theorem dJ0_isLatin1_aae02_14 : decode cJ0_isLatin1_aae02 14 = .ok (.goto 4, 3) := by decide +kernel
theorem dJ0_isLatin1_aae02_17 : decode cJ0_isLatin1_aae02 17 = .ok (.iconst 0, 1) := by decide +kernel
theorem dJ0_isLatin1_aae02_18 : decode cJ0_isLatin1_aae02 18 = .ok (.ireturn, 1) := by decide +kernel
set_option maxRecDepth 20000 in
theorem ggJ0_checkIndex_df160_J3_checkIndex_8e157 : GoodIn wsJ0_checkIndex_df160 wsJ3_checkIndex_8e157 := goodIn_r _ [5] (by decide +kernel) (by decide +kernel)
set_option maxRecDepth 20000 in
theorem gJ0_checkIndex_df160_J3_checkIndex_8e157 : GoodIn wsJ0_checkIndex_df160 (va_wsS RJ0 1059 yJ3_checkIndex_8e157 wsJ3_checkIndex_8e157) := goodIn_app (goodIn_of _ (by decide +kernel)) ggJ0_checkIndex_df160_J3_checkIndex_8e157
theorem dJ0_checkIndex_df160_0 : decode cJ0_checkIndex_df160 0 = .ok (.iload_n 0, 1) := by decide +kernel
theorem dJ0_checkIndex_df160_1 : decode cJ0_checkIndex_df160 1 = .ok (.iload_n 1, 1) := by decide +kernel
theorem dJ0_checkIndex_df160_2 : decode cJ0_checkIndex_df160 2 = .ok (.getstatic 1053, 3) := by decide +kernel
theorem dJ0_checkIndex_df160_5 : decode cJ0_checkIndex_df160 5 = .ok (.invokestatic 1059, 3) := by decide +kernel
theorem dJ0_checkIndex_df160_8 : decode cJ0_checkIndex_df160 8 = .ok (.pop, 1) := by decide +kernel
theorem dJ0_checkIndex_df160_9 : decode cJ0_checkIndex_df160 9 = .ok (.return_, 1) := by decide +kernel
set_option maxRecDepth 20000 in
theorem ggJ1_charAt_3b067_J0_checkIndex_df160 : GoodIn wsJ1_charAt_3b067 wsJ0_checkIndex_df160 := goodIn_r _ [4, 5, 6, 7, 8, 9] (by decide +kernel) (by decide +kernel)
set_option maxRecDepth 20000 in
theorem gJ1_charAt_3b067_J0_checkIndex_df160 : GoodIn wsJ1_charAt_3b067 (va_wsS RJ1 9 yJ0_checkIndex_df160 wsJ0_checkIndex_df160) := goodIn_app (goodIn_of _ (by decide +kernel)) ggJ1_charAt_3b067_J0_checkIndex_df160
theorem dJ1_charAt_3b067_0 : decode cJ1_charAt_3b067 0 = .ok (.iload_n 1, 1) := by decide +kernel
theorem dJ1_charAt_3b067_1 : decode cJ1_charAt_3b067 1 = .ok (.aload_n 0, 1) := by decide +kernel
theorem dJ1_charAt_3b067_2 : decode cJ1_charAt_3b067 2 = .ok (.arraylength, 1) := by decide +kernel
theorem dJ1_charAt_3b067_3 : decode cJ1_charAt_3b067 3 = .ok (.invokestatic 9, 3) := by decide +kernel
theorem dJ1_charAt_3b067_6 : decode cJ1_charAt_3b067 6 = .ok (.aload_n 0, 1) := by decide +kernel
theorem dJ1_charAt_3b067_7 : decode cJ1_charAt_3b067 7 = .ok (.iload_n 1, 1) := by decide +kernel
theorem dJ1_charAt_3b067_8 : decode cJ1_charAt_3b067 8 = .ok (.baload, 1) := by decide +kernel
theorem dJ1_charAt_3b067_9 : decode cJ1_charAt_3b067 9 = .ok (.sipush 255, 3) := by decide +kernel
theorem dJ1_charAt_3b067_12 : decode cJ1_charAt_3b067 12 = .ok (.iand, 1) := by decide +kernel
theorem dJ1_charAt_3b067_13 : decode cJ1_charAt_3b067 13 = .ok (.i2c, 1) := by decide +kernel
theorem dJ1_charAt_3b067_14 : decode cJ1_charAt_3b067 14 = .ok (.ireturn, 1) := by decide +kernel
set_option maxRecDepth 20000 in
theorem ggJ2_getChar_3b067_J2_length_9d52b : GoodIn wsJ2_getChar_3b067 wsJ2_length_9d52b := goodIn_r _ [7] (by decide +kernel) (by decide +kernel)
set_option maxRecDepth 20000 in
theorem gJ2_getChar_3b067_J2_length_9d52b : GoodIn wsJ2_getChar_3b067 (va_wsS RJ2 48 yJ2_length_9d52b wsJ2_length_9d52b) := goodIn_app (goodIn_of _ (by decide +kernel)) ggJ2_getChar_3b067_J2_length_9d52b
theorem dJ2_getChar_3b067_0 : decode cJ2_getChar_3b067 0 = .ok (.getstatic 44, 3) := by decide +kernel
theorem dJ2_getChar_3b067_3 : decode cJ2_getChar_3b067 3 = .ok (.ifCond .ne 25, 3) := by decide +kernel
theorem dJ2_getChar_3b067_6 : decode cJ2_getChar_3b067 6 = .ok (.iload_n 1, 1) := by decide +kernel
theorem dJ2_getChar_3b067_7 : decode cJ2_getChar_3b067 7 = .ok (.ifCond .lt 11, 3) := by decide +kernel
theorem dJ2_getChar_3b067_10 : decode cJ2_getChar_3b067 10 = .ok (.iload_n 1, 1) := by decide +kernel
theorem dJ2_getChar_3b067_11 : decode cJ2_getChar_3b067 11 = .ok (.aload_n 0, 1) := by decide +kernel
theorem dJ2_getChar_3b067_12 : decode cJ2_getChar_3b067 12 = .ok (.invokestatic 48, 3) := by decide +kernel
theorem dJ2_getChar_3b067_15 : decode cJ2_getChar_3b067 15 = .ok (.if_icmp .lt 13, 3) := by decide +kernel
theorem dJ2_getChar_3b067_18 : decode cJ2_getChar_3b067 18 = .ok (.new 52, 3) := by decide +kernel
theorem dJ2_getChar_3b067_21 : decode cJ2_getChar_3b067 21 = .ok (.dup, 1) := by decide +kernel
theorem dJ2_getChar_3b067_22 : decode cJ2_getChar_3b067 22 = .ok (.ldc 54, 2) := by decide +kernel
theorem dJ2_getChar_3b067_24 : decode cJ2_getChar_3b067 24 = .ok (.invokespecial 56, 3) := by decide +kernel
theorem dJ2_getChar_3b067_27 : decode cJ2_getChar_3b067 27 = .ok (.athrow, 1) := by decide +kernel
theorem dJ2_getChar_3b067_28 : decode cJ2_getChar_3b067 28 = .ok (.iload_n 1, 1) := by decide +kernel
theorem dJ2_getChar_3b067_29 : decode cJ2_getChar_3b067 29 = .ok (.iconst 1, 1) := by decide +kernel
theorem dJ2_getChar_3b067_30 : decode cJ2_getChar_3b067 30 = .ok (.ishl, 1) := by decide +kernel
theorem dJ2_getChar_3b067_31 : decode cJ2_getChar_3b067 31 = .ok (.istore_n 1, 1) := by decide +kernel
theorem dJ2_getChar_3b067_32 : decode cJ2_getChar_3b067 32 = .ok (.aload_n 0, 1) := by decide +kernel
theorem dJ2_getChar_3b067_33 : decode cJ2_getChar_3b067 33 = .ok (.iload_n 1, 1) := by decide +kernel
theorem dJ2_getChar_3b067_34 : decode cJ2_getChar_3b067 34 = .ok (.iinc 1 1, 3) := by decide +kernel
theorem dJ2_getChar_3b067_37 : decode cJ2_getChar_3b067 37 = .ok (.baload, 1) := by decide +kernel
theorem dJ2_getChar_3b067_38 : decode cJ2_getChar_3b067 38 = .ok (.sipush 255, 3) := by decide +kernel
theorem dJ2_getChar_3b067_41 : decode cJ2_getChar_3b067 41 = .ok (.iand, 1) := by decide +kernel
theorem dJ2_getChar_3b067_42 : decode cJ2_getChar_3b067 42 = .ok (.getstatic 59, 3) := by decide +kernel
theorem dJ2_getChar_3b067_45 : decode cJ2_getChar_3b067 45 = .ok (.ishl, 1) := by decide +kernel
theorem dJ2_getChar_3b067_46 : decode cJ2_getChar_3b067 46 = .ok (.aload_n 0, 1) := by decide +kernel
theorem dJ2_getChar_3b067_47 : decode cJ2_getChar_3b067 47 = .ok (.iload_n 1, 1) := by decide +kernel
theorem dJ2_getChar_3b067_48 : decode cJ2_getChar_3b067 48 = .ok (.baload, 1) := by decide +kernel
theorem dJ2_getChar_3b067_49 : decode cJ2_getChar_3b067 49 = .ok (.sipush 255, 3) := by decide +kernel
theorem dJ2_getChar_3b067_52 : decode cJ2_getChar_3b067 52 = .ok (.iand, 1) := by decide +kernel
theorem dJ2_getChar_3b067_53 : decode cJ2_getChar_3b067 53 = .ok (.getstatic 63, 3) := by decide +kernel
theorem dJ2_getChar_3b067_56 : decode cJ2_getChar_3b067 56 = .ok (.ishl, 1) := by decide +kernel
theorem dJ2_getChar_3b067_57 : decode cJ2_getChar_3b067 57 = .ok (.ior, 1) := by decide +kernel
theorem dJ2_getChar_3b067_58 : decode cJ2_getChar_3b067 58 = .ok (.i2c, 1) := by decide +kernel
theorem dJ2_getChar_3b067_59 : decode cJ2_getChar_3b067 59 = .ok (.ireturn, 1) := by decide +kernel
theorem dJ2_length_9d52b_0 : decode cJ2_length_9d52b 0 = .ok (.aload_n 0, 1) := by decide +kernel
theorem dJ2_length_9d52b_1 : decode cJ2_length_9d52b 1 = .ok (.arraylength, 1) := by decide +kernel
theorem dJ2_length_9d52b_2 : decode cJ2_length_9d52b 2 = .ok (.iconst 1, 1) := by decide +kernel
theorem dJ2_length_9d52b_3 : decode cJ2_length_9d52b 3 = .ok (.ishr, 1) := by decide +kernel
theorem dJ2_length_9d52b_4 : decode cJ2_length_9d52b 4 = .ok (.ireturn, 1) := by decide +kernel
set_option maxRecDepth 20000 in
theorem ggJ2_charAt_3b067_J2_checkIndex_2214a : GoodIn wsJ2_charAt_3b067 wsJ2_checkIndex_2214a := goodIn_r _ [4, 5, 6, 3, 7, 8, 9, 10, 11, 12, 13, 14, 15, 16] (by decide +kernel) (by decide +kernel)
set_option maxRecDepth 20000 in
theorem gJ2_charAt_3b067_J2_checkIndex_2214a : GoodIn wsJ2_charAt_3b067 (va_wsS RJ2 67 yJ2_checkIndex_2214a wsJ2_checkIndex_2214a) := goodIn_app (goodIn_of _ (by decide +kernel)) ggJ2_charAt_3b067_J2_checkIndex_2214a
set_option maxRecDepth 20000 in
theorem ggJ2_charAt_3b067_J2_getChar_3b067 : GoodIn wsJ2_charAt_3b067 wsJ2_getChar_3b067 := goodIn_r _ [19, 20, 21, 22, 5, 6, 3, 7] (by decide +kernel) (by decide +kernel)
set_option maxRecDepth 20000 in
theorem gJ2_charAt_3b067_J2_getChar_3b067 : GoodIn wsJ2_charAt_3b067 (va_wsS RJ2 71 yJ2_getChar_3b067 wsJ2_getChar_3b067) := goodIn_app (goodIn_of _ (by decide +kernel)) ggJ2_charAt_3b067_J2_getChar_3b067
theorem dJ2_charAt_3b067_0 : decode cJ2_charAt_3b067 0 = .ok (.iload_n 1, 1) := by decide +kernel
theorem dJ2_charAt_3b067_1 : decode cJ2_charAt_3b067 1 = .ok (.aload_n 0, 1) := by decide +kernel
theorem dJ2_charAt_3b067_2 : decode cJ2_charAt_3b067 2 = .ok (.invokestatic 67, 3) := by decide +kernel
theorem dJ2_charAt_3b067_5 : decode cJ2_charAt_3b067 5 = .ok (.aload_n 0, 1) := by decide +kernel
theorem dJ2_charAt_3b067_6 : decode cJ2_charAt_3b067 6 = .ok (.iload_n 1, 1) := by decide +kernel
theorem dJ2_charAt_3b067_7 : decode cJ2_charAt_3b067 7 = .ok (.invokestatic 71, 3) := by decide +kernel
theorem dJ2_charAt_3b067_10 : decode cJ2_charAt_3b067 10 = .ok (.ireturn, 1) := by decide +kernel
set_option maxRecDepth 20000 in
theorem ggJ2_checkIndex_2214a_J2_length_9d52b : GoodIn wsJ2_checkIndex_2214a wsJ2_length_9d52b := goodIn_r _ [4] (by decide +kernel) (by decide +kernel)
set_option maxRecDepth 20000 in
theorem gJ2_checkIndex_2214a_J2_length_9d52b : GoodIn wsJ2_checkIndex_2214a (va_wsS RJ2 48 yJ2_length_9d52b wsJ2_length_9d52b) := goodIn_app (goodIn_of _ (by decide +kernel)) ggJ2_checkIndex_2214a_J2_length_9d52b
set_option maxRecDepth 20000 in
theorem ggJ2_checkIndex_2214a_J0_checkIndex_df160 : GoodIn wsJ2_checkIndex_2214a wsJ0_checkIndex_df160 := goodIn_r _ [8, 9, 10, 11, 12, 13] (by decide +kernel) (by decide +kernel)
set_option maxRecDepth 20000 in
theorem gJ2_checkIndex_2214a_J0_checkIndex_df160 : GoodIn wsJ2_checkIndex_2214a (va_wsS RJ2 414 yJ0_checkIndex_df160 wsJ0_checkIndex_df160) := goodIn_app (goodIn_of _ (by decide +kernel)) ggJ2_checkIndex_2214a_J0_checkIndex_df160
theorem dJ2_checkIndex_2214a_0 : decode cJ2_checkIndex_2214a 0 = .ok (.iload_n 0, 1) := by decide +kernel
theorem dJ2_checkIndex_2214a_1 : decode cJ2_checkIndex_2214a 1 = .ok (.aload_n 1, 1) := by decide +kernel
theorem dJ2_checkIndex_2214a_2 : decode cJ2_checkIndex_2214a 2 = .ok (.invokestatic 48, 3) := by decide +kernel
theorem dJ2_checkIndex_2214a_5 : decode cJ2_checkIndex_2214a 5 = .ok (.invokestatic 414, 3) := by decide +kernel
theorem dJ2_checkIndex_2214a_8 : decode cJ2_checkIndex_2214a 8 = .ok (.return_, 1) := by decide +kernel
theorem dJ7_fill_53178_0 : decode cJ7_fill_53178 0 = .ok (.iconst 0, 1) := by decide +kernel
theorem dJ7_fill_53178_1 : decode cJ7_fill_53178 1 = .ok (.istore_n 2, 1) := by decide +kernel
theorem dJ7_fill_53178_2 : decode cJ7_fill_53178 2 = .ok (.aload_n 0, 1) := by decide +kernel
theorem dJ7_fill_53178_3 : decode cJ7_fill_53178 3 = .ok (.arraylength, 1) := by decide +kernel
theorem dJ7_fill_53178_4 : decode cJ7_fill_53178 4 = .ok (.istore_n 3, 1) := by decide +kernel
theorem dJ7_fill_53178_5 : decode cJ7_fill_53178 5 = .ok (.iload_n 2, 1) := by decide +kernel
theorem dJ7_fill_53178_6 : decode cJ7_fill_53178 6 = .ok (.iload_n 3, 1) := by decide +kernel
theorem dJ7_fill_53178_7 : decode cJ7_fill_53178 7 = .ok (.if_icmp .ge 13, 3) := by decide +kernel
theorem dJ7_fill_53178_10 : decode cJ7_fill_53178 10 = .ok (.aload_n 0, 1) := by decide +kernel
theorem dJ7_fill_53178_11 : decode cJ7_fill_53178 11 = .ok (.iload_n 2, 1) := by decide +kernel
theorem dJ7_fill_53178_12 : decode cJ7_fill_53178 12 = .ok (.iload_n 1, 1) := by decide +kernel
theorem dJ7_fill_53178_13 : decode cJ7_fill_53178 13 = .ok (.iastore, 1) := by decide +kernel
theorem dJ7_fill_53178_14 : decode cJ7_fill_53178 14 = .ok (.iinc 2 1, 3) := by decide +kernel
theorem dJ7_fill_53178_17 : decode cJ7_fill_53178 17 = .ok (.goto (-12), 3) := by decide +kernel
theorem dJ7_fill_53178_20 : decode cJ7_fill_53178 20 = .ok (.return_, 1) := by decide +kernel
theorem dJ3_checkIndex_8e157_0 : decode cJ3_checkIndex_8e157 0 = .ok (.iload_n 0, 1) := by decide +kernel
theorem dJ3_checkIndex_8e157_1 : decode cJ3_checkIndex_8e157 1 = .ok (.ifCond .lt 8, 3) := by decide +kernel
theorem dJ3_checkIndex_8e157_4 : decode cJ3_checkIndex_8e157 4 = .ok (.iload_n 0, 1) := by decide +kernel
theorem dJ3_checkIndex_8e157_5 : decode cJ3_checkIndex_8e157 5 = .ok (.iload_n 1, 1) := by decide +kernel
theorem dJ3_checkIndex_8e157_6 : decode cJ3_checkIndex_8e157 6 = .ok (.if_icmp .lt 10, 3) := by decide +kernel
theorem dJ3_checkIndex_8e157_9 : decode cJ3_checkIndex_8e157 9 = .ok (.aload_n 2, 1) := by decide +kernel
theorem dJ3_checkIndex_8e157_10 : decode cJ3_checkIndex_8e157 10 = .ok (.iload_n 0, 1) := by decide +kernel
theorem dJ3_checkIndex_8e157_11 : decode cJ3_checkIndex_8e157 11 = .ok (.iload_n 1, 1) := by decide +kernel
theorem dJ3_checkIndex_8e157_12 : decode cJ3_checkIndex_8e157 12 = .ok (.invokestatic 95, 3) := by decide +kernel
theorem dJ3_checkIndex_8e157_15 : decode cJ3_checkIndex_8e157 15 = .ok (.athrow, 1) := by decide +kernel
theorem dJ3_checkIndex_8e157_16 : decode cJ3_checkIndex_8e157 16 = .ok (.iload_n 0, 1) := by decide +kernel
theorem dJ3_checkIndex_8e157_17 : decode cJ3_checkIndex_8e157 17 = .ok (.ireturn, 1) := by decide +kernel
set_option maxRecDepth 20000 in
theorem ggL_law_X6_init : GoodIn wsL_law wsX6_init := goodIn_r _ [8, 9, 10, 11, 12, 13, 14, 15, 16, 17, 18, 19, 20, 21, 22, 23, 24, 25, 26, 27, 28, 29, 30, 31, 32, 33, 34, 35, 36, 37, 38, 39, 40, 41, 42, 43, 44, 45, 46, 47, 48, 49, 50, 51, 808, 809, 810, 811, 812, 846, 847, 848, 849, 850, 851, 852, 853, 854, 855, 856, 857, 858, 859, 860, 861, 862, 863, 864, 865, 866, 867] (by decide +kernel) (by decide +kernel)
set_option maxRecDepth 20000 in
theorem gL_law_X6_init : GoodIn wsL_law (wsX6_init) := ggL_law_X6_init
set_option maxRecDepth 20000 in
theorem ggL_law_X7_init : GoodIn wsL_law wsX7_init := goodIn_r _ [54, 55, 10, 11, 31, 56, 57, 58, 59, 60, 61, 62, 63, 64, 65, 66, 67, 68, 69, 70, 71, 43, 72, 813, 814, 815, 816, 817, 818, 819, 820, 821, 822, 823, 824, 825, 826, 827, 828, 829, 830, 831, 832, 833, 834, 835, 836, 837, 838, 839, 840, 841, 842, 843, 844, 845] (by decide +kernel) (by decide +kernel)
set_option maxRecDepth 20000 in
theorem gL_law_X7_init : GoodIn wsL_law (wsX7_init) := ggL_law_X7_init
set_option maxRecDepth 20000 in
theorem ggL_law_X6_shop : GoodIn wsL_law wsX6_shop := goodIn_r _ [76, 13, 17, 21, 77, 78, 79, 2, 80, 23, 81, 82, 83, 84, 85, 86, 87, 88, 89, 25, 90, 50, 91, 92, 93, 94, 95, 96, 97, 98, 51, 99, 100, 101, 102, 103, 104, 105, 106, 107, 108, 109, 110, 49, 111, 112, 113, 114, 115, 116, 117, 118, 119, 120, 121, 122, 123, 124, 125, 126, 127, 128, 129, 130, 131, 132, 133, 134, 135, 136, 137, 138, 139, 140, 141, 142, 143, 144, 145, 146, 147, 148, 149, 150, 151, 152, 153, 154, 155, 156, 157, 158, 159, 160, 161, 162, 163, 16, 164, 165, 166, 167, 32, 168, 169, 170, 171, 172, 33, 30, 173, 174, 175, 176, 177, 178, 179, 35, 180, 181, 182, 183, 184, 185, 186, 187, 808, 809, 810, 811, 812, 856, 857, 858, 846, 847, 848, 849, 850, 851, 852, 853, 854, 855, 859, 860, 861, 862, 863, 864, 865, 866, 867] (by decide +kernel) (by decide +kernel)
set_option maxRecDepth 20000 in
theorem gL_law_X6_shop : GoodIn wsL_law (wsV RL 13 RX6 yX6_shop wsX6_shop) := goodIn_app (goodIn_of _ (by decide +kernel)) ggL_law_X6_shop
set_option maxRecDepth 20000 in
theorem ggL_law_X7_shop : GoodIn wsL_law wsX7_shop := goodIn_r _ [191, 192, 193, 194, 195, 196, 5, 197, 198, 199, 200, 201, 202, 203, 204, 205, 206, 207, 56, 57, 208, 209, 210, 211, 212, 213, 214, 215, 216, 66, 217, 218, 219, 220, 58, 221, 222, 223, 224, 225, 226, 227, 228, 229, 230, 231, 232, 67, 233, 234, 235, 236, 237, 238, 239, 59, 240, 60, 61, 62, 63, 64, 65, 241, 242, 243, 244, 813, 814, 815, 816, 817, 818, 819, 820, 821, 822, 823, 824, 825, 826, 827, 828, 829, 830, 831, 832, 833, 834, 835, 836, 837, 838, 839, 840, 841, 842, 843, 844, 845] (by decide +kernel) (by decide +kernel)
set_option maxRecDepth 20000 in
theorem gL_law_X7_shop : GoodIn wsL_law (wsV RL 17 RX7 yX7_shop wsX7_shop) := goodIn_app (goodIn_of _ (by decide +kernel)) ggL_law_X7_shop
set_option maxRecDepth 20000 in
theorem ggL_law_X6_wanted : GoodIn wsL_law wsX6_wanted := goodIn_r _ [248, 17, 249, 250, 251, 16, 252, 33, 253, 254, 255, 256, 165, 166, 167, 168, 808, 809, 810, 811, 812, 846, 847, 848, 849, 850, 851, 852, 853, 854, 855] (by decide +kernel) (by decide +kernel)
set_option maxRecDepth 20000 in
theorem gL_law_X6_wanted : GoodIn wsL_law (wsV RL 18 RX6 yX6_wanted wsX6_wanted) := goodIn_app (goodIn_of _ (by decide +kernel)) ggL_law_X6_wanted
set_option maxRecDepth 20000 in
theorem ggL_law_X7_wanted : GoodIn wsL_law wsX7_wanted := goodIn_r _ [260, 194, 237, 238, 239, 240, 198, 199, 5, 200, 813, 814, 815, 816, 817, 818, 819, 820, 821, 822, 823, 824, 825, 826, 827, 828, 829, 830, 831, 832, 833, 834, 835, 836, 837, 838, 839, 840, 841, 842, 843, 844, 845] (by decide +kernel) (by decide +kernel)
set_option maxRecDepth 20000 in
theorem gL_law_X7_wanted : GoodIn wsL_law (wsV RL 22 RX7 yX7_wanted wsX7_wanted) := goodIn_app (goodIn_of _ (by decide +kernel)) ggL_law_X7_wanted
set_option maxRecDepth 20000 in
theorem ggL_law_X6_seen : GoodIn wsL_law wsX6_seen := goodIn_r _ [264, 17, 265, 266, 2, 267, 249, 250, 251, 16, 252, 33, 808, 809, 810, 811, 812, 846, 847, 848, 849, 850, 851, 852, 853, 854, 855] (by decide +kernel) (by decide +kernel)
set_option maxRecDepth 20000 in
theorem gL_law_X6_seen : GoodIn wsL_law (wsV RL 23 RX6 yX6_seen wsX6_seen) := goodIn_app (goodIn_of _ (by decide +kernel)) ggL_law_X6_seen
set_option maxRecDepth 20000 in
theorem ggL_law_X7_seen : GoodIn wsL_law wsX7_seen := goodIn_r _ [271, 194, 59, 198, 199, 5, 200, 813, 814, 815, 816, 817, 818, 819, 820, 821, 822, 823, 824, 825, 826, 827, 828, 829, 830, 831, 832, 833, 834, 835, 836, 837, 838, 839, 840, 841, 842, 843, 844, 845] (by decide +kernel) (by decide +kernel)
set_option maxRecDepth 20000 in
theorem gL_law_X7_seen : GoodIn wsL_law (wsV RL 26 RX7 yX7_seen wsX7_seen) := goodIn_app (goodIn_of _ (by decide +kernel)) ggL_law_X7_seen
set_option maxRecDepth 20000 in
theorem ggL_law_X6_ofTube : GoodIn wsL_law wsX6_ofTube := goodIn_r _ [275, 17, 276, 277, 278, 16, 279, 33, 280, 281, 282, 35, 283, 181, 182, 183, 184, 185, 186, 284, 285, 286, 287, 288, 170, 171, 172, 289, 290, 291, 292, 293, 294, 295, 808, 809, 810, 811, 812, 846, 847, 848, 849, 850, 851, 852, 853, 854, 855, 862, 863, 864, 865, 866, 867] (by decide +kernel) (by decide +kernel)
set_option maxRecDepth 20000 in
theorem gL_law_X6_ofTube : GoodIn wsL_law (wsV RL 27 RX6 yX6_ofTube wsX6_ofTube) := goodIn_app (goodIn_of _ (by decide +kernel)) ggL_law_X6_ofTube
set_option maxRecDepth 20000 in
theorem ggL_law_X7_ofTube : GoodIn wsL_law wsX7_ofTube := goodIn_r _ [299, 60, 61, 62, 63, 64, 65, 300, 301, 302, 5, 303, 194, 304, 305, 306, 307, 308, 309, 310, 311, 813, 814, 815, 816, 817, 818, 819, 820, 821, 822, 823, 824, 825, 826, 827, 828, 829, 830, 831, 832, 833, 834, 835, 836, 837, 838, 839, 840, 841, 842, 843, 844, 845] (by decide +kernel) (by decide +kernel)
set_option maxRecDepth 20000 in
theorem gL_law_X7_ofTube : GoodIn wsL_law (wsV RL 31 RX7 yX7_ofTube wsX7_ofTube) := goodIn_app (goodIn_of _ (by decide +kernel)) ggL_law_X7_ofTube
set_option maxRecDepth 20000 in
theorem ggL_law_X6_remember : GoodIn wsL_law wsX6_remember := goodIn_r _ [315, 17, 249, 250, 251, 16, 252, 33, 316, 317, 2, 318, 808, 809, 810, 811, 812, 846, 847, 848, 849, 850, 851, 852, 853, 854, 855] (by decide +kernel) (by decide +kernel)
set_option maxRecDepth 20000 in
theorem gL_law_X6_remember : GoodIn wsL_law (wsV RL 32 RX6 yX6_remember wsX6_remember) := goodIn_app (goodIn_of _ (by decide +kernel)) ggL_law_X6_remember
set_option maxRecDepth 20000 in
theorem ggL_law_X7_remember : GoodIn wsL_law wsX7_remember := goodIn_r _ [322, 194, 241, 242, 198, 199, 5, 200, 813, 814, 815, 816, 817, 818, 819, 820, 821, 822, 823, 824, 825, 826, 827, 828, 829, 830, 831, 832, 833, 834, 835, 836, 837, 838, 839, 840, 841, 842, 843, 844, 845] (by decide +kernel) (by decide +kernel)
set_option maxRecDepth 20000 in
theorem gL_law_X7_remember : GoodIn wsL_law (wsV RL 35 RX7 yX7_remember wsX7_remember) := goodIn_app (goodIn_of _ (by decide +kernel)) ggL_law_X7_remember
set_option maxRecDepth 20000 in
theorem ggL_law_X6_near : GoodIn wsL_law wsX6_near := goodIn_r _ [326, 17, 249, 250, 251, 16, 252, 33, 808, 809, 810, 811, 812, 846, 847, 848, 849, 850, 851, 852, 853, 854, 855] (by decide +kernel) (by decide +kernel)
set_option maxRecDepth 20000 in
theorem gL_law_X6_near : GoodIn wsL_law (wsV RL 36 RX6 yX6_near wsX6_near) := goodIn_app (goodIn_of _ (by decide +kernel)) ggL_law_X6_near
set_option maxRecDepth 20000 in
theorem ggL_law_X7_near : GoodIn wsL_law wsX7_near := goodIn_r _ [330, 194, 243, 198, 199, 5, 200, 813, 814, 815, 816, 817, 818, 819, 820, 821, 822, 823, 824, 825, 826, 827, 828, 829, 830, 831, 832, 833, 834, 835, 836, 837, 838, 839, 840, 841, 842, 843, 844, 845] (by decide +kernel) (by decide +kernel)
set_option maxRecDepth 20000 in
theorem gL_law_X7_near : GoodIn wsL_law (wsV RL 39 RX7 yX7_near wsX7_near) := goodIn_app (goodIn_of _ (by decide +kernel)) ggL_law_X7_near
set_option maxRecDepth 20000 in
theorem ggL_law_X6_stock : GoodIn wsL_law wsX6_stock := goodIn_r _ [334, 17, 276, 277, 278, 16, 279, 33, 808, 809, 810, 811, 812, 846, 847, 848, 849, 850, 851, 852, 853, 854, 855, 862, 863, 864, 865, 866, 867] (by decide +kernel) (by decide +kernel)
set_option maxRecDepth 20000 in
theorem gL_law_X6_stock : GoodIn wsL_law (wsV RL 40 RX6 yX6_stock wsX6_stock) := goodIn_app (goodIn_of _ (by decide +kernel)) ggL_law_X6_stock
set_option maxRecDepth 20000 in
theorem ggL_law_X7_stock : GoodIn wsL_law wsX7_stock := goodIn_r _ [338, 64, 300, 301, 302, 5, 303, 194, 198, 199, 200, 813, 814, 815, 816, 817, 818, 819, 820, 821, 822, 823, 824, 825, 826, 827, 828, 829, 830, 831, 832, 833, 834, 835, 836, 837, 838, 839, 840, 841, 842, 843, 844, 845] (by decide +kernel) (by decide +kernel)
set_option maxRecDepth 20000 in
theorem gL_law_X7_stock : GoodIn wsL_law (wsV RL 43 RX7 yX7_stock wsX7_stock) := goodIn_app (goodIn_of _ (by decide +kernel)) ggL_law_X7_stock
set_option maxRecDepth 20000 in
theorem ggL_law_X6_far : GoodIn wsL_law wsX6_far := goodIn_r _ [342, 17, 276, 277, 278, 16, 279, 33, 343, 344, 345, 346, 30, 167, 347, 348, 349, 350, 351, 165, 173, 169, 170, 171, 172, 352, 353, 354, 355, 166, 174, 356, 357, 358, 35, 359, 360, 361, 362, 184, 284, 285, 286, 287, 181, 182, 288, 289, 290, 291, 292, 183, 293, 294, 295, 808, 809, 810, 811, 812, 846, 847, 848, 849, 850, 851, 852, 853, 854, 855, 862, 863, 864, 865, 866, 867] (by decide +kernel) (by decide +kernel)
set_option maxRecDepth 20000 in
theorem gL_law_X6_far : GoodIn wsL_law (wsV RL 44 RX6 yX6_far wsX6_far) := goodIn_app (goodIn_of _ (by decide +kernel)) ggL_law_X6_far
set_option maxRecDepth 20000 in
theorem ggL_law_X7_far : GoodIn wsL_law wsX7_far := goodIn_r _ [366, 300, 301, 302, 5, 303, 194, 367, 368, 369, 370, 371, 372, 373, 374, 237, 241, 375, 376, 377, 378, 238, 242, 379, 380, 381, 382, 63, 239, 304, 305, 306, 307, 60, 61, 383, 384, 385, 308, 309, 310, 311, 62, 813, 814, 815, 816, 817, 818, 819, 820, 821, 822, 823, 824, 825, 826, 827, 828, 829, 830, 831, 832, 833, 834, 835, 836, 837, 838, 839, 840, 841, 842, 843, 844, 845] (by decide +kernel) (by decide +kernel)
set_option maxRecDepth 20000 in
theorem gL_law_X7_far : GoodIn wsL_law (wsV RL 47 RX7 yX7_far wsX7_far) := goodIn_app (goodIn_of _ (by decide +kernel)) ggL_law_X7_far
set_option maxRecDepth 20000 in
theorem ggL_law_X6_search : GoodIn wsL_law wsX6_search := goodIn_r _ [389, 17, 13, 77, 78, 79, 2, 80, 23, 81, 82, 83, 84, 85, 86, 87, 88, 89, 25, 90, 50, 91, 92, 93, 94, 95, 96, 97, 98, 51, 99, 100, 101, 102, 249, 250, 251, 16, 252, 33, 390, 391, 392, 393, 176, 108, 109, 110, 49, 347, 277, 278, 279, 394, 395, 396, 397, 398, 361, 171, 362, 399, 400, 401, 402, 175, 403, 344, 345, 346, 30, 167, 348, 349, 350, 351, 165, 173, 169, 170, 172, 352, 353, 354, 355, 166, 174, 356, 357, 358, 35, 359, 360, 184, 284, 285, 286, 287, 181, 182, 288, 289, 290, 291, 292, 183, 293, 294, 295, 808, 809, 810, 811, 812, 859, 860, 861, 846, 847, 848, 849, 850, 851, 852, 853, 854, 855, 862, 863, 864, 865, 866, 867] (by decide +kernel) (by decide +kernel)
set_option maxRecDepth 20000 in
theorem gL_law_X6_search : GoodIn wsL_law (wsV RL 48 RX6 yX6_search wsX6_search) := goodIn_app (goodIn_of _ (by decide +kernel)) ggL_law_X6_search
set_option maxRecDepth 20000 in
theorem ggL_law_X7_search : GoodIn wsL_law wsX7_search := goodIn_r _ [407, 192, 194, 58, 195, 196, 5, 197, 198, 199, 200, 201, 202, 203, 204, 205, 206, 207, 56, 57, 208, 209, 210, 211, 300, 301, 302, 303, 408, 409, 410, 411, 383, 384, 385, 412, 413, 414, 415, 243, 367, 368, 369, 370, 371, 372, 373, 374, 237, 241, 375, 376, 377, 378, 238, 242, 379, 380, 381, 382, 63, 239, 304, 305, 306, 307, 60, 61, 308, 309, 310, 311, 62, 813, 814, 815, 816, 817, 818, 819, 820, 821, 822, 823, 824, 825, 826, 827, 828, 829, 830, 831, 832, 833, 834, 835, 836, 837, 838, 839, 840, 841, 842, 843, 844, 845] (by decide +kernel) (by decide +kernel)
set_option maxRecDepth 20000 in
theorem gL_law_X7_search : GoodIn wsL_law (wsV RL 52 RX7 yX7_search wsX7_search) := goodIn_app (goodIn_of _ (by decide +kernel)) ggL_law_X7_search
set_option maxRecDepth 20000 in
theorem ggL_law_X6_sieve : GoodIn wsL_law wsX6_sieve := goodIn_r _ [419, 17, 13, 77, 78, 79, 2, 80, 23, 81, 82, 83, 84, 85, 86, 87, 88, 89, 25, 90, 50, 91, 92, 93, 94, 95, 96, 97, 98, 51, 99, 100, 101, 102, 249, 250, 251, 16, 252, 33, 420, 421, 422, 423, 108, 109, 110, 49, 424, 425, 426, 427, 428, 429, 430, 431, 432, 433, 434, 435, 436, 437, 438, 439, 440, 441, 442, 30, 443, 444, 445, 446, 167, 447, 285, 286, 35, 287, 181, 182, 288, 170, 171, 172, 348, 349, 350, 351, 165, 173, 169, 448, 290, 291, 292, 183, 293, 294, 295, 352, 353, 354, 355, 166, 174, 808, 809, 810, 811, 812, 859, 860, 861, 846, 847, 848, 849, 850, 851, 852, 853, 854, 855, 862, 863, 864, 865, 866, 867] (by decide +kernel) (by decide +kernel)
set_option maxRecDepth 20000 in
theorem gL_law_X6_sieve : GoodIn wsL_law (wsV RL 53 RX6 yX6_sieve wsX6_sieve) := goodIn_app (goodIn_of _ (by decide +kernel)) ggL_law_X6_sieve
set_option maxRecDepth 20000 in
theorem ggL_law_X7_sieve : GoodIn wsL_law wsX7_sieve := goodIn_r _ [452, 192, 194, 58, 68, 453, 454, 195, 196, 5, 197, 198, 199, 200, 201, 202, 203, 204, 205, 206, 207, 56, 57, 208, 209, 210, 211, 455, 456, 457, 458, 459, 460, 461, 462, 463, 464, 465, 63, 239, 304, 305, 306, 307, 60, 61, 371, 372, 373, 374, 237, 241, 308, 309, 310, 311, 62, 375, 376, 377, 378, 238, 242, 813, 814, 815, 816, 817, 818, 819, 820, 821, 822, 823, 824, 825, 826, 827, 828, 829, 830, 831, 832, 833, 834, 835, 836, 837, 838, 839, 840, 841, 842, 843, 844, 845] (by decide +kernel) (by decide +kernel)
set_option maxRecDepth 20000 in
theorem gL_law_X7_sieve : GoodIn wsL_law (wsV RL 56 RX7 yX7_sieve wsX7_sieve) := goodIn_app (goodIn_of _ (by decide +kernel)) ggL_law_X7_sieve
set_option maxRecDepth 20000 in
theorem ggL_law_X6_quick : GoodIn wsL_law wsX6_quick := goodIn_r _ [469, 17, 249, 250, 251, 16, 252, 33, 808, 809, 810, 811, 812, 846, 847, 848, 849, 850, 851, 852, 853, 854, 855] (by decide +kernel) (by decide +kernel)
set_option maxRecDepth 20000 in
theorem gL_law_X6_quick : GoodIn wsL_law (wsV RL 57 RX6 yX6_quick wsX6_quick) := goodIn_app (goodIn_of _ (by decide +kernel)) ggL_law_X6_quick
set_option maxRecDepth 20000 in
theorem ggL_law_X7_quick : GoodIn wsL_law wsX7_quick := goodIn_r _ [473, 194, 70, 474, 475, 476, 5, 477, 478, 69, 479, 480, 481, 482, 483, 484, 485, 486, 383, 384, 385, 487, 488, 489, 490, 453, 68, 454, 455, 456, 457, 458, 459, 460, 461, 462, 463, 464, 465, 63, 239, 304, 305, 306, 307, 60, 61, 371, 372, 373, 374, 237, 241, 308, 309, 310, 311, 62, 375, 376, 377, 378, 238, 242, 491, 492, 493, 494, 495, 496, 497, 498, 300, 301, 302, 303, 813, 814, 815, 816, 817, 818, 819, 820, 821, 822, 823, 824, 825, 826, 827, 828, 829, 830, 831, 832, 833, 834, 835, 836, 837, 838, 839, 840, 841, 842, 843, 844, 845] (by decide +kernel) (by decide +kernel)
set_option maxRecDepth 20000 in
theorem gL_law_X7_quick : GoodIn wsL_law (wsV RL 60 RX7 yX7_quick wsX7_quick) := goodIn_app (goodIn_of _ (by decide +kernel)) ggL_law_X7_quick
set_option maxRecDepth 20000 in
theorem ggL_law_X6_signs : GoodIn wsL_law wsX6_signs := goodIn_r _ [502, 17, 503, 249, 250, 251, 16, 252, 33, 504, 505, 506, 507, 508, 425, 426, 427, 428, 429, 430, 431, 432, 433, 434, 435, 436, 437, 438, 439, 440, 441, 442, 30, 443, 444, 445, 446, 167, 447, 285, 286, 35, 287, 181, 182, 288, 170, 171, 172, 348, 349, 350, 351, 165, 173, 169, 448, 290, 291, 292, 183, 293, 294, 295, 352, 353, 354, 355, 166, 174, 808, 809, 810, 811, 812, 846, 847, 848, 849, 850, 851, 852, 853, 854, 855, 862, 863, 864, 865, 866, 867] (by decide +kernel) (by decide +kernel)
set_option maxRecDepth 20000 in
theorem gL_law_X6_signs : GoodIn wsL_law (wsV RL 61 RX6 yX6_signs wsX6_signs) := goodIn_app (goodIn_of _ (by decide +kernel)) ggL_law_X6_signs
set_option maxRecDepth 20000 in
theorem ggL_law_X7_signs : GoodIn wsL_law wsX7_signs := goodIn_r _ [512, 194, 70, 198, 199, 5, 200, 474, 475, 476, 477, 478, 69, 479, 480, 481, 482, 483, 484, 485, 486, 383, 384, 385, 487, 488, 489, 490, 453, 68, 454, 455, 456, 457, 458, 459, 460, 461, 462, 463, 464, 465, 63, 239, 304, 305, 306, 307, 60, 61, 371, 372, 373, 374, 237, 241, 308, 309, 310, 311, 62, 375, 376, 377, 378, 238, 242, 491, 492, 493, 494, 495, 496, 497, 498, 813, 814, 815, 816, 817, 818, 819, 820, 821, 822, 823, 824, 825, 826, 827, 828, 829, 830, 831, 832, 833, 834, 835, 836, 837, 838, 839, 840, 841, 842, 843, 844, 845] (by decide +kernel) (by decide +kernel)
set_option maxRecDepth 20000 in
theorem gL_law_X7_signs : GoodIn wsL_law (wsV RL 64 RX7 yX7_signs wsX7_signs) := goodIn_app (goodIn_of _ (by decide +kernel)) ggL_law_X7_signs
set_option maxRecDepth 20000 in
theorem ggL_law_X6_sew : GoodIn wsL_law wsX6_sew := goodIn_r _ [516, 17, 265, 266, 2, 267, 249, 250, 251, 16, 252, 33, 517, 518, 519, 520, 30, 521, 522, 523, 524, 168, 165, 166, 167, 32, 356, 357, 358, 35, 359, 360, 361, 171, 362, 184, 284, 285, 286, 287, 181, 182, 288, 170, 172, 289, 290, 291, 292, 183, 293, 294, 295, 808, 809, 810, 811, 812, 846, 847, 848, 849, 850, 851, 852, 853, 854, 855, 862, 863, 864, 865, 866, 867] (by decide +kernel) (by decide +kernel)
set_option maxRecDepth 20000 in
theorem gL_law_X6_sew : GoodIn wsL_law (wsV RL 65 RX6 yX6_sew wsX6_sew) := goodIn_app (goodIn_of _ (by decide +kernel)) ggL_law_X6_sew
set_option maxRecDepth 20000 in
theorem ggL_law_X7_sew : GoodIn wsL_law wsX7_sew := goodIn_r _ [528, 194, 64, 237, 238, 59, 65, 240, 198, 199, 5, 200, 379, 380, 381, 382, 63, 239, 304, 305, 306, 307, 60, 61, 383, 384, 385, 308, 309, 310, 311, 62, 813, 814, 815, 816, 817, 818, 819, 820, 821, 822, 823, 824, 825, 826, 827, 828, 829, 830, 831, 832, 833, 834, 835, 836, 837, 838, 839, 840, 841, 842, 843, 844, 845] (by decide +kernel) (by decide +kernel)
set_option maxRecDepth 20000 in
theorem gL_law_X7_sew : GoodIn wsL_law (wsV RL 68 RX7 yX7_sew wsX7_sew) := goodIn_app (goodIn_of _ (by decide +kernel)) ggL_law_X7_sew
set_option maxRecDepth 20000 in
theorem ggL_law_X6_set : GoodIn wsL_law wsX6_set := goodIn_r _ [532, 17, 249, 250, 251, 16, 252, 33, 533, 534, 535, 536, 30, 808, 809, 810, 811, 812, 846, 847, 848, 849, 850, 851, 852, 853, 854, 855, 862, 863, 864, 865, 866, 867] (by decide +kernel) (by decide +kernel)
set_option maxRecDepth 20000 in
theorem gL_law_X6_set : GoodIn wsL_law (wsV RL 69 RX6 yX6_set wsX6_set) := goodIn_app (goodIn_of _ (by decide +kernel)) ggL_law_X6_set
set_option maxRecDepth 20000 in
theorem ggL_law_X7_set : GoodIn wsL_law wsX7_set := goodIn_r _ [540, 194, 64, 65, 198, 199, 5, 200, 813, 814, 815, 816, 817, 818, 819, 820, 821, 822, 823, 824, 825, 826, 827, 828, 829, 830, 831, 832, 833, 834, 835, 836, 837, 838, 839, 840, 841, 842, 843, 844, 845] (by decide +kernel) (by decide +kernel)
set_option maxRecDepth 20000 in
theorem gL_law_X7_set : GoodIn wsL_law (wsV RL 72 RX7 yX7_set wsX7_set) := goodIn_app (goodIn_of _ (by decide +kernel)) ggL_law_X7_set
set_option maxRecDepth 20000 in
theorem ggL_law_X6_tin : GoodIn wsL_law wsX6_tin := goodIn_r _ [544, 17, 545, 546, 170, 171, 172, 249, 250, 251, 16, 252, 33, 547, 548, 549, 550, 30, 551, 552, 553, 554, 399, 400, 401, 402, 175, 403, 344, 345, 346, 167, 347, 277, 278, 279, 348, 349, 350, 351, 165, 173, 169, 352, 353, 354, 355, 166, 174, 356, 357, 358, 35, 359, 360, 361, 362, 184, 284, 285, 286, 287, 181, 182, 288, 289, 290, 291, 292, 183, 293, 294, 295, 555, 556, 557, 558, 559, 560, 561, 562, 563, 564, 565, 566, 567, 808, 809, 810, 811, 812, 846, 847, 848, 849, 850, 851, 852, 853, 854, 855, 862, 863, 864, 865, 866, 867] (by decide +kernel) (by decide +kernel)
set_option maxRecDepth 20000 in
theorem gL_law_X6_tin : GoodIn wsL_law (wsV RL 73 RX6 yX6_tin wsX6_tin) := goodIn_app (goodIn_of _ (by decide +kernel)) ggL_law_X6_tin
set_option maxRecDepth 20000 in
theorem ggL_law_X7_tin : GoodIn wsL_law wsX7_tin := goodIn_r _ [571, 194, 572, 198, 199, 5, 200, 573, 574, 575, 576, 64, 577, 578, 579, 580, 581, 582, 583, 412, 413, 414, 415, 243, 367, 368, 369, 370, 371, 372, 373, 374, 237, 241, 375, 376, 377, 378, 238, 242, 379, 380, 381, 382, 63, 239, 304, 305, 306, 307, 60, 61, 383, 384, 385, 308, 309, 310, 311, 62, 584, 585, 586, 813, 814, 815, 816, 817, 818, 819, 820, 821, 822, 823, 824, 825, 826, 827, 828, 829, 830, 831, 832, 833, 834, 835, 836, 837, 838, 839, 840, 841, 842, 843, 844, 845] (by decide +kernel) (by decide +kernel)
set_option maxRecDepth 20000 in
theorem gL_law_X7_tin : GoodIn wsL_law (wsV RL 77 RX7 yX7_tin wsX7_tin) := goodIn_app (goodIn_of _ (by decide +kernel)) ggL_law_X7_tin
set_option maxRecDepth 20000 in
theorem ggL_law_X6_half : GoodIn wsL_law wsX6_half := goodIn_r _ [590, 17, 249, 250, 251, 16, 252, 33, 547, 548, 549, 550, 30, 551, 552, 553, 554, 399, 400, 401, 402, 175, 403, 344, 345, 346, 167, 347, 277, 278, 279, 348, 349, 350, 351, 165, 173, 169, 170, 171, 172, 352, 353, 354, 355, 166, 174, 356, 357, 358, 35, 359, 360, 361, 362, 184, 284, 285, 286, 287, 181, 182, 288, 289, 290, 291, 292, 183, 293, 294, 295, 591, 592, 557, 593, 594, 562, 563, 564, 808, 809, 810, 811, 812, 846, 847, 848, 849, 850, 851, 852, 853, 854, 855, 862, 863, 864, 865, 866, 867] (by decide +kernel) (by decide +kernel)
set_option maxRecDepth 20000 in
theorem gL_law_X6_half : GoodIn wsL_law (wsV RL 78 RX6 yX6_half wsX6_half) := goodIn_app (goodIn_of _ (by decide +kernel)) ggL_law_X6_half
set_option maxRecDepth 20000 in
theorem ggL_law_X7_half : GoodIn wsL_law wsX7_half := goodIn_r _ [598, 194, 573, 574, 575, 5, 576, 64, 580, 581, 582, 583, 412, 413, 414, 415, 243, 367, 368, 369, 370, 371, 372, 373, 374, 237, 241, 375, 376, 377, 378, 238, 242, 379, 380, 381, 382, 63, 239, 304, 305, 306, 307, 60, 61, 383, 384, 385, 308, 309, 310, 311, 62, 599, 600, 601, 602, 603, 577, 578, 579, 813, 814, 815, 816, 817, 818, 819, 820, 821, 822, 823, 824, 825, 826, 827, 828, 829, 830, 831, 832, 833, 834, 835, 836, 837, 838, 839, 840, 841, 842, 843, 844, 845] (by decide +kernel) (by decide +kernel)
set_option maxRecDepth 20000 in
theorem gL_law_X7_half : GoodIn wsL_law (wsV RL 82 RX7 yX7_half wsX7_half) := goodIn_app (goodIn_of _ (by decide +kernel)) ggL_law_X7_half
set_option maxRecDepth 20000 in
theorem ggL_law_X6_reading : GoodIn wsL_law wsX6_reading := goodIn_r _ [607, 17, 21, 276, 277, 278, 16, 279, 33, 608, 609, 610, 20, 611, 45, 42, 44, 808, 809, 810, 811, 812, 846, 847, 848, 849, 850, 851, 852, 853, 854, 855, 856, 857, 858] (by decide +kernel) (by decide +kernel)
set_option maxRecDepth 20000 in
theorem gL_law_X6_reading : GoodIn wsL_law (wsV RL 83 RX6 yX6_reading wsX6_reading) := goodIn_app (goodIn_of _ (by decide +kernel)) ggL_law_X6_reading
set_option maxRecDepth 20000 in
theorem ggL_law_X7_reading : GoodIn wsL_law wsX7_reading := goodIn_r _ [615, 244, 71, 72, 300, 301, 302, 5, 303, 194, 813, 814, 815, 816, 817, 818, 819, 820, 821, 822, 823, 824, 825, 826, 827, 828, 829, 830, 831, 832, 833, 834, 835, 836, 837, 838, 839, 840, 841, 842, 843, 844, 845] (by decide +kernel) (by decide +kernel)
set_option maxRecDepth 20000 in
theorem gL_law_X7_reading : GoodIn wsL_law (wsV RL 87 RX7 yX7_reading wsX7_reading) := goodIn_app (goodIn_of _ (by decide +kernel)) ggL_law_X7_reading
set_option maxRecDepth 20000 in
theorem ggL_law_X6_back : GoodIn wsL_law wsX6_back := goodIn_r _ [619, 21, 808, 809, 810, 811, 812, 856, 857, 858] (by decide +kernel) (by decide +kernel)
set_option maxRecDepth 20000 in
theorem gL_law_X6_back : GoodIn wsL_law (wsV RL 88 RX6 yX6_back wsX6_back) := goodIn_app (goodIn_of _ (by decide +kernel)) ggL_law_X6_back
set_option maxRecDepth 20000 in
theorem ggL_law_X7_back : GoodIn wsL_law wsX7_back := goodIn_r _ [623, 244, 198, 199, 5, 200, 813, 814, 815, 816, 817, 818, 819, 820, 821, 822, 823, 824, 825, 826, 827, 828, 829, 830, 831, 832, 833, 834, 835, 836, 837, 838, 839, 840, 841, 842, 843, 844, 845] (by decide +kernel) (by decide +kernel)
set_option maxRecDepth 20000 in
theorem gL_law_X7_back : GoodIn wsL_law (wsV RL 91 RX7 yX7_back wsX7_back) := goodIn_app (goodIn_of _ (by decide +kernel)) ggL_law_X7_back
set_option maxRecDepth 20000 in
theorem ggL_law_X6_memories : GoodIn wsL_law wsX6_memories := goodIn_r _ [627, 17, 21, 249, 250, 251, 16, 252, 33, 628, 629, 630, 20, 631, 45, 42, 44, 632, 400, 401, 402, 175, 403, 344, 345, 346, 30, 167, 347, 277, 278, 279, 348, 349, 350, 351, 165, 173, 169, 170, 171, 172, 352, 353, 354, 355, 166, 174, 356, 357, 358, 35, 359, 360, 361, 362, 184, 284, 285, 286, 287, 181, 182, 288, 289, 290, 291, 292, 183, 293, 294, 295, 316, 317, 2, 318, 808, 809, 810, 811, 812, 846, 847, 848, 849, 850, 851, 852, 853, 854, 855, 856, 857, 858, 862, 863, 864, 865, 866, 867] (by decide +kernel) (by decide +kernel)
set_option maxRecDepth 20000 in
theorem gL_law_X6_memories : GoodIn wsL_law (wsV RL 92 RX6 yX6_memories wsX6_memories) := goodIn_app (goodIn_of _ (by decide +kernel)) ggL_law_X6_memories
set_option maxRecDepth 20000 in
theorem ggL_law_X7_memories : GoodIn wsL_law wsX7_memories := goodIn_r _ [636, 194, 241, 242, 198, 199, 5, 200, 637, 638, 639, 640, 244, 71, 72, 412, 413, 414, 415, 243, 367, 368, 369, 370, 371, 372, 373, 374, 237, 375, 376, 377, 378, 238, 379, 380, 381, 382, 63, 239, 304, 305, 306, 307, 60, 61, 383, 384, 385, 308, 309, 310, 311, 62, 813, 814, 815, 816, 817, 818, 819, 820, 821, 822, 823, 824, 825, 826, 827, 828, 829, 830, 831, 832, 833, 834, 835, 836, 837, 838, 839, 840, 841, 842, 843, 844, 845] (by decide +kernel) (by decide +kernel)
set_option maxRecDepth 20000 in
theorem gL_law_X7_memories : GoodIn wsL_law (wsV RL 95 RX7 yX7_memories wsX7_memories) := goodIn_app (goodIn_of _ (by decide +kernel)) ggL_law_X7_memories
set_option maxRecDepth 20000 in
theorem ggL_law_X6_kinds : GoodIn wsL_law wsX6_kinds := goodIn_r _ [644, 17, 21, 276, 277, 278, 16, 279, 33, 628, 629, 630, 20, 631, 45, 42, 44, 632, 400, 401, 402, 175, 403, 344, 345, 346, 30, 167, 347, 348, 349, 350, 351, 165, 173, 169, 170, 171, 172, 352, 353, 354, 355, 166, 174, 356, 357, 358, 35, 359, 360, 361, 362, 184, 284, 285, 286, 287, 181, 182, 288, 289, 290, 291, 292, 183, 293, 294, 295, 808, 809, 810, 811, 812, 846, 847, 848, 849, 850, 851, 852, 853, 854, 855, 862, 863, 864, 865, 866, 867, 856, 857, 858] (by decide +kernel) (by decide +kernel)
set_option maxRecDepth 20000 in
theorem gL_law_X6_kinds : GoodIn wsL_law (wsV RL 96 RX6 yX6_kinds wsX6_kinds) := goodIn_app (goodIn_of _ (by decide +kernel)) ggL_law_X6_kinds
set_option maxRecDepth 20000 in
theorem ggL_law_X7_kinds : GoodIn wsL_law wsX7_kinds := goodIn_r _ [648, 60, 300, 301, 302, 5, 303, 194, 637, 638, 639, 640, 244, 71, 72, 412, 413, 414, 415, 243, 367, 368, 369, 370, 371, 372, 373, 374, 237, 241, 375, 376, 377, 378, 238, 242, 379, 380, 381, 382, 63, 239, 304, 305, 306, 307, 61, 383, 384, 385, 308, 309, 310, 311, 62, 813, 814, 815, 816, 817, 818, 819, 820, 821, 822, 823, 824, 825, 826, 827, 828, 829, 830, 831, 832, 833, 834, 835, 836, 837, 838, 839, 840, 841, 842, 843, 844, 845] (by decide +kernel) (by decide +kernel)
set_option maxRecDepth 20000 in
theorem gL_law_X7_kinds : GoodIn wsL_law (wsV RL 99 RX7 yX7_kinds wsX7_kinds) := goodIn_app (goodIn_of _ (by decide +kernel)) ggL_law_X7_kinds
set_option maxRecDepth 20000 in
theorem ggL_law_X6_colours : GoodIn wsL_law wsX6_colours := goodIn_r _ [652, 17, 21, 276, 277, 278, 16, 279, 33, 628, 629, 630, 20, 631, 45, 42, 44, 632, 400, 401, 402, 175, 403, 344, 345, 346, 30, 167, 347, 348, 349, 350, 351, 165, 173, 169, 170, 171, 172, 352, 353, 354, 355, 166, 174, 356, 357, 358, 35, 359, 360, 361, 362, 184, 284, 285, 286, 287, 181, 182, 288, 289, 290, 291, 292, 183, 293, 294, 295, 808, 809, 810, 811, 812, 846, 847, 848, 849, 850, 851, 852, 853, 854, 855, 862, 863, 864, 865, 866, 867, 856, 857, 858] (by decide +kernel) (by decide +kernel)
set_option maxRecDepth 20000 in
theorem gL_law_X6_colours : GoodIn wsL_law (wsV RL 100 RX6 yX6_colours wsX6_colours) := goodIn_app (goodIn_of _ (by decide +kernel)) ggL_law_X6_colours
set_option maxRecDepth 20000 in
theorem ggL_law_X7_colours : GoodIn wsL_law wsX7_colours := goodIn_r _ [656, 61, 300, 301, 302, 5, 303, 194, 637, 638, 639, 640, 244, 71, 72, 412, 413, 414, 415, 243, 367, 368, 369, 370, 371, 372, 373, 374, 237, 241, 375, 376, 377, 378, 238, 242, 379, 380, 381, 382, 63, 239, 304, 305, 306, 307, 60, 383, 384, 385, 308, 309, 310, 311, 62, 813, 814, 815, 816, 817, 818, 819, 820, 821, 822, 823, 824, 825, 826, 827, 828, 829, 830, 831, 832, 833, 834, 835, 836, 837, 838, 839, 840, 841, 842, 843, 844, 845] (by decide +kernel) (by decide +kernel)
set_option maxRecDepth 20000 in
theorem gL_law_X7_colours : GoodIn wsL_law (wsV RL 103 RX7 yX7_colours wsX7_colours) := goodIn_app (goodIn_of _ (by decide +kernel)) ggL_law_X7_colours
set_option maxRecDepth 20000 in
theorem ggL_law_X6_nears : GoodIn wsL_law wsX6_nears := goodIn_r _ [660, 17, 21, 249, 250, 251, 16, 252, 33, 628, 629, 630, 20, 631, 45, 42, 44, 632, 400, 401, 402, 175, 403, 344, 345, 346, 30, 167, 347, 277, 278, 279, 348, 349, 350, 351, 165, 173, 169, 170, 171, 172, 352, 353, 354, 355, 166, 174, 356, 357, 358, 35, 359, 360, 361, 362, 184, 284, 285, 286, 287, 181, 182, 288, 289, 290, 291, 292, 183, 293, 294, 295, 808, 809, 810, 811, 812, 846, 847, 848, 849, 850, 851, 852, 853, 854, 855, 856, 857, 858, 862, 863, 864, 865, 866, 867] (by decide +kernel) (by decide +kernel)
set_option maxRecDepth 20000 in
theorem gL_law_X6_nears : GoodIn wsL_law (wsV RL 104 RX6 yX6_nears wsX6_nears) := goodIn_app (goodIn_of _ (by decide +kernel)) ggL_law_X6_nears
set_option maxRecDepth 20000 in
theorem ggL_law_X7_nears : GoodIn wsL_law wsX7_nears := goodIn_r _ [664, 194, 243, 637, 638, 639, 5, 640, 244, 71, 72, 412, 413, 414, 415, 367, 368, 369, 370, 371, 372, 373, 374, 237, 241, 375, 376, 377, 378, 238, 242, 379, 380, 381, 382, 63, 239, 304, 305, 306, 307, 60, 61, 383, 384, 385, 308, 309, 310, 311, 62, 813, 814, 815, 816, 817, 818, 819, 820, 821, 822, 823, 824, 825, 826, 827, 828, 829, 830, 831, 832, 833, 834, 835, 836, 837, 838, 839, 840, 841, 842, 843, 844, 845] (by decide +kernel) (by decide +kernel)
set_option maxRecDepth 20000 in
theorem gL_law_X7_nears : GoodIn wsL_law (wsV RL 107 RX7 yX7_nears wsX7_nears) := goodIn_app (goodIn_of _ (by decide +kernel)) ggL_law_X7_nears
set_option maxRecDepth 20000 in
theorem ggL_law_X6_sheet : GoodIn wsL_law wsX6_sheet := goodIn_r _ [668, 23, 13, 81, 82, 2, 83, 84, 85, 86, 99, 100, 101, 102, 669, 670, 671, 25, 672, 49, 50, 51, 673, 674, 675, 676, 808, 809, 810, 811, 812, 859, 860, 861] (by decide +kernel) (by decide +kernel)
set_option maxRecDepth 20000 in
theorem gL_law_X6_sheet : GoodIn wsL_law (wsV RL 108 RX6 yX6_sheet wsX6_sheet) := goodIn_app (goodIn_of _ (by decide +kernel)) ggL_law_X6_sheet
set_option maxRecDepth 20000 in
theorem ggL_law_X7_sheet : GoodIn wsL_law wsX7_sheet := goodIn_r _ [680, 192, 56, 57, 58, 195, 196, 5, 197, 198, 199, 200, 201, 202, 203, 208, 209, 210, 211, 813, 814, 815, 816, 817, 818, 819, 820, 821, 822, 823, 824, 825, 826, 827, 828, 829, 830, 831, 832, 833, 834, 835, 836, 837, 838, 839, 840, 841, 842, 843, 844, 845] (by decide +kernel) (by decide +kernel)
set_option maxRecDepth 20000 in
theorem gL_law_X7_sheet : GoodIn wsL_law (wsV RL 112 RX7 yX7_sheet wsX7_sheet) := goodIn_app (goodIn_of _ (by decide +kernel)) ggL_law_X7_sheet
set_option maxRecDepth 20000 in
theorem ggL_law_X6_lose : GoodIn wsL_law wsX6_lose := goodIn_r _ [684, 13, 81, 82, 2, 83, 685, 92, 93, 25, 94, 50, 686, 687, 688, 689, 51, 808, 809, 810, 811, 812, 859, 860, 861] (by decide +kernel) (by decide +kernel)
set_option maxRecDepth 20000 in
theorem gL_law_X6_lose : GoodIn wsL_law (wsV RL 113 RX6 yX6_lose wsX6_lose) := goodIn_app (goodIn_of _ (by decide +kernel)) ggL_law_X6_lose
set_option maxRecDepth 20000 in
theorem ggL_law_X7_lose : GoodIn wsL_law wsX7_lose := goodIn_r _ [693, 56, 195, 196, 5, 197, 198, 199, 200, 813, 814, 815, 816, 817, 818, 819, 820, 821, 822, 823, 824, 825, 826, 827, 828, 829, 830, 831, 832, 833, 834, 835, 836, 837, 838, 839, 840, 841, 842, 843, 844, 845] (by decide +kernel) (by decide +kernel)
set_option maxRecDepth 20000 in
theorem gL_law_X7_lose : GoodIn wsL_law (wsV RL 116 RX7 yX7_lose wsX7_lose) := goodIn_app (goodIn_of _ (by decide +kernel)) ggL_law_X7_lose
set_option maxRecDepth 20000 in
theorem ggL_law_X6_put : GoodIn wsL_law wsX6_put := goodIn_r _ [697, 23, 13, 81, 82, 2, 83, 685, 92, 93, 25, 94, 50, 99, 100, 101, 102, 698, 96, 97, 98, 51, 699, 700, 701, 702, 49, 95, 808, 809, 810, 811, 812, 859, 860, 861] (by decide +kernel) (by decide +kernel)
set_option maxRecDepth 20000 in
theorem gL_law_X6_put : GoodIn wsL_law (wsV RL 117 RX6 yX6_put wsX6_put) := goodIn_app (goodIn_of _ (by decide +kernel)) ggL_law_X6_put
set_option maxRecDepth 20000 in
theorem ggL_law_X7_put : GoodIn wsL_law wsX7_put := goodIn_r _ [706, 192, 56, 57, 58, 195, 196, 5, 197, 198, 199, 200, 208, 209, 210, 211, 813, 814, 815, 816, 817, 818, 819, 820, 821, 822, 823, 824, 825, 826, 827, 828, 829, 830, 831, 832, 833, 834, 835, 836, 837, 838, 839, 840, 841, 842, 843, 844, 845] (by decide +kernel) (by decide +kernel)
set_option maxRecDepth 20000 in
theorem gL_law_X7_put : GoodIn wsL_law (wsV RL 120 RX7 yX7_put wsX7_put) := goodIn_app (goodIn_of _ (by decide +kernel)) ggL_law_X7_put
set_option maxRecDepth 20000 in
theorem ggL_law_X6_cell : GoodIn wsL_law wsX6_cell := goodIn_r _ [710, 23, 545, 13, 81, 82, 2, 83, 84, 85, 86, 87, 88, 89, 25, 90, 50, 91, 92, 93, 94, 95, 96, 97, 98, 51, 423, 108, 109, 110, 49, 808, 809, 810, 811, 812, 859, 860, 861] (by decide +kernel) (by decide +kernel)
set_option maxRecDepth 20000 in
theorem gL_law_X6_cell : GoodIn wsL_law (wsV RL 121 RX6 yX6_cell wsX6_cell) := goodIn_app (goodIn_of _ (by decide +kernel)) ggL_law_X6_cell
set_option maxRecDepth 20000 in
theorem ggL_law_X7_cell : GoodIn wsL_law wsX7_cell := goodIn_r _ [714, 192, 572, 56, 57, 58, 195, 196, 5, 197, 198, 199, 200, 201, 202, 203, 715, 716, 717, 718, 813, 814, 815, 816, 817, 818, 819, 820, 821, 822, 823, 824, 825, 826, 827, 828, 829, 830, 831, 832, 833, 834, 835, 836, 837, 838, 839, 840, 841, 842, 843, 844, 845] (by decide +kernel) (by decide +kernel)
set_option maxRecDepth 20000 in
theorem gL_law_X7_cell : GoodIn wsL_law (wsV RL 125 RX7 yX7_cell wsX7_cell) := goodIn_app (goodIn_of _ (by decide +kernel)) ggL_law_X7_cell
set_option maxRecDepth 20000 in
theorem ggL_law_X6_copy : GoodIn wsL_law wsX6_copy := goodIn_r _ [722, 23, 13, 723, 724, 725, 726, 81, 82, 2, 83, 685, 92, 93, 25, 94, 50, 99, 100, 101, 102, 698, 96, 97, 98, 51, 808, 809, 810, 811, 812, 859, 860, 861] (by decide +kernel) (by decide +kernel)
set_option maxRecDepth 20000 in
theorem gL_law_X6_copy : GoodIn wsL_law (wsV RL 126 RX6 yX6_copy wsX6_copy) := goodIn_app (goodIn_of _ (by decide +kernel)) ggL_law_X6_copy
set_option maxRecDepth 20000 in
theorem ggL_law_X7_copy : GoodIn wsL_law wsX7_copy := goodIn_r _ [730, 192, 56, 57, 58, 195, 196, 5, 197, 198, 199, 200, 208, 209, 210, 211, 813, 814, 815, 816, 817, 818, 819, 820, 821, 822, 823, 824, 825, 826, 827, 828, 829, 830, 831, 832, 833, 834, 835, 836, 837, 838, 839, 840, 841, 842, 843, 844, 845] (by decide +kernel) (by decide +kernel)
set_option maxRecDepth 20000 in
theorem gL_law_X7_copy : GoodIn wsL_law (wsV RL 129 RX7 yX7_copy wsX7_copy) := goodIn_app (goodIn_of _ (by decide +kernel)) ggL_law_X7_copy
set_option maxRecDepth 20000 in
theorem ggL_law_X6_tell : GoodIn wsL_law wsX6_tell := goodIn_r _ [734, 17, 276, 277, 278, 16, 279, 33, 735, 736, 737, 2, 738, 739, 740, 741, 742, 22, 743, 744, 745, 746, 747, 748, 749, 750, 808, 809, 810, 811, 812, 846, 847, 848, 849, 850, 851, 852, 853, 854, 855, 862, 863, 864, 865, 866, 867] (by decide +kernel) (by decide +kernel)
set_option maxRecDepth 20000 in
theorem gL_law_X6_tell : GoodIn wsL_law (wsV RL 130 RX6 yX6_tell wsX6_tell) := goodIn_app (goodIn_of _ (by decide +kernel)) ggL_law_X6_tell
set_option maxRecDepth 20000 in
theorem ggL_law_X7_tell : GoodIn wsL_law wsX7_tell := goodIn_r _ [754, 65, 60, 300, 301, 302, 5, 303, 194, 755, 756, 757, 758, 759, 813, 814, 815, 816, 817, 818, 819, 820, 821, 822, 823, 824, 825, 826, 827, 828, 829, 830, 831, 832, 833, 834, 835, 836, 837, 838, 839, 840, 841, 842, 843, 844, 845] (by decide +kernel) (by decide +kernel)
set_option maxRecDepth 20000 in
theorem gL_law_X7_tell : GoodIn wsL_law (wsV RL 133 RX7 yX7_tell wsX7_tell) := goodIn_app (goodIn_of _ (by decide +kernel)) ggL_law_X7_tell
set_option maxRecDepth 20000 in
theorem ggL_law_X6_rattle : GoodIn wsL_law wsX6_rattle := goodIn_r _ [763, 17, 276, 277, 278, 16, 279, 33, 764, 765, 766, 2, 767, 739, 740, 741, 742, 22, 768, 769, 770, 771, 808, 809, 810, 811, 812, 846, 847, 848, 849, 850, 851, 852, 853, 854, 855, 862, 863, 864, 865, 866, 867] (by decide +kernel) (by decide +kernel)
set_option maxRecDepth 20000 in
theorem gL_law_X6_rattle : GoodIn wsL_law (wsV RL 134 RX6 yX6_rattle wsX6_rattle) := goodIn_app (goodIn_of _ (by decide +kernel)) ggL_law_X6_rattle
set_option maxRecDepth 20000 in
theorem ggL_law_X7_rattle : GoodIn wsL_law wsX7_rattle := goodIn_r _ [775, 60, 300, 301, 302, 5, 303, 194, 755, 756, 757, 758, 759, 813, 814, 815, 816, 817, 818, 819, 820, 821, 822, 823, 824, 825, 826, 827, 828, 829, 830, 831, 832, 833, 834, 835, 836, 837, 838, 839, 840, 841, 842, 843, 844, 845] (by decide +kernel) (by decide +kernel)
set_option maxRecDepth 20000 in
theorem gL_law_X7_rattle : GoodIn wsL_law (wsV RL 137 RX7 yX7_rattle wsX7_rattle) := goodIn_app (goodIn_of _ (by decide +kernel)) ggL_law_X7_rattle
set_option maxRecDepth 20000 in
theorem ggL_law_X6_as : GoodIn wsL_law wsX6_as := goodIn_r _ [779, 23, 17, 276, 277, 278, 16, 279, 33, 99, 100, 101, 2, 102, 808, 809, 810, 811, 812, 846, 847, 848, 849, 850, 851, 852, 853, 854, 855, 862, 863, 864, 865, 866, 867] (by decide +kernel) (by decide +kernel)
set_option maxRecDepth 20000 in
theorem gL_law_X6_as : GoodIn wsL_law (wsV RL 138 RX6 yX6_as wsX6_as) := goodIn_app (goodIn_of _ (by decide +kernel)) ggL_law_X6_as
set_option maxRecDepth 20000 in
theorem ggL_law_X7_as : GoodIn wsL_law wsX7_as := goodIn_r _ [783, 192, 60, 300, 301, 302, 5, 303, 194, 198, 199, 200, 208, 209, 210, 211, 813, 814, 815, 816, 817, 818, 819, 820, 821, 822, 823, 824, 825, 826, 827, 828, 829, 830, 831, 832, 833, 834, 835, 836, 837, 838, 839, 840, 841, 842, 843, 844, 845] (by decide +kernel) (by decide +kernel)
set_option maxRecDepth 20000 in
theorem gL_law_X7_as : GoodIn wsL_law (wsV RL 141 RX7 yX7_as wsX7_as) := goodIn_app (goodIn_of _ (by decide +kernel)) ggL_law_X7_as
set_option maxRecDepth 20000 in
theorem ggL_law_X6_trace : GoodIn wsL_law wsX6_trace := goodIn_r _ [787, 22, 808, 809, 810, 811, 812] (by decide +kernel) (by decide +kernel)
set_option maxRecDepth 20000 in
theorem gL_law_X6_trace : GoodIn wsL_law (wsV RL 142 RX6 yX6_trace wsX6_trace) := goodIn_app (goodIn_of _ (by decide +kernel)) ggL_law_X6_trace
set_option maxRecDepth 20000 in
theorem ggL_law_X7_trace : GoodIn wsL_law wsX7_trace := goodIn_r _ [791, 759, 813, 814, 815, 816, 817, 818, 819, 820, 821, 822, 823, 824, 825, 826, 827, 828, 829, 830, 831, 832, 833, 834, 835, 836, 837, 838, 839, 840, 841, 842, 843, 844, 845] (by decide +kernel) (by decide +kernel)
set_option maxRecDepth 20000 in
theorem gL_law_X7_trace : GoodIn wsL_law (wsV RL 145 RX7 yX7_trace wsX7_trace) := goodIn_app (goodIn_of _ (by decide +kernel)) ggL_law_X7_trace
set_option maxRecDepth 20000 in
theorem ggL_law_X6_fault : GoodIn wsL_law wsX6_fault := goodIn_r _ [795, 23, 808, 809, 810, 811, 812] (by decide +kernel) (by decide +kernel)
set_option maxRecDepth 20000 in
theorem gL_law_X6_fault : GoodIn wsL_law (wsV RL 146 RX6 yX6_fault wsX6_fault) := goodIn_app (goodIn_of _ (by decide +kernel)) ggL_law_X6_fault
set_option maxRecDepth 20000 in
theorem ggL_law_X7_fault : GoodIn wsL_law wsX7_fault := goodIn_r _ [799, 192, 813, 814, 815, 816, 817, 818, 819, 820, 821, 822, 823, 824, 825, 826, 827, 828, 829, 830, 831, 832, 833, 834, 835, 836, 837, 838, 839, 840, 841, 842, 843, 844, 845] (by decide +kernel) (by decide +kernel)
set_option maxRecDepth 20000 in
theorem gL_law_X7_fault : GoodIn wsL_law (wsV RL 149 RX7 yX7_fault wsX7_fault) := goodIn_app (goodIn_of _ (by decide +kernel)) ggL_law_X7_fault
set_option maxRecDepth 20000 in
theorem ggL_law_X6_many : GoodIn wsL_law wsX6_many := goodIn_r _ [803, 17, 21, 547, 548, 549, 16, 550, 33, 30, 808, 809, 810, 811, 812, 846, 847, 848, 849, 850, 851, 852, 853, 854, 855, 856, 857, 858, 862, 863, 864, 865, 866, 867] (by decide +kernel) (by decide +kernel)
set_option maxRecDepth 20000 in
theorem gL_law_X6_many : GoodIn wsL_law (wsV RL 150 RX6 yX6_many wsX6_many) := goodIn_app (goodIn_of _ (by decide +kernel)) ggL_law_X6_many
set_option maxRecDepth 20000 in
theorem ggL_law_X7_many : GoodIn wsL_law wsX7_many := goodIn_r _ [807, 194, 244, 243, 573, 574, 575, 5, 576, 64, 813, 814, 815, 816, 817, 818, 819, 820, 821, 822, 823, 824, 825, 826, 827, 828, 829, 830, 831, 832, 833, 834, 835, 836, 837, 838, 839, 840, 841, 842, 843, 844, 845] (by decide +kernel) (by decide +kernel)
set_option maxRecDepth 20000 in
theorem gL_law_X7_many : GoodIn wsL_law (wsV RL 153 RX7 yX7_many wsX7_many) := goodIn_app (goodIn_of _ (by decide +kernel)) ggL_law_X7_many
theorem dL_law_0 : decode cL_law 0 = .ok (.new 7, 3) := by decide +kernel
