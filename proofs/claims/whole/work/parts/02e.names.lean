theorem dX0_straight_0 : decode cX0_straight 0 = .ok (.iload_n 1, 1) := by decide +kernel
theorem dX0_straight_1 : decode cX0_straight 1 = .ok (.tableswitch 46 0 2 #[27, 36, 41], 27) := by decide +kernel
theorem dX0_straight_28 : decode cX0_straight 28 = .ok (.aload_n 0, 1) := by decide +kernel
theorem dX0_straight_29 : decode cX0_straight 29 = .ok (.aload_n 0, 1) := by decide +kernel
theorem dX0_straight_30 : decode cX0_straight 30 = .ok (.invokevirtual 166, 3) := by decide +kernel
theorem dX0_straight_33 : decode cX0_straight 33 = .ok (.invokevirtual 163, 3) := by decide +kernel
theorem dX0_straight_36 : decode cX0_straight 36 = .ok (.ireturn, 1) := by decide +kernel
theorem dX0_straight_37 : decode cX0_straight 37 = .ok (.aload_n 0, 1) := by decide +kernel
theorem dX0_straight_38 : decode cX0_straight 38 = .ok (.invokevirtual 166, 3) := by decide +kernel
theorem dX0_straight_41 : decode cX0_straight 41 = .ok (.ireturn, 1) := by decide +kernel
theorem dX0_straight_42 : decode cX0_straight 42 = .ok (.aload_n 0, 1) := by decide +kernel
theorem dX0_straight_43 : decode cX0_straight 43 = .ok (.invokevirtual 169, 3) := by decide +kernel
theorem dX0_straight_46 : decode cX0_straight 46 = .ok (.ireturn, 1) := by decide +kernel
theorem dX0_straight_47 : decode cX0_straight 47 = .ok (.iconst (-1), 1) := by decide +kernel
theorem dX0_straight_48 : decode cX0_straight 48 = .ok (.ireturn, 1) := by decide +kernel
set_option maxRecDepth 20000 in
theorem ggX0_count_J6_bitCount_0f7a4 : GoodIn wsX0_count wsJ6_bitCount_0f7a4 := goodIn_r _ [8, 9, 10, 11] (by decide +kernel) (by decide +kernel)
set_option maxRecDepth 20000 in
theorem gX0_count_J6_bitCount_0f7a4 : GoodIn wsX0_count (va_wsS RX0 140 yJ6_bitCount_0f7a4 wsJ6_bitCount_0f7a4) := goodIn_app (goodIn_of _ (by decide +kernel)) ggX0_count_J6_bitCount_0f7a4
theorem dX0_count_0 : decode cX0_count 0 = .ok (.iload_n 1, 1) := by decide +kernel
theorem dX0_count_1 : decode cX0_count 1 = .ok (.tableswitch 54 0 3 #[31, 36, 41, 46], 31) := by decide +kernel
theorem dX0_count_32 : decode cX0_count 32 = .ok (.aload_n 0, 1) := by decide +kernel
theorem dX0_count_33 : decode cX0_count 33 = .ok (.getfield 7, 3) := by decide +kernel
theorem dX0_count_36 : decode cX0_count 36 = .ok (.ireturn, 1) := by decide +kernel
theorem dX0_count_37 : decode cX0_count 37 = .ok (.aload_n 0, 1) := by decide +kernel
theorem dX0_count_38 : decode cX0_count 38 = .ok (.getfield 29, 3) := by decide +kernel
theorem dX0_count_41 : decode cX0_count 41 = .ok (.ireturn, 1) := by decide +kernel
theorem dX0_count_42 : decode cX0_count 42 = .ok (.aload_n 0, 1) := by decide +kernel
theorem dX0_count_43 : decode cX0_count 43 = .ok (.getfield 44, 3) := by decide +kernel
theorem dX0_count_46 : decode cX0_count 46 = .ok (.ireturn, 1) := by decide +kernel
theorem dX0_count_47 : decode cX0_count 47 = .ok (.aload_n 0, 1) := by decide +kernel
theorem dX0_count_48 : decode cX0_count 48 = .ok (.getfield 20, 3) := by decide +kernel
theorem dX0_count_51 : decode cX0_count 51 = .ok (.invokestatic 140, 3) := by decide +kernel
theorem dX0_count_54 : decode cX0_count 54 = .ok (.ireturn, 1) := by decide +kernel
theorem dX0_count_55 : decode cX0_count 55 = .ok (.iconst (-1), 1) := by decide +kernel
theorem dX0_count_56 : decode cX0_count 56 = .ok (.ireturn, 1) := by decide +kernel
theorem dX0_trace_0 : decode cX0_trace 0 = .ok (.aload_n 0, 1) := by decide +kernel
theorem dX0_trace_1 : decode cX0_trace 1 = .ok (.getfield 53, 3) := by decide +kernel
theorem dX0_trace_4 : decode cX0_trace 4 = .ok (.lreturn, 1) := by decide +kernel
theorem dX0_isStepLength_0 : decode cX0_isStepLength 0 = .ok (.iload_n 0, 1) := by decide +kernel
theorem dX0_isStepLength_1 : decode cX0_isStepLength 1 = .ok (.bipush (-20), 2) := by decide +kernel
theorem dX0_isStepLength_3 : decode cX0_isStepLength 3 = .ok (.if_icmp .lt 13, 3) := by decide +kernel
theorem dX0_isStepLength_6 : decode cX0_isStepLength 6 = .ok (.iload_n 0, 1) := by decide +kernel
theorem dX0_isStepLength_7 : decode cX0_isStepLength 7 = .ok (.bipush 20, 2) := by decide +kernel
theorem dX0_isStepLength_9 : decode cX0_isStepLength 9 = .ok (.if_icmp .gt 7, 3) := by decide +kernel
theorem dX0_isStepLength_12 : decode cX0_isStepLength 12 = .ok (.iconst 1, 1) := by decide +kernel
theorem dX0_isStepLength_13 : decode cX0_isStepLength 13 = .ok (.goto 4, 3) := by decide +kernel
theorem dX0_isStepLength_16 : decode cX0_isStepLength 16 = .ok (.iconst 0, 1) := by decide +kernel
theorem dX0_isStepLength_17 : decode cX0_isStepLength 17 = .ok (.ireturn, 1) := by decide +kernel
theorem dX0_signingCount_0 : decode cX0_signingCount 0 = .ok (.iconst 1, 1) := by decide +kernel
theorem dX0_signingCount_1 : decode cX0_signingCount 1 = .ok (.aload_n 0, 1) := by decide +kernel
theorem dX0_signingCount_2 : decode cX0_signingCount 2 = .ok (.getfield 44, 3) := by decide +kernel
theorem dX0_signingCount_5 : decode cX0_signingCount 5 = .ok (.ishl, 1) := by decide +kernel
theorem dX0_signingCount_6 : decode cX0_signingCount 6 = .ok (.ireturn, 1) := by decide +kernel
theorem dX0_greaterSize_0 : decode cX0_greaterSize 0 = .ok (.iload_n 0, 1) := by decide +kernel
theorem dX0_greaterSize_1 : decode cX0_greaterSize 1 = .ok (.invokestatic 148, 3) := by decide +kernel
theorem dX0_greaterSize_4 : decode cX0_greaterSize 4 = .ok (.iload_n 1, 1) := by decide +kernel
theorem dX0_greaterSize_5 : decode cX0_greaterSize 5 = .ok (.invokestatic 148, 3) := by decide +kernel
theorem dX0_greaterSize_8 : decode cX0_greaterSize 8 = .ok (.invokestatic 109, 3) := by decide +kernel
theorem dX0_greaterSize_11 : decode cX0_greaterSize 11 = .ok (.ireturn, 1) := by decide +kernel
set_option maxRecDepth 20000 in
theorem ggX0_strayOf_X0_bitOf : GoodIn wsX0_strayOf wsX0_bitOf := goodIn_r _ [11] (by decide +kernel) (by decide +kernel)
set_option maxRecDepth 20000 in
theorem gX0_strayOf_X0_bitOf : GoodIn wsX0_strayOf (va_wsS RX0 83 yX0_bitOf wsX0_bitOf) := goodIn_app (goodIn_of _ (by decide +kernel)) ggX0_strayOf_X0_bitOf
set_option maxRecDepth 20000 in
theorem ggX0_strayOf_X0_greaterSize : GoodIn wsX0_strayOf wsX0_greaterSize := goodIn_r _ [14, 15, 16, 6, 17, 4, 5, 7] (by decide +kernel) (by decide +kernel)
set_option maxRecDepth 20000 in
theorem gX0_strayOf_X0_greaterSize : GoodIn wsX0_strayOf (va_wsS RX0 172 yX0_greaterSize wsX0_greaterSize) := goodIn_app (goodIn_of _ (by decide +kernel)) ggX0_strayOf_X0_greaterSize
theorem dX0_strayOf_0 : decode cX0_strayOf 0 = .ok (.iconst 0, 1) := by decide +kernel
theorem dX0_strayOf_1 : decode cX0_strayOf 1 = .ok (.istore_n 2, 1) := by decide +kernel
theorem dX0_strayOf_2 : decode cX0_strayOf 2 = .ok (.iconst 0, 1) := by decide +kernel
theorem dX0_strayOf_3 : decode cX0_strayOf 3 = .ok (.istore_n 3, 1) := by decide +kernel
theorem dX0_strayOf_4 : decode cX0_strayOf 4 = .ok (.iconst 0, 1) := by decide +kernel
theorem dX0_strayOf_5 : decode cX0_strayOf 5 = .ok (.istore 4, 2) := by decide +kernel
theorem dX0_strayOf_7 : decode cX0_strayOf 7 = .ok (.iconst 0, 1) := by decide +kernel
theorem dX0_strayOf_8 : decode cX0_strayOf 8 = .ok (.istore 5, 2) := by decide +kernel
theorem dX0_strayOf_10 : decode cX0_strayOf 10 = .ok (.iload 5, 2) := by decide +kernel
theorem dX0_strayOf_12 : decode cX0_strayOf 12 = .ok (.aload_n 0, 1) := by decide +kernel
theorem dX0_strayOf_13 : decode cX0_strayOf 13 = .ok (.getfield 44, 3) := by decide +kernel
theorem dX0_strayOf_16 : decode cX0_strayOf 16 = .ok (.if_icmp .ge 63, 3) := by decide +kernel
theorem dX0_strayOf_19 : decode cX0_strayOf 19 = .ok (.iload_n 1, 1) := by decide +kernel
theorem dX0_strayOf_20 : decode cX0_strayOf 20 = .ok (.iload 5, 2) := by decide +kernel
theorem dX0_strayOf_22 : decode cX0_strayOf 22 = .ok (.invokestatic 83, 3) := by decide +kernel
theorem dX0_strayOf_25 : decode cX0_strayOf 25 = .ok (.ifCond .ne 7, 3) := by decide +kernel
theorem dX0_strayOf_28 : decode cX0_strayOf 28 = .ok (.iconst 1, 1) := by decide +kernel
theorem dX0_strayOf_29 : decode cX0_strayOf 29 = .ok (.goto 4, 3) := by decide +kernel
theorem dX0_strayOf_32 : decode cX0_strayOf 32 = .ok (.iconst (-1), 1) := by decide +kernel
theorem dX0_strayOf_33 : decode cX0_strayOf 33 = .ok (.istore 6, 2) := by decide +kernel
theorem dX0_strayOf_35 : decode cX0_strayOf 35 = .ok (.iload_n 2, 1) := by decide +kernel
theorem dX0_strayOf_36 : decode cX0_strayOf 36 = .ok (.iload 6, 2) := by decide +kernel
theorem dX0_strayOf_38 : decode cX0_strayOf 38 = .ok (.aload_n 0, 1) := by decide +kernel
theorem dX0_strayOf_39 : decode cX0_strayOf 39 = .ok (.getfield 47, 3) := by decide +kernel
theorem dX0_strayOf_42 : decode cX0_strayOf 42 = .ok (.iload 5, 2) := by decide +kernel
theorem dX0_strayOf_44 : decode cX0_strayOf 44 = .ok (.iaload, 1) := by decide +kernel
theorem dX0_strayOf_45 : decode cX0_strayOf 45 = .ok (.imul, 1) := by decide +kernel
theorem dX0_strayOf_46 : decode cX0_strayOf 46 = .ok (.iadd, 1) := by decide +kernel
theorem dX0_strayOf_47 : decode cX0_strayOf 47 = .ok (.istore_n 2, 1) := by decide +kernel
theorem dX0_strayOf_48 : decode cX0_strayOf 48 = .ok (.iload_n 3, 1) := by decide +kernel
theorem dX0_strayOf_49 : decode cX0_strayOf 49 = .ok (.iload 6, 2) := by decide +kernel
theorem dX0_strayOf_51 : decode cX0_strayOf 51 = .ok (.aload_n 0, 1) := by decide +kernel
theorem dX0_strayOf_52 : decode cX0_strayOf 52 = .ok (.getfield 50, 3) := by decide +kernel
theorem dX0_strayOf_55 : decode cX0_strayOf 55 = .ok (.iload 5, 2) := by decide +kernel
theorem dX0_strayOf_57 : decode cX0_strayOf 57 = .ok (.iaload, 1) := by decide +kernel
theorem dX0_strayOf_58 : decode cX0_strayOf 58 = .ok (.imul, 1) := by decide +kernel
theorem dX0_strayOf_59 : decode cX0_strayOf 59 = .ok (.iadd, 1) := by decide +kernel
theorem dX0_strayOf_60 : decode cX0_strayOf 60 = .ok (.istore_n 3, 1) := by decide +kernel
theorem dX0_strayOf_61 : decode cX0_strayOf 61 = .ok (.iload 4, 2) := by decide +kernel
theorem dX0_strayOf_63 : decode cX0_strayOf 63 = .ok (.iload_n 2, 1) := by decide +kernel
theorem dX0_strayOf_64 : decode cX0_strayOf 64 = .ok (.iload_n 3, 1) := by decide +kernel
theorem dX0_strayOf_65 : decode cX0_strayOf 65 = .ok (.invokestatic 172, 3) := by decide +kernel
theorem dX0_strayOf_68 : decode cX0_strayOf 68 = .ok (.invokestatic 109, 3) := by decide +kernel
theorem dX0_strayOf_71 : decode cX0_strayOf 71 = .ok (.istore 4, 2) := by decide +kernel
theorem dX0_strayOf_73 : decode cX0_strayOf 73 = .ok (.iinc 5 1, 3) := by decide +kernel
theorem dX0_strayOf_76 : decode cX0_strayOf 76 = .ok (.goto (-66), 3) := by decide +kernel
theorem dX0_strayOf_79 : decode cX0_strayOf 79 = .ok (.iload 4, 2) := by decide +kernel
theorem dX0_strayOf_81 : decode cX0_strayOf 81 = .ok (.ireturn, 1) := by decide +kernel
set_option maxRecDepth 20000 in
theorem ggX0_straightest_X0_strayOf : GoodIn wsX0_straightest wsX0_strayOf := goodIn_r _ [5, 6, 7, 8, 9, 10, 11, 12, 13, 14, 4, 15, 16, 17, 18, 19, 20, 21, 26, 27, 28, 29, 30, 31, 32, 33, 34, 35, 36, 37, 38, 39, 40] (by decide +kernel) (by decide +kernel)
set_option maxRecDepth 20000 in
theorem gX0_straightest_X0_strayOf : GoodIn wsX0_straightest (wsV RX0 163 RX0 yX0_strayOf wsX0_strayOf) := goodIn_app (goodIn_of _ (by decide +kernel)) ggX0_straightest_X0_strayOf
set_option maxRecDepth 20000 in
theorem ggX0_straightest_X0_signingCount : GoodIn wsX0_straightest wsX0_signingCount := goodIn_r _ [25, 6, 26, 27, 28, 29, 30, 31, 32, 33, 34, 35, 36, 37, 38, 39, 40] (by decide +kernel) (by decide +kernel)
set_option maxRecDepth 20000 in
theorem gX0_straightest_X0_signingCount : GoodIn wsX0_straightest (wsV RX0 160 RX0 yX0_signingCount wsX0_signingCount) := goodIn_app (goodIn_of _ (by decide +kernel)) ggX0_straightest_X0_signingCount
theorem dX0_straightest_0 : decode cX0_straightest 0 = .ok (.iconst 0, 1) := by decide +kernel
theorem dX0_straightest_1 : decode cX0_straightest 1 = .ok (.istore_n 1, 1) := by decide +kernel
theorem dX0_straightest_2 : decode cX0_straightest 2 = .ok (.aload_n 0, 1) := by decide +kernel
theorem dX0_straightest_3 : decode cX0_straightest 3 = .ok (.iload_n 1, 1) := by decide +kernel
theorem dX0_straightest_4 : decode cX0_straightest 4 = .ok (.invokevirtual 163, 3) := by decide +kernel
theorem dX0_straightest_7 : decode cX0_straightest 7 = .ok (.istore_n 2, 1) := by decide +kernel
theorem dX0_straightest_8 : decode cX0_straightest 8 = .ok (.iconst 1, 1) := by decide +kernel
theorem dX0_straightest_9 : decode cX0_straightest 9 = .ok (.istore_n 3, 1) := by decide +kernel
theorem dX0_straightest_10 : decode cX0_straightest 10 = .ok (.iload_n 3, 1) := by decide +kernel
theorem dX0_straightest_11 : decode cX0_straightest 11 = .ok (.aload_n 0, 1) := by decide +kernel
theorem dX0_straightest_12 : decode cX0_straightest 12 = .ok (.invokevirtual 160, 3) := by decide +kernel
theorem dX0_straightest_15 : decode cX0_straightest 15 = .ok (.if_icmp .ge 27, 3) := by decide +kernel
theorem dX0_straightest_18 : decode cX0_straightest 18 = .ok (.aload_n 0, 1) := by decide +kernel
theorem dX0_straightest_19 : decode cX0_straightest 19 = .ok (.iload_n 3, 1) := by decide +kernel
theorem dX0_straightest_20 : decode cX0_straightest 20 = .ok (.invokevirtual 163, 3) := by decide +kernel
theorem dX0_straightest_23 : decode cX0_straightest 23 = .ok (.istore 4, 2) := by decide +kernel
theorem dX0_straightest_25 : decode cX0_straightest 25 = .ok (.iload 4, 2) := by decide +kernel
theorem dX0_straightest_27 : decode cX0_straightest 27 = .ok (.iload_n 2, 1) := by decide +kernel
theorem dX0_straightest_28 : decode cX0_straightest 28 = .ok (.if_icmp .ge 8, 3) := by decide +kernel
theorem dX0_straightest_31 : decode cX0_straightest 31 = .ok (.iload 4, 2) := by decide +kernel
theorem dX0_straightest_33 : decode cX0_straightest 33 = .ok (.istore_n 2, 1) := by decide +kernel
theorem dX0_straightest_34 : decode cX0_straightest 34 = .ok (.iload_n 3, 1) := by decide +kernel
theorem dX0_straightest_35 : decode cX0_straightest 35 = .ok (.istore_n 1, 1) := by decide +kernel
theorem dX0_straightest_36 : decode cX0_straightest 36 = .ok (.iinc 3 1, 3) := by decide +kernel
theorem dX0_straightest_39 : decode cX0_straightest 39 = .ok (.goto (-29), 3) := by decide +kernel
theorem dX0_straightest_42 : decode cX0_straightest 42 = .ok (.iload_n 1, 1) := by decide +kernel
theorem dX0_straightest_43 : decode cX0_straightest 43 = .ok (.ireturn, 1) := by decide +kernel
set_option maxRecDepth 20000 in
theorem ggX0_nearest_X0_greaterSize : GoodIn wsX0_nearest wsX0_greaterSize := goodIn_r _ [7, 8, 9, 10, 11, 12, 13, 14] (by decide +kernel) (by decide +kernel)
set_option maxRecDepth 20000 in
theorem gX0_nearest_X0_greaterSize : GoodIn wsX0_nearest (va_wsS RX0 172 yX0_greaterSize wsX0_greaterSize) := goodIn_app (goodIn_of _ (by decide +kernel)) ggX0_nearest_X0_greaterSize
theorem dX0_nearest_0 : decode cX0_nearest 0 = .ok (.iconst 0, 1) := by decide +kernel
theorem dX0_nearest_1 : decode cX0_nearest 1 = .ok (.istore_n 1, 1) := by decide +kernel
theorem dX0_nearest_2 : decode cX0_nearest 2 = .ok (.iconst 0, 1) := by decide +kernel
theorem dX0_nearest_3 : decode cX0_nearest 3 = .ok (.istore_n 2, 1) := by decide +kernel
theorem dX0_nearest_4 : decode cX0_nearest 4 = .ok (.iconst 0, 1) := by decide +kernel
theorem dX0_nearest_5 : decode cX0_nearest 5 = .ok (.istore_n 3, 1) := by decide +kernel
theorem dX0_nearest_6 : decode cX0_nearest 6 = .ok (.iconst 0, 1) := by decide +kernel
theorem dX0_nearest_7 : decode cX0_nearest 7 = .ok (.istore 4, 2) := by decide +kernel
theorem dX0_nearest_9 : decode cX0_nearest 9 = .ok (.iload 4, 2) := by decide +kernel
theorem dX0_nearest_11 : decode cX0_nearest 11 = .ok (.aload_n 0, 1) := by decide +kernel
theorem dX0_nearest_12 : decode cX0_nearest 12 = .ok (.getfield 44, 3) := by decide +kernel
theorem dX0_nearest_15 : decode cX0_nearest 15 = .ok (.if_icmp .ge 93, 3) := by decide +kernel
theorem dX0_nearest_18 : decode cX0_nearest 18 = .ok (.iconst 1, 1) := by decide +kernel
theorem dX0_nearest_19 : decode cX0_nearest 19 = .ok (.istore 5, 2) := by decide +kernel
theorem dX0_nearest_21 : decode cX0_nearest 21 = .ok (.iload_n 1, 1) := by decide +kernel
theorem dX0_nearest_22 : decode cX0_nearest 22 = .ok (.aload_n 0, 1) := by decide +kernel
theorem dX0_nearest_23 : decode cX0_nearest 23 = .ok (.getfield 47, 3) := by decide +kernel
theorem dX0_nearest_26 : decode cX0_nearest 26 = .ok (.iload 4, 2) := by decide +kernel
theorem dX0_nearest_28 : decode cX0_nearest 28 = .ok (.iaload, 1) := by decide +kernel
theorem dX0_nearest_29 : decode cX0_nearest 29 = .ok (.isub, 1) := by decide +kernel
theorem dX0_nearest_30 : decode cX0_nearest 30 = .ok (.iload_n 2, 1) := by decide +kernel
theorem dX0_nearest_31 : decode cX0_nearest 31 = .ok (.aload_n 0, 1) := by decide +kernel
theorem dX0_nearest_32 : decode cX0_nearest 32 = .ok (.getfield 50, 3) := by decide +kernel
theorem dX0_nearest_35 : decode cX0_nearest 35 = .ok (.iload 4, 2) := by decide +kernel
theorem dX0_nearest_37 : decode cX0_nearest 37 = .ok (.iaload, 1) := by decide +kernel
theorem dX0_nearest_38 : decode cX0_nearest 38 = .ok (.isub, 1) := by decide +kernel
theorem dX0_nearest_39 : decode cX0_nearest 39 = .ok (.invokestatic 172, 3) := by decide +kernel
theorem dX0_nearest_42 : decode cX0_nearest 42 = .ok (.iload_n 1, 1) := by decide +kernel
theorem dX0_nearest_43 : decode cX0_nearest 43 = .ok (.aload_n 0, 1) := by decide +kernel
theorem dX0_nearest_44 : decode cX0_nearest 44 = .ok (.getfield 47, 3) := by decide +kernel
theorem dX0_nearest_47 : decode cX0_nearest 47 = .ok (.iload 4, 2) := by decide +kernel
theorem dX0_nearest_49 : decode cX0_nearest 49 = .ok (.iaload, 1) := by decide +kernel
theorem dX0_nearest_50 : decode cX0_nearest 50 = .ok (.iadd, 1) := by decide +kernel
theorem dX0_nearest_51 : decode cX0_nearest 51 = .ok (.iload_n 2, 1) := by decide +kernel
theorem dX0_nearest_52 : decode cX0_nearest 52 = .ok (.aload_n 0, 1) := by decide +kernel
theorem dX0_nearest_53 : decode cX0_nearest 53 = .ok (.getfield 50, 3) := by decide +kernel
theorem dX0_nearest_56 : decode cX0_nearest 56 = .ok (.iload 4, 2) := by decide +kernel
theorem dX0_nearest_58 : decode cX0_nearest 58 = .ok (.iaload, 1) := by decide +kernel
theorem dX0_nearest_59 : decode cX0_nearest 59 = .ok (.iadd, 1) := by decide +kernel
theorem dX0_nearest_60 : decode cX0_nearest 60 = .ok (.invokestatic 172, 3) := by decide +kernel
theorem dX0_nearest_63 : decode cX0_nearest 63 = .ok (.if_icmp .ge 13, 3) := by decide +kernel
theorem dX0_nearest_66 : decode cX0_nearest 66 = .ok (.iconst (-1), 1) := by decide +kernel
theorem dX0_nearest_67 : decode cX0_nearest 67 = .ok (.istore 5, 2) := by decide +kernel
theorem dX0_nearest_69 : decode cX0_nearest 69 = .ok (.iload_n 3, 1) := by decide +kernel
theorem dX0_nearest_70 : decode cX0_nearest 70 = .ok (.iconst 1, 1) := by decide +kernel
theorem dX0_nearest_71 : decode cX0_nearest 71 = .ok (.iload 4, 2) := by decide +kernel
theorem dX0_nearest_73 : decode cX0_nearest 73 = .ok (.ishl, 1) := by decide +kernel
theorem dX0_nearest_74 : decode cX0_nearest 74 = .ok (.ior, 1) := by decide +kernel
theorem dX0_nearest_75 : decode cX0_nearest 75 = .ok (.istore_n 3, 1) := by decide +kernel
theorem dX0_nearest_76 : decode cX0_nearest 76 = .ok (.iload_n 1, 1) := by decide +kernel
theorem dX0_nearest_77 : decode cX0_nearest 77 = .ok (.iload 5, 2) := by decide +kernel
theorem dX0_nearest_79 : decode cX0_nearest 79 = .ok (.aload_n 0, 1) := by decide +kernel
theorem dX0_nearest_80 : decode cX0_nearest 80 = .ok (.getfield 47, 3) := by decide +kernel
theorem dX0_nearest_83 : decode cX0_nearest 83 = .ok (.iload 4, 2) := by decide +kernel
theorem dX0_nearest_85 : decode cX0_nearest 85 = .ok (.iaload, 1) := by decide +kernel
theorem dX0_nearest_86 : decode cX0_nearest 86 = .ok (.imul, 1) := by decide +kernel
theorem dX0_nearest_87 : decode cX0_nearest 87 = .ok (.iadd, 1) := by decide +kernel
theorem dX0_nearest_88 : decode cX0_nearest 88 = .ok (.istore_n 1, 1) := by decide +kernel
theorem dX0_nearest_89 : decode cX0_nearest 89 = .ok (.iload_n 2, 1) := by decide +kernel
theorem dX0_nearest_90 : decode cX0_nearest 90 = .ok (.iload 5, 2) := by decide +kernel
theorem dX0_nearest_92 : decode cX0_nearest 92 = .ok (.aload_n 0, 1) := by decide +kernel
theorem dX0_nearest_93 : decode cX0_nearest 93 = .ok (.getfield 50, 3) := by decide +kernel
theorem dX0_nearest_96 : decode cX0_nearest 96 = .ok (.iload 4, 2) := by decide +kernel
theorem dX0_nearest_98 : decode cX0_nearest 98 = .ok (.iaload, 1) := by decide +kernel
theorem dX0_nearest_99 : decode cX0_nearest 99 = .ok (.imul, 1) := by decide +kernel
theorem dX0_nearest_100 : decode cX0_nearest 100 = .ok (.iadd, 1) := by decide +kernel
theorem dX0_nearest_101 : decode cX0_nearest 101 = .ok (.istore_n 2, 1) := by decide +kernel
theorem dX0_nearest_102 : decode cX0_nearest 102 = .ok (.iinc 4 1, 3) := by decide +kernel
theorem dX0_nearest_105 : decode cX0_nearest 105 = .ok (.goto (-96), 3) := by decide +kernel
theorem dX0_nearest_108 : decode cX0_nearest 108 = .ok (.iload_n 3, 1) := by decide +kernel
theorem dX0_nearest_109 : decode cX0_nearest 109 = .ok (.ireturn, 1) := by decide +kernel
theorem dX1_init_0 : decode cX1_init 0 = .ok (.aload_n 0, 1) := by decide +kernel
theorem dX1_init_1 : decode cX1_init 1 = .ok (.invokespecial 1, 3) := by decide +kernel
theorem dX1_init_4 : decode cX1_init 4 = .ok (.aload_n 0, 1) := by decide +kernel
theorem dX1_init_5 : decode cX1_init 5 = .ok (.iconst 1, 1) := by decide +kernel
theorem dX1_init_6 : decode cX1_init 6 = .ok (.putfield 7, 3) := by decide +kernel
theorem dX1_init_9 : decode cX1_init 9 = .ok (.aload_n 0, 1) := by decide +kernel
theorem dX1_init_10 : decode cX1_init 10 = .ok (.bipush 12, 2) := by decide +kernel
theorem dX1_init_12 : decode cX1_init 12 = .ok (.newarray .int, 2) := by decide +kernel
theorem dX1_init_14 : decode cX1_init 14 = .ok (.dup, 1) := by decide +kernel
theorem dX1_init_15 : decode cX1_init 15 = .ok (.iconst 0, 1) := by decide +kernel
theorem dX1_init_16 : decode cX1_init 16 = .ok (.iconst 0, 1) := by decide +kernel
theorem dX1_init_17 : decode cX1_init 17 = .ok (.iastore, 1) := by decide +kernel
theorem dX1_init_18 : decode cX1_init 18 = .ok (.dup, 1) := by decide +kernel
theorem dX1_init_19 : decode cX1_init 19 = .ok (.iconst 1, 1) := by decide +kernel
theorem dX1_init_20 : decode cX1_init 20 = .ok (.iconst 1, 1) := by decide +kernel
theorem dX1_init_21 : decode cX1_init 21 = .ok (.iastore, 1) := by decide +kernel
theorem dX1_init_22 : decode cX1_init 22 = .ok (.dup, 1) := by decide +kernel
theorem dX1_init_23 : decode cX1_init 23 = .ok (.iconst 2, 1) := by decide +kernel
theorem dX1_init_24 : decode cX1_init 24 = .ok (.iconst 2, 1) := by decide +kernel
theorem dX1_init_25 : decode cX1_init 25 = .ok (.iastore, 1) := by decide +kernel
theorem dX1_init_26 : decode cX1_init 26 = .ok (.dup, 1) := by decide +kernel
theorem dX1_init_27 : decode cX1_init 27 = .ok (.iconst 3, 1) := by decide +kernel
theorem dX1_init_28 : decode cX1_init 28 = .ok (.iconst 3, 1) := by decide +kernel
theorem dX1_init_29 : decode cX1_init 29 = .ok (.iastore, 1) := by decide +kernel
theorem dX1_init_30 : decode cX1_init 30 = .ok (.dup, 1) := by decide +kernel
theorem dX1_init_31 : decode cX1_init 31 = .ok (.iconst 4, 1) := by decide +kernel
theorem dX1_init_32 : decode cX1_init 32 = .ok (.iconst 4, 1) := by decide +kernel
theorem dX1_init_33 : decode cX1_init 33 = .ok (.iastore, 1) := by decide +kernel
theorem dX1_init_34 : decode cX1_init 34 = .ok (.dup, 1) := by decide +kernel
theorem dX1_init_35 : decode cX1_init 35 = .ok (.iconst 5, 1) := by decide +kernel
theorem dX1_init_36 : decode cX1_init 36 = .ok (.iconst 5, 1) := by decide +kernel
theorem dX1_init_37 : decode cX1_init 37 = .ok (.iastore, 1) := by decide +kernel
theorem dX1_init_38 : decode cX1_init 38 = .ok (.dup, 1) := by decide +kernel
theorem dX1_init_39 : decode cX1_init 39 = .ok (.bipush 6, 2) := by decide +kernel
theorem dX1_init_41 : decode cX1_init 41 = .ok (.bipush 6, 2) := by decide +kernel
theorem dX1_init_43 : decode cX1_init 43 = .ok (.iastore, 1) := by decide +kernel
theorem dX1_init_44 : decode cX1_init 44 = .ok (.dup, 1) := by decide +kernel
theorem dX1_init_45 : decode cX1_init 45 = .ok (.bipush 7, 2) := by decide +kernel
theorem dX1_init_47 : decode cX1_init 47 = .ok (.bipush 7, 2) := by decide +kernel
theorem dX1_init_49 : decode cX1_init 49 = .ok (.iastore, 1) := by decide +kernel
theorem dX1_init_50 : decode cX1_init 50 = .ok (.dup, 1) := by decide +kernel
theorem dX1_init_51 : decode cX1_init 51 = .ok (.bipush 8, 2) := by decide +kernel
theorem dX1_init_53 : decode cX1_init 53 = .ok (.bipush 8, 2) := by decide +kernel
theorem dX1_init_55 : decode cX1_init 55 = .ok (.iastore, 1) := by decide +kernel
theorem dX1_init_56 : decode cX1_init 56 = .ok (.dup, 1) := by decide +kernel
theorem dX1_init_57 : decode cX1_init 57 = .ok (.bipush 9, 2) := by decide +kernel
theorem dX1_init_59 : decode cX1_init 59 = .ok (.bipush 9, 2) := by decide +kernel
theorem dX1_init_61 : decode cX1_init 61 = .ok (.iastore, 1) := by decide +kernel
theorem dX1_init_62 : decode cX1_init 62 = .ok (.dup, 1) := by decide +kernel
theorem dX1_init_63 : decode cX1_init 63 = .ok (.bipush 10, 2) := by decide +kernel
theorem dX1_init_65 : decode cX1_init 65 = .ok (.bipush 10, 2) := by decide +kernel
theorem dX1_init_67 : decode cX1_init 67 = .ok (.iastore, 1) := by decide +kernel
theorem dX1_init_68 : decode cX1_init 68 = .ok (.dup, 1) := by decide +kernel
theorem dX1_init_69 : decode cX1_init 69 = .ok (.bipush 11, 2) := by decide +kernel
theorem dX1_init_71 : decode cX1_init 71 = .ok (.bipush 11, 2) := by decide +kernel
theorem dX1_init_73 : decode cX1_init 73 = .ok (.iastore, 1) := by decide +kernel
theorem dX1_init_74 : decode cX1_init 74 = .ok (.putfield 13, 3) := by decide +kernel
theorem dX1_init_77 : decode cX1_init 77 = .ok (.aload_n 0, 1) := by decide +kernel
theorem dX1_init_78 : decode cX1_init 78 = .ok (.bipush 12, 2) := by decide +kernel
theorem dX1_init_80 : decode cX1_init 80 = .ok (.newarray .int, 2) := by decide +kernel
theorem dX1_init_82 : decode cX1_init 82 = .ok (.dup, 1) := by decide +kernel
theorem dX1_init_83 : decode cX1_init 83 = .ok (.iconst 0, 1) := by decide +kernel
theorem dX1_init_84 : decode cX1_init 84 = .ok (.iconst (-1), 1) := by decide +kernel
theorem dX1_init_85 : decode cX1_init 85 = .ok (.iastore, 1) := by decide +kernel
theorem dX1_init_86 : decode cX1_init 86 = .ok (.dup, 1) := by decide +kernel
theorem dX1_init_87 : decode cX1_init 87 = .ok (.iconst 1, 1) := by decide +kernel
theorem dX1_init_88 : decode cX1_init 88 = .ok (.iconst (-1), 1) := by decide +kernel
theorem dX1_init_89 : decode cX1_init 89 = .ok (.iastore, 1) := by decide +kernel
theorem dX1_init_90 : decode cX1_init 90 = .ok (.dup, 1) := by decide +kernel
theorem dX1_init_91 : decode cX1_init 91 = .ok (.iconst 2, 1) := by decide +kernel
theorem dX1_init_92 : decode cX1_init 92 = .ok (.iconst (-1), 1) := by decide +kernel
theorem dX1_init_93 : decode cX1_init 93 = .ok (.iastore, 1) := by decide +kernel
theorem dX1_init_94 : decode cX1_init 94 = .ok (.dup, 1) := by decide +kernel
theorem dX1_init_95 : decode cX1_init 95 = .ok (.iconst 3, 1) := by decide +kernel
theorem dX1_init_96 : decode cX1_init 96 = .ok (.iconst (-1), 1) := by decide +kernel
theorem dX1_init_97 : decode cX1_init 97 = .ok (.iastore, 1) := by decide +kernel
theorem dX1_init_98 : decode cX1_init 98 = .ok (.dup, 1) := by decide +kernel
theorem dX1_init_99 : decode cX1_init 99 = .ok (.iconst 4, 1) := by decide +kernel
theorem dX1_init_100 : decode cX1_init 100 = .ok (.iconst (-1), 1) := by decide +kernel
theorem dX1_init_101 : decode cX1_init 101 = .ok (.iastore, 1) := by decide +kernel
theorem dX1_init_102 : decode cX1_init 102 = .ok (.dup, 1) := by decide +kernel
theorem dX1_init_103 : decode cX1_init 103 = .ok (.iconst 5, 1) := by decide +kernel
theorem dX1_init_104 : decode cX1_init 104 = .ok (.iconst (-1), 1) := by decide +kernel
theorem dX1_init_105 : decode cX1_init 105 = .ok (.iastore, 1) := by decide +kernel
theorem dX1_init_106 : decode cX1_init 106 = .ok (.dup, 1) := by decide +kernel
theorem dX1_init_107 : decode cX1_init 107 = .ok (.bipush 6, 2) := by decide +kernel
theorem dX1_init_109 : decode cX1_init 109 = .ok (.iconst (-1), 1) := by decide +kernel
theorem dX1_init_110 : decode cX1_init 110 = .ok (.iastore, 1) := by decide +kernel
theorem dX1_init_111 : decode cX1_init 111 = .ok (.dup, 1) := by decide +kernel
theorem dX1_init_112 : decode cX1_init 112 = .ok (.bipush 7, 2) := by decide +kernel
theorem dX1_init_114 : decode cX1_init 114 = .ok (.iconst (-1), 1) := by decide +kernel
theorem dX1_init_115 : decode cX1_init 115 = .ok (.iastore, 1) := by decide +kernel
theorem dX1_init_116 : decode cX1_init 116 = .ok (.dup, 1) := by decide +kernel
theorem dX1_init_117 : decode cX1_init 117 = .ok (.bipush 8, 2) := by decide +kernel
theorem dX1_init_119 : decode cX1_init 119 = .ok (.iconst (-1), 1) := by decide +kernel
theorem dX1_init_120 : decode cX1_init 120 = .ok (.iastore, 1) := by decide +kernel
theorem dX1_init_121 : decode cX1_init 121 = .ok (.dup, 1) := by decide +kernel
theorem dX1_init_122 : decode cX1_init 122 = .ok (.bipush 9, 2) := by decide +kernel
theorem dX1_init_124 : decode cX1_init 124 = .ok (.iconst (-1), 1) := by decide +kernel
theorem dX1_init_125 : decode cX1_init 125 = .ok (.iastore, 1) := by decide +kernel
theorem dX1_init_126 : decode cX1_init 126 = .ok (.dup, 1) := by decide +kernel
theorem dX1_init_127 : decode cX1_init 127 = .ok (.bipush 10, 2) := by decide +kernel
theorem dX1_init_129 : decode cX1_init 129 = .ok (.iconst (-1), 1) := by decide +kernel
theorem dX1_init_130 : decode cX1_init 130 = .ok (.iastore, 1) := by decide +kernel
theorem dX1_init_131 : decode cX1_init 131 = .ok (.dup, 1) := by decide +kernel
theorem dX1_init_132 : decode cX1_init 132 = .ok (.bipush 11, 2) := by decide +kernel
theorem dX1_init_134 : decode cX1_init 134 = .ok (.iconst (-1), 1) := by decide +kernel
theorem dX1_init_135 : decode cX1_init 135 = .ok (.iastore, 1) := by decide +kernel
theorem dX1_init_136 : decode cX1_init 136 = .ok (.putfield 17, 3) := by decide +kernel
theorem dX1_init_139 : decode cX1_init 139 = .ok (.aload_n 0, 1) := by decide +kernel
theorem dX1_init_140 : decode cX1_init 140 = .ok (.bipush 10, 2) := by decide +kernel
theorem dX1_init_142 : decode cX1_init 142 = .ok (.newarray .int, 2) := by decide +kernel
theorem dX1_init_144 : decode cX1_init 144 = .ok (.putfield 20, 3) := by decide +kernel
theorem dX1_init_147 : decode cX1_init 147 = .ok (.aload_n 0, 1) := by decide +kernel
theorem dX1_init_148 : decode cX1_init 148 = .ok (.bipush 10, 2) := by decide +kernel
theorem dX1_init_150 : decode cX1_init 150 = .ok (.newarray .int, 2) := by decide +kernel
theorem dX1_init_152 : decode cX1_init 152 = .ok (.putfield 23, 3) := by decide +kernel
theorem dX1_init_155 : decode cX1_init 155 = .ok (.aload_n 0, 1) := by decide +kernel
theorem dX1_init_156 : decode cX1_init 156 = .ok (.bipush 10, 2) := by decide +kernel
theorem dX1_init_158 : decode cX1_init 158 = .ok (.newarray .int, 2) := by decide +kernel
theorem dX1_init_160 : decode cX1_init 160 = .ok (.putfield 26, 3) := by decide +kernel
theorem dX1_init_163 : decode cX1_init 163 = .ok (.aload_n 0, 1) := by decide +kernel
theorem dX1_init_164 : decode cX1_init 164 = .ok (.bipush 10, 2) := by decide +kernel
theorem dX1_init_166 : decode cX1_init 166 = .ok (.newarray .int, 2) := by decide +kernel
theorem dX1_init_168 : decode cX1_init 168 = .ok (.putfield 29, 3) := by decide +kernel
theorem dX1_init_171 : decode cX1_init 171 = .ok (.aload_n 0, 1) := by decide +kernel
theorem dX1_init_172 : decode cX1_init 172 = .ok (.bipush 10, 2) := by decide +kernel
theorem dX1_init_174 : decode cX1_init 174 = .ok (.newarray .int, 2) := by decide +kernel
theorem dX1_init_176 : decode cX1_init 176 = .ok (.putfield 32, 3) := by decide +kernel
theorem dX1_init_179 : decode cX1_init 179 = .ok (.aload_n 0, 1) := by decide +kernel
theorem dX1_init_180 : decode cX1_init 180 = .ok (.bipush 10, 2) := by decide +kernel
theorem dX1_init_182 : decode cX1_init 182 = .ok (.newarray .int, 2) := by decide +kernel
theorem dX1_init_184 : decode cX1_init 184 = .ok (.putfield 35, 3) := by decide +kernel
theorem dX1_init_187 : decode cX1_init 187 = .ok (.aload_n 0, 1) := by decide +kernel
theorem dX1_init_188 : decode cX1_init 188 = .ok (.bipush 12, 2) := by decide +kernel
theorem dX1_init_190 : decode cX1_init 190 = .ok (.newarray .int, 2) := by decide +kernel
theorem dX1_init_192 : decode cX1_init 192 = .ok (.putfield 38, 3) := by decide +kernel
theorem dX1_init_195 : decode cX1_init 195 = .ok (.aload_n 0, 1) := by decide +kernel
theorem dX1_init_196 : decode cX1_init 196 = .ok (.iconst 0, 1) := by decide +kernel
theorem dX1_init_197 : decode cX1_init 197 = .ok (.putfield 41, 3) := by decide +kernel
theorem dX1_init_200 : decode cX1_init 200 = .ok (.return_, 1) := by decide +kernel
theorem dX1_in_0 : decode cX1_in 0 = .ok (.iload_n 0, 1) := by decide +kernel
theorem dX1_in_1 : decode cX1_in 1 = .ok (.iload_n 1, 1) := by decide +kernel
theorem dX1_in_2 : decode cX1_in 2 = .ok (.if_icmp .lt 12, 3) := by decide +kernel
theorem dX1_in_5 : decode cX1_in 5 = .ok (.iload_n 0, 1) := by decide +kernel
theorem dX1_in_6 : decode cX1_in 6 = .ok (.iload_n 2, 1) := by decide +kernel
theorem dX1_in_7 : decode cX1_in 7 = .ok (.if_icmp .gt 7, 3) := by decide +kernel
theorem dX1_in_10 : decode cX1_in 10 = .ok (.iconst 1, 1) := by decide +kernel
theorem dX1_in_11 : decode cX1_in 11 = .ok (.goto 4, 3) := by decide +kernel
theorem dX1_in_14 : decode cX1_in 14 = .ok (.iconst 0, 1) := by decide +kernel
theorem dX1_in_15 : decode cX1_in 15 = .ok (.ireturn, 1) := by decide +kernel
set_option maxRecDepth 20000 in
theorem ggX1_isThing_X1_in : GoodIn wsX1_isThing wsX1_in := goodIn_r _ [5] (by decide +kernel) (by decide +kernel)
set_option maxRecDepth 20000 in
theorem gX1_isThing_X1_in : GoodIn wsX1_isThing (va_wsS RX1 44 yX1_in wsX1_in) := goodIn_app (goodIn_of _ (by decide +kernel)) ggX1_isThing_X1_in
theorem dX1_isThing_0 : decode cX1_isThing 0 = .ok (.iload_n 1, 1) := by decide +kernel
theorem dX1_isThing_1 : decode cX1_isThing 1 = .ok (.iconst 0, 1) := by decide +kernel
theorem dX1_isThing_2 : decode cX1_isThing 2 = .ok (.aload_n 0, 1) := by decide +kernel
theorem dX1_isThing_3 : decode cX1_isThing 3 = .ok (.getfield 7, 3) := by decide +kernel
theorem dX1_isThing_6 : decode cX1_isThing 6 = .ok (.iconst 1, 1) := by decide +kernel
theorem dX1_isThing_7 : decode cX1_isThing 7 = .ok (.isub, 1) := by decide +kernel
theorem dX1_isThing_8 : decode cX1_isThing 8 = .ok (.invokestatic 44, 3) := by decide +kernel
theorem dX1_isThing_11 : decode cX1_isThing 11 = .ok (.ireturn, 1) := by decide +kernel
set_option maxRecDepth 20000 in
theorem ggX1_things_X1_in : GoodIn wsX1_things wsX1_in := goodIn_r _ [8] (by decide +kernel) (by decide +kernel)
set_option maxRecDepth 20000 in
theorem gX1_things_X1_in : GoodIn wsX1_things (va_wsS RX1 44 yX1_in wsX1_in) := goodIn_app (goodIn_of _ (by decide +kernel)) ggX1_things_X1_in
theorem dX1_things_0 : decode cX1_things 0 = .ok (.iload_n 1, 1) := by decide +kernel
theorem dX1_things_1 : decode cX1_things 1 = .ok (.iconst 1, 1) := by decide +kernel
theorem dX1_things_2 : decode cX1_things 2 = .ok (.bipush 12, 2) := by decide +kernel
theorem dX1_things_4 : decode cX1_things 4 = .ok (.invokestatic 44, 3) := by decide +kernel
theorem dX1_things_7 : decode cX1_things 7 = .ok (.ifCond .ne 5, 3) := by decide +kernel
theorem dX1_things_10 : decode cX1_things 10 = .ok (.iconst (-1), 1) := by decide +kernel
theorem dX1_things_11 : decode cX1_things 11 = .ok (.ireturn, 1) := by decide +kernel
theorem dX1_things_12 : decode cX1_things 12 = .ok (.aload_n 0, 1) := by decide +kernel
theorem dX1_things_13 : decode cX1_things 13 = .ok (.getfield 7, 3) := by decide +kernel
theorem dX1_things_16 : decode cX1_things 16 = .ok (.istore_n 2, 1) := by decide +kernel
theorem dX1_things_17 : decode cX1_things 17 = .ok (.aload_n 0, 1) := by decide +kernel
theorem dX1_things_18 : decode cX1_things 18 = .ok (.iload_n 1, 1) := by decide +kernel
theorem dX1_things_19 : decode cX1_things 19 = .ok (.putfield 7, 3) := by decide +kernel
theorem dX1_things_22 : decode cX1_things 22 = .ok (.aload_n 0, 1) := by decide +kernel
theorem dX1_things_23 : decode cX1_things 23 = .ok (.iconst 0, 1) := by decide +kernel
theorem dX1_things_24 : decode cX1_things 24 = .ok (.putfield 41, 3) := by decide +kernel
theorem dX1_things_27 : decode cX1_things 27 = .ok (.iconst 0, 1) := by decide +kernel
theorem dX1_things_28 : decode cX1_things 28 = .ok (.istore_n 3, 1) := by decide +kernel
theorem dX1_things_29 : decode cX1_things 29 = .ok (.iload_n 3, 1) := by decide +kernel
theorem dX1_things_30 : decode cX1_things 30 = .ok (.bipush 12, 2) := by decide +kernel
theorem dX1_things_32 : decode cX1_things 32 = .ok (.if_icmp .ge 23, 3) := by decide +kernel
theorem dX1_things_35 : decode cX1_things 35 = .ok (.aload_n 0, 1) := by decide +kernel
theorem dX1_things_36 : decode cX1_things 36 = .ok (.getfield 13, 3) := by decide +kernel
theorem dX1_things_39 : decode cX1_things 39 = .ok (.iload_n 3, 1) := by decide +kernel
theorem dX1_things_40 : decode cX1_things 40 = .ok (.iload_n 3, 1) := by decide +kernel
theorem dX1_things_41 : decode cX1_things 41 = .ok (.iastore, 1) := by decide +kernel
theorem dX1_things_42 : decode cX1_things 42 = .ok (.aload_n 0, 1) := by decide +kernel
theorem dX1_things_43 : decode cX1_things 43 = .ok (.getfield 17, 3) := by decide +kernel
theorem dX1_things_46 : decode cX1_things 46 = .ok (.iload_n 3, 1) := by decide +kernel
theorem dX1_things_47 : decode cX1_things 47 = .ok (.iconst (-1), 1) := by decide +kernel
theorem dX1_things_48 : decode cX1_things 48 = .ok (.iastore, 1) := by decide +kernel
theorem dX1_things_49 : decode cX1_things 49 = .ok (.iinc 3 1, 3) := by decide +kernel
theorem dX1_things_52 : decode cX1_things 52 = .ok (.goto (-23), 3) := by decide +kernel
theorem dX1_things_55 : decode cX1_things 55 = .ok (.iload_n 2, 1) := by decide +kernel
theorem dX1_things_56 : decode cX1_things 56 = .ok (.ireturn, 1) := by decide +kernel
set_option maxRecDepth 20000 in
theorem ggX1_swap_X1_isThing : GoodIn wsX1_swap wsX1_isThing := goodIn_r _ [6, 7, 8, 9, 5, 10, 11, 12, 13, 14, 15, 16, 17, 18, 19, 20, 21, 22, 23, 24, 25, 26] (by decide +kernel) (by decide +kernel)
set_option maxRecDepth 20000 in
theorem gX1_swap_X1_isThing : GoodIn wsX1_swap (wsV RX1 48 RX1 yX1_isThing wsX1_isThing) := goodIn_app (goodIn_of _ (by decide +kernel)) ggX1_swap_X1_isThing
theorem dX1_swap_0 : decode cX1_swap 0 = .ok (.aload_n 0, 1) := by decide +kernel
theorem dX1_swap_1 : decode cX1_swap 1 = .ok (.iload_n 1, 1) := by decide +kernel
theorem dX1_swap_2 : decode cX1_swap 2 = .ok (.invokevirtual 48, 3) := by decide +kernel
theorem dX1_swap_5 : decode cX1_swap 5 = .ok (.ifCond .eq 11, 3) := by decide +kernel
theorem dX1_swap_8 : decode cX1_swap 8 = .ok (.aload_n 0, 1) := by decide +kernel
theorem dX1_swap_9 : decode cX1_swap 9 = .ok (.iload_n 2, 1) := by decide +kernel
theorem dX1_swap_10 : decode cX1_swap 10 = .ok (.invokevirtual 48, 3) := by decide +kernel
theorem dX1_swap_13 : decode cX1_swap 13 = .ok (.ifCond .ne 5, 3) := by decide +kernel
theorem dX1_swap_16 : decode cX1_swap 16 = .ok (.iconst (-1), 1) := by decide +kernel
theorem dX1_swap_17 : decode cX1_swap 17 = .ok (.ireturn, 1) := by decide +kernel
theorem dX1_swap_18 : decode cX1_swap 18 = .ok (.aload_n 0, 1) := by decide +kernel
theorem dX1_swap_19 : decode cX1_swap 19 = .ok (.getfield 13, 3) := by decide +kernel
theorem dX1_swap_22 : decode cX1_swap 22 = .ok (.iload_n 1, 1) := by decide +kernel
theorem dX1_swap_23 : decode cX1_swap 23 = .ok (.iaload, 1) := by decide +kernel
theorem dX1_swap_24 : decode cX1_swap 24 = .ok (.istore_n 3, 1) := by decide +kernel
theorem dX1_swap_25 : decode cX1_swap 25 = .ok (.aload_n 0, 1) := by decide +kernel
theorem dX1_swap_26 : decode cX1_swap 26 = .ok (.getfield 13, 3) := by decide +kernel
theorem dX1_swap_29 : decode cX1_swap 29 = .ok (.iload_n 1, 1) := by decide +kernel
theorem dX1_swap_30 : decode cX1_swap 30 = .ok (.aload_n 0, 1) := by decide +kernel
theorem dX1_swap_31 : decode cX1_swap 31 = .ok (.getfield 13, 3) := by decide +kernel
theorem dX1_swap_34 : decode cX1_swap 34 = .ok (.iload_n 2, 1) := by decide +kernel
theorem dX1_swap_35 : decode cX1_swap 35 = .ok (.iaload, 1) := by decide +kernel
theorem dX1_swap_36 : decode cX1_swap 36 = .ok (.iastore, 1) := by decide +kernel
theorem dX1_swap_37 : decode cX1_swap 37 = .ok (.aload_n 0, 1) := by decide +kernel
theorem dX1_swap_38 : decode cX1_swap 38 = .ok (.getfield 13, 3) := by decide +kernel
theorem dX1_swap_41 : decode cX1_swap 41 = .ok (.iload_n 2, 1) := by decide +kernel
theorem dX1_swap_42 : decode cX1_swap 42 = .ok (.iload_n 3, 1) := by decide +kernel
theorem dX1_swap_43 : decode cX1_swap 43 = .ok (.iastore, 1) := by decide +kernel
theorem dX1_swap_44 : decode cX1_swap 44 = .ok (.iconst 1, 1) := by decide +kernel
theorem dX1_swap_45 : decode cX1_swap 45 = .ok (.ireturn, 1) := by decide +kernel
set_option maxRecDepth 20000 in
theorem ggX1_second_X1_isThing : GoodIn wsX1_second wsX1_isThing := goodIn_r _ [6, 7, 8, 9, 5, 10, 11, 12, 13, 14, 15, 16, 17, 18, 19, 20, 21, 22, 23, 24, 25, 26] (by decide +kernel) (by decide +kernel)
set_option maxRecDepth 20000 in
theorem gX1_second_X1_isThing : GoodIn wsX1_second (wsV RX1 48 RX1 yX1_isThing wsX1_isThing) := goodIn_app (goodIn_of _ (by decide +kernel)) ggX1_second_X1_isThing
theorem dX1_second_0 : decode cX1_second 0 = .ok (.aload_n 0, 1) := by decide +kernel
theorem dX1_second_1 : decode cX1_second 1 = .ok (.iload_n 1, 1) := by decide +kernel
theorem dX1_second_2 : decode cX1_second 2 = .ok (.invokevirtual 48, 3) := by decide +kernel
theorem dX1_second_5 : decode cX1_second 5 = .ok (.ifCond .eq 12, 3) := by decide +kernel
theorem dX1_second_8 : decode cX1_second 8 = .ok (.aload_n 0, 1) := by decide +kernel
theorem dX1_second_9 : decode cX1_second 9 = .ok (.getfield 13, 3) := by decide +kernel
theorem dX1_second_12 : decode cX1_second 12 = .ok (.iload_n 1, 1) := by decide +kernel
theorem dX1_second_13 : decode cX1_second 13 = .ok (.iaload, 1) := by decide +kernel
theorem dX1_second_14 : decode cX1_second 14 = .ok (.goto 4, 3) := by decide +kernel
theorem dX1_second_17 : decode cX1_second 17 = .ok (.iconst (-1), 1) := by decide +kernel
theorem dX1_second_18 : decode cX1_second 18 = .ok (.ireturn, 1) := by decide +kernel
set_option maxRecDepth 20000 in
theorem ggX1_isWell_X1_in : GoodIn wsX1_isWell wsX1_in := goodIn_r _ [5] (by decide +kernel) (by decide +kernel)
set_option maxRecDepth 20000 in
theorem gX1_isWell_X1_in : GoodIn wsX1_isWell (va_wsS RX1 44 yX1_in wsX1_in) := goodIn_app (goodIn_of _ (by decide +kernel)) ggX1_isWell_X1_in
set_option maxRecDepth 20000 in
theorem ggX1_isWell_X1_isThing : GoodIn wsX1_isWell wsX1_isThing := goodIn_r _ [9, 1, 2, 3, 4, 5, 10, 11, 12, 13, 14, 15, 16, 17, 18, 19, 20, 21, 22, 23, 24, 25] (by decide +kernel) (by decide +kernel)
set_option maxRecDepth 20000 in
theorem gX1_isWell_X1_isThing : GoodIn wsX1_isWell (wsV RX1 48 RX1 yX1_isThing wsX1_isThing) := goodIn_app (goodIn_of _ (by decide +kernel)) ggX1_isWell_X1_isThing
theorem dX1_isWell_0 : decode cX1_isWell 0 = .ok (.iload_n 1, 1) := by decide +kernel
theorem dX1_isWell_1 : decode cX1_isWell 1 = .ok (.ifCond .ne 17, 3) := by decide +kernel
theorem dX1_isWell_4 : decode cX1_isWell 4 = .ok (.iload_n 2, 1) := by decide +kernel
theorem dX1_isWell_5 : decode cX1_isWell 5 = .ok (.iconst 0, 1) := by decide +kernel
theorem dX1_isWell_6 : decode cX1_isWell 6 = .ok (.iconst 1, 1) := by decide +kernel
theorem dX1_isWell_7 : decode cX1_isWell 7 = .ok (.aload_n 0, 1) := by decide +kernel
theorem dX1_isWell_8 : decode cX1_isWell 8 = .ok (.getfield 7, 3) := by decide +kernel
theorem dX1_isWell_11 : decode cX1_isWell 11 = .ok (.ishl, 1) := by decide +kernel
theorem dX1_isWell_12 : decode cX1_isWell 12 = .ok (.iconst 1, 1) := by decide +kernel
theorem dX1_isWell_13 : decode cX1_isWell 13 = .ok (.isub, 1) := by decide +kernel
theorem dX1_isWell_14 : decode cX1_isWell 14 = .ok (.invokestatic 44, 3) := by decide +kernel
theorem dX1_isWell_17 : decode cX1_isWell 17 = .ok (.ireturn, 1) := by decide +kernel
theorem dX1_isWell_18 : decode cX1_isWell 18 = .ok (.iload_n 1, 1) := by decide +kernel
theorem dX1_isWell_19 : decode cX1_isWell 19 = .ok (.iconst 1, 1) := by decide +kernel
theorem dX1_isWell_20 : decode cX1_isWell 20 = .ok (.if_icmp .eq 8, 3) := by decide +kernel
theorem dX1_isWell_23 : decode cX1_isWell 23 = .ok (.iload_n 1, 1) := by decide +kernel
theorem dX1_isWell_24 : decode cX1_isWell 24 = .ok (.iconst 2, 1) := by decide +kernel
theorem dX1_isWell_25 : decode cX1_isWell 25 = .ok (.if_icmp .ne 30, 3) := by decide +kernel
theorem dX1_isWell_28 : decode cX1_isWell 28 = .ok (.aload_n 0, 1) := by decide +kernel
theorem dX1_isWell_29 : decode cX1_isWell 29 = .ok (.iload_n 2, 1) := by decide +kernel
theorem dX1_isWell_30 : decode cX1_isWell 30 = .ok (.invokevirtual 48, 3) := by decide +kernel
theorem dX1_isWell_33 : decode cX1_isWell 33 = .ok (.ifCond .eq 20, 3) := by decide +kernel
theorem dX1_isWell_36 : decode cX1_isWell 36 = .ok (.aload_n 0, 1) := by decide +kernel
theorem dX1_isWell_37 : decode cX1_isWell 37 = .ok (.iload_n 3, 1) := by decide +kernel
theorem dX1_isWell_38 : decode cX1_isWell 38 = .ok (.invokevirtual 48, 3) := by decide +kernel
theorem dX1_isWell_41 : decode cX1_isWell 41 = .ok (.ifCond .eq 12, 3) := by decide +kernel
theorem dX1_isWell_44 : decode cX1_isWell 44 = .ok (.iload_n 2, 1) := by decide +kernel
theorem dX1_isWell_45 : decode cX1_isWell 45 = .ok (.iload_n 3, 1) := by decide +kernel
theorem dX1_isWell_46 : decode cX1_isWell 46 = .ok (.if_icmp .gt 7, 3) := by decide +kernel
theorem dX1_isWell_49 : decode cX1_isWell 49 = .ok (.iconst 1, 1) := by decide +kernel
theorem dX1_isWell_50 : decode cX1_isWell 50 = .ok (.goto 4, 3) := by decide +kernel
theorem dX1_isWell_53 : decode cX1_isWell 53 = .ok (.iconst 0, 1) := by decide +kernel
theorem dX1_isWell_54 : decode cX1_isWell 54 = .ok (.ireturn, 1) := by decide +kernel
theorem dX1_isWell_55 : decode cX1_isWell 55 = .ok (.iload_n 1, 1) := by decide +kernel
theorem dX1_isWell_56 : decode cX1_isWell 56 = .ok (.iconst 3, 1) := by decide +kernel
theorem dX1_isWell_57 : decode cX1_isWell 57 = .ok (.if_icmp .ne 25, 3) := by decide +kernel
theorem dX1_isWell_60 : decode cX1_isWell 60 = .ok (.aload_n 0, 1) := by decide +kernel
theorem dX1_isWell_61 : decode cX1_isWell 61 = .ok (.iload_n 2, 1) := by decide +kernel
theorem dX1_isWell_62 : decode cX1_isWell 62 = .ok (.invokevirtual 48, 3) := by decide +kernel
theorem dX1_isWell_65 : decode cX1_isWell 65 = .ok (.ifCond .eq 17, 3) := by decide +kernel
theorem dX1_isWell_68 : decode cX1_isWell 68 = .ok (.iload_n 3, 1) := by decide +kernel
theorem dX1_isWell_69 : decode cX1_isWell 69 = .ok (.iconst 1, 1) := by decide +kernel
theorem dX1_isWell_70 : decode cX1_isWell 70 = .ok (.bipush 12, 2) := by decide +kernel
theorem dX1_isWell_72 : decode cX1_isWell 72 = .ok (.invokestatic 44, 3) := by decide +kernel
theorem dX1_isWell_75 : decode cX1_isWell 75 = .ok (.ifCond .eq 7, 3) := by decide +kernel
theorem dX1_isWell_78 : decode cX1_isWell 78 = .ok (.iconst 1, 1) := by decide +kernel
theorem dX1_isWell_79 : decode cX1_isWell 79 = .ok (.goto 4, 3) := by decide +kernel
theorem dX1_isWell_82 : decode cX1_isWell 82 = .ok (.iconst 0, 1) := by decide +kernel
theorem dX1_isWell_83 : decode cX1_isWell 83 = .ok (.ireturn, 1) := by decide +kernel
set_option maxRecDepth 20000 in
theorem ggX1_heap_X1_isWell : GoodIn wsX1_heap wsX1_isWell := goodIn_r _ [9, 10, 11, 12, 8, 13, 14, 15, 16, 17, 18, 19, 20, 21, 22, 23, 24, 25, 26, 27, 28, 29, 30, 31, 32, 33] (by decide +kernel) (by decide +kernel)
set_option maxRecDepth 20000 in
theorem gX1_heap_X1_isWell : GoodIn wsX1_heap (wsV RX1 52 RX1 yX1_isWell wsX1_isWell) := goodIn_app (goodIn_of _ (by decide +kernel)) ggX1_heap_X1_isWell
theorem dX1_heap_0 : decode cX1_heap 0 = .ok (.aload_n 0, 1) := by decide +kernel
theorem dX1_heap_1 : decode cX1_heap 1 = .ok (.iload_n 1, 1) := by decide +kernel
theorem dX1_heap_2 : decode cX1_heap 2 = .ok (.iload_n 2, 1) := by decide +kernel
theorem dX1_heap_3 : decode cX1_heap 3 = .ok (.iload_n 3, 1) := by decide +kernel
theorem dX1_heap_4 : decode cX1_heap 4 = .ok (.invokevirtual 52, 3) := by decide +kernel
theorem dX1_heap_7 : decode cX1_heap 7 = .ok (.ifCond .ne 5, 3) := by decide +kernel
theorem dX1_heap_10 : decode cX1_heap 10 = .ok (.iconst (-1), 1) := by decide +kernel
theorem dX1_heap_11 : decode cX1_heap 11 = .ok (.ireturn, 1) := by decide +kernel
theorem dX1_heap_12 : decode cX1_heap 12 = .ok (.aload_n 0, 1) := by decide +kernel
theorem dX1_heap_13 : decode cX1_heap 13 = .ok (.getfield 41, 3) := by decide +kernel
theorem dX1_heap_16 : decode cX1_heap 16 = .ok (.bipush 10, 2) := by decide +kernel
theorem dX1_heap_18 : decode cX1_heap 18 = .ok (.if_icmp .ne 6, 3) := by decide +kernel
theorem dX1_heap_21 : decode cX1_heap 21 = .ok (.bipush (-3), 2) := by decide +kernel
theorem dX1_heap_23 : decode cX1_heap 23 = .ok (.ireturn, 1) := by decide +kernel
theorem dX1_heap_24 : decode cX1_heap 24 = .ok (.aload_n 0, 1) := by decide +kernel
theorem dX1_heap_25 : decode cX1_heap 25 = .ok (.getfield 20, 3) := by decide +kernel
theorem dX1_heap_28 : decode cX1_heap 28 = .ok (.aload_n 0, 1) := by decide +kernel
theorem dX1_heap_29 : decode cX1_heap 29 = .ok (.getfield 41, 3) := by decide +kernel
theorem dX1_heap_32 : decode cX1_heap 32 = .ok (.iload_n 1, 1) := by decide +kernel
theorem dX1_heap_33 : decode cX1_heap 33 = .ok (.iastore, 1) := by decide +kernel
theorem dX1_heap_34 : decode cX1_heap 34 = .ok (.aload_n 0, 1) := by decide +kernel
theorem dX1_heap_35 : decode cX1_heap 35 = .ok (.getfield 23, 3) := by decide +kernel
theorem dX1_heap_38 : decode cX1_heap 38 = .ok (.aload_n 0, 1) := by decide +kernel
theorem dX1_heap_39 : decode cX1_heap 39 = .ok (.getfield 41, 3) := by decide +kernel
theorem dX1_heap_42 : decode cX1_heap 42 = .ok (.iload_n 2, 1) := by decide +kernel
theorem dX1_heap_43 : decode cX1_heap 43 = .ok (.iastore, 1) := by decide +kernel
theorem dX1_heap_44 : decode cX1_heap 44 = .ok (.aload_n 0, 1) := by decide +kernel
theorem dX1_heap_45 : decode cX1_heap 45 = .ok (.getfield 26, 3) := by decide +kernel
theorem dX1_heap_48 : decode cX1_heap 48 = .ok (.aload_n 0, 1) := by decide +kernel
theorem dX1_heap_49 : decode cX1_heap 49 = .ok (.getfield 41, 3) := by decide +kernel
theorem dX1_heap_52 : decode cX1_heap 52 = .ok (.iload_n 3, 1) := by decide +kernel
theorem dX1_heap_53 : decode cX1_heap 53 = .ok (.iastore, 1) := by decide +kernel
theorem dX1_heap_54 : decode cX1_heap 54 = .ok (.aload_n 0, 1) := by decide +kernel
theorem dX1_heap_55 : decode cX1_heap 55 = .ok (.dup, 1) := by decide +kernel
theorem dX1_heap_56 : decode cX1_heap 56 = .ok (.getfield 41, 3) := by decide +kernel
theorem dX1_heap_59 : decode cX1_heap 59 = .ok (.iconst 1, 1) := by decide +kernel
theorem dX1_heap_60 : decode cX1_heap 60 = .ok (.iadd, 1) := by decide +kernel
theorem dX1_heap_61 : decode cX1_heap 61 = .ok (.putfield 41, 3) := by decide +kernel
theorem dX1_heap_64 : decode cX1_heap 64 = .ok (.aload_n 0, 1) := by decide +kernel
theorem dX1_heap_65 : decode cX1_heap 65 = .ok (.getfield 41, 3) := by decide +kernel
theorem dX1_heap_68 : decode cX1_heap 68 = .ok (.iconst 1, 1) := by decide +kernel
theorem dX1_heap_69 : decode cX1_heap 69 = .ok (.isub, 1) := by decide +kernel
theorem dX1_heap_70 : decode cX1_heap 70 = .ok (.ireturn, 1) := by decide +kernel
theorem dX1_drop_0 : decode cX1_drop 0 = .ok (.aload_n 0, 1) := by decide +kernel
theorem dX1_drop_1 : decode cX1_drop 1 = .ok (.getfield 41, 3) := by decide +kernel
theorem dX1_drop_4 : decode cX1_drop 4 = .ok (.ifCond .ne 6, 3) := by decide +kernel
theorem dX1_drop_7 : decode cX1_drop 7 = .ok (.bipush (-2), 2) := by decide +kernel
theorem dX1_drop_9 : decode cX1_drop 9 = .ok (.ireturn, 1) := by decide +kernel
theorem dX1_drop_10 : decode cX1_drop 10 = .ok (.aload_n 0, 1) := by decide +kernel
theorem dX1_drop_11 : decode cX1_drop 11 = .ok (.dup, 1) := by decide +kernel
theorem dX1_drop_12 : decode cX1_drop 12 = .ok (.getfield 41, 3) := by decide +kernel
theorem dX1_drop_15 : decode cX1_drop 15 = .ok (.iconst 1, 1) := by decide +kernel
theorem dX1_drop_16 : decode cX1_drop 16 = .ok (.isub, 1) := by decide +kernel
theorem dX1_drop_17 : decode cX1_drop 17 = .ok (.putfield 41, 3) := by decide +kernel
theorem dX1_drop_20 : decode cX1_drop 20 = .ok (.aload_n 0, 1) := by decide +kernel
theorem dX1_drop_21 : decode cX1_drop 21 = .ok (.getfield 41, 3) := by decide +kernel
theorem dX1_drop_24 : decode cX1_drop 24 = .ok (.ireturn, 1) := by decide +kernel
theorem dX1_placeOf_0 : decode cX1_placeOf 0 = .ok (.iconst 0, 1) := by decide +kernel
theorem dX1_placeOf_1 : decode cX1_placeOf 1 = .ok (.istore_n 2, 1) := by decide +kernel
theorem dX1_placeOf_2 : decode cX1_placeOf 2 = .ok (.aload_n 0, 1) := by decide +kernel
theorem dX1_placeOf_3 : decode cX1_placeOf 3 = .ok (.getfield 13, 3) := by decide +kernel
theorem dX1_placeOf_6 : decode cX1_placeOf 6 = .ok (.iload_n 2, 1) := by decide +kernel
theorem dX1_placeOf_7 : decode cX1_placeOf 7 = .ok (.iaload, 1) := by decide +kernel
theorem dX1_placeOf_8 : decode cX1_placeOf 8 = .ok (.iload_n 1, 1) := by decide +kernel
theorem dX1_placeOf_9 : decode cX1_placeOf 9 = .ok (.if_icmp .eq 9, 3) := by decide +kernel
theorem dX1_placeOf_12 : decode cX1_placeOf 12 = .ok (.iinc 2 1, 3) := by decide +kernel
theorem dX1_placeOf_15 : decode cX1_placeOf 15 = .ok (.goto (-13), 3) := by decide +kernel
theorem dX1_placeOf_18 : decode cX1_placeOf 18 = .ok (.iload_n 2, 1) := by decide +kernel
theorem dX1_placeOf_19 : decode cX1_placeOf 19 = .ok (.ireturn, 1) := by decide +kernel
set_option maxRecDepth 20000 in
theorem ggX1_holds_X1_in : GoodIn wsX1_holds wsX1_in := goodIn_r _ [7] (by decide +kernel) (by decide +kernel)
set_option maxRecDepth 20000 in
theorem gX1_holds_X1_in : GoodIn wsX1_holds (va_wsS RX1 44 yX1_in wsX1_in) := goodIn_app (goodIn_of _ (by decide +kernel)) ggX1_holds_X1_in
set_option maxRecDepth 20000 in
theorem ggX1_holds_X1_placeOf : GoodIn wsX1_holds wsX1_placeOf := goodIn_r _ [11, 12, 13, 14, 15, 16, 17, 18, 19, 20, 21, 22, 23, 24, 25, 26, 27, 28] (by decide +kernel) (by decide +kernel)
set_option maxRecDepth 20000 in
theorem gX1_holds_X1_placeOf : GoodIn wsX1_holds (wsV RX1 55 RX1 yX1_placeOf wsX1_placeOf) := goodIn_app (goodIn_of _ (by decide +kernel)) ggX1_holds_X1_placeOf
theorem dX1_holds_0 : decode cX1_holds 0 = .ok (.aload_n 0, 1) := by decide +kernel
theorem dX1_holds_1 : decode cX1_holds 1 = .ok (.getfield 20, 3) := by decide +kernel
theorem dX1_holds_4 : decode cX1_holds 4 = .ok (.iload_n 1, 1) := by decide +kernel
theorem dX1_holds_5 : decode cX1_holds 5 = .ok (.iaload, 1) := by decide +kernel
theorem dX1_holds_6 : decode cX1_holds 6 = .ok (.tableswitch 84 0 2 #[26, 46, 63], 26) := by decide +kernel
theorem dX1_holds_32 : decode cX1_holds 32 = .ok (.aload_n 0, 1) := by decide +kernel
theorem dX1_holds_33 : decode cX1_holds 33 = .ok (.getfield 23, 3) := by decide +kernel
theorem dX1_holds_36 : decode cX1_holds 36 = .ok (.iload_n 1, 1) := by decide +kernel
theorem dX1_holds_37 : decode cX1_holds 37 = .ok (.iaload, 1) := by decide +kernel
theorem dX1_holds_38 : decode cX1_holds 38 = .ok (.iload_n 2, 1) := by decide +kernel
theorem dX1_holds_39 : decode cX1_holds 39 = .ok (.ishr, 1) := by decide +kernel
theorem dX1_holds_40 : decode cX1_holds 40 = .ok (.iconst 1, 1) := by decide +kernel
theorem dX1_holds_41 : decode cX1_holds 41 = .ok (.iand, 1) := by decide +kernel
theorem dX1_holds_42 : decode cX1_holds 42 = .ok (.iconst 1, 1) := by decide +kernel
theorem dX1_holds_43 : decode cX1_holds 43 = .ok (.if_icmp .ne 7, 3) := by decide +kernel
theorem dX1_holds_46 : decode cX1_holds 46 = .ok (.iconst 1, 1) := by decide +kernel
theorem dX1_holds_47 : decode cX1_holds 47 = .ok (.goto 4, 3) := by decide +kernel
theorem dX1_holds_50 : decode cX1_holds 50 = .ok (.iconst 0, 1) := by decide +kernel
theorem dX1_holds_51 : decode cX1_holds 51 = .ok (.ireturn, 1) := by decide +kernel
theorem dX1_holds_52 : decode cX1_holds 52 = .ok (.iload_n 2, 1) := by decide +kernel
theorem dX1_holds_53 : decode cX1_holds 53 = .ok (.aload_n 0, 1) := by decide +kernel
theorem dX1_holds_54 : decode cX1_holds 54 = .ok (.getfield 23, 3) := by decide +kernel
theorem dX1_holds_57 : decode cX1_holds 57 = .ok (.iload_n 1, 1) := by decide +kernel
theorem dX1_holds_58 : decode cX1_holds 58 = .ok (.iaload, 1) := by decide +kernel
theorem dX1_holds_59 : decode cX1_holds 59 = .ok (.aload_n 0, 1) := by decide +kernel
theorem dX1_holds_60 : decode cX1_holds 60 = .ok (.getfield 26, 3) := by decide +kernel
theorem dX1_holds_63 : decode cX1_holds 63 = .ok (.iload_n 1, 1) := by decide +kernel
theorem dX1_holds_64 : decode cX1_holds 64 = .ok (.iaload, 1) := by decide +kernel
theorem dX1_holds_65 : decode cX1_holds 65 = .ok (.invokestatic 44, 3) := by decide +kernel
theorem dX1_holds_68 : decode cX1_holds 68 = .ok (.ireturn, 1) := by decide +kernel
theorem dX1_holds_69 : decode cX1_holds 69 = .ok (.aload_n 0, 1) := by decide +kernel
theorem dX1_holds_70 : decode cX1_holds 70 = .ok (.iload_n 2, 1) := by decide +kernel
theorem dX1_holds_71 : decode cX1_holds 71 = .ok (.invokevirtual 55, 3) := by decide +kernel
theorem dX1_holds_74 : decode cX1_holds 74 = .ok (.aload_n 0, 1) := by decide +kernel
theorem dX1_holds_75 : decode cX1_holds 75 = .ok (.getfield 23, 3) := by decide +kernel
theorem dX1_holds_78 : decode cX1_holds 78 = .ok (.iload_n 1, 1) := by decide +kernel
theorem dX1_holds_79 : decode cX1_holds 79 = .ok (.iaload, 1) := by decide +kernel
theorem dX1_holds_80 : decode cX1_holds 80 = .ok (.aload_n 0, 1) := by decide +kernel
theorem dX1_holds_81 : decode cX1_holds 81 = .ok (.getfield 26, 3) := by decide +kernel
theorem dX1_holds_84 : decode cX1_holds 84 = .ok (.iload_n 1, 1) := by decide +kernel
theorem dX1_holds_85 : decode cX1_holds 85 = .ok (.iaload, 1) := by decide +kernel
theorem dX1_holds_86 : decode cX1_holds 86 = .ok (.invokestatic 44, 3) := by decide +kernel
theorem dX1_holds_89 : decode cX1_holds 89 = .ok (.ireturn, 1) := by decide +kernel
theorem dX1_holds_90 : decode cX1_holds 90 = .ok (.iload_n 2, 1) := by decide +kernel
theorem dX1_holds_91 : decode cX1_holds 91 = .ok (.aload_n 0, 1) := by decide +kernel
theorem dX1_holds_92 : decode cX1_holds 92 = .ok (.getfield 23, 3) := by decide +kernel
theorem dX1_holds_95 : decode cX1_holds 95 = .ok (.iload_n 1, 1) := by decide +kernel
theorem dX1_holds_96 : decode cX1_holds 96 = .ok (.iaload, 1) := by decide +kernel
theorem dX1_holds_97 : decode cX1_holds 97 = .ok (.if_icmp .lt 25, 3) := by decide +kernel
theorem dX1_holds_100 : decode cX1_holds 100 = .ok (.iload_n 2, 1) := by decide +kernel
theorem dX1_holds_101 : decode cX1_holds 101 = .ok (.aload_n 0, 1) := by decide +kernel
theorem dX1_holds_102 : decode cX1_holds 102 = .ok (.getfield 23, 3) := by decide +kernel
theorem dX1_holds_105 : decode cX1_holds 105 = .ok (.iload_n 1, 1) := by decide +kernel
theorem dX1_holds_106 : decode cX1_holds 106 = .ok (.iaload, 1) := by decide +kernel
theorem dX1_holds_107 : decode cX1_holds 107 = .ok (.isub, 1) := by decide +kernel
theorem dX1_holds_108 : decode cX1_holds 108 = .ok (.aload_n 0, 1) := by decide +kernel
theorem dX1_holds_109 : decode cX1_holds 109 = .ok (.getfield 26, 3) := by decide +kernel
theorem dX1_holds_112 : decode cX1_holds 112 = .ok (.iload_n 1, 1) := by decide +kernel
theorem dX1_holds_113 : decode cX1_holds 113 = .ok (.iaload, 1) := by decide +kernel
theorem dX1_holds_114 : decode cX1_holds 114 = .ok (.irem, 1) := by decide +kernel
theorem dX1_holds_115 : decode cX1_holds 115 = .ok (.ifCond .ne 7, 3) := by decide +kernel
theorem dX1_holds_118 : decode cX1_holds 118 = .ok (.iconst 1, 1) := by decide +kernel
theorem dX1_holds_119 : decode cX1_holds 119 = .ok (.goto 4, 3) := by decide +kernel
theorem dX1_holds_122 : decode cX1_holds 122 = .ok (.iconst 0, 1) := by decide +kernel
theorem dX1_holds_123 : decode cX1_holds 123 = .ok (.ireturn, 1) := by decide +kernel
set_option maxRecDepth 20000 in
theorem ggX1_isHeap_X1_in : GoodIn wsX1_isHeap wsX1_in := goodIn_r _ [5] (by decide +kernel) (by decide +kernel)
set_option maxRecDepth 20000 in
theorem gX1_isHeap_X1_in : GoodIn wsX1_isHeap (va_wsS RX1 44 yX1_in wsX1_in) := goodIn_app (goodIn_of _ (by decide +kernel)) ggX1_isHeap_X1_in
theorem dX1_isHeap_0 : decode cX1_isHeap 0 = .ok (.iload_n 1, 1) := by decide +kernel
theorem dX1_isHeap_1 : decode cX1_isHeap 1 = .ok (.iconst 0, 1) := by decide +kernel
theorem dX1_isHeap_2 : decode cX1_isHeap 2 = .ok (.aload_n 0, 1) := by decide +kernel
